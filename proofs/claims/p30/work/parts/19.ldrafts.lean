/-! drafts, case by case: over the answers of the class. -/
set_option maxHeartbeats 4000000 in
set_option maxRecDepth 100000 in
theorem ld0y (l : Launch) (D : va_G) (cI cZ cP : ClassId) (o : Nat → Nat) (F : Nat → Nat → Int32) (wk wk2 : va_W) {q0 b : Nat} {fs : List Value} (hq : wk[q0]? = some (b, .inr (3, fs))) {q2 : Nat} {fs2 : List Value} (hq2 : wk2[q2]? = some (b, .inr (3, fs2))) (j xx yy : Nat) (wt : Int32) (hj : j < 8) (hx : xx < 2 ^ 30) (hy : yy < 2 ^ 30)  (cs : q_C l yX3_step wsX3_step ({ frames := 2, cells := 0, slots := 0, locals := 42 }) D cI cZ cP [.ref b, .int (nI j)] wk (S := Unit) (fun v _ => v = some (.int (nI 0))) (fun _ => wk) (fun _ => False) 0 0) (cwt : q_C l yX3_waitsFor wsX3_waitsFor ({ frames := 3, cells := 0, slots := 0, locals := 62 }) D cI cZ cP [.ref b, .int (nI j)] wk (S := Unit) (fun v _ => v = some (.int wt)) (fun _ => wk) (fun _ => False) 0 0) (ca : q_C l yL_asks wsL_asks ({ frames := 10, cells := 3, slots := 18, locals := 171 }) D cI cZ cP [.ref b, .int (nI 0), .int (nI j), .int (nI (xx % 6)), .int (nI (yy % 20))] wk (S := Unit) (fun v _ => v = some (.int (nI 0))) (fun _ => wk2) (fun _ => False) 3 18) (cs2 : q_C l yX3_step wsX3_step ({ frames := 2, cells := 0, slots := 0, locals := 42 }) D cI cZ cP [.ref b, .int (nI j)] wk2 (S := Unit) (fun v _ => v = some (.int (nI 1))) (fun _ => wk2) (fun _ => False) 0 0) (cw2 : q_C l yX3_waitsFor wsX3_waitsFor ({ frames := 3, cells := 0, slots := 0, locals := 62 }) D cI cZ cP [.ref b, .int (nI j)] wk2 (S := Unit) (fun v _ => v = some (.int (-1))) (fun _ => wk2) (fun _ => False) 0 0) : q_C l yL_drafts wsL_drafts ({ frames := 11, cells := 3, slots := 18, locals := 196 }) D cI cZ cP [.ref b, .int (nI 0), .int (nI j), .int (nI xx), .int (nI yy), .ref (o 0), .ref (o 5), .ref (o 4), .ref (o 7)] (lw cI o F ++ wk) (S := Unit) (fun v _ => v = some (.int (nI 1))) (fun _ => (lw cI o (va_up (va_up F 0 (upd (upd (upd (upd (upd (F 0) (8 * j) (nI 1)) (8 * j + 1) (nI (xx % 6))) (8 * j + 2) (nI (yy % 20))) (8 * j + 3) (nI 1)) (8 * j + 4) (nI 0))) 7 (upd (upd (F 7) (2 * j) (nI 0)) (2 * j + 1) (nI 0))) ++ wk2)) (fun _ => False) 3 18 := by
  refine q_of (cc := cL_drafts) (maxL := 14) (ret := (some .boolean)) (by decide +kernel) rfl (Nat.le_of_ble_eq_true rfl) ?_
  intro p e s m below meth c A ls B hr htb hmn hP hD hS hl
  have hl : lv_has ls 14 [(0, .ref b), (1, .int (nI 0)), (2, .int (nI j)), (3, .int (nI xx)), (4, .int (nI yy)), (5, .ref (o 0)), (6, .ref (o 5)), (7, .ref (o 4)), (8, .ref (o 7))] := hl
  refine lv_bipush (v := (nI 8)) B.hx B.hb dL_drafts_0 (by decide) ?_
  refine lv_iload_n B.hx B.hb dL_drafts_2 rfl (lv_at hl 2 rfl) ?_
  refine lv_imul B.hx B.hb dL_drafts_3 ?_
  refine q_top (v2 := .int (nI (8 * j))) (congrArg Value.int (pk_mul _ _)) ?_
  refine lv_istore (lv' := [(9, .int (nI (8 * j))), (0, .ref b), (1, .int (nI 0)), (2, .int (nI j)), (3, .int (nI xx)), (4, .int (nI yy)), (5, .ref (o 0)), (6, .ref (o 5)), (7, .ref (o 4)), (8, .ref (o 7))]) B.hx B.hb dL_drafts_4 hl (by decide) rfl (fun ls hl => ?_)
  refine lv_aload_n B.hx B.hb dL_drafts_6 rfl (lv_at hl 1 rfl) ?_
  refine lv_iload_n B.hx B.hb dL_drafts_7 rfl (lv_at hl 3 rfl) ?_
  refine q_callV (As := [.int (nI j)]) (rest := []) B hP hD hS (cs.fl (lw cI o F)) (cwV 1 B.hts gL_drafts_X3_step rfl rfl rfl (by decide +kernel) ⟨(Nat.le_of_ble_eq_true rfl), (Nat.le_of_ble_eq_true rfl)⟩) (q0 + 8) 3 hq rfl rfl rfl hl.1 rfl (Nat.le_of_ble_eq_true rfl) dL_drafts_8 ⟨(Nat.le_of_ble_eq_true rfl), (Nat.le_of_ble_eq_true rfl)⟩ (fun E ce q9 H locs hx => False.elim hx) (fun v u H locs hp hP hD hS => ?_)
  obtain rfl := hp
  have hP : va_P D vwCl (lw cI o F ++ wk) H := hP
  have hD : va_D A (lw cI o F ++ wk) := hD
  refine lv_istore (lv' := [(10, .int (nI 0)), (9, .int (nI (8 * j))), (0, .ref b), (1, .int (nI 0)), (2, .int (nI j)), (3, .int (nI xx)), (4, .int (nI yy)), (5, .ref (o 0)), (6, .ref (o 5)), (7, .ref (o 4)), (8, .ref (o 7))]) B.hx B.hb dL_drafts_11 hl (by decide) rfl (fun ls hl => ?_)
  refine lv_aload_n B.hx B.hb dL_drafts_13 rfl (lv_at hl 2 rfl) ?_
  refine lv_iload_n B.hx B.hb dL_drafts_14 rfl (lv_at hl 4 rfl) ?_
  refine q_callV (As := [.int (nI j)]) (rest := []) B hP hD hS (cwt.fl (lw cI o F)) (cwV 1 B.hts gL_drafts_X3_waitsFor rfl rfl rfl (by decide +kernel) ⟨(Nat.le_of_ble_eq_true rfl), (Nat.le_of_ble_eq_true rfl)⟩) (q0 + 8) 3 hq rfl rfl rfl hl.1 rfl (Nat.le_of_ble_eq_true rfl) dL_drafts_15 ⟨(Nat.le_of_ble_eq_true rfl), (Nat.le_of_ble_eq_true rfl)⟩ (fun E ce q9 H locs hx => False.elim hx) (fun v u H locs hp hP hD hS => ?_)
  obtain rfl := hp
  have hP : va_P D vwCl (lw cI o F ++ wk) H := hP
  have hD : va_D A (lw cI o F ++ wk) := hD
  refine lv_istore (lv' := [(11, .int wt), (10, .int (nI 0)), (9, .int (nI (8 * j))), (0, .ref b), (1, .int (nI 0)), (2, .int (nI j)), (3, .int (nI xx)), (4, .int (nI yy)), (5, .ref (o 0)), (6, .ref (o 5)), (7, .ref (o 4)), (8, .ref (o 7))]) B.hx B.hb dL_drafts_18 hl (by decide) rfl (fun ls hl => ?_)
  refine lv_iload_n B.hx B.hb dL_drafts_20 rfl (lv_at hl 4 rfl) ?_
  refine lv_if_ne (tgt := 159) B.hx B.hb dL_drafts_21 (by decide) (fun c1 => False.elim (by exact absurd c1 (by decide))) (fun _ => ?_)
  refine lv_aload_n B.hx B.hb dL_drafts_24 rfl (lv_at hl 3 rfl) ?_
  refine lv_iconst (v := (nI 0)) B.hx B.hb dL_drafts_25 (by decide) ?_
  refine lv_iload_n B.hx B.hb dL_drafts_26 rfl (lv_at hl 5 rfl) ?_
  refine lv_iload_n B.hx B.hb dL_drafts_27 rfl (lv_at hl 6 rfl) ?_
  refine lv_bipush (v := (nI 6)) B.hx B.hb dL_drafts_28 (by decide) ?_
  refine lv_irem B.hx B.hb dL_drafts_30 (by decide) ?_
  refine q_top (v2 := .int (nI (xx % 6))) (congrArg Value.int (pk_rem (by omega) (by omega) (by omega))) ?_
  refine lv_iload B.hx B.hb dL_drafts_31 (lv_at hl 7 rfl) ?_
  refine lv_bipush (v := (nI 20)) B.hx B.hb dL_drafts_33 (by decide) ?_
  refine lv_irem B.hx B.hb dL_drafts_35 (by decide) ?_
  refine q_top (v2 := .int (nI (yy % 20))) (congrArg Value.int (pk_rem (by omega) (by omega) (by omega))) ?_
  refine q_callSX (As := [.ref b, .int (nI 0), .int (nI j), .int (nI (xx % 6)), .int (nI (yy % 20))]) (rest := []) B hP hD hS (ca.fl (lw cI o F)) (vx_cwSW 5 B.hts gL_drafts_L_asks rfl rfl rfl (by decide +kernel) ⟨(Nat.le_of_ble_eq_true rfl), (Nat.le_of_ble_eq_true rfl)⟩) rfl hl.1 rfl (Nat.le_of_ble_eq_true rfl) dL_drafts_36 ⟨(Nat.le_of_ble_eq_true rfl), (Nat.le_of_ble_eq_true rfl)⟩ (fun E ce q9 H locs hx => False.elim hx) (fun v u H locs hp hP hD hS => ?_)
  obtain rfl := hp
  have hP : va_P D vwCl (lw cI o F ++ wk2) H := hP
  have hD : va_D A (lw cI o F ++ wk2) := hD
  refine lv_istore (lv' := [(12, .int (nI 0)), (11, .int wt), (10, .int (nI 0)), (9, .int (nI (8 * j))), (0, .ref b), (1, .int (nI 0)), (2, .int (nI j)), (3, .int (nI xx)), (4, .int (nI yy)), (5, .ref (o 0)), (6, .ref (o 5)), (7, .ref (o 4)), (8, .ref (o 7))]) B.hx B.hb dL_drafts_39 hl (by decide) rfl (fun ls hl => ?_)
  refine lv_iload B.hx B.hb dL_drafts_41 (lv_at hl 2 rfl) ?_
  refine lv_if_le (tgt := 69) B.hx B.hb dL_drafts_43 (by decide) (fun _ => ?_) (fun c2 => False.elim (by exact absurd c2 (by decide)))
  refine lv_aload B.hx B.hb dL_drafts_69 (lv_at hl 9 rfl) ?_
  refine lv_iload B.hx B.hb dL_drafts_71 (lv_at hl 3 rfl) ?_
  refine lv_iconst (v := (nI 1)) B.hx B.hb dL_drafts_73 (by decide) ?_
  refine q_iast (f := (F 0)) B hP hD hS 0 rfl (j := 8 * j) rfl (by omega) (by decide) dL_drafts_74 (w' := (lw cI o (va_up F 0 (upd (F 0) (8 * j) (nI 1))) ++ wk2)) rfl (fun H locs hP hD hS => ?_)
  refine lv_aload B.hx B.hb dL_drafts_75 (lv_at hl 9 rfl) ?_
  refine lv_iload B.hx B.hb dL_drafts_77 (lv_at hl 3 rfl) ?_
  refine lv_iconst (v := (nI 1)) B.hx B.hb dL_drafts_79 (by decide) ?_
  refine lv_iadd B.hx B.hb dL_drafts_80 ?_
  refine q_top (v2 := .int (nI (8 * j + 1))) (congrArg Value.int (nI_add _ _)) ?_
  refine lv_iload_n B.hx B.hb dL_drafts_81 rfl (lv_at hl 7 rfl) ?_
  refine lv_bipush (v := (nI 6)) B.hx B.hb dL_drafts_82 (by decide) ?_
  refine lv_irem B.hx B.hb dL_drafts_84 (by decide) ?_
  refine q_top (v2 := .int (nI (xx % 6))) (congrArg Value.int (pk_rem (by omega) (by omega) (by omega))) ?_
  refine q_iast (f := (upd (F 0) (8 * j) (nI 1))) B hP hD hS 0 rfl (j := 8 * j + 1) rfl (by omega) (by decide) dL_drafts_85 (w' := (lw cI o (va_up F 0 (upd (upd (F 0) (8 * j) (nI 1)) (8 * j + 1) (nI (xx % 6)))) ++ wk2)) rfl (fun H locs hP hD hS => ?_)
  refine lv_aload B.hx B.hb dL_drafts_86 (lv_at hl 9 rfl) ?_
  refine lv_iload B.hx B.hb dL_drafts_88 (lv_at hl 3 rfl) ?_
  refine lv_iconst (v := (nI 2)) B.hx B.hb dL_drafts_90 (by decide) ?_
  refine lv_iadd B.hx B.hb dL_drafts_91 ?_
  refine q_top (v2 := .int (nI (8 * j + 2))) (congrArg Value.int (nI_add _ _)) ?_
  refine lv_iload B.hx B.hb dL_drafts_92 (lv_at hl 8 rfl) ?_
  refine lv_bipush (v := (nI 20)) B.hx B.hb dL_drafts_94 (by decide) ?_
  refine lv_irem B.hx B.hb dL_drafts_96 (by decide) ?_
  refine q_top (v2 := .int (nI (yy % 20))) (congrArg Value.int (pk_rem (by omega) (by omega) (by omega))) ?_
  refine q_iast (f := (upd (upd (F 0) (8 * j) (nI 1)) (8 * j + 1) (nI (xx % 6)))) B hP hD hS 0 rfl (j := 8 * j + 2) rfl (by omega) (by decide) dL_drafts_97 (w' := (lw cI o (va_up F 0 (upd (upd (upd (F 0) (8 * j) (nI 1)) (8 * j + 1) (nI (xx % 6))) (8 * j + 2) (nI (yy % 20)))) ++ wk2)) rfl (fun H locs hP hD hS => ?_)
  refine lv_aload B.hx B.hb dL_drafts_98 (lv_at hl 9 rfl) ?_
  refine lv_iload B.hx B.hb dL_drafts_100 (lv_at hl 3 rfl) ?_
  refine lv_iconst (v := (nI 3)) B.hx B.hb dL_drafts_102 (by decide) ?_
  refine lv_iadd B.hx B.hb dL_drafts_103 ?_
  refine q_top (v2 := .int (nI (8 * j + 3))) (congrArg Value.int (nI_add _ _)) ?_
  refine lv_iconst (v := (nI 1)) B.hx B.hb dL_drafts_104 (by decide) ?_
  refine q_iast (f := (upd (upd (upd (F 0) (8 * j) (nI 1)) (8 * j + 1) (nI (xx % 6))) (8 * j + 2) (nI (yy % 20)))) B hP hD hS 0 rfl (j := 8 * j + 3) rfl (by omega) (by decide) dL_drafts_105 (w' := (lw cI o (va_up F 0 (upd (upd (upd (upd (F 0) (8 * j) (nI 1)) (8 * j + 1) (nI (xx % 6))) (8 * j + 2) (nI (yy % 20))) (8 * j + 3) (nI 1))) ++ wk2)) rfl (fun H locs hP hD hS => ?_)
  refine lv_aload B.hx B.hb dL_drafts_106 (lv_at hl 9 rfl) ?_
  refine lv_iload B.hx B.hb dL_drafts_108 (lv_at hl 3 rfl) ?_
  refine lv_iconst (v := (nI 4)) B.hx B.hb dL_drafts_110 (by decide) ?_
  refine lv_iadd B.hx B.hb dL_drafts_111 ?_
  refine q_top (v2 := .int (nI (8 * j + 4))) (congrArg Value.int (nI_add _ _)) ?_
  refine lv_iconst (v := (nI 0)) B.hx B.hb dL_drafts_112 (by decide) ?_
  refine q_iast (f := (upd (upd (upd (upd (F 0) (8 * j) (nI 1)) (8 * j + 1) (nI (xx % 6))) (8 * j + 2) (nI (yy % 20))) (8 * j + 3) (nI 1))) B hP hD hS 0 rfl (j := 8 * j + 4) rfl (by omega) (by decide) dL_drafts_113 (w' := (lw cI o (va_up F 0 (upd (upd (upd (upd (upd (F 0) (8 * j) (nI 1)) (8 * j + 1) (nI (xx % 6))) (8 * j + 2) (nI (yy % 20))) (8 * j + 3) (nI 1)) (8 * j + 4) (nI 0))) ++ wk2)) rfl (fun H locs hP hD hS => ?_)
  refine lv_aload B.hx B.hb dL_drafts_114 (lv_at hl 12 rfl) ?_
  refine lv_iconst (v := (nI 2)) B.hx B.hb dL_drafts_116 (by decide) ?_
  refine lv_iload_n B.hx B.hb dL_drafts_117 rfl (lv_at hl 6 rfl) ?_
  refine lv_imul B.hx B.hb dL_drafts_118 ?_
  refine q_top (v2 := .int (nI (2 * j))) (congrArg Value.int (pk_mul _ _)) ?_
  refine lv_iconst (v := (nI 0)) B.hx B.hb dL_drafts_119 (by decide) ?_
  refine q_iast (f := (F 7)) B hP hD hS 7 rfl (j := 2 * j) rfl (by omega) (by decide) dL_drafts_120 (w' := (lw cI o (va_up (va_up F 0 (upd (upd (upd (upd (upd (F 0) (8 * j) (nI 1)) (8 * j + 1) (nI (xx % 6))) (8 * j + 2) (nI (yy % 20))) (8 * j + 3) (nI 1)) (8 * j + 4) (nI 0))) 7 (upd (F 7) (2 * j) (nI 0))) ++ wk2)) rfl (fun H locs hP hD hS => ?_)
  refine lv_aload B.hx B.hb dL_drafts_121 (lv_at hl 12 rfl) ?_
  refine lv_iconst (v := (nI 2)) B.hx B.hb dL_drafts_123 (by decide) ?_
  refine lv_iload_n B.hx B.hb dL_drafts_124 rfl (lv_at hl 6 rfl) ?_
  refine lv_imul B.hx B.hb dL_drafts_125 ?_
  refine q_top (v2 := .int (nI (2 * j))) (congrArg Value.int (pk_mul _ _)) ?_
  refine lv_iconst (v := (nI 1)) B.hx B.hb dL_drafts_126 (by decide) ?_
  refine lv_iadd B.hx B.hb dL_drafts_127 ?_
  refine q_top (v2 := .int (nI (2 * j + 1))) (congrArg Value.int (nI_add _ _)) ?_
  refine lv_iconst (v := (nI 0)) B.hx B.hb dL_drafts_128 (by decide) ?_
  refine q_iast (f := (upd (F 7) (2 * j) (nI 0))) B hP hD hS 7 rfl (j := 2 * j + 1) rfl (by omega) (by decide) dL_drafts_129 (w' := (lw cI o (va_up (va_up F 0 (upd (upd (upd (upd (upd (F 0) (8 * j) (nI 1)) (8 * j + 1) (nI (xx % 6))) (8 * j + 2) (nI (yy % 20))) (8 * j + 3) (nI 1)) (8 * j + 4) (nI 0))) 7 (upd (upd (F 7) (2 * j) (nI 0)) (2 * j + 1) (nI 0))) ++ wk2)) rfl (fun H locs hP hD hS => ?_)
  refine lv_iload B.hx B.hb dL_drafts_130 (lv_at hl 0 rfl) ?_
  refine lv_if_ne (tgt := 157) B.hx B.hb dL_drafts_132 (by decide) (fun c3 => False.elim (by exact absurd c3 (by decide))) (fun _ => ?_)
  refine lv_aload_n B.hx B.hb dL_drafts_135 rfl (lv_at hl 4 rfl) ?_
  refine lv_iload_n B.hx B.hb dL_drafts_136 rfl (lv_at hl 6 rfl) ?_
  refine q_callV (As := [.int (nI j)]) (rest := []) B hP hD hS (cs2.fl (lw cI o (va_up (va_up F 0 (upd (upd (upd (upd (upd (F 0) (8 * j) (nI 1)) (8 * j + 1) (nI (xx % 6))) (8 * j + 2) (nI (yy % 20))) (8 * j + 3) (nI 1)) (8 * j + 4) (nI 0))) 7 (upd (upd (F 7) (2 * j) (nI 0)) (2 * j + 1) (nI 0))))) (cwV 1 B.hts gL_drafts_X3_step rfl rfl rfl (by decide +kernel) ⟨(Nat.le_of_ble_eq_true rfl), (Nat.le_of_ble_eq_true rfl)⟩) (q2 + 8) 3 hq2 rfl rfl rfl hl.1 rfl (Nat.le_of_ble_eq_true rfl) dL_drafts_137 ⟨(Nat.le_of_ble_eq_true rfl), (Nat.le_of_ble_eq_true rfl)⟩ (fun E ce q9 H locs hx => False.elim hx) (fun v u H locs hp hP hD hS => ?_)
  obtain rfl := hp
  have hP : va_P D vwCl (lw cI o (va_up (va_up F 0 (upd (upd (upd (upd (upd (F 0) (8 * j) (nI 1)) (8 * j + 1) (nI (xx % 6))) (8 * j + 2) (nI (yy % 20))) (8 * j + 3) (nI 1)) (8 * j + 4) (nI 0))) 7 (upd (upd (F 7) (2 * j) (nI 0)) (2 * j + 1) (nI 0))) ++ wk2) H := hP
  have hD : va_D A (lw cI o (va_up (va_up F 0 (upd (upd (upd (upd (upd (F 0) (8 * j) (nI 1)) (8 * j + 1) (nI (xx % 6))) (8 * j + 2) (nI (yy % 20))) (8 * j + 3) (nI 1)) (8 * j + 4) (nI 0))) 7 (upd (upd (F 7) (2 * j) (nI 0)) (2 * j + 1) (nI 0))) ++ wk2) := hD
  refine lv_iconst (v := (nI 1)) B.hx B.hb dL_drafts_140 (by decide) ?_
  refine lv_icmp_ne (tgt := 157) B.hx B.hb dL_drafts_141 (by decide) (fun c4 => False.elim (by exact absurd c4 (by decide))) (fun _ => ?_)
  refine lv_aload_n B.hx B.hb dL_drafts_144 rfl (lv_at hl 4 rfl) ?_
  refine lv_iload_n B.hx B.hb dL_drafts_145 rfl (lv_at hl 6 rfl) ?_
  refine q_callV (As := [.int (nI j)]) (rest := []) B hP hD hS (cw2.fl (lw cI o (va_up (va_up F 0 (upd (upd (upd (upd (upd (F 0) (8 * j) (nI 1)) (8 * j + 1) (nI (xx % 6))) (8 * j + 2) (nI (yy % 20))) (8 * j + 3) (nI 1)) (8 * j + 4) (nI 0))) 7 (upd (upd (F 7) (2 * j) (nI 0)) (2 * j + 1) (nI 0))))) (cwV 1 B.hts gL_drafts_X3_waitsFor rfl rfl rfl (by decide +kernel) ⟨(Nat.le_of_ble_eq_true rfl), (Nat.le_of_ble_eq_true rfl)⟩) (q2 + 8) 3 hq2 rfl rfl rfl hl.1 rfl (Nat.le_of_ble_eq_true rfl) dL_drafts_146 ⟨(Nat.le_of_ble_eq_true rfl), (Nat.le_of_ble_eq_true rfl)⟩ (fun E ce q9 H locs hx => False.elim hx) (fun v u H locs hp hP hD hS => ?_)
  obtain rfl := hp
  have hP : va_P D vwCl (lw cI o (va_up (va_up F 0 (upd (upd (upd (upd (upd (F 0) (8 * j) (nI 1)) (8 * j + 1) (nI (xx % 6))) (8 * j + 2) (nI (yy % 20))) (8 * j + 3) (nI 1)) (8 * j + 4) (nI 0))) 7 (upd (upd (F 7) (2 * j) (nI 0)) (2 * j + 1) (nI 0))) ++ wk2) H := hP
  have hD : va_D A (lw cI o (va_up (va_up F 0 (upd (upd (upd (upd (upd (F 0) (8 * j) (nI 1)) (8 * j + 1) (nI (xx % 6))) (8 * j + 2) (nI (yy % 20))) (8 * j + 3) (nI 1)) (8 * j + 4) (nI 0))) 7 (upd (upd (F 7) (2 * j) (nI 0)) (2 * j + 1) (nI 0))) ++ wk2) := hD
  refine lv_iconst (v := (-1)) B.hx B.hb dL_drafts_149 (by decide) ?_
  refine lv_icmp_ne (tgt := 157) B.hx B.hb dL_drafts_150 (by decide) (fun c5 => False.elim (by exact absurd c5 (by decide))) (fun _ => ?_)
  refine lv_iconst (v := (nI 1)) B.hx B.hb dL_drafts_153 (by decide) ?_
  refine lv_goto (tgt := 158) B.hx B.hb dL_drafts_154 (by decide) ?_
  exact q_zret B hr hP hD hS (by decide) (u := ()) rfl rfl (Nat.le_of_ble_eq_true rfl) (Nat.le_of_ble_eq_true rfl) dL_drafts_158

set_option maxHeartbeats 4000000 in
set_option maxRecDepth 100000 in
theorem ld0n (l : Launch) (D : va_G) (cI cZ cP : ClassId) (o : Nat → Nat) (F : Nat → Nat → Int32) (wk wk2 : va_W) {q0 b : Nat} {fs : List Value} (hq : wk[q0]? = some (b, .inr (3, fs))) {q2 : Nat} {fs2 : List Value} (hq2 : wk2[q2]? = some (b, .inr (3, fs2))) (j xx yy : Nat) (wt : Int32) (hj : j < 8) (hx : xx < 2 ^ 30) (hy : yy < 2 ^ 30) (s0 : Nat) (h1 : 1 ≤ s0) (h5 : s0 ≤ 5) (cs : q_C l yX3_step wsX3_step ({ frames := 2, cells := 0, slots := 0, locals := 42 }) D cI cZ cP [.ref b, .int (nI j)] wk (S := Unit) (fun v _ => v = some (.int (nI s0))) (fun _ => wk) (fun _ => False) 0 0) (cwt : q_C l yX3_waitsFor wsX3_waitsFor ({ frames := 3, cells := 0, slots := 0, locals := 62 }) D cI cZ cP [.ref b, .int (nI j)] wk (S := Unit) (fun v _ => v = some (.int wt)) (fun _ => wk) (fun _ => False) 0 0) (ca : q_C l yL_asks wsL_asks ({ frames := 10, cells := 3, slots := 18, locals := 171 }) D cI cZ cP [.ref b, .int (nI 0), .int (nI j), .int (nI (xx % 6)), .int (nI (yy % 20))] wk (S := Unit) (fun v _ => v = some (.int (-8))) (fun _ => wk) (fun _ => False) 3 18) : q_C l yL_drafts wsL_drafts ({ frames := 11, cells := 3, slots := 18, locals := 196 }) D cI cZ cP [.ref b, .int (nI 0), .int (nI j), .int (nI xx), .int (nI yy), .ref (o 0), .ref (o 5), .ref (o 4), .ref (o 7)] (lw cI o F ++ wk) (S := Unit) (fun v _ => v = some (.int (nI 1))) (fun _ => (lw cI o F ++ wk)) (fun _ => False) 3 18 := by
  refine q_of (cc := cL_drafts) (maxL := 14) (ret := (some .boolean)) (by decide +kernel) rfl (Nat.le_of_ble_eq_true rfl) ?_
  intro p e s m below meth c A ls B hr htb hmn hP hD hS hl
  have hl : lv_has ls 14 [(0, .ref b), (1, .int (nI 0)), (2, .int (nI j)), (3, .int (nI xx)), (4, .int (nI yy)), (5, .ref (o 0)), (6, .ref (o 5)), (7, .ref (o 4)), (8, .ref (o 7))] := hl
  refine lv_bipush (v := (nI 8)) B.hx B.hb dL_drafts_0 (by decide) ?_
  refine lv_iload_n B.hx B.hb dL_drafts_2 rfl (lv_at hl 2 rfl) ?_
  refine lv_imul B.hx B.hb dL_drafts_3 ?_
  refine q_top (v2 := .int (nI (8 * j))) (congrArg Value.int (pk_mul _ _)) ?_
  refine lv_istore (lv' := [(9, .int (nI (8 * j))), (0, .ref b), (1, .int (nI 0)), (2, .int (nI j)), (3, .int (nI xx)), (4, .int (nI yy)), (5, .ref (o 0)), (6, .ref (o 5)), (7, .ref (o 4)), (8, .ref (o 7))]) B.hx B.hb dL_drafts_4 hl (by decide) rfl (fun ls hl => ?_)
  refine lv_aload_n B.hx B.hb dL_drafts_6 rfl (lv_at hl 1 rfl) ?_
  refine lv_iload_n B.hx B.hb dL_drafts_7 rfl (lv_at hl 3 rfl) ?_
  refine q_callV (As := [.int (nI j)]) (rest := []) B hP hD hS (cs.fl (lw cI o F)) (cwV 1 B.hts gL_drafts_X3_step rfl rfl rfl (by decide +kernel) ⟨(Nat.le_of_ble_eq_true rfl), (Nat.le_of_ble_eq_true rfl)⟩) (q0 + 8) 3 hq rfl rfl rfl hl.1 rfl (Nat.le_of_ble_eq_true rfl) dL_drafts_8 ⟨(Nat.le_of_ble_eq_true rfl), (Nat.le_of_ble_eq_true rfl)⟩ (fun E ce q9 H locs hx => False.elim hx) (fun v u H locs hp hP hD hS => ?_)
  obtain rfl := hp
  have hP : va_P D vwCl (lw cI o F ++ wk) H := hP
  have hD : va_D A (lw cI o F ++ wk) := hD
  refine lv_istore (lv' := [(10, .int (nI s0)), (9, .int (nI (8 * j))), (0, .ref b), (1, .int (nI 0)), (2, .int (nI j)), (3, .int (nI xx)), (4, .int (nI yy)), (5, .ref (o 0)), (6, .ref (o 5)), (7, .ref (o 4)), (8, .ref (o 7))]) B.hx B.hb dL_drafts_11 hl (by decide) rfl (fun ls hl => ?_)
  refine lv_aload_n B.hx B.hb dL_drafts_13 rfl (lv_at hl 2 rfl) ?_
  refine lv_iload_n B.hx B.hb dL_drafts_14 rfl (lv_at hl 4 rfl) ?_
  refine q_callV (As := [.int (nI j)]) (rest := []) B hP hD hS (cwt.fl (lw cI o F)) (cwV 1 B.hts gL_drafts_X3_waitsFor rfl rfl rfl (by decide +kernel) ⟨(Nat.le_of_ble_eq_true rfl), (Nat.le_of_ble_eq_true rfl)⟩) (q0 + 8) 3 hq rfl rfl rfl hl.1 rfl (Nat.le_of_ble_eq_true rfl) dL_drafts_15 ⟨(Nat.le_of_ble_eq_true rfl), (Nat.le_of_ble_eq_true rfl)⟩ (fun E ce q9 H locs hx => False.elim hx) (fun v u H locs hp hP hD hS => ?_)
  obtain rfl := hp
  have hP : va_P D vwCl (lw cI o F ++ wk) H := hP
  have hD : va_D A (lw cI o F ++ wk) := hD
  refine lv_istore (lv' := [(11, .int wt), (10, .int (nI s0)), (9, .int (nI (8 * j))), (0, .ref b), (1, .int (nI 0)), (2, .int (nI j)), (3, .int (nI xx)), (4, .int (nI yy)), (5, .ref (o 0)), (6, .ref (o 5)), (7, .ref (o 4)), (8, .ref (o 7))]) B.hx B.hb dL_drafts_18 hl (by decide) rfl (fun ls hl => ?_)
  refine lv_iload_n B.hx B.hb dL_drafts_20 rfl (lv_at hl 4 rfl) ?_
  refine lv_if_ne (tgt := 159) B.hx B.hb dL_drafts_21 (by decide) (fun c1 => False.elim (by exact absurd c1 (by decide))) (fun _ => ?_)
  refine lv_aload_n B.hx B.hb dL_drafts_24 rfl (lv_at hl 3 rfl) ?_
  refine lv_iconst (v := (nI 0)) B.hx B.hb dL_drafts_25 (by decide) ?_
  refine lv_iload_n B.hx B.hb dL_drafts_26 rfl (lv_at hl 5 rfl) ?_
  refine lv_iload_n B.hx B.hb dL_drafts_27 rfl (lv_at hl 6 rfl) ?_
  refine lv_bipush (v := (nI 6)) B.hx B.hb dL_drafts_28 (by decide) ?_
  refine lv_irem B.hx B.hb dL_drafts_30 (by decide) ?_
  refine q_top (v2 := .int (nI (xx % 6))) (congrArg Value.int (pk_rem (by omega) (by omega) (by omega))) ?_
  refine lv_iload B.hx B.hb dL_drafts_31 (lv_at hl 7 rfl) ?_
  refine lv_bipush (v := (nI 20)) B.hx B.hb dL_drafts_33 (by decide) ?_
  refine lv_irem B.hx B.hb dL_drafts_35 (by decide) ?_
  refine q_top (v2 := .int (nI (yy % 20))) (congrArg Value.int (pk_rem (by omega) (by omega) (by omega))) ?_
  refine q_callSX (As := [.ref b, .int (nI 0), .int (nI j), .int (nI (xx % 6)), .int (nI (yy % 20))]) (rest := []) B hP hD hS (ca.fl (lw cI o F)) (vx_cwSW 5 B.hts gL_drafts_L_asks rfl rfl rfl (by decide +kernel) ⟨(Nat.le_of_ble_eq_true rfl), (Nat.le_of_ble_eq_true rfl)⟩) rfl hl.1 rfl (Nat.le_of_ble_eq_true rfl) dL_drafts_36 ⟨(Nat.le_of_ble_eq_true rfl), (Nat.le_of_ble_eq_true rfl)⟩ (fun E ce q9 H locs hx => False.elim hx) (fun v u H locs hp hP hD hS => ?_)
  obtain rfl := hp
  have hP : va_P D vwCl (lw cI o F ++ wk) H := hP
  have hD : va_D A (lw cI o F ++ wk) := hD
  refine lv_istore (lv' := [(12, .int (-8)), (11, .int wt), (10, .int (nI s0)), (9, .int (nI (8 * j))), (0, .ref b), (1, .int (nI 0)), (2, .int (nI j)), (3, .int (nI xx)), (4, .int (nI yy)), (5, .ref (o 0)), (6, .ref (o 5)), (7, .ref (o 4)), (8, .ref (o 7))]) B.hx B.hb dL_drafts_39 hl (by decide) rfl (fun ls hl => ?_)
  refine lv_iload B.hx B.hb dL_drafts_41 (lv_at hl 2 rfl) ?_
  refine lv_if_le (tgt := 69) B.hx B.hb dL_drafts_43 (by decide) (fun c2 => False.elim (by replace c2 := (nI_le0 (by omega)).mp c2; omega)) (fun _ => ?_)
  refine lv_iload B.hx B.hb dL_drafts_46 (lv_at hl 0 rfl) ?_
  refine lv_bipush (v := (-8)) B.hx B.hb dL_drafts_48 (by decide) ?_
  refine lv_icmp_ne (tgt := 67) B.hx B.hb dL_drafts_50 (by decide) (fun c3 => False.elim (by exact absurd c3 (by decide))) (fun _ => ?_)
  refine lv_aload_n B.hx B.hb dL_drafts_53 rfl (lv_at hl 4 rfl) ?_
  refine lv_iload_n B.hx B.hb dL_drafts_54 rfl (lv_at hl 6 rfl) ?_
  refine q_callV (As := [.int (nI j)]) (rest := []) B hP hD hS (cs.fl (lw cI o F)) (cwV 1 B.hts gL_drafts_X3_step rfl rfl rfl (by decide +kernel) ⟨(Nat.le_of_ble_eq_true rfl), (Nat.le_of_ble_eq_true rfl)⟩) (q0 + 8) 3 hq rfl rfl rfl hl.1 rfl (Nat.le_of_ble_eq_true rfl) dL_drafts_55 ⟨(Nat.le_of_ble_eq_true rfl), (Nat.le_of_ble_eq_true rfl)⟩ (fun E ce q9 H locs hx => False.elim hx) (fun v u H locs hp hP hD hS => ?_)
  obtain rfl := hp
  have hP : va_P D vwCl (lw cI o F ++ wk) H := hP
  have hD : va_D A (lw cI o F ++ wk) := hD
  refine lv_iload B.hx B.hb dL_drafts_58 (lv_at hl 2 rfl) ?_
  refine lv_icmp_ne (tgt := 67) B.hx B.hb dL_drafts_60 (by decide) (fun c4 => False.elim (by replace c4 := mt (nI_eq (by omega) (by omega)).mpr c4; omega)) (fun _ => ?_)
  refine lv_iconst (v := (nI 1)) B.hx B.hb dL_drafts_63 (by decide) ?_
  refine lv_goto (tgt := 68) B.hx B.hb dL_drafts_64 (by decide) ?_
  exact q_zret B hr hP hD hS (by decide) (u := ()) rfl rfl (Nat.le_of_ble_eq_true rfl) (Nat.le_of_ble_eq_true rfl) dL_drafts_68

set_option maxHeartbeats 4000000 in
set_option maxRecDepth 100000 in
theorem ld1y (l : Launch) (D : va_G) (cI cZ cP : ClassId) (o : Nat → Nat) (F : Nat → Nat → Int32) (wk wk2 : va_W) {q0 b : Nat} {fs : List Value} (hq : wk[q0]? = some (b, .inr (3, fs))) {q2 : Nat} {fs2 : List Value} (hq2 : wk2[q2]? = some (b, .inr (3, fs2))) (j xx yy : Nat) (wt : Int32) (hj : j < 8) (hx : xx < 2 ^ 30) (hy : yy < 2 ^ 30) (s0 : Nat) (h1 : 1 ≤ s0) (h5 : s0 ≤ 5) (hne : ¬ F 0 (8 * j + 2) = nI (yy % 20)) (cs : q_C l yX3_step wsX3_step ({ frames := 2, cells := 0, slots := 0, locals := 42 }) D cI cZ cP [.ref b, .int (nI j)] wk (S := Unit) (fun v _ => v = some (.int (nI s0))) (fun _ => wk) (fun _ => False) 0 0) (cwt : q_C l yX3_waitsFor wsX3_waitsFor ({ frames := 3, cells := 0, slots := 0, locals := 62 }) D cI cZ cP [.ref b, .int (nI j)] wk (S := Unit) (fun v _ => v = some (.int wt)) (fun _ => wk) (fun _ => False) 0 0) (ca : q_C l yL_asks wsL_asks ({ frames := 8, cells := 3, slots := 18, locals := 128 }) D cI cZ cP [.ref b, .int (nI 1), .int (nI j), .int (nI (yy % 20)), .int (nI 0)] wk (S := Unit) (fun v _ => v = some (.int (F 0 (8 * j + 3) + nI 1))) (fun _ => wk2) (fun _ => False) 3 18) (cs2 : q_C l yX3_step wsX3_step ({ frames := 2, cells := 0, slots := 0, locals := 42 }) D cI cZ cP [.ref b, .int (nI j)] wk2 (S := Unit) (fun v _ => v = some (.int (nI 1))) (fun _ => wk2) (fun _ => False) 0 0) : q_C l yL_drafts wsL_drafts ({ frames := 11, cells := 3, slots := 18, locals := 196 }) D cI cZ cP [.ref b, .int (nI 1), .int (nI j), .int (nI xx), .int (nI yy), .ref (o 0), .ref (o 5), .ref (o 4), .ref (o 7)] (lw cI o F ++ wk) (S := Unit) (fun v _ => v = some (.int (nI 1))) (fun _ => (lw cI o (va_up F 0 (upd (upd (upd (F 0) (8 * j + 2) (nI (yy % 20))) (8 * j + 3) (((F 0) (8 * j + 3)) + (nI 1))) (8 * j + 4) (nI 0))) ++ wk2)) (fun _ => False) 3 18 := by
  refine q_of (cc := cL_drafts) (maxL := 14) (ret := (some .boolean)) (by decide +kernel) rfl (Nat.le_of_ble_eq_true rfl) ?_
  intro p e s m below meth c A ls B hr htb hmn hP hD hS hl
  have hl : lv_has ls 14 [(0, .ref b), (1, .int (nI 1)), (2, .int (nI j)), (3, .int (nI xx)), (4, .int (nI yy)), (5, .ref (o 0)), (6, .ref (o 5)), (7, .ref (o 4)), (8, .ref (o 7))] := hl
  refine lv_bipush (v := (nI 8)) B.hx B.hb dL_drafts_0 (by decide) ?_
  refine lv_iload_n B.hx B.hb dL_drafts_2 rfl (lv_at hl 2 rfl) ?_
  refine lv_imul B.hx B.hb dL_drafts_3 ?_
  refine q_top (v2 := .int (nI (8 * j))) (congrArg Value.int (pk_mul _ _)) ?_
  refine lv_istore (lv' := [(9, .int (nI (8 * j))), (0, .ref b), (1, .int (nI 1)), (2, .int (nI j)), (3, .int (nI xx)), (4, .int (nI yy)), (5, .ref (o 0)), (6, .ref (o 5)), (7, .ref (o 4)), (8, .ref (o 7))]) B.hx B.hb dL_drafts_4 hl (by decide) rfl (fun ls hl => ?_)
  refine lv_aload_n B.hx B.hb dL_drafts_6 rfl (lv_at hl 1 rfl) ?_
  refine lv_iload_n B.hx B.hb dL_drafts_7 rfl (lv_at hl 3 rfl) ?_
  refine q_callV (As := [.int (nI j)]) (rest := []) B hP hD hS (cs.fl (lw cI o F)) (cwV 1 B.hts gL_drafts_X3_step rfl rfl rfl (by decide +kernel) ⟨(Nat.le_of_ble_eq_true rfl), (Nat.le_of_ble_eq_true rfl)⟩) (q0 + 8) 3 hq rfl rfl rfl hl.1 rfl (Nat.le_of_ble_eq_true rfl) dL_drafts_8 ⟨(Nat.le_of_ble_eq_true rfl), (Nat.le_of_ble_eq_true rfl)⟩ (fun E ce q9 H locs hx => False.elim hx) (fun v u H locs hp hP hD hS => ?_)
  obtain rfl := hp
  have hP : va_P D vwCl (lw cI o F ++ wk) H := hP
  have hD : va_D A (lw cI o F ++ wk) := hD
  refine lv_istore (lv' := [(10, .int (nI s0)), (9, .int (nI (8 * j))), (0, .ref b), (1, .int (nI 1)), (2, .int (nI j)), (3, .int (nI xx)), (4, .int (nI yy)), (5, .ref (o 0)), (6, .ref (o 5)), (7, .ref (o 4)), (8, .ref (o 7))]) B.hx B.hb dL_drafts_11 hl (by decide) rfl (fun ls hl => ?_)
  refine lv_aload_n B.hx B.hb dL_drafts_13 rfl (lv_at hl 2 rfl) ?_
  refine lv_iload_n B.hx B.hb dL_drafts_14 rfl (lv_at hl 4 rfl) ?_
  refine q_callV (As := [.int (nI j)]) (rest := []) B hP hD hS (cwt.fl (lw cI o F)) (cwV 1 B.hts gL_drafts_X3_waitsFor rfl rfl rfl (by decide +kernel) ⟨(Nat.le_of_ble_eq_true rfl), (Nat.le_of_ble_eq_true rfl)⟩) (q0 + 8) 3 hq rfl rfl rfl hl.1 rfl (Nat.le_of_ble_eq_true rfl) dL_drafts_15 ⟨(Nat.le_of_ble_eq_true rfl), (Nat.le_of_ble_eq_true rfl)⟩ (fun E ce q9 H locs hx => False.elim hx) (fun v u H locs hp hP hD hS => ?_)
  obtain rfl := hp
  have hP : va_P D vwCl (lw cI o F ++ wk) H := hP
  have hD : va_D A (lw cI o F ++ wk) := hD
  refine lv_istore (lv' := [(11, .int wt), (10, .int (nI s0)), (9, .int (nI (8 * j))), (0, .ref b), (1, .int (nI 1)), (2, .int (nI j)), (3, .int (nI xx)), (4, .int (nI yy)), (5, .ref (o 0)), (6, .ref (o 5)), (7, .ref (o 4)), (8, .ref (o 7))]) B.hx B.hb dL_drafts_18 hl (by decide) rfl (fun ls hl => ?_)
  refine lv_iload_n B.hx B.hb dL_drafts_20 rfl (lv_at hl 4 rfl) ?_
  refine lv_if_ne (tgt := 159) B.hx B.hb dL_drafts_21 (by decide) (fun _ => ?_) (fun c1 => False.elim (by exact absurd c1 (by decide)))
  refine lv_iload_n B.hx B.hb dL_drafts_159 rfl (lv_at hl 4 rfl) ?_
  refine lv_iconst (v := (nI 1)) B.hx B.hb dL_drafts_160 (by decide) ?_
  refine lv_icmp_ne (tgt := 279) B.hx B.hb dL_drafts_161 (by decide) (fun c2 => False.elim (by exact absurd c2 (by decide))) (fun _ => ?_)
  refine lv_aload_n B.hx B.hb dL_drafts_164 rfl (lv_at hl 3 rfl) ?_
  refine lv_iconst (v := (nI 1)) B.hx B.hb dL_drafts_165 (by decide) ?_
  refine lv_iload_n B.hx B.hb dL_drafts_166 rfl (lv_at hl 5 rfl) ?_
  refine lv_iload B.hx B.hb dL_drafts_167 (lv_at hl 7 rfl) ?_
  refine lv_bipush (v := (nI 20)) B.hx B.hb dL_drafts_169 (by decide) ?_
  refine lv_irem B.hx B.hb dL_drafts_171 (by decide) ?_
  refine q_top (v2 := .int (nI (yy % 20))) (congrArg Value.int (pk_rem (by omega) (by omega) (by omega))) ?_
  refine lv_iconst (v := (nI 0)) B.hx B.hb dL_drafts_172 (by decide) ?_
  refine q_callSX (As := [.ref b, .int (nI 1), .int (nI j), .int (nI (yy % 20)), .int (nI 0)]) (rest := []) B hP hD hS (ca.fl (lw cI o F)) (vx_cwSW 5 B.hts gL_drafts_L_asks rfl rfl rfl (by decide +kernel) ⟨(Nat.le_of_ble_eq_true rfl), (Nat.le_of_ble_eq_true rfl)⟩) rfl hl.1 rfl (Nat.le_of_ble_eq_true rfl) dL_drafts_173 ⟨(Nat.le_of_ble_eq_true rfl), (Nat.le_of_ble_eq_true rfl)⟩ (fun E ce q9 H locs hx => False.elim hx) (fun v u H locs hp hP hD hS => ?_)
  obtain rfl := hp
  have hP : va_P D vwCl (lw cI o F ++ wk2) H := hP
  have hD : va_D A (lw cI o F ++ wk2) := hD
  refine lv_istore (lv' := [(12, .int (F 0 (8 * j + 3) + nI 1)), (11, .int wt), (10, .int (nI s0)), (9, .int (nI (8 * j))), (0, .ref b), (1, .int (nI 1)), (2, .int (nI j)), (3, .int (nI xx)), (4, .int (nI yy)), (5, .ref (o 0)), (6, .ref (o 5)), (7, .ref (o 4)), (8, .ref (o 7))]) B.hx B.hb dL_drafts_176 hl (by decide) rfl (fun ls hl => ?_)
  refine lv_iload B.hx B.hb dL_drafts_178 (lv_at hl 2 rfl) ?_
  refine lv_if_eq (tgt := 198) B.hx B.hb dL_drafts_180 (by decide) (fun c3 => False.elim (by replace c3 := (nI_eq0 (by omega)).mp c3; omega)) (fun _ => ?_)
  refine lv_aload B.hx B.hb dL_drafts_183 (lv_at hl 9 rfl) ?_
  refine lv_iload B.hx B.hb dL_drafts_185 (lv_at hl 3 rfl) ?_
  refine lv_iconst (v := (nI 2)) B.hx B.hb dL_drafts_187 (by decide) ?_
  refine lv_iadd B.hx B.hb dL_drafts_188 ?_
  refine q_top (v2 := .int (nI (8 * j + 2))) (congrArg Value.int (nI_add _ _)) ?_
  refine q_iald (f := (F 0)) B hP 0 rfl (j := 8 * j + 2) rfl (by omega) (by decide) dL_drafts_189 ?_
  refine lv_iload B.hx B.hb dL_drafts_190 (lv_at hl 8 rfl) ?_
  refine lv_bipush (v := (nI 20)) B.hx B.hb dL_drafts_192 (by decide) ?_
  refine lv_irem B.hx B.hb dL_drafts_194 (by decide) ?_
  refine q_top (v2 := .int (nI (yy % 20))) (congrArg Value.int (pk_rem (by omega) (by omega) (by omega))) ?_
  refine lv_icmp_ne (tgt := 221) B.hx B.hb dL_drafts_195 (by decide) (fun _ => ?_) (fun c4 => False.elim (by exact hne c4))
  refine lv_aload B.hx B.hb dL_drafts_221 (lv_at hl 9 rfl) ?_
  refine lv_iload B.hx B.hb dL_drafts_223 (lv_at hl 3 rfl) ?_
  refine lv_iconst (v := (nI 2)) B.hx B.hb dL_drafts_225 (by decide) ?_
  refine lv_iadd B.hx B.hb dL_drafts_226 ?_
  refine q_top (v2 := .int (nI (8 * j + 2))) (congrArg Value.int (nI_add _ _)) ?_
  refine lv_iload B.hx B.hb dL_drafts_227 (lv_at hl 8 rfl) ?_
  refine lv_bipush (v := (nI 20)) B.hx B.hb dL_drafts_229 (by decide) ?_
  refine lv_irem B.hx B.hb dL_drafts_231 (by decide) ?_
  refine q_top (v2 := .int (nI (yy % 20))) (congrArg Value.int (pk_rem (by omega) (by omega) (by omega))) ?_
  refine q_iast (f := (F 0)) B hP hD hS 0 rfl (j := 8 * j + 2) rfl (by omega) (by decide) dL_drafts_232 (w' := (lw cI o (va_up F 0 (upd (F 0) (8 * j + 2) (nI (yy % 20)))) ++ wk2)) rfl (fun H locs hP hD hS => ?_)
  refine lv_aload B.hx B.hb dL_drafts_233 (lv_at hl 9 rfl) ?_
  refine lv_iload B.hx B.hb dL_drafts_235 (lv_at hl 3 rfl) ?_
  refine lv_iconst (v := (nI 3)) B.hx B.hb dL_drafts_237 (by decide) ?_
  refine lv_iadd B.hx B.hb dL_drafts_238 ?_
  refine q_top (v2 := .int (nI (8 * j + 3))) (congrArg Value.int (nI_add _ _)) ?_
  refine lv_dup2_11 B.hx B.hb dL_drafts_239 rfl rfl ?_
  refine q_iald (f := (upd (F 0) (8 * j + 2) (nI (yy % 20)))) B hP 0 rfl (j := 8 * j + 3) rfl (by omega) (by decide) dL_drafts_240 ?_
  refine q_top (v2 := .int ((F 0) (8 * j + 3))) (congrArg Value.int (pk_un (by omega))) ?_
  refine lv_iconst (v := (nI 1)) B.hx B.hb dL_drafts_241 (by decide) ?_
  refine lv_iadd B.hx B.hb dL_drafts_242 ?_
  refine q_iast (f := (upd (F 0) (8 * j + 2) (nI (yy % 20)))) B hP hD hS 0 rfl (j := 8 * j + 3) rfl (by omega) (by decide) dL_drafts_243 (w' := (lw cI o (va_up F 0 (upd (upd (F 0) (8 * j + 2) (nI (yy % 20))) (8 * j + 3) (((F 0) (8 * j + 3)) + (nI 1)))) ++ wk2)) rfl (fun H locs hP hD hS => ?_)
  refine lv_aload B.hx B.hb dL_drafts_244 (lv_at hl 9 rfl) ?_
  refine lv_iload B.hx B.hb dL_drafts_246 (lv_at hl 3 rfl) ?_
  refine lv_iconst (v := (nI 4)) B.hx B.hb dL_drafts_248 (by decide) ?_
  refine lv_iadd B.hx B.hb dL_drafts_249 ?_
  refine q_top (v2 := .int (nI (8 * j + 4))) (congrArg Value.int (nI_add _ _)) ?_
  refine lv_iconst (v := (nI 0)) B.hx B.hb dL_drafts_250 (by decide) ?_
  refine q_iast (f := (upd (upd (F 0) (8 * j + 2) (nI (yy % 20))) (8 * j + 3) (((F 0) (8 * j + 3)) + (nI 1)))) B hP hD hS 0 rfl (j := 8 * j + 4) rfl (by omega) (by decide) dL_drafts_251 (w' := (lw cI o (va_up F 0 (upd (upd (upd (F 0) (8 * j + 2) (nI (yy % 20))) (8 * j + 3) (((F 0) (8 * j + 3)) + (nI 1))) (8 * j + 4) (nI 0))) ++ wk2)) rfl (fun H locs hP hD hS => ?_)
  refine lv_iload B.hx B.hb dL_drafts_252 (lv_at hl 0 rfl) ?_
  refine lv_aload B.hx B.hb dL_drafts_254 (lv_at hl 9 rfl) ?_
  refine lv_iload B.hx B.hb dL_drafts_256 (lv_at hl 3 rfl) ?_
  refine lv_iconst (v := (nI 3)) B.hx B.hb dL_drafts_258 (by decide) ?_
  refine lv_iadd B.hx B.hb dL_drafts_259 ?_
  refine q_top (v2 := .int (nI (8 * j + 3))) (congrArg Value.int (nI_add _ _)) ?_
  refine q_iald (f := (upd (upd (upd (F 0) (8 * j + 2) (nI (yy % 20))) (8 * j + 3) (((F 0) (8 * j + 3)) + (nI 1))) (8 * j + 4) (nI 0))) B hP 0 rfl (j := 8 * j + 3) rfl (by omega) (by decide) dL_drafts_260 ?_
  refine q_top (v2 := .int (((F 0) (8 * j + 3)) + (nI 1))) (congrArg Value.int ((pk_un (by omega)).trans pk_us)) ?_
  refine lv_icmp_ne (tgt := 277) B.hx B.hb dL_drafts_261 (by decide) (fun c5 => False.elim (by exact c5 rfl)) (fun _ => ?_)
  refine lv_aload_n B.hx B.hb dL_drafts_264 rfl (lv_at hl 4 rfl) ?_
  refine lv_iload_n B.hx B.hb dL_drafts_265 rfl (lv_at hl 6 rfl) ?_
  refine q_callV (As := [.int (nI j)]) (rest := []) B hP hD hS (cs2.fl (lw cI o (va_up F 0 (upd (upd (upd (F 0) (8 * j + 2) (nI (yy % 20))) (8 * j + 3) (((F 0) (8 * j + 3)) + (nI 1))) (8 * j + 4) (nI 0))))) (cwV 1 B.hts gL_drafts_X3_step rfl rfl rfl (by decide +kernel) ⟨(Nat.le_of_ble_eq_true rfl), (Nat.le_of_ble_eq_true rfl)⟩) (q2 + 8) 3 hq2 rfl rfl rfl hl.1 rfl (Nat.le_of_ble_eq_true rfl) dL_drafts_266 ⟨(Nat.le_of_ble_eq_true rfl), (Nat.le_of_ble_eq_true rfl)⟩ (fun E ce q9 H locs hx => False.elim hx) (fun v u H locs hp hP hD hS => ?_)
  obtain rfl := hp
  have hP : va_P D vwCl (lw cI o (va_up F 0 (upd (upd (upd (F 0) (8 * j + 2) (nI (yy % 20))) (8 * j + 3) (((F 0) (8 * j + 3)) + (nI 1))) (8 * j + 4) (nI 0))) ++ wk2) H := hP
  have hD : va_D A (lw cI o (va_up F 0 (upd (upd (upd (F 0) (8 * j + 2) (nI (yy % 20))) (8 * j + 3) (((F 0) (8 * j + 3)) + (nI 1))) (8 * j + 4) (nI 0))) ++ wk2) := hD
  refine lv_iconst (v := (nI 1)) B.hx B.hb dL_drafts_269 (by decide) ?_
  refine lv_icmp_ne (tgt := 277) B.hx B.hb dL_drafts_270 (by decide) (fun c6 => False.elim (by exact absurd c6 (by decide))) (fun _ => ?_)
  refine lv_iconst (v := (nI 1)) B.hx B.hb dL_drafts_273 (by decide) ?_
  refine lv_goto (tgt := 278) B.hx B.hb dL_drafts_274 (by decide) ?_
  exact q_zret B hr hP hD hS (by decide) (u := ()) rfl rfl (Nat.le_of_ble_eq_true rfl) (Nat.le_of_ble_eq_true rfl) dL_drafts_278

set_option maxHeartbeats 4000000 in
set_option maxRecDepth 100000 in
theorem ld1n0 (l : Launch) (D : va_G) (cI cZ cP : ClassId) (o : Nat → Nat) (F : Nat → Nat → Int32) (wk wk2 : va_W) {q0 b : Nat} {fs : List Value} (hq : wk[q0]? = some (b, .inr (3, fs))) {q2 : Nat} {fs2 : List Value} (hq2 : wk2[q2]? = some (b, .inr (3, fs2))) (j xx yy : Nat) (wt : Int32) (hj : j < 8) (hx : xx < 2 ^ 30) (hy : yy < 2 ^ 30)  (cs : q_C l yX3_step wsX3_step ({ frames := 2, cells := 0, slots := 0, locals := 42 }) D cI cZ cP [.ref b, .int (nI j)] wk (S := Unit) (fun v _ => v = some (.int (nI 0))) (fun _ => wk) (fun _ => False) 0 0) (cwt : q_C l yX3_waitsFor wsX3_waitsFor ({ frames := 3, cells := 0, slots := 0, locals := 62 }) D cI cZ cP [.ref b, .int (nI j)] wk (S := Unit) (fun v _ => v = some (.int wt)) (fun _ => wk) (fun _ => False) 0 0) (ca : q_C l yL_asks wsL_asks ({ frames := 8, cells := 3, slots := 18, locals := 128 }) D cI cZ cP [.ref b, .int (nI 1), .int (nI j), .int (nI (yy % 20)), .int (nI 0)] wk (S := Unit) (fun v _ => v = some (.int (-8))) (fun _ => wk) (fun _ => False) 3 18) : q_C l yL_drafts wsL_drafts ({ frames := 11, cells := 3, slots := 18, locals := 196 }) D cI cZ cP [.ref b, .int (nI 1), .int (nI j), .int (nI xx), .int (nI yy), .ref (o 0), .ref (o 5), .ref (o 4), .ref (o 7)] (lw cI o F ++ wk) (S := Unit) (fun v _ => v = some (.int (nI 1))) (fun _ => (lw cI o F ++ wk)) (fun _ => False) 3 18 := by
  refine q_of (cc := cL_drafts) (maxL := 14) (ret := (some .boolean)) (by decide +kernel) rfl (Nat.le_of_ble_eq_true rfl) ?_
  intro p e s m below meth c A ls B hr htb hmn hP hD hS hl
  have hl : lv_has ls 14 [(0, .ref b), (1, .int (nI 1)), (2, .int (nI j)), (3, .int (nI xx)), (4, .int (nI yy)), (5, .ref (o 0)), (6, .ref (o 5)), (7, .ref (o 4)), (8, .ref (o 7))] := hl
  refine lv_bipush (v := (nI 8)) B.hx B.hb dL_drafts_0 (by decide) ?_
  refine lv_iload_n B.hx B.hb dL_drafts_2 rfl (lv_at hl 2 rfl) ?_
  refine lv_imul B.hx B.hb dL_drafts_3 ?_
  refine q_top (v2 := .int (nI (8 * j))) (congrArg Value.int (pk_mul _ _)) ?_
  refine lv_istore (lv' := [(9, .int (nI (8 * j))), (0, .ref b), (1, .int (nI 1)), (2, .int (nI j)), (3, .int (nI xx)), (4, .int (nI yy)), (5, .ref (o 0)), (6, .ref (o 5)), (7, .ref (o 4)), (8, .ref (o 7))]) B.hx B.hb dL_drafts_4 hl (by decide) rfl (fun ls hl => ?_)
  refine lv_aload_n B.hx B.hb dL_drafts_6 rfl (lv_at hl 1 rfl) ?_
  refine lv_iload_n B.hx B.hb dL_drafts_7 rfl (lv_at hl 3 rfl) ?_
  refine q_callV (As := [.int (nI j)]) (rest := []) B hP hD hS (cs.fl (lw cI o F)) (cwV 1 B.hts gL_drafts_X3_step rfl rfl rfl (by decide +kernel) ⟨(Nat.le_of_ble_eq_true rfl), (Nat.le_of_ble_eq_true rfl)⟩) (q0 + 8) 3 hq rfl rfl rfl hl.1 rfl (Nat.le_of_ble_eq_true rfl) dL_drafts_8 ⟨(Nat.le_of_ble_eq_true rfl), (Nat.le_of_ble_eq_true rfl)⟩ (fun E ce q9 H locs hx => False.elim hx) (fun v u H locs hp hP hD hS => ?_)
  obtain rfl := hp
  have hP : va_P D vwCl (lw cI o F ++ wk) H := hP
  have hD : va_D A (lw cI o F ++ wk) := hD
  refine lv_istore (lv' := [(10, .int (nI 0)), (9, .int (nI (8 * j))), (0, .ref b), (1, .int (nI 1)), (2, .int (nI j)), (3, .int (nI xx)), (4, .int (nI yy)), (5, .ref (o 0)), (6, .ref (o 5)), (7, .ref (o 4)), (8, .ref (o 7))]) B.hx B.hb dL_drafts_11 hl (by decide) rfl (fun ls hl => ?_)
  refine lv_aload_n B.hx B.hb dL_drafts_13 rfl (lv_at hl 2 rfl) ?_
  refine lv_iload_n B.hx B.hb dL_drafts_14 rfl (lv_at hl 4 rfl) ?_
  refine q_callV (As := [.int (nI j)]) (rest := []) B hP hD hS (cwt.fl (lw cI o F)) (cwV 1 B.hts gL_drafts_X3_waitsFor rfl rfl rfl (by decide +kernel) ⟨(Nat.le_of_ble_eq_true rfl), (Nat.le_of_ble_eq_true rfl)⟩) (q0 + 8) 3 hq rfl rfl rfl hl.1 rfl (Nat.le_of_ble_eq_true rfl) dL_drafts_15 ⟨(Nat.le_of_ble_eq_true rfl), (Nat.le_of_ble_eq_true rfl)⟩ (fun E ce q9 H locs hx => False.elim hx) (fun v u H locs hp hP hD hS => ?_)
  obtain rfl := hp
  have hP : va_P D vwCl (lw cI o F ++ wk) H := hP
  have hD : va_D A (lw cI o F ++ wk) := hD
  refine lv_istore (lv' := [(11, .int wt), (10, .int (nI 0)), (9, .int (nI (8 * j))), (0, .ref b), (1, .int (nI 1)), (2, .int (nI j)), (3, .int (nI xx)), (4, .int (nI yy)), (5, .ref (o 0)), (6, .ref (o 5)), (7, .ref (o 4)), (8, .ref (o 7))]) B.hx B.hb dL_drafts_18 hl (by decide) rfl (fun ls hl => ?_)
  refine lv_iload_n B.hx B.hb dL_drafts_20 rfl (lv_at hl 4 rfl) ?_
  refine lv_if_ne (tgt := 159) B.hx B.hb dL_drafts_21 (by decide) (fun _ => ?_) (fun c1 => False.elim (by exact absurd c1 (by decide)))
  refine lv_iload_n B.hx B.hb dL_drafts_159 rfl (lv_at hl 4 rfl) ?_
  refine lv_iconst (v := (nI 1)) B.hx B.hb dL_drafts_160 (by decide) ?_
  refine lv_icmp_ne (tgt := 279) B.hx B.hb dL_drafts_161 (by decide) (fun c2 => False.elim (by exact absurd c2 (by decide))) (fun _ => ?_)
  refine lv_aload_n B.hx B.hb dL_drafts_164 rfl (lv_at hl 3 rfl) ?_
  refine lv_iconst (v := (nI 1)) B.hx B.hb dL_drafts_165 (by decide) ?_
  refine lv_iload_n B.hx B.hb dL_drafts_166 rfl (lv_at hl 5 rfl) ?_
  refine lv_iload B.hx B.hb dL_drafts_167 (lv_at hl 7 rfl) ?_
  refine lv_bipush (v := (nI 20)) B.hx B.hb dL_drafts_169 (by decide) ?_
  refine lv_irem B.hx B.hb dL_drafts_171 (by decide) ?_
  refine q_top (v2 := .int (nI (yy % 20))) (congrArg Value.int (pk_rem (by omega) (by omega) (by omega))) ?_
  refine lv_iconst (v := (nI 0)) B.hx B.hb dL_drafts_172 (by decide) ?_
  refine q_callSX (As := [.ref b, .int (nI 1), .int (nI j), .int (nI (yy % 20)), .int (nI 0)]) (rest := []) B hP hD hS (ca.fl (lw cI o F)) (vx_cwSW 5 B.hts gL_drafts_L_asks rfl rfl rfl (by decide +kernel) ⟨(Nat.le_of_ble_eq_true rfl), (Nat.le_of_ble_eq_true rfl)⟩) rfl hl.1 rfl (Nat.le_of_ble_eq_true rfl) dL_drafts_173 ⟨(Nat.le_of_ble_eq_true rfl), (Nat.le_of_ble_eq_true rfl)⟩ (fun E ce q9 H locs hx => False.elim hx) (fun v u H locs hp hP hD hS => ?_)
  obtain rfl := hp
  have hP : va_P D vwCl (lw cI o F ++ wk) H := hP
  have hD : va_D A (lw cI o F ++ wk) := hD
  refine lv_istore (lv' := [(12, .int (-8)), (11, .int wt), (10, .int (nI 0)), (9, .int (nI (8 * j))), (0, .ref b), (1, .int (nI 1)), (2, .int (nI j)), (3, .int (nI xx)), (4, .int (nI yy)), (5, .ref (o 0)), (6, .ref (o 5)), (7, .ref (o 4)), (8, .ref (o 7))]) B.hx B.hb dL_drafts_176 hl (by decide) rfl (fun ls hl => ?_)
  refine lv_iload B.hx B.hb dL_drafts_178 (lv_at hl 2 rfl) ?_
  refine lv_if_eq (tgt := 198) B.hx B.hb dL_drafts_180 (by decide) (fun _ => ?_) (fun c3 => False.elim (by exact absurd c3 (by decide)))
  refine lv_iload B.hx B.hb dL_drafts_198 (lv_at hl 0 rfl) ?_
  refine lv_bipush (v := (-8)) B.hx B.hb dL_drafts_200 (by decide) ?_
  refine lv_icmp_ne (tgt := 219) B.hx B.hb dL_drafts_202 (by decide) (fun c4 => False.elim (by exact absurd c4 (by decide))) (fun _ => ?_)
  refine lv_aload_n B.hx B.hb dL_drafts_205 rfl (lv_at hl 4 rfl) ?_
  refine lv_iload_n B.hx B.hb dL_drafts_206 rfl (lv_at hl 6 rfl) ?_
  refine q_callV (As := [.int (nI j)]) (rest := []) B hP hD hS (cs.fl (lw cI o F)) (cwV 1 B.hts gL_drafts_X3_step rfl rfl rfl (by decide +kernel) ⟨(Nat.le_of_ble_eq_true rfl), (Nat.le_of_ble_eq_true rfl)⟩) (q0 + 8) 3 hq rfl rfl rfl hl.1 rfl (Nat.le_of_ble_eq_true rfl) dL_drafts_207 ⟨(Nat.le_of_ble_eq_true rfl), (Nat.le_of_ble_eq_true rfl)⟩ (fun E ce q9 H locs hx => False.elim hx) (fun v u H locs hp hP hD hS => ?_)
  obtain rfl := hp
  have hP : va_P D vwCl (lw cI o F ++ wk) H := hP
  have hD : va_D A (lw cI o F ++ wk) := hD
  refine lv_iload B.hx B.hb dL_drafts_210 (lv_at hl 2 rfl) ?_
  refine lv_icmp_ne (tgt := 219) B.hx B.hb dL_drafts_212 (by decide) (fun c5 => False.elim (by exact absurd c5 (by decide))) (fun _ => ?_)
  refine lv_iconst (v := (nI 1)) B.hx B.hb dL_drafts_215 (by decide) ?_
  refine lv_goto (tgt := 220) B.hx B.hb dL_drafts_216 (by decide) ?_
  exact q_zret B hr hP hD hS (by decide) (u := ()) rfl rfl (Nat.le_of_ble_eq_true rfl) (Nat.le_of_ble_eq_true rfl) dL_drafts_220

set_option maxHeartbeats 4000000 in
set_option maxRecDepth 100000 in
theorem ld1n1 (l : Launch) (D : va_G) (cI cZ cP : ClassId) (o : Nat → Nat) (F : Nat → Nat → Int32) (wk wk2 : va_W) {q0 b : Nat} {fs : List Value} (hq : wk[q0]? = some (b, .inr (3, fs))) {q2 : Nat} {fs2 : List Value} (hq2 : wk2[q2]? = some (b, .inr (3, fs2))) (j xx yy : Nat) (wt : Int32) (hj : j < 8) (hx : xx < 2 ^ 30) (hy : yy < 2 ^ 30) (s0 : Nat) (h1 : 1 ≤ s0) (h5 : s0 ≤ 5) (he : F 0 (8 * j + 2) = nI (yy % 20)) (cs : q_C l yX3_step wsX3_step ({ frames := 2, cells := 0, slots := 0, locals := 42 }) D cI cZ cP [.ref b, .int (nI j)] wk (S := Unit) (fun v _ => v = some (.int (nI s0))) (fun _ => wk) (fun _ => False) 0 0) (cwt : q_C l yX3_waitsFor wsX3_waitsFor ({ frames := 3, cells := 0, slots := 0, locals := 62 }) D cI cZ cP [.ref b, .int (nI j)] wk (S := Unit) (fun v _ => v = some (.int wt)) (fun _ => wk) (fun _ => False) 0 0) (ca : q_C l yL_asks wsL_asks ({ frames := 8, cells := 3, slots := 18, locals := 128 }) D cI cZ cP [.ref b, .int (nI 1), .int (nI j), .int (nI (yy % 20)), .int (nI 0)] wk (S := Unit) (fun v _ => v = some (.int (-8))) (fun _ => wk) (fun _ => False) 3 18) : q_C l yL_drafts wsL_drafts ({ frames := 11, cells := 3, slots := 18, locals := 196 }) D cI cZ cP [.ref b, .int (nI 1), .int (nI j), .int (nI xx), .int (nI yy), .ref (o 0), .ref (o 5), .ref (o 4), .ref (o 7)] (lw cI o F ++ wk) (S := Unit) (fun v _ => v = some (.int (nI 1))) (fun _ => (lw cI o F ++ wk)) (fun _ => False) 3 18 := by
  refine q_of (cc := cL_drafts) (maxL := 14) (ret := (some .boolean)) (by decide +kernel) rfl (Nat.le_of_ble_eq_true rfl) ?_
  intro p e s m below meth c A ls B hr htb hmn hP hD hS hl
  have hl : lv_has ls 14 [(0, .ref b), (1, .int (nI 1)), (2, .int (nI j)), (3, .int (nI xx)), (4, .int (nI yy)), (5, .ref (o 0)), (6, .ref (o 5)), (7, .ref (o 4)), (8, .ref (o 7))] := hl
  refine lv_bipush (v := (nI 8)) B.hx B.hb dL_drafts_0 (by decide) ?_
  refine lv_iload_n B.hx B.hb dL_drafts_2 rfl (lv_at hl 2 rfl) ?_
  refine lv_imul B.hx B.hb dL_drafts_3 ?_
  refine q_top (v2 := .int (nI (8 * j))) (congrArg Value.int (pk_mul _ _)) ?_
  refine lv_istore (lv' := [(9, .int (nI (8 * j))), (0, .ref b), (1, .int (nI 1)), (2, .int (nI j)), (3, .int (nI xx)), (4, .int (nI yy)), (5, .ref (o 0)), (6, .ref (o 5)), (7, .ref (o 4)), (8, .ref (o 7))]) B.hx B.hb dL_drafts_4 hl (by decide) rfl (fun ls hl => ?_)
  refine lv_aload_n B.hx B.hb dL_drafts_6 rfl (lv_at hl 1 rfl) ?_
  refine lv_iload_n B.hx B.hb dL_drafts_7 rfl (lv_at hl 3 rfl) ?_
  refine q_callV (As := [.int (nI j)]) (rest := []) B hP hD hS (cs.fl (lw cI o F)) (cwV 1 B.hts gL_drafts_X3_step rfl rfl rfl (by decide +kernel) ⟨(Nat.le_of_ble_eq_true rfl), (Nat.le_of_ble_eq_true rfl)⟩) (q0 + 8) 3 hq rfl rfl rfl hl.1 rfl (Nat.le_of_ble_eq_true rfl) dL_drafts_8 ⟨(Nat.le_of_ble_eq_true rfl), (Nat.le_of_ble_eq_true rfl)⟩ (fun E ce q9 H locs hx => False.elim hx) (fun v u H locs hp hP hD hS => ?_)
  obtain rfl := hp
  have hP : va_P D vwCl (lw cI o F ++ wk) H := hP
  have hD : va_D A (lw cI o F ++ wk) := hD
  refine lv_istore (lv' := [(10, .int (nI s0)), (9, .int (nI (8 * j))), (0, .ref b), (1, .int (nI 1)), (2, .int (nI j)), (3, .int (nI xx)), (4, .int (nI yy)), (5, .ref (o 0)), (6, .ref (o 5)), (7, .ref (o 4)), (8, .ref (o 7))]) B.hx B.hb dL_drafts_11 hl (by decide) rfl (fun ls hl => ?_)
  refine lv_aload_n B.hx B.hb dL_drafts_13 rfl (lv_at hl 2 rfl) ?_
  refine lv_iload_n B.hx B.hb dL_drafts_14 rfl (lv_at hl 4 rfl) ?_
  refine q_callV (As := [.int (nI j)]) (rest := []) B hP hD hS (cwt.fl (lw cI o F)) (cwV 1 B.hts gL_drafts_X3_waitsFor rfl rfl rfl (by decide +kernel) ⟨(Nat.le_of_ble_eq_true rfl), (Nat.le_of_ble_eq_true rfl)⟩) (q0 + 8) 3 hq rfl rfl rfl hl.1 rfl (Nat.le_of_ble_eq_true rfl) dL_drafts_15 ⟨(Nat.le_of_ble_eq_true rfl), (Nat.le_of_ble_eq_true rfl)⟩ (fun E ce q9 H locs hx => False.elim hx) (fun v u H locs hp hP hD hS => ?_)
  obtain rfl := hp
  have hP : va_P D vwCl (lw cI o F ++ wk) H := hP
  have hD : va_D A (lw cI o F ++ wk) := hD
  refine lv_istore (lv' := [(11, .int wt), (10, .int (nI s0)), (9, .int (nI (8 * j))), (0, .ref b), (1, .int (nI 1)), (2, .int (nI j)), (3, .int (nI xx)), (4, .int (nI yy)), (5, .ref (o 0)), (6, .ref (o 5)), (7, .ref (o 4)), (8, .ref (o 7))]) B.hx B.hb dL_drafts_18 hl (by decide) rfl (fun ls hl => ?_)
  refine lv_iload_n B.hx B.hb dL_drafts_20 rfl (lv_at hl 4 rfl) ?_
  refine lv_if_ne (tgt := 159) B.hx B.hb dL_drafts_21 (by decide) (fun _ => ?_) (fun c1 => False.elim (by exact absurd c1 (by decide)))
  refine lv_iload_n B.hx B.hb dL_drafts_159 rfl (lv_at hl 4 rfl) ?_
  refine lv_iconst (v := (nI 1)) B.hx B.hb dL_drafts_160 (by decide) ?_
  refine lv_icmp_ne (tgt := 279) B.hx B.hb dL_drafts_161 (by decide) (fun c2 => False.elim (by exact absurd c2 (by decide))) (fun _ => ?_)
  refine lv_aload_n B.hx B.hb dL_drafts_164 rfl (lv_at hl 3 rfl) ?_
  refine lv_iconst (v := (nI 1)) B.hx B.hb dL_drafts_165 (by decide) ?_
  refine lv_iload_n B.hx B.hb dL_drafts_166 rfl (lv_at hl 5 rfl) ?_
  refine lv_iload B.hx B.hb dL_drafts_167 (lv_at hl 7 rfl) ?_
  refine lv_bipush (v := (nI 20)) B.hx B.hb dL_drafts_169 (by decide) ?_
  refine lv_irem B.hx B.hb dL_drafts_171 (by decide) ?_
  refine q_top (v2 := .int (nI (yy % 20))) (congrArg Value.int (pk_rem (by omega) (by omega) (by omega))) ?_
  refine lv_iconst (v := (nI 0)) B.hx B.hb dL_drafts_172 (by decide) ?_
  refine q_callSX (As := [.ref b, .int (nI 1), .int (nI j), .int (nI (yy % 20)), .int (nI 0)]) (rest := []) B hP hD hS (ca.fl (lw cI o F)) (vx_cwSW 5 B.hts gL_drafts_L_asks rfl rfl rfl (by decide +kernel) ⟨(Nat.le_of_ble_eq_true rfl), (Nat.le_of_ble_eq_true rfl)⟩) rfl hl.1 rfl (Nat.le_of_ble_eq_true rfl) dL_drafts_173 ⟨(Nat.le_of_ble_eq_true rfl), (Nat.le_of_ble_eq_true rfl)⟩ (fun E ce q9 H locs hx => False.elim hx) (fun v u H locs hp hP hD hS => ?_)
  obtain rfl := hp
  have hP : va_P D vwCl (lw cI o F ++ wk) H := hP
  have hD : va_D A (lw cI o F ++ wk) := hD
  refine lv_istore (lv' := [(12, .int (-8)), (11, .int wt), (10, .int (nI s0)), (9, .int (nI (8 * j))), (0, .ref b), (1, .int (nI 1)), (2, .int (nI j)), (3, .int (nI xx)), (4, .int (nI yy)), (5, .ref (o 0)), (6, .ref (o 5)), (7, .ref (o 4)), (8, .ref (o 7))]) B.hx B.hb dL_drafts_176 hl (by decide) rfl (fun ls hl => ?_)
  refine lv_iload B.hx B.hb dL_drafts_178 (lv_at hl 2 rfl) ?_
  refine lv_if_eq (tgt := 198) B.hx B.hb dL_drafts_180 (by decide) (fun c3 => False.elim (by replace c3 := (nI_eq0 (by omega)).mp c3; omega)) (fun _ => ?_)
  refine lv_aload B.hx B.hb dL_drafts_183 (lv_at hl 9 rfl) ?_
  refine lv_iload B.hx B.hb dL_drafts_185 (lv_at hl 3 rfl) ?_
  refine lv_iconst (v := (nI 2)) B.hx B.hb dL_drafts_187 (by decide) ?_
  refine lv_iadd B.hx B.hb dL_drafts_188 ?_
  refine q_top (v2 := .int (nI (8 * j + 2))) (congrArg Value.int (nI_add _ _)) ?_
  refine q_iald (f := (F 0)) B hP 0 rfl (j := 8 * j + 2) rfl (by omega) (by decide) dL_drafts_189 ?_
  refine lv_iload B.hx B.hb dL_drafts_190 (lv_at hl 8 rfl) ?_
  refine lv_bipush (v := (nI 20)) B.hx B.hb dL_drafts_192 (by decide) ?_
  refine lv_irem B.hx B.hb dL_drafts_194 (by decide) ?_
  refine q_top (v2 := .int (nI (yy % 20))) (congrArg Value.int (pk_rem (by omega) (by omega) (by omega))) ?_
  refine lv_icmp_ne (tgt := 221) B.hx B.hb dL_drafts_195 (by decide) (fun c4 => False.elim (by exact c4 he)) (fun _ => ?_)
  refine lv_iload B.hx B.hb dL_drafts_198 (lv_at hl 0 rfl) ?_
  refine lv_bipush (v := (-8)) B.hx B.hb dL_drafts_200 (by decide) ?_
  refine lv_icmp_ne (tgt := 219) B.hx B.hb dL_drafts_202 (by decide) (fun c5 => False.elim (by exact absurd c5 (by decide))) (fun _ => ?_)
  refine lv_aload_n B.hx B.hb dL_drafts_205 rfl (lv_at hl 4 rfl) ?_
  refine lv_iload_n B.hx B.hb dL_drafts_206 rfl (lv_at hl 6 rfl) ?_
  refine q_callV (As := [.int (nI j)]) (rest := []) B hP hD hS (cs.fl (lw cI o F)) (cwV 1 B.hts gL_drafts_X3_step rfl rfl rfl (by decide +kernel) ⟨(Nat.le_of_ble_eq_true rfl), (Nat.le_of_ble_eq_true rfl)⟩) (q0 + 8) 3 hq rfl rfl rfl hl.1 rfl (Nat.le_of_ble_eq_true rfl) dL_drafts_207 ⟨(Nat.le_of_ble_eq_true rfl), (Nat.le_of_ble_eq_true rfl)⟩ (fun E ce q9 H locs hx => False.elim hx) (fun v u H locs hp hP hD hS => ?_)
  obtain rfl := hp
  have hP : va_P D vwCl (lw cI o F ++ wk) H := hP
  have hD : va_D A (lw cI o F ++ wk) := hD
  refine lv_iload B.hx B.hb dL_drafts_210 (lv_at hl 2 rfl) ?_
  refine lv_icmp_ne (tgt := 219) B.hx B.hb dL_drafts_212 (by decide) (fun c6 => False.elim (by replace c6 := mt (nI_eq (by omega) (by omega)).mpr c6; omega)) (fun _ => ?_)
  refine lv_iconst (v := (nI 1)) B.hx B.hb dL_drafts_215 (by decide) ?_
  refine lv_goto (tgt := 220) B.hx B.hb dL_drafts_216 (by decide) ?_
  exact q_zret B hr hP hD hS (by decide) (u := ()) rfl rfl (Nat.le_of_ble_eq_true rfl) (Nat.le_of_ble_eq_true rfl) dL_drafts_220

set_option maxHeartbeats 4000000 in
set_option maxRecDepth 100000 in
theorem ld2y (l : Launch) (D : va_G) (cI cZ cP : ClassId) (o : Nat → Nat) (F : Nat → Nat → Int32) (wk wk2 : va_W) {q0 b : Nat} {fs : List Value} (hq : wk[q0]? = some (b, .inr (3, fs))) {q2 : Nat} {fs2 : List Value} (hq2 : wk2[q2]? = some (b, .inr (3, fs2))) (j xx yy : Nat) (wt : Int32) (hj : j < 8) (hx : xx < 2 ^ 30) (hy : yy < 2 ^ 30) (s0 : Nat) (h1 : 1 ≤ s0) (h5 : s0 ≤ 5) (cs : q_C l yX3_step wsX3_step ({ frames := 2, cells := 0, slots := 0, locals := 42 }) D cI cZ cP [.ref b, .int (nI j)] wk (S := Unit) (fun v _ => v = some (.int (nI s0))) (fun _ => wk) (fun _ => False) 0 0) (cwt : q_C l yX3_waitsFor wsX3_waitsFor ({ frames := 3, cells := 0, slots := 0, locals := 62 }) D cI cZ cP [.ref b, .int (nI j)] wk (S := Unit) (fun v _ => v = some (.int wt)) (fun _ => wk) (fun _ => False) 0 0) (ca : q_C l yL_asks wsL_asks ({ frames := 8, cells := 1, slots := 6, locals := 125 }) D cI cZ cP [.ref b, .int (nI 2), .int (nI j), .int (nI 0), .int (nI 0)] wk (S := Unit) (fun v _ => v = some (.int (F 0 (8 * j + 2)))) (fun _ => wk2) (fun _ => False) 1 6) (cs2 : q_C l yX3_step wsX3_step ({ frames := 2, cells := 0, slots := 0, locals := 42 }) D cI cZ cP [.ref b, .int (nI j)] wk2 (S := Unit) (fun v _ => v = some (.int (nI 0))) (fun _ => wk2) (fun _ => False) 0 0) : q_C l yL_drafts wsL_drafts ({ frames := 11, cells := 3, slots := 18, locals := 196 }) D cI cZ cP [.ref b, .int (nI 2), .int (nI j), .int (nI xx), .int (nI yy), .ref (o 0), .ref (o 5), .ref (o 4), .ref (o 7)] (lw cI o F ++ wk) (S := Unit) (fun v _ => v = some (.int (nI 1))) (fun _ => (lw cI o (va_up F 0 (upd (F 0) (8 * j) (nI 0))) ++ wk2)) (fun _ => False) 3 18 := by
  refine q_of (cc := cL_drafts) (maxL := 14) (ret := (some .boolean)) (by decide +kernel) rfl (Nat.le_of_ble_eq_true rfl) ?_
  intro p e s m below meth c A ls B hr htb hmn hP hD hS hl
  have hl : lv_has ls 14 [(0, .ref b), (1, .int (nI 2)), (2, .int (nI j)), (3, .int (nI xx)), (4, .int (nI yy)), (5, .ref (o 0)), (6, .ref (o 5)), (7, .ref (o 4)), (8, .ref (o 7))] := hl
  refine lv_bipush (v := (nI 8)) B.hx B.hb dL_drafts_0 (by decide) ?_
  refine lv_iload_n B.hx B.hb dL_drafts_2 rfl (lv_at hl 2 rfl) ?_
  refine lv_imul B.hx B.hb dL_drafts_3 ?_
  refine q_top (v2 := .int (nI (8 * j))) (congrArg Value.int (pk_mul _ _)) ?_
  refine lv_istore (lv' := [(9, .int (nI (8 * j))), (0, .ref b), (1, .int (nI 2)), (2, .int (nI j)), (3, .int (nI xx)), (4, .int (nI yy)), (5, .ref (o 0)), (6, .ref (o 5)), (7, .ref (o 4)), (8, .ref (o 7))]) B.hx B.hb dL_drafts_4 hl (by decide) rfl (fun ls hl => ?_)
  refine lv_aload_n B.hx B.hb dL_drafts_6 rfl (lv_at hl 1 rfl) ?_
  refine lv_iload_n B.hx B.hb dL_drafts_7 rfl (lv_at hl 3 rfl) ?_
  refine q_callV (As := [.int (nI j)]) (rest := []) B hP hD hS (cs.fl (lw cI o F)) (cwV 1 B.hts gL_drafts_X3_step rfl rfl rfl (by decide +kernel) ⟨(Nat.le_of_ble_eq_true rfl), (Nat.le_of_ble_eq_true rfl)⟩) (q0 + 8) 3 hq rfl rfl rfl hl.1 rfl (Nat.le_of_ble_eq_true rfl) dL_drafts_8 ⟨(Nat.le_of_ble_eq_true rfl), (Nat.le_of_ble_eq_true rfl)⟩ (fun E ce q9 H locs hx => False.elim hx) (fun v u H locs hp hP hD hS => ?_)
  obtain rfl := hp
  have hP : va_P D vwCl (lw cI o F ++ wk) H := hP
  have hD : va_D A (lw cI o F ++ wk) := hD
  refine lv_istore (lv' := [(10, .int (nI s0)), (9, .int (nI (8 * j))), (0, .ref b), (1, .int (nI 2)), (2, .int (nI j)), (3, .int (nI xx)), (4, .int (nI yy)), (5, .ref (o 0)), (6, .ref (o 5)), (7, .ref (o 4)), (8, .ref (o 7))]) B.hx B.hb dL_drafts_11 hl (by decide) rfl (fun ls hl => ?_)
  refine lv_aload_n B.hx B.hb dL_drafts_13 rfl (lv_at hl 2 rfl) ?_
  refine lv_iload_n B.hx B.hb dL_drafts_14 rfl (lv_at hl 4 rfl) ?_
  refine q_callV (As := [.int (nI j)]) (rest := []) B hP hD hS (cwt.fl (lw cI o F)) (cwV 1 B.hts gL_drafts_X3_waitsFor rfl rfl rfl (by decide +kernel) ⟨(Nat.le_of_ble_eq_true rfl), (Nat.le_of_ble_eq_true rfl)⟩) (q0 + 8) 3 hq rfl rfl rfl hl.1 rfl (Nat.le_of_ble_eq_true rfl) dL_drafts_15 ⟨(Nat.le_of_ble_eq_true rfl), (Nat.le_of_ble_eq_true rfl)⟩ (fun E ce q9 H locs hx => False.elim hx) (fun v u H locs hp hP hD hS => ?_)
  obtain rfl := hp
  have hP : va_P D vwCl (lw cI o F ++ wk) H := hP
  have hD : va_D A (lw cI o F ++ wk) := hD
  refine lv_istore (lv' := [(11, .int wt), (10, .int (nI s0)), (9, .int (nI (8 * j))), (0, .ref b), (1, .int (nI 2)), (2, .int (nI j)), (3, .int (nI xx)), (4, .int (nI yy)), (5, .ref (o 0)), (6, .ref (o 5)), (7, .ref (o 4)), (8, .ref (o 7))]) B.hx B.hb dL_drafts_18 hl (by decide) rfl (fun ls hl => ?_)
  refine lv_iload_n B.hx B.hb dL_drafts_20 rfl (lv_at hl 4 rfl) ?_
  refine lv_if_ne (tgt := 159) B.hx B.hb dL_drafts_21 (by decide) (fun _ => ?_) (fun c1 => False.elim (by exact absurd c1 (by decide)))
  refine lv_iload_n B.hx B.hb dL_drafts_159 rfl (lv_at hl 4 rfl) ?_
  refine lv_iconst (v := (nI 1)) B.hx B.hb dL_drafts_160 (by decide) ?_
  refine lv_icmp_ne (tgt := 279) B.hx B.hb dL_drafts_161 (by decide) (fun _ => ?_) (fun c2 => False.elim (by exact absurd c2 (by decide)))
  refine lv_iload_n B.hx B.hb dL_drafts_279 rfl (lv_at hl 4 rfl) ?_
  refine lv_iconst (v := (nI 2)) B.hx B.hb dL_drafts_280 (by decide) ?_
  refine lv_icmp_ne (tgt := 336) B.hx B.hb dL_drafts_281 (by decide) (fun c3 => False.elim (by exact absurd c3 (by decide))) (fun _ => ?_)
  refine lv_aload_n B.hx B.hb dL_drafts_284 rfl (lv_at hl 3 rfl) ?_
  refine lv_iconst (v := (nI 2)) B.hx B.hb dL_drafts_285 (by decide) ?_
  refine lv_iload_n B.hx B.hb dL_drafts_286 rfl (lv_at hl 5 rfl) ?_
  refine lv_iconst (v := (nI 0)) B.hx B.hb dL_drafts_287 (by decide) ?_
  refine lv_iconst (v := (nI 0)) B.hx B.hb dL_drafts_288 (by decide) ?_
  refine q_callSX (As := [.ref b, .int (nI 2), .int (nI j), .int (nI 0), .int (nI 0)]) (rest := []) B hP hD hS (ca.fl (lw cI o F)) (vx_cwSW 5 B.hts gL_drafts_L_asks rfl rfl rfl (by decide +kernel) ⟨(Nat.le_of_ble_eq_true rfl), (Nat.le_of_ble_eq_true rfl)⟩) rfl hl.1 rfl (Nat.le_of_ble_eq_true rfl) dL_drafts_289 ⟨(Nat.le_of_ble_eq_true rfl), (Nat.le_of_ble_eq_true rfl)⟩ (fun E ce q9 H locs hx => False.elim hx) (fun v u H locs hp hP hD hS => ?_)
  obtain rfl := hp
  have hP : va_P D vwCl (lw cI o F ++ wk2) H := hP
  have hD : va_D A (lw cI o F ++ wk2) := hD
  refine lv_istore (lv' := [(12, .int (F 0 (8 * j + 2))), (11, .int wt), (10, .int (nI s0)), (9, .int (nI (8 * j))), (0, .ref b), (1, .int (nI 2)), (2, .int (nI j)), (3, .int (nI xx)), (4, .int (nI yy)), (5, .ref (o 0)), (6, .ref (o 5)), (7, .ref (o 4)), (8, .ref (o 7))]) B.hx B.hb dL_drafts_292 hl (by decide) rfl (fun ls hl => ?_)
  refine lv_aload B.hx B.hb dL_drafts_294 (lv_at hl 9 rfl) ?_
  refine lv_iload B.hx B.hb dL_drafts_296 (lv_at hl 3 rfl) ?_
  refine lv_iconst (v := (nI 0)) B.hx B.hb dL_drafts_298 (by decide) ?_
  refine q_iast (f := (F 0)) B hP hD hS 0 rfl (j := 8 * j) rfl (by omega) (by decide) dL_drafts_299 (w' := (lw cI o (va_up F 0 (upd (F 0) (8 * j) (nI 0))) ++ wk2)) rfl (fun H locs hP hD hS => ?_)
  refine lv_iload B.hx B.hb dL_drafts_300 (lv_at hl 0 rfl) ?_
  refine lv_iload B.hx B.hb dL_drafts_302 (lv_at hl 2 rfl) ?_
  refine lv_if_ne (tgt := 312) B.hx B.hb dL_drafts_304 (by decide) (fun _ => ?_) (fun c4 => False.elim (by replace c4 := (nI_eq0 (by omega)).mp c4; omega))
  refine lv_aload B.hx B.hb dL_drafts_312 (lv_at hl 9 rfl) ?_
  refine lv_iload B.hx B.hb dL_drafts_314 (lv_at hl 3 rfl) ?_
  refine lv_iconst (v := (nI 2)) B.hx B.hb dL_drafts_316 (by decide) ?_
  refine lv_iadd B.hx B.hb dL_drafts_317 ?_
  refine q_top (v2 := .int (nI (8 * j + 2))) (congrArg Value.int (nI_add _ _)) ?_
  refine q_iald (f := (upd (F 0) (8 * j) (nI 0))) B hP 0 rfl (j := 8 * j + 2) rfl (by omega) (by decide) dL_drafts_318 ?_
  refine q_top (v2 := .int ((F 0) (8 * j + 2))) (congrArg Value.int (pk_un (by omega))) ?_
  refine lv_icmp_ne (tgt := 334) B.hx B.hb dL_drafts_319 (by decide) (fun c5 => False.elim (by exact c5 rfl)) (fun _ => ?_)
  refine lv_aload_n B.hx B.hb dL_drafts_322 rfl (lv_at hl 4 rfl) ?_
  refine lv_iload_n B.hx B.hb dL_drafts_323 rfl (lv_at hl 6 rfl) ?_
  refine q_callV (As := [.int (nI j)]) (rest := []) B hP hD hS (cs2.fl (lw cI o (va_up F 0 (upd (F 0) (8 * j) (nI 0))))) (cwV 1 B.hts gL_drafts_X3_step rfl rfl rfl (by decide +kernel) ⟨(Nat.le_of_ble_eq_true rfl), (Nat.le_of_ble_eq_true rfl)⟩) (q2 + 8) 3 hq2 rfl rfl rfl hl.1 rfl (Nat.le_of_ble_eq_true rfl) dL_drafts_324 ⟨(Nat.le_of_ble_eq_true rfl), (Nat.le_of_ble_eq_true rfl)⟩ (fun E ce q9 H locs hx => False.elim hx) (fun v u H locs hp hP hD hS => ?_)
  obtain rfl := hp
  have hP : va_P D vwCl (lw cI o (va_up F 0 (upd (F 0) (8 * j) (nI 0))) ++ wk2) H := hP
  have hD : va_D A (lw cI o (va_up F 0 (upd (F 0) (8 * j) (nI 0))) ++ wk2) := hD
  refine lv_if_ne (tgt := 334) B.hx B.hb dL_drafts_327 (by decide) (fun c6 => False.elim (by exact absurd c6 (by decide))) (fun _ => ?_)
  refine lv_iconst (v := (nI 1)) B.hx B.hb dL_drafts_330 (by decide) ?_
  refine lv_goto (tgt := 335) B.hx B.hb dL_drafts_331 (by decide) ?_
  exact q_zret B hr hP hD hS (by decide) (u := ()) rfl rfl (Nat.le_of_ble_eq_true rfl) (Nat.le_of_ble_eq_true rfl) dL_drafts_335

set_option maxHeartbeats 4000000 in
set_option maxRecDepth 100000 in
theorem ld2n (l : Launch) (D : va_G) (cI cZ cP : ClassId) (o : Nat → Nat) (F : Nat → Nat → Int32) (wk wk2 : va_W) {q0 b : Nat} {fs : List Value} (hq : wk[q0]? = some (b, .inr (3, fs))) {q2 : Nat} {fs2 : List Value} (hq2 : wk2[q2]? = some (b, .inr (3, fs2))) (j xx yy : Nat) (wt : Int32) (hj : j < 8) (hx : xx < 2 ^ 30) (hy : yy < 2 ^ 30)  (cs : q_C l yX3_step wsX3_step ({ frames := 2, cells := 0, slots := 0, locals := 42 }) D cI cZ cP [.ref b, .int (nI j)] wk (S := Unit) (fun v _ => v = some (.int (nI 0))) (fun _ => wk) (fun _ => False) 0 0) (cwt : q_C l yX3_waitsFor wsX3_waitsFor ({ frames := 3, cells := 0, slots := 0, locals := 62 }) D cI cZ cP [.ref b, .int (nI j)] wk (S := Unit) (fun v _ => v = some (.int wt)) (fun _ => wk) (fun _ => False) 0 0) (ca : q_C l yL_asks wsL_asks ({ frames := 8, cells := 1, slots := 6, locals := 125 }) D cI cZ cP [.ref b, .int (nI 2), .int (nI j), .int (nI 0), .int (nI 0)] wk (S := Unit) (fun v _ => v = some (.int (-8))) (fun _ => wk) (fun _ => False) 1 6) : q_C l yL_drafts wsL_drafts ({ frames := 11, cells := 3, slots := 18, locals := 196 }) D cI cZ cP [.ref b, .int (nI 2), .int (nI j), .int (nI xx), .int (nI yy), .ref (o 0), .ref (o 5), .ref (o 4), .ref (o 7)] (lw cI o F ++ wk) (S := Unit) (fun v _ => v = some (.int (nI 1))) (fun _ => (lw cI o (va_up F 0 (upd (F 0) (8 * j) (nI 0))) ++ wk)) (fun _ => False) 3 18 := by
  refine q_of (cc := cL_drafts) (maxL := 14) (ret := (some .boolean)) (by decide +kernel) rfl (Nat.le_of_ble_eq_true rfl) ?_
  intro p e s m below meth c A ls B hr htb hmn hP hD hS hl
  have hl : lv_has ls 14 [(0, .ref b), (1, .int (nI 2)), (2, .int (nI j)), (3, .int (nI xx)), (4, .int (nI yy)), (5, .ref (o 0)), (6, .ref (o 5)), (7, .ref (o 4)), (8, .ref (o 7))] := hl
  refine lv_bipush (v := (nI 8)) B.hx B.hb dL_drafts_0 (by decide) ?_
  refine lv_iload_n B.hx B.hb dL_drafts_2 rfl (lv_at hl 2 rfl) ?_
  refine lv_imul B.hx B.hb dL_drafts_3 ?_
  refine q_top (v2 := .int (nI (8 * j))) (congrArg Value.int (pk_mul _ _)) ?_
  refine lv_istore (lv' := [(9, .int (nI (8 * j))), (0, .ref b), (1, .int (nI 2)), (2, .int (nI j)), (3, .int (nI xx)), (4, .int (nI yy)), (5, .ref (o 0)), (6, .ref (o 5)), (7, .ref (o 4)), (8, .ref (o 7))]) B.hx B.hb dL_drafts_4 hl (by decide) rfl (fun ls hl => ?_)
  refine lv_aload_n B.hx B.hb dL_drafts_6 rfl (lv_at hl 1 rfl) ?_
  refine lv_iload_n B.hx B.hb dL_drafts_7 rfl (lv_at hl 3 rfl) ?_
  refine q_callV (As := [.int (nI j)]) (rest := []) B hP hD hS (cs.fl (lw cI o F)) (cwV 1 B.hts gL_drafts_X3_step rfl rfl rfl (by decide +kernel) ⟨(Nat.le_of_ble_eq_true rfl), (Nat.le_of_ble_eq_true rfl)⟩) (q0 + 8) 3 hq rfl rfl rfl hl.1 rfl (Nat.le_of_ble_eq_true rfl) dL_drafts_8 ⟨(Nat.le_of_ble_eq_true rfl), (Nat.le_of_ble_eq_true rfl)⟩ (fun E ce q9 H locs hx => False.elim hx) (fun v u H locs hp hP hD hS => ?_)
  obtain rfl := hp
  have hP : va_P D vwCl (lw cI o F ++ wk) H := hP
  have hD : va_D A (lw cI o F ++ wk) := hD
  refine lv_istore (lv' := [(10, .int (nI 0)), (9, .int (nI (8 * j))), (0, .ref b), (1, .int (nI 2)), (2, .int (nI j)), (3, .int (nI xx)), (4, .int (nI yy)), (5, .ref (o 0)), (6, .ref (o 5)), (7, .ref (o 4)), (8, .ref (o 7))]) B.hx B.hb dL_drafts_11 hl (by decide) rfl (fun ls hl => ?_)
  refine lv_aload_n B.hx B.hb dL_drafts_13 rfl (lv_at hl 2 rfl) ?_
  refine lv_iload_n B.hx B.hb dL_drafts_14 rfl (lv_at hl 4 rfl) ?_
  refine q_callV (As := [.int (nI j)]) (rest := []) B hP hD hS (cwt.fl (lw cI o F)) (cwV 1 B.hts gL_drafts_X3_waitsFor rfl rfl rfl (by decide +kernel) ⟨(Nat.le_of_ble_eq_true rfl), (Nat.le_of_ble_eq_true rfl)⟩) (q0 + 8) 3 hq rfl rfl rfl hl.1 rfl (Nat.le_of_ble_eq_true rfl) dL_drafts_15 ⟨(Nat.le_of_ble_eq_true rfl), (Nat.le_of_ble_eq_true rfl)⟩ (fun E ce q9 H locs hx => False.elim hx) (fun v u H locs hp hP hD hS => ?_)
  obtain rfl := hp
  have hP : va_P D vwCl (lw cI o F ++ wk) H := hP
  have hD : va_D A (lw cI o F ++ wk) := hD
  refine lv_istore (lv' := [(11, .int wt), (10, .int (nI 0)), (9, .int (nI (8 * j))), (0, .ref b), (1, .int (nI 2)), (2, .int (nI j)), (3, .int (nI xx)), (4, .int (nI yy)), (5, .ref (o 0)), (6, .ref (o 5)), (7, .ref (o 4)), (8, .ref (o 7))]) B.hx B.hb dL_drafts_18 hl (by decide) rfl (fun ls hl => ?_)
  refine lv_iload_n B.hx B.hb dL_drafts_20 rfl (lv_at hl 4 rfl) ?_
  refine lv_if_ne (tgt := 159) B.hx B.hb dL_drafts_21 (by decide) (fun _ => ?_) (fun c1 => False.elim (by exact absurd c1 (by decide)))
  refine lv_iload_n B.hx B.hb dL_drafts_159 rfl (lv_at hl 4 rfl) ?_
  refine lv_iconst (v := (nI 1)) B.hx B.hb dL_drafts_160 (by decide) ?_
  refine lv_icmp_ne (tgt := 279) B.hx B.hb dL_drafts_161 (by decide) (fun _ => ?_) (fun c2 => False.elim (by exact absurd c2 (by decide)))
  refine lv_iload_n B.hx B.hb dL_drafts_279 rfl (lv_at hl 4 rfl) ?_
  refine lv_iconst (v := (nI 2)) B.hx B.hb dL_drafts_280 (by decide) ?_
  refine lv_icmp_ne (tgt := 336) B.hx B.hb dL_drafts_281 (by decide) (fun c3 => False.elim (by exact absurd c3 (by decide))) (fun _ => ?_)
  refine lv_aload_n B.hx B.hb dL_drafts_284 rfl (lv_at hl 3 rfl) ?_
  refine lv_iconst (v := (nI 2)) B.hx B.hb dL_drafts_285 (by decide) ?_
  refine lv_iload_n B.hx B.hb dL_drafts_286 rfl (lv_at hl 5 rfl) ?_
  refine lv_iconst (v := (nI 0)) B.hx B.hb dL_drafts_287 (by decide) ?_
  refine lv_iconst (v := (nI 0)) B.hx B.hb dL_drafts_288 (by decide) ?_
  refine q_callSX (As := [.ref b, .int (nI 2), .int (nI j), .int (nI 0), .int (nI 0)]) (rest := []) B hP hD hS (ca.fl (lw cI o F)) (vx_cwSW 5 B.hts gL_drafts_L_asks rfl rfl rfl (by decide +kernel) ⟨(Nat.le_of_ble_eq_true rfl), (Nat.le_of_ble_eq_true rfl)⟩) rfl hl.1 rfl (Nat.le_of_ble_eq_true rfl) dL_drafts_289 ⟨(Nat.le_of_ble_eq_true rfl), (Nat.le_of_ble_eq_true rfl)⟩ (fun E ce q9 H locs hx => False.elim hx) (fun v u H locs hp hP hD hS => ?_)
  obtain rfl := hp
  have hP : va_P D vwCl (lw cI o F ++ wk) H := hP
  have hD : va_D A (lw cI o F ++ wk) := hD
  refine lv_istore (lv' := [(12, .int (-8)), (11, .int wt), (10, .int (nI 0)), (9, .int (nI (8 * j))), (0, .ref b), (1, .int (nI 2)), (2, .int (nI j)), (3, .int (nI xx)), (4, .int (nI yy)), (5, .ref (o 0)), (6, .ref (o 5)), (7, .ref (o 4)), (8, .ref (o 7))]) B.hx B.hb dL_drafts_292 hl (by decide) rfl (fun ls hl => ?_)
  refine lv_aload B.hx B.hb dL_drafts_294 (lv_at hl 9 rfl) ?_
  refine lv_iload B.hx B.hb dL_drafts_296 (lv_at hl 3 rfl) ?_
  refine lv_iconst (v := (nI 0)) B.hx B.hb dL_drafts_298 (by decide) ?_
  refine q_iast (f := (F 0)) B hP hD hS 0 rfl (j := 8 * j) rfl (by omega) (by decide) dL_drafts_299 (w' := (lw cI o (va_up F 0 (upd (F 0) (8 * j) (nI 0))) ++ wk)) rfl (fun H locs hP hD hS => ?_)
  refine lv_iload B.hx B.hb dL_drafts_300 (lv_at hl 0 rfl) ?_
  refine lv_iload B.hx B.hb dL_drafts_302 (lv_at hl 2 rfl) ?_
  refine lv_if_ne (tgt := 312) B.hx B.hb dL_drafts_304 (by decide) (fun c4 => False.elim (by exact absurd c4 (by decide))) (fun _ => ?_)
  refine lv_bipush (v := (-8)) B.hx B.hb dL_drafts_307 (by decide) ?_
  refine lv_goto (tgt := 319) B.hx B.hb dL_drafts_309 (by decide) ?_
  refine lv_icmp_ne (tgt := 334) B.hx B.hb dL_drafts_319 (by decide) (fun c5 => False.elim (by exact absurd c5 (by decide))) (fun _ => ?_)
  refine lv_aload_n B.hx B.hb dL_drafts_322 rfl (lv_at hl 4 rfl) ?_
  refine lv_iload_n B.hx B.hb dL_drafts_323 rfl (lv_at hl 6 rfl) ?_
  refine q_callV (As := [.int (nI j)]) (rest := []) B hP hD hS (cs.fl (lw cI o (va_up F 0 (upd (F 0) (8 * j) (nI 0))))) (cwV 1 B.hts gL_drafts_X3_step rfl rfl rfl (by decide +kernel) ⟨(Nat.le_of_ble_eq_true rfl), (Nat.le_of_ble_eq_true rfl)⟩) (q0 + 8) 3 hq rfl rfl rfl hl.1 rfl (Nat.le_of_ble_eq_true rfl) dL_drafts_324 ⟨(Nat.le_of_ble_eq_true rfl), (Nat.le_of_ble_eq_true rfl)⟩ (fun E ce q9 H locs hx => False.elim hx) (fun v u H locs hp hP hD hS => ?_)
  obtain rfl := hp
  have hP : va_P D vwCl (lw cI o (va_up F 0 (upd (F 0) (8 * j) (nI 0))) ++ wk) H := hP
  have hD : va_D A (lw cI o (va_up F 0 (upd (F 0) (8 * j) (nI 0))) ++ wk) := hD
  refine lv_if_ne (tgt := 334) B.hx B.hb dL_drafts_327 (by decide) (fun c6 => False.elim (by exact absurd c6 (by decide))) (fun _ => ?_)
  refine lv_iconst (v := (nI 1)) B.hx B.hb dL_drafts_330 (by decide) ?_
  refine lv_goto (tgt := 335) B.hx B.hb dL_drafts_331 (by decide) ?_
  exact q_zret B hr hP hD hS (by decide) (u := ()) rfl rfl (Nat.le_of_ble_eq_true rfl) (Nat.le_of_ble_eq_true rfl) dL_drafts_335

set_option maxHeartbeats 4000000 in
set_option maxRecDepth 100000 in
theorem ld3y (l : Launch) (D : va_G) (cI cZ cP : ClassId) (o : Nat → Nat) (F : Nat → Nat → Int32) (wk wk2 : va_W) {q0 b : Nat} {fs : List Value} (hq : wk[q0]? = some (b, .inr (3, fs))) {q2 : Nat} {fs2 : List Value} (hq2 : wk2[q2]? = some (b, .inr (3, fs2))) (j xx yy : Nat) (wt : Int32) (hj : j < 8) (hx : xx < 2 ^ 30) (hy : yy < 2 ^ 30) (s0 : Nat) (h1 : 1 ≤ s0) (h5 : s0 ≤ 5) (m0 r0 : Nat) (hm0 : m0 < 64) (hr0 : r0 < 64) (f50 : F 5 0 = nI r0) (f70 : F 7 (2 * j) = nI m0) (h4 : F 0 (8 * j + 4) = 0) (hau : ¬ nI (xx % 6) = F 0 (8 * j + 1)) (hrb : r0.testBit (xx % 6) = true) (hm : m0.testBit (xx % 6) = false) (hp4 : pc8 m0 < 4) (cs : q_C l yX3_step wsX3_step ({ frames := 2, cells := 0, slots := 0, locals := 42 }) D cI cZ cP [.ref b, .int (nI j)] wk (S := Unit) (fun v _ => v = some (.int (nI s0))) (fun _ => wk) (fun _ => False) 0 0) (cwt : q_C l yX3_waitsFor wsX3_waitsFor ({ frames := 3, cells := 0, slots := 0, locals := 62 }) D cI cZ cP [.ref b, .int (nI j)] wk (S := Unit) (fun v _ => v = some (.int wt)) (fun _ => wk) (fun _ => False) 0 0) (ca : q_C l yL_asks wsL_asks ({ frames := 9, cells := 3, slots := 18, locals := 148 }) D cI cZ cP [.ref b, .int (nI 3), .int (nI j), .int (nI (xx % 6)), .int (nI 0)] wk (S := Unit) (fun v _ => v = some (.int (nI (pc8 (bs m0 (xx % 6)))))) (fun _ => wk2) (fun _ => False) 3 18) (cs2 : q_C l yX3_step wsX3_step ({ frames := 2, cells := 0, slots := 0, locals := 42 }) D cI cZ cP [.ref b, .int (nI j)] wk2 (S := Unit) (fun v _ => v = some (.int (nI 1))) (fun _ => wk2) (fun _ => False) 0 0) : q_C l yL_drafts wsL_drafts ({ frames := 11, cells := 3, slots := 18, locals := 196 }) D cI cZ cP [.ref b, .int (nI 3), .int (nI j), .int (nI xx), .int (nI yy), .ref (o 0), .ref (o 5), .ref (o 4), .ref (o 7)] (lw cI o F ++ wk) (S := Unit) (fun v _ => v = some (.int (nI 1))) (fun _ => (lw cI o (va_up F 7 (upd (F 7) (2 * j) (nI (bs m0 (xx % 6))))) ++ wk2)) (fun _ => False) 3 18 := by
  refine q_of (cc := cL_drafts) (maxL := 14) (ret := (some .boolean)) (by decide +kernel) rfl (Nat.le_of_ble_eq_true rfl) ?_
  intro p e s m below meth c A ls B hr htb hmn hP hD hS hl
  have hl : lv_has ls 14 [(0, .ref b), (1, .int (nI 3)), (2, .int (nI j)), (3, .int (nI xx)), (4, .int (nI yy)), (5, .ref (o 0)), (6, .ref (o 5)), (7, .ref (o 4)), (8, .ref (o 7))] := hl
  have hbs : bs m0 (xx % 6) < 64 := bs_64 m0 hm0 (xx % 6) (by omega)
  have hp8 := pc8_le (bs m0 (xx % 6))
  refine lv_bipush (v := (nI 8)) B.hx B.hb dL_drafts_0 (by decide) ?_
  refine lv_iload_n B.hx B.hb dL_drafts_2 rfl (lv_at hl 2 rfl) ?_
  refine lv_imul B.hx B.hb dL_drafts_3 ?_
  refine q_top (v2 := .int (nI (8 * j))) (congrArg Value.int (pk_mul _ _)) ?_
  refine lv_istore (lv' := [(9, .int (nI (8 * j))), (0, .ref b), (1, .int (nI 3)), (2, .int (nI j)), (3, .int (nI xx)), (4, .int (nI yy)), (5, .ref (o 0)), (6, .ref (o 5)), (7, .ref (o 4)), (8, .ref (o 7))]) B.hx B.hb dL_drafts_4 hl (by decide) rfl (fun ls hl => ?_)
  refine lv_aload_n B.hx B.hb dL_drafts_6 rfl (lv_at hl 1 rfl) ?_
  refine lv_iload_n B.hx B.hb dL_drafts_7 rfl (lv_at hl 3 rfl) ?_
  refine q_callV (As := [.int (nI j)]) (rest := []) B hP hD hS (cs.fl (lw cI o F)) (cwV 1 B.hts gL_drafts_X3_step rfl rfl rfl (by decide +kernel) ⟨(Nat.le_of_ble_eq_true rfl), (Nat.le_of_ble_eq_true rfl)⟩) (q0 + 8) 3 hq rfl rfl rfl hl.1 rfl (Nat.le_of_ble_eq_true rfl) dL_drafts_8 ⟨(Nat.le_of_ble_eq_true rfl), (Nat.le_of_ble_eq_true rfl)⟩ (fun E ce q9 H locs hx => False.elim hx) (fun v u H locs hp hP hD hS => ?_)
  obtain rfl := hp
  have hP : va_P D vwCl (lw cI o F ++ wk) H := hP
  have hD : va_D A (lw cI o F ++ wk) := hD
  refine lv_istore (lv' := [(10, .int (nI s0)), (9, .int (nI (8 * j))), (0, .ref b), (1, .int (nI 3)), (2, .int (nI j)), (3, .int (nI xx)), (4, .int (nI yy)), (5, .ref (o 0)), (6, .ref (o 5)), (7, .ref (o 4)), (8, .ref (o 7))]) B.hx B.hb dL_drafts_11 hl (by decide) rfl (fun ls hl => ?_)
  refine lv_aload_n B.hx B.hb dL_drafts_13 rfl (lv_at hl 2 rfl) ?_
  refine lv_iload_n B.hx B.hb dL_drafts_14 rfl (lv_at hl 4 rfl) ?_
  refine q_callV (As := [.int (nI j)]) (rest := []) B hP hD hS (cwt.fl (lw cI o F)) (cwV 1 B.hts gL_drafts_X3_waitsFor rfl rfl rfl (by decide +kernel) ⟨(Nat.le_of_ble_eq_true rfl), (Nat.le_of_ble_eq_true rfl)⟩) (q0 + 8) 3 hq rfl rfl rfl hl.1 rfl (Nat.le_of_ble_eq_true rfl) dL_drafts_15 ⟨(Nat.le_of_ble_eq_true rfl), (Nat.le_of_ble_eq_true rfl)⟩ (fun E ce q9 H locs hx => False.elim hx) (fun v u H locs hp hP hD hS => ?_)
  obtain rfl := hp
  have hP : va_P D vwCl (lw cI o F ++ wk) H := hP
  have hD : va_D A (lw cI o F ++ wk) := hD
  refine lv_istore (lv' := [(11, .int wt), (10, .int (nI s0)), (9, .int (nI (8 * j))), (0, .ref b), (1, .int (nI 3)), (2, .int (nI j)), (3, .int (nI xx)), (4, .int (nI yy)), (5, .ref (o 0)), (6, .ref (o 5)), (7, .ref (o 4)), (8, .ref (o 7))]) B.hx B.hb dL_drafts_18 hl (by decide) rfl (fun ls hl => ?_)
  refine lv_iload_n B.hx B.hb dL_drafts_20 rfl (lv_at hl 4 rfl) ?_
  refine lv_if_ne (tgt := 159) B.hx B.hb dL_drafts_21 (by decide) (fun _ => ?_) (fun c1 => False.elim (by exact absurd c1 (by decide)))
  refine lv_iload_n B.hx B.hb dL_drafts_159 rfl (lv_at hl 4 rfl) ?_
  refine lv_iconst (v := (nI 1)) B.hx B.hb dL_drafts_160 (by decide) ?_
  refine lv_icmp_ne (tgt := 279) B.hx B.hb dL_drafts_161 (by decide) (fun _ => ?_) (fun c2 => False.elim (by exact absurd c2 (by decide)))
  refine lv_iload_n B.hx B.hb dL_drafts_279 rfl (lv_at hl 4 rfl) ?_
  refine lv_iconst (v := (nI 2)) B.hx B.hb dL_drafts_280 (by decide) ?_
  refine lv_icmp_ne (tgt := 336) B.hx B.hb dL_drafts_281 (by decide) (fun _ => ?_) (fun c3 => False.elim (by exact absurd c3 (by decide)))
  refine lv_iload_n B.hx B.hb dL_drafts_336 rfl (lv_at hl 6 rfl) ?_
  refine lv_bipush (v := (nI 6)) B.hx B.hb dL_drafts_337 (by decide) ?_
  refine lv_irem B.hx B.hb dL_drafts_339 (by decide) ?_
  refine q_top (v2 := .int (nI (xx % 6))) (congrArg Value.int (pk_rem (by omega) (by omega) (by omega))) ?_
  refine lv_istore (lv' := [(12, .int (nI (xx % 6))), (11, .int wt), (10, .int (nI s0)), (9, .int (nI (8 * j))), (0, .ref b), (1, .int (nI 3)), (2, .int (nI j)), (3, .int (nI xx)), (4, .int (nI yy)), (5, .ref (o 0)), (6, .ref (o 5)), (7, .ref (o 4)), (8, .ref (o 7))]) B.hx B.hb dL_drafts_340 hl (by decide) rfl (fun ls hl => ?_)
  refine lv_iload_n B.hx B.hb dL_drafts_342 rfl (lv_at hl 5 rfl) ?_
  refine lv_iconst (v := (nI 3)) B.hx B.hb dL_drafts_343 (by decide) ?_
  refine lv_icmp_ne (tgt := 498) B.hx B.hb dL_drafts_344 (by decide) (fun c4 => False.elim (by exact absurd c4 (by decide))) (fun _ => ?_)
  refine lv_iload B.hx B.hb dL_drafts_347 (lv_at hl 2 rfl) ?_
  refine lv_if_le (tgt := 417) B.hx B.hb dL_drafts_349 (by decide) (fun c5 => False.elim (by replace c5 := (nI_le0 (by omega)).mp c5; omega)) (fun _ => ?_)
  refine lv_aload B.hx B.hb dL_drafts_352 (lv_at hl 9 rfl) ?_
  refine lv_iload B.hx B.hb dL_drafts_354 (lv_at hl 3 rfl) ?_
  refine lv_iconst (v := (nI 4)) B.hx B.hb dL_drafts_356 (by decide) ?_
  refine lv_iadd B.hx B.hb dL_drafts_357 ?_
  refine q_top (v2 := .int (nI (8 * j + 4))) (congrArg Value.int (nI_add _ _)) ?_
  refine q_iald (f := (F 0)) B hP 0 rfl (j := 8 * j + 4) rfl (by omega) (by decide) dL_drafts_358 ?_
  refine lv_if_ne (tgt := 417) B.hx B.hb dL_drafts_359 (by decide) (fun c6 => False.elim (by exact c6 h4)) (fun _ => ?_)
  refine lv_iload B.hx B.hb dL_drafts_362 (lv_at hl 0 rfl) ?_
  refine lv_aload B.hx B.hb dL_drafts_364 (lv_at hl 9 rfl) ?_
  refine lv_iload B.hx B.hb dL_drafts_366 (lv_at hl 3 rfl) ?_
  refine lv_iconst (v := (nI 1)) B.hx B.hb dL_drafts_368 (by decide) ?_
  refine lv_iadd B.hx B.hb dL_drafts_369 ?_
  refine q_top (v2 := .int (nI (8 * j + 1))) (congrArg Value.int (nI_add _ _)) ?_
  refine q_iald (f := (F 0)) B hP 0 rfl (j := 8 * j + 1) rfl (by omega) (by decide) dL_drafts_370 ?_
  refine lv_icmp_eq (tgt := 417) B.hx B.hb dL_drafts_371 (by decide) (fun c7 => False.elim (by exact hau c7)) (fun _ => ?_)
  refine lv_aload B.hx B.hb dL_drafts_374 (lv_at hl 10 rfl) ?_
  refine lv_iconst (v := (nI 0)) B.hx B.hb dL_drafts_376 (by decide) ?_
  refine q_iald (f := (F 5)) B hP 5 rfl (j := 0) rfl (by decide) (by decide) dL_drafts_377 ?_
  refine q_top (v2 := .int (nI r0)) (congrArg Value.int f50) ?_
  refine lv_iload B.hx B.hb dL_drafts_378 (lv_at hl 0 rfl) ?_
  refine q_callS (As := [.int (nI r0), .int (nI (xx % 6))]) (rest := []) B hP hD hS ((cl_has l D cI cZ cP r0 (xx % 6) (by omega) (by omega)).fr0 (lw cI o F ++ wk)) (cwS 2 B.hts gL_drafts_L_has rfl rfl rfl (by decide +kernel) ⟨(Nat.le_of_ble_eq_true rfl), (Nat.le_of_ble_eq_true rfl)⟩) rfl hl.1 rfl (Nat.le_of_ble_eq_true rfl) dL_drafts_380 ⟨(Nat.le_of_ble_eq_true rfl), (Nat.le_of_ble_eq_true rfl)⟩ (fun E ce q9 H locs hx => False.elim hx) (fun v u H locs hp hP hD hS => ?_)
  obtain rfl := hp
  have hP : va_P D vwCl (lw cI o F ++ wk) H := hP
  have hD : va_D A (lw cI o F ++ wk) := hD
  refine lv_if_eq (tgt := 417) B.hx B.hb dL_drafts_383 (by decide) (fun c8 => False.elim (by replace c8 := bI_0.mp c8; exact absurd (hrb.symm.trans c8) (by decide))) (fun _ => ?_)
  refine lv_aload B.hx B.hb dL_drafts_386 (lv_at hl 12 rfl) ?_
  refine lv_iconst (v := (nI 2)) B.hx B.hb dL_drafts_388 (by decide) ?_
  refine lv_iload_n B.hx B.hb dL_drafts_389 rfl (lv_at hl 6 rfl) ?_
  refine lv_imul B.hx B.hb dL_drafts_390 ?_
  refine q_top (v2 := .int (nI (2 * j))) (congrArg Value.int (pk_mul _ _)) ?_
  refine q_iald (f := (F 7)) B hP 7 rfl (j := 2 * j) rfl (by omega) (by decide) dL_drafts_391 ?_
  refine q_top (v2 := .int (nI m0)) (congrArg Value.int f70) ?_
  refine lv_iload B.hx B.hb dL_drafts_392 (lv_at hl 0 rfl) ?_
  refine q_callS (As := [.int (nI m0), .int (nI (xx % 6))]) (rest := []) B hP hD hS ((cl_has l D cI cZ cP m0 (xx % 6) (by omega) (by omega)).fr0 (lw cI o F ++ wk)) (cwS 2 B.hts gL_drafts_L_has rfl rfl rfl (by decide +kernel) ⟨(Nat.le_of_ble_eq_true rfl), (Nat.le_of_ble_eq_true rfl)⟩) rfl hl.1 rfl (Nat.le_of_ble_eq_true rfl) dL_drafts_394 ⟨(Nat.le_of_ble_eq_true rfl), (Nat.le_of_ble_eq_true rfl)⟩ (fun E ce q9 H locs hx => False.elim hx) (fun v u H locs hp hP hD hS => ?_)
  obtain rfl := hp
  have hP : va_P D vwCl (lw cI o F ++ wk) H := hP
  have hD : va_D A (lw cI o F ++ wk) := hD
  refine lv_if_ne (tgt := 417) B.hx B.hb dL_drafts_397 (by decide) (fun c9 => False.elim (by replace c9 := bI_t1 c9; exact absurd (hm.symm.trans c9) (by decide))) (fun _ => ?_)
  refine lv_aload B.hx B.hb dL_drafts_400 (lv_at hl 12 rfl) ?_
  refine lv_iconst (v := (nI 2)) B.hx B.hb dL_drafts_402 (by decide) ?_
  refine lv_iload_n B.hx B.hb dL_drafts_403 rfl (lv_at hl 6 rfl) ?_
  refine lv_imul B.hx B.hb dL_drafts_404 ?_
  refine q_top (v2 := .int (nI (2 * j))) (congrArg Value.int (pk_mul _ _)) ?_
  refine q_iald (f := (F 7)) B hP 7 rfl (j := 2 * j) rfl (by omega) (by decide) dL_drafts_405 ?_
  refine q_top (v2 := .int (nI m0)) (congrArg Value.int f70) ?_
  refine q_callS (As := [.int (nI m0)]) (rest := []) B hP hD hS ((cl_size l D cI cZ cP m0 (by omega)).fr0 (lw cI o F ++ wk)) (cwS 1 B.hts gL_drafts_L_size rfl rfl rfl (by decide +kernel) ⟨(Nat.le_of_ble_eq_true rfl), (Nat.le_of_ble_eq_true rfl)⟩) rfl hl.1 rfl (Nat.le_of_ble_eq_true rfl) dL_drafts_406 ⟨(Nat.le_of_ble_eq_true rfl), (Nat.le_of_ble_eq_true rfl)⟩ (fun E ce q9 H locs hx => False.elim hx) (fun v u H locs hp hP hD hS => ?_)
  obtain rfl := hp
  have hP : va_P D vwCl (lw cI o F ++ wk) H := hP
  have hD : va_D A (lw cI o F ++ wk) := hD
  refine lv_iconst (v := (nI 4)) B.hx B.hb dL_drafts_409 (by decide) ?_
  refine lv_icmp_ge (tgt := 417) B.hx B.hb dL_drafts_410 (by decide) (fun c10 => False.elim (by replace c10 := (nI_leI (by omega) (by omega)).mp c10; omega)) (fun _ => ?_)
  refine lv_iconst (v := (nI 1)) B.hx B.hb dL_drafts_413 (by decide) ?_
  refine lv_goto (tgt := 418) B.hx B.hb dL_drafts_414 (by decide) ?_
  refine lv_istore (lv' := [(13, .int (nI 1)), (12, .int (nI (xx % 6))), (11, .int wt), (10, .int (nI s0)), (9, .int (nI (8 * j))), (0, .ref b), (1, .int (nI 3)), (2, .int (nI j)), (3, .int (nI xx)), (4, .int (nI yy)), (5, .ref (o 0)), (6, .ref (o 5)), (7, .ref (o 4)), (8, .ref (o 7))]) B.hx B.hb dL_drafts_418 hl (by decide) rfl (fun ls hl => ?_)
  refine lv_aload B.hx B.hb dL_drafts_420 (lv_at hl 13 rfl) ?_
  refine lv_iconst (v := (nI 2)) B.hx B.hb dL_drafts_422 (by decide) ?_
  refine lv_iload_n B.hx B.hb dL_drafts_423 rfl (lv_at hl 7 rfl) ?_
  refine lv_imul B.hx B.hb dL_drafts_424 ?_
  refine q_top (v2 := .int (nI (2 * j))) (congrArg Value.int (pk_mul _ _)) ?_
  refine lv_dup2_11 B.hx B.hb dL_drafts_425 rfl rfl ?_
  refine q_iald (f := (F 7)) B hP 7 rfl (j := 2 * j) rfl (by omega) (by decide) dL_drafts_426 ?_
  refine q_top (v2 := .int (nI m0)) (congrArg Value.int f70) ?_
  refine lv_iload B.hx B.hb dL_drafts_427 (lv_at hl 0 rfl) ?_
  refine lv_if_eq (tgt := 439) B.hx B.hb dL_drafts_429 (by decide) (fun c11 => False.elim (by exact absurd c11 (by decide))) (fun _ => ?_)
  refine lv_iconst (v := (nI 1)) B.hx B.hb dL_drafts_432 (by decide) ?_
  refine lv_iload B.hx B.hb dL_drafts_433 (lv_at hl 1 rfl) ?_
  refine lv_ishl B.hx B.hb dL_drafts_435 ?_
  refine q_top (v2 := .int (nI (2 ^ (xx % 6)))) (congrArg Value.int (msk_shl (by omega))) ?_
  refine lv_goto (tgt := 440) B.hx B.hb dL_drafts_436 (by decide) ?_
  refine lv_ior B.hx B.hb dL_drafts_440 ?_
  refine q_top (v2 := .int (nI (bs m0 (xx % 6)))) (congrArg Value.int (bs_or (by omega) (by omega))) ?_
  refine q_iast (f := (F 7)) B hP hD hS 7 rfl (j := 2 * j) rfl (by omega) (by decide) dL_drafts_441 (w' := (lw cI o (va_up F 7 (upd (F 7) (2 * j) (nI (bs m0 (xx % 6))))) ++ wk)) rfl (fun H locs hP hD hS => ?_)
  refine lv_aload_n B.hx B.hb dL_drafts_442 rfl (lv_at hl 5 rfl) ?_
  refine lv_iconst (v := (nI 3)) B.hx B.hb dL_drafts_443 (by decide) ?_
  refine lv_iload_n B.hx B.hb dL_drafts_444 rfl (lv_at hl 7 rfl) ?_
  refine lv_iload B.hx B.hb dL_drafts_445 (lv_at hl 1 rfl) ?_
  refine lv_iconst (v := (nI 0)) B.hx B.hb dL_drafts_447 (by decide) ?_
  refine q_callSX (As := [.ref b, .int (nI 3), .int (nI j), .int (nI (xx % 6)), .int (nI 0)]) (rest := []) B hP hD hS (ca.fl (lw cI o (va_up F 7 (upd (F 7) (2 * j) (nI (bs m0 (xx % 6))))))) (vx_cwSW 5 B.hts gL_drafts_L_asks rfl rfl rfl (by decide +kernel) ⟨(Nat.le_of_ble_eq_true rfl), (Nat.le_of_ble_eq_true rfl)⟩) rfl hl.1 rfl (Nat.le_of_ble_eq_true rfl) dL_drafts_448 ⟨(Nat.le_of_ble_eq_true rfl), (Nat.le_of_ble_eq_true rfl)⟩ (fun E ce q9 H locs hx => False.elim hx) (fun v u H locs hp hP hD hS => ?_)
  obtain rfl := hp
  have hP : va_P D vwCl (lw cI o (va_up F 7 (upd (F 7) (2 * j) (nI (bs m0 (xx % 6))))) ++ wk2) H := hP
  have hD : va_D A (lw cI o (va_up F 7 (upd (F 7) (2 * j) (nI (bs m0 (xx % 6))))) ++ wk2) := hD
  refine lv_iload B.hx B.hb dL_drafts_451 (lv_at hl 0 rfl) ?_
  refine lv_if_eq (tgt := 468) B.hx B.hb dL_drafts_453 (by decide) (fun c12 => False.elim (by exact absurd c12 (by decide))) (fun _ => ?_)
  refine lv_aload B.hx B.hb dL_drafts_456 (lv_at hl 13 rfl) ?_
  refine lv_iconst (v := (nI 2)) B.hx B.hb dL_drafts_458 (by decide) ?_
  refine lv_iload_n B.hx B.hb dL_drafts_459 rfl (lv_at hl 7 rfl) ?_
  refine lv_imul B.hx B.hb dL_drafts_460 ?_
  refine q_top (v2 := .int (nI (2 * j))) (congrArg Value.int (pk_mul _ _)) ?_
  refine q_iald (f := (upd (F 7) (2 * j) (nI (bs m0 (xx % 6))))) B hP 7 rfl (j := 2 * j) rfl (by omega) (by decide) dL_drafts_461 ?_
  refine q_top (v2 := .int (nI (bs m0 (xx % 6)))) (congrArg Value.int pk_us) ?_
  refine q_callS (As := [.int (nI (bs m0 (xx % 6)))]) (rest := [.int (nI (pc8 (bs m0 (xx % 6))))]) B hP hD hS ((cl_size l D cI cZ cP (bs m0 (xx % 6)) (by omega)).fr0 (lw cI o (va_up F 7 (upd (F 7) (2 * j) (nI (bs m0 (xx % 6))))) ++ wk2)) (cwS 1 B.hts gL_drafts_L_size rfl rfl rfl (by decide +kernel) ⟨(Nat.le_of_ble_eq_true rfl), (Nat.le_of_ble_eq_true rfl)⟩) rfl hl.1 rfl (Nat.le_of_ble_eq_true rfl) dL_drafts_462 ⟨(Nat.le_of_ble_eq_true rfl), (Nat.le_of_ble_eq_true rfl)⟩ (fun E ce q9 H locs hx => False.elim hx) (fun v u H locs hp hP hD hS => ?_)
  obtain rfl := hp
  have hP : va_P D vwCl (lw cI o (va_up F 7 (upd (F 7) (2 * j) (nI (bs m0 (xx % 6))))) ++ wk2) H := hP
  have hD : va_D A (lw cI o (va_up F 7 (upd (F 7) (2 * j) (nI (bs m0 (xx % 6))))) ++ wk2) := hD
  refine lv_goto (tgt := 470) B.hx B.hb dL_drafts_465 (by decide) ?_
  refine lv_icmp_ne (tgt := 496) B.hx B.hb dL_drafts_470 (by decide) (fun c13 => False.elim (by replace c13 := mt (nI_eq (by omega) (by omega)).mpr c13; omega)) (fun _ => ?_)
  refine lv_aload_n B.hx B.hb dL_drafts_473 rfl (lv_at hl 5 rfl) ?_
  refine lv_iload_n B.hx B.hb dL_drafts_474 rfl (lv_at hl 7 rfl) ?_
  refine q_callV (As := [.int (nI j)]) (rest := []) B hP hD hS (cs2.fl (lw cI o (va_up F 7 (upd (F 7) (2 * j) (nI (bs m0 (xx % 6))))))) (cwV 1 B.hts gL_drafts_X3_step rfl rfl rfl (by decide +kernel) ⟨(Nat.le_of_ble_eq_true rfl), (Nat.le_of_ble_eq_true rfl)⟩) (q2 + 8) 3 hq2 rfl rfl rfl hl.1 rfl (Nat.le_of_ble_eq_true rfl) dL_drafts_475 ⟨(Nat.le_of_ble_eq_true rfl), (Nat.le_of_ble_eq_true rfl)⟩ (fun E ce q9 H locs hx => False.elim hx) (fun v u H locs hp hP hD hS => ?_)
  obtain rfl := hp
  have hP : va_P D vwCl (lw cI o (va_up F 7 (upd (F 7) (2 * j) (nI (bs m0 (xx % 6))))) ++ wk2) H := hP
  have hD : va_D A (lw cI o (va_up F 7 (upd (F 7) (2 * j) (nI (bs m0 (xx % 6))))) ++ wk2) := hD
  refine lv_iload B.hx B.hb dL_drafts_478 (lv_at hl 0 rfl) ?_
  refine lv_if_eq (tgt := 487) B.hx B.hb dL_drafts_480 (by decide) (fun c14 => False.elim (by exact absurd c14 (by decide))) (fun _ => ?_)
  refine lv_iconst (v := (nI 1)) B.hx B.hb dL_drafts_483 (by decide) ?_
  refine lv_goto (tgt := 489) B.hx B.hb dL_drafts_484 (by decide) ?_
  refine lv_icmp_ne (tgt := 496) B.hx B.hb dL_drafts_489 (by decide) (fun c15 => False.elim (by exact absurd c15 (by decide))) (fun _ => ?_)
  refine lv_iconst (v := (nI 1)) B.hx B.hb dL_drafts_492 (by decide) ?_
  refine lv_goto (tgt := 497) B.hx B.hb dL_drafts_493 (by decide) ?_
  exact q_zret B hr hP hD hS (by decide) (u := ()) rfl rfl (Nat.le_of_ble_eq_true rfl) (Nat.le_of_ble_eq_true rfl) dL_drafts_497

set_option maxHeartbeats 4000000 in
set_option maxRecDepth 100000 in
theorem ld3n (l : Launch) (D : va_G) (cI cZ cP : ClassId) (o : Nat → Nat) (F : Nat → Nat → Int32) (wk wk2 : va_W) {q0 b : Nat} {fs : List Value} (hq : wk[q0]? = some (b, .inr (3, fs))) {q2 : Nat} {fs2 : List Value} (hq2 : wk2[q2]? = some (b, .inr (3, fs2))) (j xx yy : Nat) (wt : Int32) (hj : j < 8) (hx : xx < 2 ^ 30) (hy : yy < 2 ^ 30) (s0 : Nat) (h5 : s0 ≤ 5) (m0 r0 : Nat) (hm0 : m0 < 64) (hr0 : r0 < 64) (f50 : F 5 0 = nI r0) (f70 : F 7 (2 * j) = nI m0) (hno : 1 ≤ s0 → F 0 (8 * j + 4) = 0 → ¬ nI (xx % 6) = F 0 (8 * j + 1) → r0.testBit (xx % 6) = true → m0.testBit (xx % 6) = false → pc8 m0 < 4 → False) (cs : q_C l yX3_step wsX3_step ({ frames := 2, cells := 0, slots := 0, locals := 42 }) D cI cZ cP [.ref b, .int (nI j)] wk (S := Unit) (fun v _ => v = some (.int (nI s0))) (fun _ => wk) (fun _ => False) 0 0) (cwt : q_C l yX3_waitsFor wsX3_waitsFor ({ frames := 3, cells := 0, slots := 0, locals := 62 }) D cI cZ cP [.ref b, .int (nI j)] wk (S := Unit) (fun v _ => v = some (.int wt)) (fun _ => wk) (fun _ => False) 0 0) (ca : q_C l yL_asks wsL_asks ({ frames := 9, cells := 3, slots := 18, locals := 148 }) D cI cZ cP [.ref b, .int (nI 3), .int (nI j), .int (nI (xx % 6)), .int (nI 0)] wk (S := Unit) (fun v _ => v = some (.int (-8))) (fun _ => wk) (fun _ => False) 3 18) : q_C l yL_drafts wsL_drafts ({ frames := 11, cells := 3, slots := 18, locals := 196 }) D cI cZ cP [.ref b, .int (nI 3), .int (nI j), .int (nI xx), .int (nI yy), .ref (o 0), .ref (o 5), .ref (o 4), .ref (o 7)] (lw cI o F ++ wk) (S := Unit) (fun v _ => v = some (.int (nI 1))) (fun _ => (lw cI o (va_up F 7 (upd (F 7) (2 * j) (nI m0))) ++ wk)) (fun _ => False) 3 18 := by
  refine q_of (cc := cL_drafts) (maxL := 14) (ret := (some .boolean)) (by decide +kernel) rfl (Nat.le_of_ble_eq_true rfl) ?_
  intro p e s m below meth c A ls B hr htb hmn hP hD hS hl
  have hl : lv_has ls 14 [(0, .ref b), (1, .int (nI 3)), (2, .int (nI j)), (3, .int (nI xx)), (4, .int (nI yy)), (5, .ref (o 0)), (6, .ref (o 5)), (7, .ref (o 4)), (8, .ref (o 7))] := hl
  have hp8 := pc8_le m0
  refine lv_bipush (v := (nI 8)) B.hx B.hb dL_drafts_0 (by decide) ?_
  refine lv_iload_n B.hx B.hb dL_drafts_2 rfl (lv_at hl 2 rfl) ?_
  refine lv_imul B.hx B.hb dL_drafts_3 ?_
  refine q_top (v2 := .int (nI (8 * j))) (congrArg Value.int (pk_mul _ _)) ?_
  refine lv_istore (lv' := [(9, .int (nI (8 * j))), (0, .ref b), (1, .int (nI 3)), (2, .int (nI j)), (3, .int (nI xx)), (4, .int (nI yy)), (5, .ref (o 0)), (6, .ref (o 5)), (7, .ref (o 4)), (8, .ref (o 7))]) B.hx B.hb dL_drafts_4 hl (by decide) rfl (fun ls hl => ?_)
  refine lv_aload_n B.hx B.hb dL_drafts_6 rfl (lv_at hl 1 rfl) ?_
  refine lv_iload_n B.hx B.hb dL_drafts_7 rfl (lv_at hl 3 rfl) ?_
  refine q_callV (As := [.int (nI j)]) (rest := []) B hP hD hS (cs.fl (lw cI o F)) (cwV 1 B.hts gL_drafts_X3_step rfl rfl rfl (by decide +kernel) ⟨(Nat.le_of_ble_eq_true rfl), (Nat.le_of_ble_eq_true rfl)⟩) (q0 + 8) 3 hq rfl rfl rfl hl.1 rfl (Nat.le_of_ble_eq_true rfl) dL_drafts_8 ⟨(Nat.le_of_ble_eq_true rfl), (Nat.le_of_ble_eq_true rfl)⟩ (fun E ce q9 H locs hx => False.elim hx) (fun v u H locs hp hP hD hS => ?_)
  obtain rfl := hp
  have hP : va_P D vwCl (lw cI o F ++ wk) H := hP
  have hD : va_D A (lw cI o F ++ wk) := hD
  refine lv_istore (lv' := [(10, .int (nI s0)), (9, .int (nI (8 * j))), (0, .ref b), (1, .int (nI 3)), (2, .int (nI j)), (3, .int (nI xx)), (4, .int (nI yy)), (5, .ref (o 0)), (6, .ref (o 5)), (7, .ref (o 4)), (8, .ref (o 7))]) B.hx B.hb dL_drafts_11 hl (by decide) rfl (fun ls hl => ?_)
  refine lv_aload_n B.hx B.hb dL_drafts_13 rfl (lv_at hl 2 rfl) ?_
  refine lv_iload_n B.hx B.hb dL_drafts_14 rfl (lv_at hl 4 rfl) ?_
  refine q_callV (As := [.int (nI j)]) (rest := []) B hP hD hS (cwt.fl (lw cI o F)) (cwV 1 B.hts gL_drafts_X3_waitsFor rfl rfl rfl (by decide +kernel) ⟨(Nat.le_of_ble_eq_true rfl), (Nat.le_of_ble_eq_true rfl)⟩) (q0 + 8) 3 hq rfl rfl rfl hl.1 rfl (Nat.le_of_ble_eq_true rfl) dL_drafts_15 ⟨(Nat.le_of_ble_eq_true rfl), (Nat.le_of_ble_eq_true rfl)⟩ (fun E ce q9 H locs hx => False.elim hx) (fun v u H locs hp hP hD hS => ?_)
  obtain rfl := hp
  have hP : va_P D vwCl (lw cI o F ++ wk) H := hP
  have hD : va_D A (lw cI o F ++ wk) := hD
  refine lv_istore (lv' := [(11, .int wt), (10, .int (nI s0)), (9, .int (nI (8 * j))), (0, .ref b), (1, .int (nI 3)), (2, .int (nI j)), (3, .int (nI xx)), (4, .int (nI yy)), (5, .ref (o 0)), (6, .ref (o 5)), (7, .ref (o 4)), (8, .ref (o 7))]) B.hx B.hb dL_drafts_18 hl (by decide) rfl (fun ls hl => ?_)
  refine lv_iload_n B.hx B.hb dL_drafts_20 rfl (lv_at hl 4 rfl) ?_
  refine lv_if_ne (tgt := 159) B.hx B.hb dL_drafts_21 (by decide) (fun _ => ?_) (fun c1 => False.elim (by exact absurd c1 (by decide)))
  refine lv_iload_n B.hx B.hb dL_drafts_159 rfl (lv_at hl 4 rfl) ?_
  refine lv_iconst (v := (nI 1)) B.hx B.hb dL_drafts_160 (by decide) ?_
  refine lv_icmp_ne (tgt := 279) B.hx B.hb dL_drafts_161 (by decide) (fun _ => ?_) (fun c2 => False.elim (by exact absurd c2 (by decide)))
  refine lv_iload_n B.hx B.hb dL_drafts_279 rfl (lv_at hl 4 rfl) ?_
  refine lv_iconst (v := (nI 2)) B.hx B.hb dL_drafts_280 (by decide) ?_
  refine lv_icmp_ne (tgt := 336) B.hx B.hb dL_drafts_281 (by decide) (fun _ => ?_) (fun c3 => False.elim (by exact absurd c3 (by decide)))
  refine lv_iload_n B.hx B.hb dL_drafts_336 rfl (lv_at hl 6 rfl) ?_
  refine lv_bipush (v := (nI 6)) B.hx B.hb dL_drafts_337 (by decide) ?_
  refine lv_irem B.hx B.hb dL_drafts_339 (by decide) ?_
  refine q_top (v2 := .int (nI (xx % 6))) (congrArg Value.int (pk_rem (by omega) (by omega) (by omega))) ?_
  refine lv_istore (lv' := [(12, .int (nI (xx % 6))), (11, .int wt), (10, .int (nI s0)), (9, .int (nI (8 * j))), (0, .ref b), (1, .int (nI 3)), (2, .int (nI j)), (3, .int (nI xx)), (4, .int (nI yy)), (5, .ref (o 0)), (6, .ref (o 5)), (7, .ref (o 4)), (8, .ref (o 7))]) B.hx B.hb dL_drafts_340 hl (by decide) rfl (fun ls hl => ?_)
  refine lv_iload_n B.hx B.hb dL_drafts_342 rfl (lv_at hl 5 rfl) ?_
  refine lv_iconst (v := (nI 3)) B.hx B.hb dL_drafts_343 (by decide) ?_
  refine lv_icmp_ne (tgt := 498) B.hx B.hb dL_drafts_344 (by decide) (fun c4 => False.elim (by exact absurd c4 (by decide))) (fun _ => ?_)
  refine q_join (D := D) (A := A) (J := 418) (stk := [.int (nI 0)]) (w := (lw cI o F ++ wk)) (fun H locs hP hD hS => ?_) (fun kJ5 => ?_)
  · refine lv_istore (lv' := [(13, .int (nI 0)), (12, .int (nI (xx % 6))), (11, .int wt), (10, .int (nI s0)), (9, .int (nI (8 * j))), (0, .ref b), (1, .int (nI 3)), (2, .int (nI j)), (3, .int (nI xx)), (4, .int (nI yy)), (5, .ref (o 0)), (6, .ref (o 5)), (7, .ref (o 4)), (8, .ref (o 7))]) B.hx B.hb dL_drafts_418 hl (by decide) rfl (fun ls hl => ?_)
    refine lv_aload B.hx B.hb dL_drafts_420 (lv_at hl 13 rfl) ?_
    refine lv_iconst (v := (nI 2)) B.hx B.hb dL_drafts_422 (by decide) ?_
    refine lv_iload_n B.hx B.hb dL_drafts_423 rfl (lv_at hl 7 rfl) ?_
    refine lv_imul B.hx B.hb dL_drafts_424 ?_
    refine q_top (v2 := .int (nI (2 * j))) (congrArg Value.int (pk_mul _ _)) ?_
    refine lv_dup2_11 B.hx B.hb dL_drafts_425 rfl rfl ?_
    refine q_iald (f := (F 7)) B hP 7 rfl (j := 2 * j) rfl (by omega) (by decide) dL_drafts_426 ?_
    refine q_top (v2 := .int (nI m0)) (congrArg Value.int f70) ?_
    refine lv_iload B.hx B.hb dL_drafts_427 (lv_at hl 0 rfl) ?_
    refine lv_if_eq (tgt := 439) B.hx B.hb dL_drafts_429 (by decide) (fun _ => ?_) (fun c6 => False.elim (by exact absurd c6 (by decide)))
    refine lv_iconst (v := (nI 0)) B.hx B.hb dL_drafts_439 (by decide) ?_
    refine lv_ior B.hx B.hb dL_drafts_440 ?_
    refine q_top (v2 := .int (nI m0)) (congrArg Value.int or_0) ?_
    refine q_iast (f := (F 7)) B hP hD hS 7 rfl (j := 2 * j) rfl (by omega) (by decide) dL_drafts_441 (w' := (lw cI o (va_up F 7 (upd (F 7) (2 * j) (nI m0))) ++ wk)) rfl (fun H locs hP hD hS => ?_)
    refine lv_aload_n B.hx B.hb dL_drafts_442 rfl (lv_at hl 5 rfl) ?_
    refine lv_iconst (v := (nI 3)) B.hx B.hb dL_drafts_443 (by decide) ?_
    refine lv_iload_n B.hx B.hb dL_drafts_444 rfl (lv_at hl 7 rfl) ?_
    refine lv_iload B.hx B.hb dL_drafts_445 (lv_at hl 1 rfl) ?_
    refine lv_iconst (v := (nI 0)) B.hx B.hb dL_drafts_447 (by decide) ?_
    refine q_callSX (As := [.ref b, .int (nI 3), .int (nI j), .int (nI (xx % 6)), .int (nI 0)]) (rest := []) B hP hD hS (ca.fl (lw cI o (va_up F 7 (upd (F 7) (2 * j) (nI m0))))) (vx_cwSW 5 B.hts gL_drafts_L_asks rfl rfl rfl (by decide +kernel) ⟨(Nat.le_of_ble_eq_true rfl), (Nat.le_of_ble_eq_true rfl)⟩) rfl hl.1 rfl (Nat.le_of_ble_eq_true rfl) dL_drafts_448 ⟨(Nat.le_of_ble_eq_true rfl), (Nat.le_of_ble_eq_true rfl)⟩ (fun E ce q9 H locs hx => False.elim hx) (fun v u H locs hp hP hD hS => ?_)
    obtain rfl := hp
    have hP : va_P D vwCl (lw cI o (va_up F 7 (upd (F 7) (2 * j) (nI m0))) ++ wk) H := hP
    have hD : va_D A (lw cI o (va_up F 7 (upd (F 7) (2 * j) (nI m0))) ++ wk) := hD
    refine lv_iload B.hx B.hb dL_drafts_451 (lv_at hl 0 rfl) ?_
    refine lv_if_eq (tgt := 468) B.hx B.hb dL_drafts_453 (by decide) (fun _ => ?_) (fun c7 => False.elim (by exact absurd c7 (by decide)))
    refine lv_bipush (v := (-8)) B.hx B.hb dL_drafts_468 (by decide) ?_
    refine lv_icmp_ne (tgt := 496) B.hx B.hb dL_drafts_470 (by decide) (fun c8 => False.elim (by exact absurd c8 (by decide))) (fun _ => ?_)
    refine lv_aload_n B.hx B.hb dL_drafts_473 rfl (lv_at hl 5 rfl) ?_
    refine lv_iload_n B.hx B.hb dL_drafts_474 rfl (lv_at hl 7 rfl) ?_
    refine q_callV (As := [.int (nI j)]) (rest := []) B hP hD hS (cs.fl (lw cI o (va_up F 7 (upd (F 7) (2 * j) (nI m0))))) (cwV 1 B.hts gL_drafts_X3_step rfl rfl rfl (by decide +kernel) ⟨(Nat.le_of_ble_eq_true rfl), (Nat.le_of_ble_eq_true rfl)⟩) (q0 + 8) 3 hq rfl rfl rfl hl.1 rfl (Nat.le_of_ble_eq_true rfl) dL_drafts_475 ⟨(Nat.le_of_ble_eq_true rfl), (Nat.le_of_ble_eq_true rfl)⟩ (fun E ce q9 H locs hx => False.elim hx) (fun v u H locs hp hP hD hS => ?_)
    obtain rfl := hp
    have hP : va_P D vwCl (lw cI o (va_up F 7 (upd (F 7) (2 * j) (nI m0))) ++ wk) H := hP
    have hD : va_D A (lw cI o (va_up F 7 (upd (F 7) (2 * j) (nI m0))) ++ wk) := hD
    refine lv_iload B.hx B.hb dL_drafts_478 (lv_at hl 0 rfl) ?_
    refine lv_if_eq (tgt := 487) B.hx B.hb dL_drafts_480 (by decide) (fun _ => ?_) (fun c9 => False.elim (by exact absurd c9 (by decide)))
    refine lv_iload B.hx B.hb dL_drafts_487 (lv_at hl 3 rfl) ?_
    refine lv_icmp_ne (tgt := 496) B.hx B.hb dL_drafts_489 (by decide) (fun c10 => False.elim (by replace c10 := mt (nI_eq (by omega) (by omega)).mpr c10; omega)) (fun _ => ?_)
    refine lv_iconst (v := (nI 1)) B.hx B.hb dL_drafts_492 (by decide) ?_
    refine lv_goto (tgt := 497) B.hx B.hb dL_drafts_493 (by decide) ?_
    exact q_zret B hr hP hD hS (by decide) (u := ()) rfl rfl (Nat.le_of_ble_eq_true rfl) (Nat.le_of_ble_eq_true rfl) dL_drafts_497
  · refine lv_iload B.hx B.hb dL_drafts_347 (lv_at hl 2 rfl) ?_
    refine lv_if_le (tgt := 417) B.hx B.hb dL_drafts_349 (by decide) (fun c11 => ?_) (fun c11 => ?_)
    · replace c11 := (nI_le0 (by omega)).mp c11
      refine lv_iconst (v := (nI 0)) B.hx B.hb dL_drafts_417 (by decide) ?_
      exact kJ5 _ _ hP hD hS
    · replace c11 := mt (nI_le0 (by omega)).mpr c11
      refine lv_aload B.hx B.hb dL_drafts_352 (lv_at hl 9 rfl) ?_
      refine lv_iload B.hx B.hb dL_drafts_354 (lv_at hl 3 rfl) ?_
      refine lv_iconst (v := (nI 4)) B.hx B.hb dL_drafts_356 (by decide) ?_
      refine lv_iadd B.hx B.hb dL_drafts_357 ?_
      refine q_top (v2 := .int (nI (8 * j + 4))) (congrArg Value.int (nI_add _ _)) ?_
      refine q_iald (f := (F 0)) B hP 0 rfl (j := 8 * j + 4) rfl (by omega) (by decide) dL_drafts_358 ?_
      refine lv_if_ne (tgt := 417) B.hx B.hb dL_drafts_359 (by decide) (fun c12 => ?_) (fun c12 => ?_)
      · refine lv_iconst (v := (nI 0)) B.hx B.hb dL_drafts_417 (by decide) ?_
        exact kJ5 _ _ hP hD hS
      · refine lv_iload B.hx B.hb dL_drafts_362 (lv_at hl 0 rfl) ?_
        refine lv_aload B.hx B.hb dL_drafts_364 (lv_at hl 9 rfl) ?_
        refine lv_iload B.hx B.hb dL_drafts_366 (lv_at hl 3 rfl) ?_
        refine lv_iconst (v := (nI 1)) B.hx B.hb dL_drafts_368 (by decide) ?_
        refine lv_iadd B.hx B.hb dL_drafts_369 ?_
        refine q_top (v2 := .int (nI (8 * j + 1))) (congrArg Value.int (nI_add _ _)) ?_
        refine q_iald (f := (F 0)) B hP 0 rfl (j := 8 * j + 1) rfl (by omega) (by decide) dL_drafts_370 ?_
        refine lv_icmp_eq (tgt := 417) B.hx B.hb dL_drafts_371 (by decide) (fun c13 => ?_) (fun c13 => ?_)
        · refine lv_iconst (v := (nI 0)) B.hx B.hb dL_drafts_417 (by decide) ?_
          exact kJ5 _ _ hP hD hS
        · refine lv_aload B.hx B.hb dL_drafts_374 (lv_at hl 10 rfl) ?_
          refine lv_iconst (v := (nI 0)) B.hx B.hb dL_drafts_376 (by decide) ?_
          refine q_iald (f := (F 5)) B hP 5 rfl (j := 0) rfl (by decide) (by decide) dL_drafts_377 ?_
          refine q_top (v2 := .int (nI r0)) (congrArg Value.int f50) ?_
          refine lv_iload B.hx B.hb dL_drafts_378 (lv_at hl 0 rfl) ?_
          refine q_callS (As := [.int (nI r0), .int (nI (xx % 6))]) (rest := []) B hP hD hS ((cl_has l D cI cZ cP r0 (xx % 6) (by omega) (by omega)).fr0 (lw cI o F ++ wk)) (cwS 2 B.hts gL_drafts_L_has rfl rfl rfl (by decide +kernel) ⟨(Nat.le_of_ble_eq_true rfl), (Nat.le_of_ble_eq_true rfl)⟩) rfl hl.1 rfl (Nat.le_of_ble_eq_true rfl) dL_drafts_380 ⟨(Nat.le_of_ble_eq_true rfl), (Nat.le_of_ble_eq_true rfl)⟩ (fun E ce q9 H locs hx => False.elim hx) (fun v u H locs hp hP hD hS => ?_)
          obtain rfl := hp
          have hP : va_P D vwCl (lw cI o F ++ wk) H := hP
          have hD : va_D A (lw cI o F ++ wk) := hD
          refine lv_if_eq (tgt := 417) B.hx B.hb dL_drafts_383 (by decide) (fun c14 => ?_) (fun c14 => ?_)
          · replace c14 := bI_0.mp c14
            refine lv_iconst (v := (nI 0)) B.hx B.hb dL_drafts_417 (by decide) ?_
            exact kJ5 _ _ hP hD hS
          · replace c14 := bI_t1 c14
            refine lv_aload B.hx B.hb dL_drafts_386 (lv_at hl 12 rfl) ?_
            refine lv_iconst (v := (nI 2)) B.hx B.hb dL_drafts_388 (by decide) ?_
            refine lv_iload_n B.hx B.hb dL_drafts_389 rfl (lv_at hl 6 rfl) ?_
            refine lv_imul B.hx B.hb dL_drafts_390 ?_
            refine q_top (v2 := .int (nI (2 * j))) (congrArg Value.int (pk_mul _ _)) ?_
            refine q_iald (f := (F 7)) B hP 7 rfl (j := 2 * j) rfl (by omega) (by decide) dL_drafts_391 ?_
            refine q_top (v2 := .int (nI m0)) (congrArg Value.int f70) ?_
            refine lv_iload B.hx B.hb dL_drafts_392 (lv_at hl 0 rfl) ?_
            refine q_callS (As := [.int (nI m0), .int (nI (xx % 6))]) (rest := []) B hP hD hS ((cl_has l D cI cZ cP m0 (xx % 6) (by omega) (by omega)).fr0 (lw cI o F ++ wk)) (cwS 2 B.hts gL_drafts_L_has rfl rfl rfl (by decide +kernel) ⟨(Nat.le_of_ble_eq_true rfl), (Nat.le_of_ble_eq_true rfl)⟩) rfl hl.1 rfl (Nat.le_of_ble_eq_true rfl) dL_drafts_394 ⟨(Nat.le_of_ble_eq_true rfl), (Nat.le_of_ble_eq_true rfl)⟩ (fun E ce q9 H locs hx => False.elim hx) (fun v u H locs hp hP hD hS => ?_)
            obtain rfl := hp
            have hP : va_P D vwCl (lw cI o F ++ wk) H := hP
            have hD : va_D A (lw cI o F ++ wk) := hD
            refine lv_if_ne (tgt := 417) B.hx B.hb dL_drafts_397 (by decide) (fun c15 => ?_) (fun c15 => ?_)
            · replace c15 := bI_t1 c15
              refine lv_iconst (v := (nI 0)) B.hx B.hb dL_drafts_417 (by decide) ?_
              exact kJ5 _ _ hP hD hS
            · replace c15 := bI_0.mp c15
              refine lv_aload B.hx B.hb dL_drafts_400 (lv_at hl 12 rfl) ?_
              refine lv_iconst (v := (nI 2)) B.hx B.hb dL_drafts_402 (by decide) ?_
              refine lv_iload_n B.hx B.hb dL_drafts_403 rfl (lv_at hl 6 rfl) ?_
              refine lv_imul B.hx B.hb dL_drafts_404 ?_
              refine q_top (v2 := .int (nI (2 * j))) (congrArg Value.int (pk_mul _ _)) ?_
              refine q_iald (f := (F 7)) B hP 7 rfl (j := 2 * j) rfl (by omega) (by decide) dL_drafts_405 ?_
              refine q_top (v2 := .int (nI m0)) (congrArg Value.int f70) ?_
              refine q_callS (As := [.int (nI m0)]) (rest := []) B hP hD hS ((cl_size l D cI cZ cP m0 (by omega)).fr0 (lw cI o F ++ wk)) (cwS 1 B.hts gL_drafts_L_size rfl rfl rfl (by decide +kernel) ⟨(Nat.le_of_ble_eq_true rfl), (Nat.le_of_ble_eq_true rfl)⟩) rfl hl.1 rfl (Nat.le_of_ble_eq_true rfl) dL_drafts_406 ⟨(Nat.le_of_ble_eq_true rfl), (Nat.le_of_ble_eq_true rfl)⟩ (fun E ce q9 H locs hx => False.elim hx) (fun v u H locs hp hP hD hS => ?_)
              obtain rfl := hp
              have hP : va_P D vwCl (lw cI o F ++ wk) H := hP
              have hD : va_D A (lw cI o F ++ wk) := hD
              refine lv_iconst (v := (nI 4)) B.hx B.hb dL_drafts_409 (by decide) ?_
              refine lv_icmp_ge (tgt := 417) B.hx B.hb dL_drafts_410 (by decide) (fun c16 => ?_) (fun c16 => ?_)
              · replace c16 := (nI_leI (by omega) (by omega)).mp c16
                refine lv_iconst (v := (nI 0)) B.hx B.hb dL_drafts_417 (by decide) ?_
                exact kJ5 _ _ hP hD hS
              · replace c16 := mt (nI_leI (by omega) (by omega)).mpr c16
                refine lv_iconst (v := (nI 1)) B.hx B.hb dL_drafts_413 (by decide) ?_
                refine lv_goto (tgt := 418) B.hx B.hb dL_drafts_414 (by decide) ?_
                exact (hno (by omega) c12 c13 c14 c15 (by omega)).elim

set_option maxHeartbeats 4000000 in
set_option maxRecDepth 100000 in
theorem ld4y5 (l : Launch) (D : va_G) (cI cZ cP : ClassId) (o : Nat → Nat) (F : Nat → Nat → Int32) (wk wk2 : va_W) {q0 b : Nat} {fs : List Value} (hq : wk[q0]? = some (b, .inr (3, fs))) {q2 : Nat} {fs2 : List Value} (hq2 : wk2[q2]? = some (b, .inr (3, fs2))) (j xx yy : Nat) (wt : Int32) (hj : j < 8) (hx : xx < 2 ^ 30) (hy : yy < 2 ^ 30) (m1 : Nat) (hm1 : m1 < 64) (f71 : F 7 (2 * j + 1) = nI m1) (hm : m1.testBit (xx % 6) = false) (cs : q_C l yX3_step wsX3_step ({ frames := 2, cells := 0, slots := 0, locals := 42 }) D cI cZ cP [.ref b, .int (nI j)] wk (S := Unit) (fun v _ => v = some (.int (nI 5))) (fun _ => wk) (fun _ => False) 0 0) (cwt : q_C l yX3_waitsFor wsX3_waitsFor ({ frames := 3, cells := 0, slots := 0, locals := 62 }) D cI cZ cP [.ref b, .int (nI j)] wk (S := Unit) (fun v _ => v = some (.int wt)) (fun _ => wk) (fun _ => False) 0 0) (ca : q_C l yL_asks wsL_asks ({ frames := 9, cells := 3, slots := 18, locals := 148 }) D cI cZ cP [.ref b, .int (nI 4), .int (nI j), .int (nI (xx % 6)), .int (nI 0)] wk (S := Unit) (fun v _ => v = some (.int (nI (pc8 (bs m1 (xx % 6)))))) (fun _ => wk2) (fun _ => False) 3 18) (cs2 : q_C l yX3_step wsX3_step ({ frames := 2, cells := 0, slots := 0, locals := 42 }) D cI cZ cP [.ref b, .int (nI j)] wk2 (S := Unit) (fun v _ => v = some (.int (nI 4))) (fun _ => wk2) (fun _ => False) 0 0) : q_C l yL_drafts wsL_drafts ({ frames := 11, cells := 3, slots := 18, locals := 196 }) D cI cZ cP [.ref b, .int (nI 4), .int (nI j), .int (nI xx), .int (nI yy), .ref (o 0), .ref (o 5), .ref (o 4), .ref (o 7)] (lw cI o F ++ wk) (S := Unit) (fun v _ => v = some (.int (nI 1))) (fun _ => (lw cI o (va_up F 7 (upd (F 7) (2 * j + 1) (nI (bs m1 (xx % 6))))) ++ wk2)) (fun _ => False) 3 18 := by
  refine q_of (cc := cL_drafts) (maxL := 14) (ret := (some .boolean)) (by decide +kernel) rfl (Nat.le_of_ble_eq_true rfl) ?_
  intro p e s m below meth c A ls B hr htb hmn hP hD hS hl
  have hl : lv_has ls 14 [(0, .ref b), (1, .int (nI 4)), (2, .int (nI j)), (3, .int (nI xx)), (4, .int (nI yy)), (5, .ref (o 0)), (6, .ref (o 5)), (7, .ref (o 4)), (8, .ref (o 7))] := hl
  have hbs : bs m1 (xx % 6) < 64 := bs_64 m1 hm1 (xx % 6) (by omega)
  have hp8 := pc8_le (bs m1 (xx % 6))
  refine lv_bipush (v := (nI 8)) B.hx B.hb dL_drafts_0 (by decide) ?_
  refine lv_iload_n B.hx B.hb dL_drafts_2 rfl (lv_at hl 2 rfl) ?_
  refine lv_imul B.hx B.hb dL_drafts_3 ?_
  refine q_top (v2 := .int (nI (8 * j))) (congrArg Value.int (pk_mul _ _)) ?_
  refine lv_istore (lv' := [(9, .int (nI (8 * j))), (0, .ref b), (1, .int (nI 4)), (2, .int (nI j)), (3, .int (nI xx)), (4, .int (nI yy)), (5, .ref (o 0)), (6, .ref (o 5)), (7, .ref (o 4)), (8, .ref (o 7))]) B.hx B.hb dL_drafts_4 hl (by decide) rfl (fun ls hl => ?_)
  refine lv_aload_n B.hx B.hb dL_drafts_6 rfl (lv_at hl 1 rfl) ?_
  refine lv_iload_n B.hx B.hb dL_drafts_7 rfl (lv_at hl 3 rfl) ?_
  refine q_callV (As := [.int (nI j)]) (rest := []) B hP hD hS (cs.fl (lw cI o F)) (cwV 1 B.hts gL_drafts_X3_step rfl rfl rfl (by decide +kernel) ⟨(Nat.le_of_ble_eq_true rfl), (Nat.le_of_ble_eq_true rfl)⟩) (q0 + 8) 3 hq rfl rfl rfl hl.1 rfl (Nat.le_of_ble_eq_true rfl) dL_drafts_8 ⟨(Nat.le_of_ble_eq_true rfl), (Nat.le_of_ble_eq_true rfl)⟩ (fun E ce q9 H locs hx => False.elim hx) (fun v u H locs hp hP hD hS => ?_)
  obtain rfl := hp
  have hP : va_P D vwCl (lw cI o F ++ wk) H := hP
  have hD : va_D A (lw cI o F ++ wk) := hD
  refine lv_istore (lv' := [(10, .int (nI 5)), (9, .int (nI (8 * j))), (0, .ref b), (1, .int (nI 4)), (2, .int (nI j)), (3, .int (nI xx)), (4, .int (nI yy)), (5, .ref (o 0)), (6, .ref (o 5)), (7, .ref (o 4)), (8, .ref (o 7))]) B.hx B.hb dL_drafts_11 hl (by decide) rfl (fun ls hl => ?_)
  refine lv_aload_n B.hx B.hb dL_drafts_13 rfl (lv_at hl 2 rfl) ?_
  refine lv_iload_n B.hx B.hb dL_drafts_14 rfl (lv_at hl 4 rfl) ?_
  refine q_callV (As := [.int (nI j)]) (rest := []) B hP hD hS (cwt.fl (lw cI o F)) (cwV 1 B.hts gL_drafts_X3_waitsFor rfl rfl rfl (by decide +kernel) ⟨(Nat.le_of_ble_eq_true rfl), (Nat.le_of_ble_eq_true rfl)⟩) (q0 + 8) 3 hq rfl rfl rfl hl.1 rfl (Nat.le_of_ble_eq_true rfl) dL_drafts_15 ⟨(Nat.le_of_ble_eq_true rfl), (Nat.le_of_ble_eq_true rfl)⟩ (fun E ce q9 H locs hx => False.elim hx) (fun v u H locs hp hP hD hS => ?_)
  obtain rfl := hp
  have hP : va_P D vwCl (lw cI o F ++ wk) H := hP
  have hD : va_D A (lw cI o F ++ wk) := hD
  refine lv_istore (lv' := [(11, .int wt), (10, .int (nI 5)), (9, .int (nI (8 * j))), (0, .ref b), (1, .int (nI 4)), (2, .int (nI j)), (3, .int (nI xx)), (4, .int (nI yy)), (5, .ref (o 0)), (6, .ref (o 5)), (7, .ref (o 4)), (8, .ref (o 7))]) B.hx B.hb dL_drafts_18 hl (by decide) rfl (fun ls hl => ?_)
  refine lv_iload_n B.hx B.hb dL_drafts_20 rfl (lv_at hl 4 rfl) ?_
  refine lv_if_ne (tgt := 159) B.hx B.hb dL_drafts_21 (by decide) (fun _ => ?_) (fun c1 => False.elim (by exact absurd c1 (by decide)))
  refine lv_iload_n B.hx B.hb dL_drafts_159 rfl (lv_at hl 4 rfl) ?_
  refine lv_iconst (v := (nI 1)) B.hx B.hb dL_drafts_160 (by decide) ?_
  refine lv_icmp_ne (tgt := 279) B.hx B.hb dL_drafts_161 (by decide) (fun _ => ?_) (fun c2 => False.elim (by exact absurd c2 (by decide)))
  refine lv_iload_n B.hx B.hb dL_drafts_279 rfl (lv_at hl 4 rfl) ?_
  refine lv_iconst (v := (nI 2)) B.hx B.hb dL_drafts_280 (by decide) ?_
  refine lv_icmp_ne (tgt := 336) B.hx B.hb dL_drafts_281 (by decide) (fun _ => ?_) (fun c3 => False.elim (by exact absurd c3 (by decide)))
  refine lv_iload_n B.hx B.hb dL_drafts_336 rfl (lv_at hl 6 rfl) ?_
  refine lv_bipush (v := (nI 6)) B.hx B.hb dL_drafts_337 (by decide) ?_
  refine lv_irem B.hx B.hb dL_drafts_339 (by decide) ?_
  refine q_top (v2 := .int (nI (xx % 6))) (congrArg Value.int (pk_rem (by omega) (by omega) (by omega))) ?_
  refine lv_istore (lv' := [(12, .int (nI (xx % 6))), (11, .int wt), (10, .int (nI 5)), (9, .int (nI (8 * j))), (0, .ref b), (1, .int (nI 4)), (2, .int (nI j)), (3, .int (nI xx)), (4, .int (nI yy)), (5, .ref (o 0)), (6, .ref (o 5)), (7, .ref (o 4)), (8, .ref (o 7))]) B.hx B.hb dL_drafts_340 hl (by decide) rfl (fun ls hl => ?_)
  refine lv_iload_n B.hx B.hb dL_drafts_342 rfl (lv_at hl 5 rfl) ?_
  refine lv_iconst (v := (nI 3)) B.hx B.hb dL_drafts_343 (by decide) ?_
  refine lv_icmp_ne (tgt := 498) B.hx B.hb dL_drafts_344 (by decide) (fun _ => ?_) (fun c4 => False.elim (by exact absurd c4 (by decide)))
  refine lv_iload B.hx B.hb dL_drafts_498 (lv_at hl 2 rfl) ?_
  refine lv_if_le (tgt := 523) B.hx B.hb dL_drafts_500 (by decide) (fun c5 => False.elim (by exact absurd c5 (by decide))) (fun _ => ?_)
  refine lv_aload B.hx B.hb dL_drafts_503 (lv_at hl 12 rfl) ?_
  refine lv_iconst (v := (nI 2)) B.hx B.hb dL_drafts_505 (by decide) ?_
  refine lv_iload_n B.hx B.hb dL_drafts_506 rfl (lv_at hl 6 rfl) ?_
  refine lv_imul B.hx B.hb dL_drafts_507 ?_
  refine q_top (v2 := .int (nI (2 * j))) (congrArg Value.int (pk_mul _ _)) ?_
  refine lv_iconst (v := (nI 1)) B.hx B.hb dL_drafts_508 (by decide) ?_
  refine lv_iadd B.hx B.hb dL_drafts_509 ?_
  refine q_top (v2 := .int (nI (2 * j + 1))) (congrArg Value.int (nI_add _ _)) ?_
  refine q_iald (f := (F 7)) B hP 7 rfl (j := 2 * j + 1) rfl (by omega) (by decide) dL_drafts_510 ?_
  refine q_top (v2 := .int (nI m1)) (congrArg Value.int f71) ?_
  refine lv_iload B.hx B.hb dL_drafts_511 (lv_at hl 0 rfl) ?_
  refine q_callS (As := [.int (nI m1), .int (nI (xx % 6))]) (rest := []) B hP hD hS ((cl_has l D cI cZ cP m1 (xx % 6) (by omega) (by omega)).fr0 (lw cI o F ++ wk)) (cwS 2 B.hts gL_drafts_L_has rfl rfl rfl (by decide +kernel) ⟨(Nat.le_of_ble_eq_true rfl), (Nat.le_of_ble_eq_true rfl)⟩) rfl hl.1 rfl (Nat.le_of_ble_eq_true rfl) dL_drafts_513 ⟨(Nat.le_of_ble_eq_true rfl), (Nat.le_of_ble_eq_true rfl)⟩ (fun E ce q9 H locs hx => False.elim hx) (fun v u H locs hp hP hD hS => ?_)
  obtain rfl := hp
  have hP : va_P D vwCl (lw cI o F ++ wk) H := hP
  have hD : va_D A (lw cI o F ++ wk) := hD
  refine lv_if_ne (tgt := 523) B.hx B.hb dL_drafts_516 (by decide) (fun c6 => False.elim (by replace c6 := bI_t1 c6; exact absurd (hm.symm.trans c6) (by decide))) (fun _ => ?_)
  refine lv_iconst (v := (nI 1)) B.hx B.hb dL_drafts_519 (by decide) ?_
  refine lv_goto (tgt := 524) B.hx B.hb dL_drafts_520 (by decide) ?_
  refine lv_istore (lv' := [(13, .int (nI 1)), (12, .int (nI (xx % 6))), (11, .int wt), (10, .int (nI 5)), (9, .int (nI (8 * j))), (0, .ref b), (1, .int (nI 4)), (2, .int (nI j)), (3, .int (nI xx)), (4, .int (nI yy)), (5, .ref (o 0)), (6, .ref (o 5)), (7, .ref (o 4)), (8, .ref (o 7))]) B.hx B.hb dL_drafts_524 hl (by decide) rfl (fun ls hl => ?_)
  refine lv_aload B.hx B.hb dL_drafts_526 (lv_at hl 13 rfl) ?_
  refine lv_iconst (v := (nI 2)) B.hx B.hb dL_drafts_528 (by decide) ?_
  refine lv_iload_n B.hx B.hb dL_drafts_529 rfl (lv_at hl 7 rfl) ?_
  refine lv_imul B.hx B.hb dL_drafts_530 ?_
  refine q_top (v2 := .int (nI (2 * j))) (congrArg Value.int (pk_mul _ _)) ?_
  refine lv_iconst (v := (nI 1)) B.hx B.hb dL_drafts_531 (by decide) ?_
  refine lv_iadd B.hx B.hb dL_drafts_532 ?_
  refine q_top (v2 := .int (nI (2 * j + 1))) (congrArg Value.int (nI_add _ _)) ?_
  refine lv_dup2_11 B.hx B.hb dL_drafts_533 rfl rfl ?_
  refine q_iald (f := (F 7)) B hP 7 rfl (j := 2 * j + 1) rfl (by omega) (by decide) dL_drafts_534 ?_
  refine q_top (v2 := .int (nI m1)) (congrArg Value.int f71) ?_
  refine lv_iload B.hx B.hb dL_drafts_535 (lv_at hl 0 rfl) ?_
  refine lv_if_eq (tgt := 547) B.hx B.hb dL_drafts_537 (by decide) (fun c7 => False.elim (by exact absurd c7 (by decide))) (fun _ => ?_)
  refine lv_iconst (v := (nI 1)) B.hx B.hb dL_drafts_540 (by decide) ?_
  refine lv_iload B.hx B.hb dL_drafts_541 (lv_at hl 1 rfl) ?_
  refine lv_ishl B.hx B.hb dL_drafts_543 ?_
  refine q_top (v2 := .int (nI (2 ^ (xx % 6)))) (congrArg Value.int (msk_shl (by omega))) ?_
  refine lv_goto (tgt := 548) B.hx B.hb dL_drafts_544 (by decide) ?_
  refine lv_ior B.hx B.hb dL_drafts_548 ?_
  refine q_top (v2 := .int (nI (bs m1 (xx % 6)))) (congrArg Value.int (bs_or (by omega) (by omega))) ?_
  refine q_iast (f := (F 7)) B hP hD hS 7 rfl (j := 2 * j + 1) rfl (by omega) (by decide) dL_drafts_549 (w' := (lw cI o (va_up F 7 (upd (F 7) (2 * j + 1) (nI (bs m1 (xx % 6))))) ++ wk)) rfl (fun H locs hP hD hS => ?_)
  refine lv_aload_n B.hx B.hb dL_drafts_550 rfl (lv_at hl 5 rfl) ?_
  refine lv_iconst (v := (nI 4)) B.hx B.hb dL_drafts_551 (by decide) ?_
  refine lv_iload_n B.hx B.hb dL_drafts_552 rfl (lv_at hl 7 rfl) ?_
  refine lv_iload B.hx B.hb dL_drafts_553 (lv_at hl 1 rfl) ?_
  refine lv_iconst (v := (nI 0)) B.hx B.hb dL_drafts_555 (by decide) ?_
  refine q_callSX (As := [.ref b, .int (nI 4), .int (nI j), .int (nI (xx % 6)), .int (nI 0)]) (rest := []) B hP hD hS (ca.fl (lw cI o (va_up F 7 (upd (F 7) (2 * j + 1) (nI (bs m1 (xx % 6))))))) (vx_cwSW 5 B.hts gL_drafts_L_asks rfl rfl rfl (by decide +kernel) ⟨(Nat.le_of_ble_eq_true rfl), (Nat.le_of_ble_eq_true rfl)⟩) rfl hl.1 rfl (Nat.le_of_ble_eq_true rfl) dL_drafts_556 ⟨(Nat.le_of_ble_eq_true rfl), (Nat.le_of_ble_eq_true rfl)⟩ (fun E ce q9 H locs hx => False.elim hx) (fun v u H locs hp hP hD hS => ?_)
  obtain rfl := hp
  have hP : va_P D vwCl (lw cI o (va_up F 7 (upd (F 7) (2 * j + 1) (nI (bs m1 (xx % 6))))) ++ wk2) H := hP
  have hD : va_D A (lw cI o (va_up F 7 (upd (F 7) (2 * j + 1) (nI (bs m1 (xx % 6))))) ++ wk2) := hD
  refine lv_iload B.hx B.hb dL_drafts_559 (lv_at hl 0 rfl) ?_
  refine lv_if_eq (tgt := 578) B.hx B.hb dL_drafts_561 (by decide) (fun c8 => False.elim (by exact absurd c8 (by decide))) (fun _ => ?_)
  refine lv_aload B.hx B.hb dL_drafts_564 (lv_at hl 13 rfl) ?_
  refine lv_iconst (v := (nI 2)) B.hx B.hb dL_drafts_566 (by decide) ?_
  refine lv_iload_n B.hx B.hb dL_drafts_567 rfl (lv_at hl 7 rfl) ?_
  refine lv_imul B.hx B.hb dL_drafts_568 ?_
  refine q_top (v2 := .int (nI (2 * j))) (congrArg Value.int (pk_mul _ _)) ?_
  refine lv_iconst (v := (nI 1)) B.hx B.hb dL_drafts_569 (by decide) ?_
  refine lv_iadd B.hx B.hb dL_drafts_570 ?_
  refine q_top (v2 := .int (nI (2 * j + 1))) (congrArg Value.int (nI_add _ _)) ?_
  refine q_iald (f := (upd (F 7) (2 * j + 1) (nI (bs m1 (xx % 6))))) B hP 7 rfl (j := 2 * j + 1) rfl (by omega) (by decide) dL_drafts_571 ?_
  refine q_top (v2 := .int (nI (bs m1 (xx % 6)))) (congrArg Value.int pk_us) ?_
  refine q_callS (As := [.int (nI (bs m1 (xx % 6)))]) (rest := [.int (nI (pc8 (bs m1 (xx % 6))))]) B hP hD hS ((cl_size l D cI cZ cP (bs m1 (xx % 6)) (by omega)).fr0 (lw cI o (va_up F 7 (upd (F 7) (2 * j + 1) (nI (bs m1 (xx % 6))))) ++ wk2)) (cwS 1 B.hts gL_drafts_L_size rfl rfl rfl (by decide +kernel) ⟨(Nat.le_of_ble_eq_true rfl), (Nat.le_of_ble_eq_true rfl)⟩) rfl hl.1 rfl (Nat.le_of_ble_eq_true rfl) dL_drafts_572 ⟨(Nat.le_of_ble_eq_true rfl), (Nat.le_of_ble_eq_true rfl)⟩ (fun E ce q9 H locs hx => False.elim hx) (fun v u H locs hp hP hD hS => ?_)
  obtain rfl := hp
  have hP : va_P D vwCl (lw cI o (va_up F 7 (upd (F 7) (2 * j + 1) (nI (bs m1 (xx % 6))))) ++ wk2) H := hP
  have hD : va_D A (lw cI o (va_up F 7 (upd (F 7) (2 * j + 1) (nI (bs m1 (xx % 6))))) ++ wk2) := hD
  refine lv_goto (tgt := 580) B.hx B.hb dL_drafts_575 (by decide) ?_
  refine lv_icmp_ne (tgt := 628) B.hx B.hb dL_drafts_580 (by decide) (fun c9 => False.elim (by replace c9 := mt (nI_eq (by omega) (by omega)).mpr c9; omega)) (fun _ => ?_)
  refine lv_aload_n B.hx B.hb dL_drafts_583 rfl (lv_at hl 5 rfl) ?_
  refine lv_iload_n B.hx B.hb dL_drafts_584 rfl (lv_at hl 7 rfl) ?_
  refine q_callV (As := [.int (nI j)]) (rest := []) B hP hD hS (cs2.fl (lw cI o (va_up F 7 (upd (F 7) (2 * j + 1) (nI (bs m1 (xx % 6))))))) (cwV 1 B.hts gL_drafts_X3_step rfl rfl rfl (by decide +kernel) ⟨(Nat.le_of_ble_eq_true rfl), (Nat.le_of_ble_eq_true rfl)⟩) (q2 + 8) 3 hq2 rfl rfl rfl hl.1 rfl (Nat.le_of_ble_eq_true rfl) dL_drafts_585 ⟨(Nat.le_of_ble_eq_true rfl), (Nat.le_of_ble_eq_true rfl)⟩ (fun E ce q9 H locs hx => False.elim hx) (fun v u H locs hp hP hD hS => ?_)
  obtain rfl := hp
  have hP : va_P D vwCl (lw cI o (va_up F 7 (upd (F 7) (2 * j + 1) (nI (bs m1 (xx % 6))))) ++ wk2) H := hP
  have hD : va_D A (lw cI o (va_up F 7 (upd (F 7) (2 * j + 1) (nI (bs m1 (xx % 6))))) ++ wk2) := hD
  refine lv_iload B.hx B.hb dL_drafts_588 (lv_at hl 0 rfl) ?_
  refine lv_if_eq (tgt := 603) B.hx B.hb dL_drafts_590 (by decide) (fun c10 => False.elim (by exact absurd c10 (by decide))) (fun _ => ?_)
  refine lv_iload B.hx B.hb dL_drafts_593 (lv_at hl 3 rfl) ?_
  refine lv_iconst (v := (nI 5)) B.hx B.hb dL_drafts_595 (by decide) ?_
  refine lv_icmp_ne (tgt := 603) B.hx B.hb dL_drafts_596 (by decide) (fun c11 => False.elim (by exact absurd c11 (by decide))) (fun _ => ?_)
  refine lv_iconst (v := (nI 4)) B.hx B.hb dL_drafts_599 (by decide) ?_
  refine lv_goto (tgt := 605) B.hx B.hb dL_drafts_600 (by decide) ?_
  refine lv_icmp_ne (tgt := 628) B.hx B.hb dL_drafts_605 (by decide) (fun c12 => False.elim (by exact absurd c12 (by decide))) (fun _ => ?_)
  refine lv_iload B.hx B.hb dL_drafts_608 (lv_at hl 3 rfl) ?_
  refine lv_iconst (v := (nI 1)) B.hx B.hb dL_drafts_610 (by decide) ?_
  refine lv_icmp_ne (tgt := 624) B.hx B.hb dL_drafts_611 (by decide) (fun _ => ?_) (fun c13 => False.elim (by exact absurd c13 (by decide)))
  refine lv_iconst (v := (nI 1)) B.hx B.hb dL_drafts_624 (by decide) ?_
  refine lv_goto (tgt := 629) B.hx B.hb dL_drafts_625 (by decide) ?_
  exact q_zret B hr hP hD hS (by decide) (u := ()) rfl rfl (Nat.le_of_ble_eq_true rfl) (Nat.le_of_ble_eq_true rfl) dL_drafts_629

set_option maxHeartbeats 4000000 in
set_option maxRecDepth 100000 in
theorem ld4y1 (l : Launch) (D : va_G) (cI cZ cP : ClassId) (o : Nat → Nat) (F : Nat → Nat → Int32) (wk wk2 : va_W) {q0 b : Nat} {fs : List Value} (hq : wk[q0]? = some (b, .inr (3, fs))) {q2 : Nat} {fs2 : List Value} (hq2 : wk2[q2]? = some (b, .inr (3, fs2))) (j xx yy : Nat) (wt : Int32) (hj : j < 8) (hx : xx < 2 ^ 30) (hy : yy < 2 ^ 30) (m1 : Nat) (hm1 : m1 < 64) (f71 : F 7 (2 * j + 1) = nI m1) (hm : m1.testBit (xx % 6) = false) (cs : q_C l yX3_step wsX3_step ({ frames := 2, cells := 0, slots := 0, locals := 42 }) D cI cZ cP [.ref b, .int (nI j)] wk (S := Unit) (fun v _ => v = some (.int (nI 1))) (fun _ => wk) (fun _ => False) 0 0) (cwt : q_C l yX3_waitsFor wsX3_waitsFor ({ frames := 3, cells := 0, slots := 0, locals := 62 }) D cI cZ cP [.ref b, .int (nI j)] wk (S := Unit) (fun v _ => v = some (.int wt)) (fun _ => wk) (fun _ => False) 0 0) (ca : q_C l yL_asks wsL_asks ({ frames := 9, cells := 3, slots := 18, locals := 148 }) D cI cZ cP [.ref b, .int (nI 4), .int (nI j), .int (nI (xx % 6)), .int (nI 0)] wk (S := Unit) (fun v _ => v = some (.int (nI (pc8 (bs m1 (xx % 6)))))) (fun _ => wk2) (fun _ => False) 3 18) (cs2 : q_C l yX3_step wsX3_step ({ frames := 2, cells := 0, slots := 0, locals := 42 }) D cI cZ cP [.ref b, .int (nI j)] wk2 (S := Unit) (fun v _ => v = some (.int (nI 1))) (fun _ => wk2) (fun _ => False) 0 0) (cw2 : q_C l yX3_waitsFor wsX3_waitsFor ({ frames := 3, cells := 0, slots := 0, locals := 62 }) D cI cZ cP [.ref b, .int (nI j)] wk2 (S := Unit) (fun v _ => v = some (.int wt)) (fun _ => wk2) (fun _ => False) 0 0) : q_C l yL_drafts wsL_drafts ({ frames := 11, cells := 3, slots := 18, locals := 196 }) D cI cZ cP [.ref b, .int (nI 4), .int (nI j), .int (nI xx), .int (nI yy), .ref (o 0), .ref (o 5), .ref (o 4), .ref (o 7)] (lw cI o F ++ wk) (S := Unit) (fun v _ => v = some (.int (nI 1))) (fun _ => (lw cI o (va_up F 7 (upd (F 7) (2 * j + 1) (nI (bs m1 (xx % 6))))) ++ wk2)) (fun _ => False) 3 18 := by
  refine q_of (cc := cL_drafts) (maxL := 14) (ret := (some .boolean)) (by decide +kernel) rfl (Nat.le_of_ble_eq_true rfl) ?_
  intro p e s m below meth c A ls B hr htb hmn hP hD hS hl
  have hl : lv_has ls 14 [(0, .ref b), (1, .int (nI 4)), (2, .int (nI j)), (3, .int (nI xx)), (4, .int (nI yy)), (5, .ref (o 0)), (6, .ref (o 5)), (7, .ref (o 4)), (8, .ref (o 7))] := hl
  have hbs : bs m1 (xx % 6) < 64 := bs_64 m1 hm1 (xx % 6) (by omega)
  have hp8 := pc8_le (bs m1 (xx % 6))
  refine lv_bipush (v := (nI 8)) B.hx B.hb dL_drafts_0 (by decide) ?_
  refine lv_iload_n B.hx B.hb dL_drafts_2 rfl (lv_at hl 2 rfl) ?_
  refine lv_imul B.hx B.hb dL_drafts_3 ?_
  refine q_top (v2 := .int (nI (8 * j))) (congrArg Value.int (pk_mul _ _)) ?_
  refine lv_istore (lv' := [(9, .int (nI (8 * j))), (0, .ref b), (1, .int (nI 4)), (2, .int (nI j)), (3, .int (nI xx)), (4, .int (nI yy)), (5, .ref (o 0)), (6, .ref (o 5)), (7, .ref (o 4)), (8, .ref (o 7))]) B.hx B.hb dL_drafts_4 hl (by decide) rfl (fun ls hl => ?_)
  refine lv_aload_n B.hx B.hb dL_drafts_6 rfl (lv_at hl 1 rfl) ?_
  refine lv_iload_n B.hx B.hb dL_drafts_7 rfl (lv_at hl 3 rfl) ?_
  refine q_callV (As := [.int (nI j)]) (rest := []) B hP hD hS (cs.fl (lw cI o F)) (cwV 1 B.hts gL_drafts_X3_step rfl rfl rfl (by decide +kernel) ⟨(Nat.le_of_ble_eq_true rfl), (Nat.le_of_ble_eq_true rfl)⟩) (q0 + 8) 3 hq rfl rfl rfl hl.1 rfl (Nat.le_of_ble_eq_true rfl) dL_drafts_8 ⟨(Nat.le_of_ble_eq_true rfl), (Nat.le_of_ble_eq_true rfl)⟩ (fun E ce q9 H locs hx => False.elim hx) (fun v u H locs hp hP hD hS => ?_)
  obtain rfl := hp
  have hP : va_P D vwCl (lw cI o F ++ wk) H := hP
  have hD : va_D A (lw cI o F ++ wk) := hD
  refine lv_istore (lv' := [(10, .int (nI 1)), (9, .int (nI (8 * j))), (0, .ref b), (1, .int (nI 4)), (2, .int (nI j)), (3, .int (nI xx)), (4, .int (nI yy)), (5, .ref (o 0)), (6, .ref (o 5)), (7, .ref (o 4)), (8, .ref (o 7))]) B.hx B.hb dL_drafts_11 hl (by decide) rfl (fun ls hl => ?_)
  refine lv_aload_n B.hx B.hb dL_drafts_13 rfl (lv_at hl 2 rfl) ?_
  refine lv_iload_n B.hx B.hb dL_drafts_14 rfl (lv_at hl 4 rfl) ?_
  refine q_callV (As := [.int (nI j)]) (rest := []) B hP hD hS (cwt.fl (lw cI o F)) (cwV 1 B.hts gL_drafts_X3_waitsFor rfl rfl rfl (by decide +kernel) ⟨(Nat.le_of_ble_eq_true rfl), (Nat.le_of_ble_eq_true rfl)⟩) (q0 + 8) 3 hq rfl rfl rfl hl.1 rfl (Nat.le_of_ble_eq_true rfl) dL_drafts_15 ⟨(Nat.le_of_ble_eq_true rfl), (Nat.le_of_ble_eq_true rfl)⟩ (fun E ce q9 H locs hx => False.elim hx) (fun v u H locs hp hP hD hS => ?_)
  obtain rfl := hp
  have hP : va_P D vwCl (lw cI o F ++ wk) H := hP
  have hD : va_D A (lw cI o F ++ wk) := hD
  refine lv_istore (lv' := [(11, .int wt), (10, .int (nI 1)), (9, .int (nI (8 * j))), (0, .ref b), (1, .int (nI 4)), (2, .int (nI j)), (3, .int (nI xx)), (4, .int (nI yy)), (5, .ref (o 0)), (6, .ref (o 5)), (7, .ref (o 4)), (8, .ref (o 7))]) B.hx B.hb dL_drafts_18 hl (by decide) rfl (fun ls hl => ?_)
  refine lv_iload_n B.hx B.hb dL_drafts_20 rfl (lv_at hl 4 rfl) ?_
  refine lv_if_ne (tgt := 159) B.hx B.hb dL_drafts_21 (by decide) (fun _ => ?_) (fun c1 => False.elim (by exact absurd c1 (by decide)))
  refine lv_iload_n B.hx B.hb dL_drafts_159 rfl (lv_at hl 4 rfl) ?_
  refine lv_iconst (v := (nI 1)) B.hx B.hb dL_drafts_160 (by decide) ?_
  refine lv_icmp_ne (tgt := 279) B.hx B.hb dL_drafts_161 (by decide) (fun _ => ?_) (fun c2 => False.elim (by exact absurd c2 (by decide)))
  refine lv_iload_n B.hx B.hb dL_drafts_279 rfl (lv_at hl 4 rfl) ?_
  refine lv_iconst (v := (nI 2)) B.hx B.hb dL_drafts_280 (by decide) ?_
  refine lv_icmp_ne (tgt := 336) B.hx B.hb dL_drafts_281 (by decide) (fun _ => ?_) (fun c3 => False.elim (by exact absurd c3 (by decide)))
  refine lv_iload_n B.hx B.hb dL_drafts_336 rfl (lv_at hl 6 rfl) ?_
  refine lv_bipush (v := (nI 6)) B.hx B.hb dL_drafts_337 (by decide) ?_
  refine lv_irem B.hx B.hb dL_drafts_339 (by decide) ?_
  refine q_top (v2 := .int (nI (xx % 6))) (congrArg Value.int (pk_rem (by omega) (by omega) (by omega))) ?_
  refine lv_istore (lv' := [(12, .int (nI (xx % 6))), (11, .int wt), (10, .int (nI 1)), (9, .int (nI (8 * j))), (0, .ref b), (1, .int (nI 4)), (2, .int (nI j)), (3, .int (nI xx)), (4, .int (nI yy)), (5, .ref (o 0)), (6, .ref (o 5)), (7, .ref (o 4)), (8, .ref (o 7))]) B.hx B.hb dL_drafts_340 hl (by decide) rfl (fun ls hl => ?_)
  refine lv_iload_n B.hx B.hb dL_drafts_342 rfl (lv_at hl 5 rfl) ?_
  refine lv_iconst (v := (nI 3)) B.hx B.hb dL_drafts_343 (by decide) ?_
  refine lv_icmp_ne (tgt := 498) B.hx B.hb dL_drafts_344 (by decide) (fun _ => ?_) (fun c4 => False.elim (by exact absurd c4 (by decide)))
  refine lv_iload B.hx B.hb dL_drafts_498 (lv_at hl 2 rfl) ?_
  refine lv_if_le (tgt := 523) B.hx B.hb dL_drafts_500 (by decide) (fun c5 => False.elim (by exact absurd c5 (by decide))) (fun _ => ?_)
  refine lv_aload B.hx B.hb dL_drafts_503 (lv_at hl 12 rfl) ?_
  refine lv_iconst (v := (nI 2)) B.hx B.hb dL_drafts_505 (by decide) ?_
  refine lv_iload_n B.hx B.hb dL_drafts_506 rfl (lv_at hl 6 rfl) ?_
  refine lv_imul B.hx B.hb dL_drafts_507 ?_
  refine q_top (v2 := .int (nI (2 * j))) (congrArg Value.int (pk_mul _ _)) ?_
  refine lv_iconst (v := (nI 1)) B.hx B.hb dL_drafts_508 (by decide) ?_
  refine lv_iadd B.hx B.hb dL_drafts_509 ?_
  refine q_top (v2 := .int (nI (2 * j + 1))) (congrArg Value.int (nI_add _ _)) ?_
  refine q_iald (f := (F 7)) B hP 7 rfl (j := 2 * j + 1) rfl (by omega) (by decide) dL_drafts_510 ?_
  refine q_top (v2 := .int (nI m1)) (congrArg Value.int f71) ?_
  refine lv_iload B.hx B.hb dL_drafts_511 (lv_at hl 0 rfl) ?_
  refine q_callS (As := [.int (nI m1), .int (nI (xx % 6))]) (rest := []) B hP hD hS ((cl_has l D cI cZ cP m1 (xx % 6) (by omega) (by omega)).fr0 (lw cI o F ++ wk)) (cwS 2 B.hts gL_drafts_L_has rfl rfl rfl (by decide +kernel) ⟨(Nat.le_of_ble_eq_true rfl), (Nat.le_of_ble_eq_true rfl)⟩) rfl hl.1 rfl (Nat.le_of_ble_eq_true rfl) dL_drafts_513 ⟨(Nat.le_of_ble_eq_true rfl), (Nat.le_of_ble_eq_true rfl)⟩ (fun E ce q9 H locs hx => False.elim hx) (fun v u H locs hp hP hD hS => ?_)
  obtain rfl := hp
  have hP : va_P D vwCl (lw cI o F ++ wk) H := hP
  have hD : va_D A (lw cI o F ++ wk) := hD
  refine lv_if_ne (tgt := 523) B.hx B.hb dL_drafts_516 (by decide) (fun c6 => False.elim (by replace c6 := bI_t1 c6; exact absurd (hm.symm.trans c6) (by decide))) (fun _ => ?_)
  refine lv_iconst (v := (nI 1)) B.hx B.hb dL_drafts_519 (by decide) ?_
  refine lv_goto (tgt := 524) B.hx B.hb dL_drafts_520 (by decide) ?_
  refine lv_istore (lv' := [(13, .int (nI 1)), (12, .int (nI (xx % 6))), (11, .int wt), (10, .int (nI 1)), (9, .int (nI (8 * j))), (0, .ref b), (1, .int (nI 4)), (2, .int (nI j)), (3, .int (nI xx)), (4, .int (nI yy)), (5, .ref (o 0)), (6, .ref (o 5)), (7, .ref (o 4)), (8, .ref (o 7))]) B.hx B.hb dL_drafts_524 hl (by decide) rfl (fun ls hl => ?_)
  refine lv_aload B.hx B.hb dL_drafts_526 (lv_at hl 13 rfl) ?_
  refine lv_iconst (v := (nI 2)) B.hx B.hb dL_drafts_528 (by decide) ?_
  refine lv_iload_n B.hx B.hb dL_drafts_529 rfl (lv_at hl 7 rfl) ?_
  refine lv_imul B.hx B.hb dL_drafts_530 ?_
  refine q_top (v2 := .int (nI (2 * j))) (congrArg Value.int (pk_mul _ _)) ?_
  refine lv_iconst (v := (nI 1)) B.hx B.hb dL_drafts_531 (by decide) ?_
  refine lv_iadd B.hx B.hb dL_drafts_532 ?_
  refine q_top (v2 := .int (nI (2 * j + 1))) (congrArg Value.int (nI_add _ _)) ?_
  refine lv_dup2_11 B.hx B.hb dL_drafts_533 rfl rfl ?_
  refine q_iald (f := (F 7)) B hP 7 rfl (j := 2 * j + 1) rfl (by omega) (by decide) dL_drafts_534 ?_
  refine q_top (v2 := .int (nI m1)) (congrArg Value.int f71) ?_
  refine lv_iload B.hx B.hb dL_drafts_535 (lv_at hl 0 rfl) ?_
  refine lv_if_eq (tgt := 547) B.hx B.hb dL_drafts_537 (by decide) (fun c7 => False.elim (by exact absurd c7 (by decide))) (fun _ => ?_)
  refine lv_iconst (v := (nI 1)) B.hx B.hb dL_drafts_540 (by decide) ?_
  refine lv_iload B.hx B.hb dL_drafts_541 (lv_at hl 1 rfl) ?_
  refine lv_ishl B.hx B.hb dL_drafts_543 ?_
  refine q_top (v2 := .int (nI (2 ^ (xx % 6)))) (congrArg Value.int (msk_shl (by omega))) ?_
  refine lv_goto (tgt := 548) B.hx B.hb dL_drafts_544 (by decide) ?_
  refine lv_ior B.hx B.hb dL_drafts_548 ?_
  refine q_top (v2 := .int (nI (bs m1 (xx % 6)))) (congrArg Value.int (bs_or (by omega) (by omega))) ?_
  refine q_iast (f := (F 7)) B hP hD hS 7 rfl (j := 2 * j + 1) rfl (by omega) (by decide) dL_drafts_549 (w' := (lw cI o (va_up F 7 (upd (F 7) (2 * j + 1) (nI (bs m1 (xx % 6))))) ++ wk)) rfl (fun H locs hP hD hS => ?_)
  refine lv_aload_n B.hx B.hb dL_drafts_550 rfl (lv_at hl 5 rfl) ?_
  refine lv_iconst (v := (nI 4)) B.hx B.hb dL_drafts_551 (by decide) ?_
  refine lv_iload_n B.hx B.hb dL_drafts_552 rfl (lv_at hl 7 rfl) ?_
  refine lv_iload B.hx B.hb dL_drafts_553 (lv_at hl 1 rfl) ?_
  refine lv_iconst (v := (nI 0)) B.hx B.hb dL_drafts_555 (by decide) ?_
  refine q_callSX (As := [.ref b, .int (nI 4), .int (nI j), .int (nI (xx % 6)), .int (nI 0)]) (rest := []) B hP hD hS (ca.fl (lw cI o (va_up F 7 (upd (F 7) (2 * j + 1) (nI (bs m1 (xx % 6))))))) (vx_cwSW 5 B.hts gL_drafts_L_asks rfl rfl rfl (by decide +kernel) ⟨(Nat.le_of_ble_eq_true rfl), (Nat.le_of_ble_eq_true rfl)⟩) rfl hl.1 rfl (Nat.le_of_ble_eq_true rfl) dL_drafts_556 ⟨(Nat.le_of_ble_eq_true rfl), (Nat.le_of_ble_eq_true rfl)⟩ (fun E ce q9 H locs hx => False.elim hx) (fun v u H locs hp hP hD hS => ?_)
  obtain rfl := hp
  have hP : va_P D vwCl (lw cI o (va_up F 7 (upd (F 7) (2 * j + 1) (nI (bs m1 (xx % 6))))) ++ wk2) H := hP
  have hD : va_D A (lw cI o (va_up F 7 (upd (F 7) (2 * j + 1) (nI (bs m1 (xx % 6))))) ++ wk2) := hD
  refine lv_iload B.hx B.hb dL_drafts_559 (lv_at hl 0 rfl) ?_
  refine lv_if_eq (tgt := 578) B.hx B.hb dL_drafts_561 (by decide) (fun c8 => False.elim (by exact absurd c8 (by decide))) (fun _ => ?_)
  refine lv_aload B.hx B.hb dL_drafts_564 (lv_at hl 13 rfl) ?_
  refine lv_iconst (v := (nI 2)) B.hx B.hb dL_drafts_566 (by decide) ?_
  refine lv_iload_n B.hx B.hb dL_drafts_567 rfl (lv_at hl 7 rfl) ?_
  refine lv_imul B.hx B.hb dL_drafts_568 ?_
  refine q_top (v2 := .int (nI (2 * j))) (congrArg Value.int (pk_mul _ _)) ?_
  refine lv_iconst (v := (nI 1)) B.hx B.hb dL_drafts_569 (by decide) ?_
  refine lv_iadd B.hx B.hb dL_drafts_570 ?_
  refine q_top (v2 := .int (nI (2 * j + 1))) (congrArg Value.int (nI_add _ _)) ?_
  refine q_iald (f := (upd (F 7) (2 * j + 1) (nI (bs m1 (xx % 6))))) B hP 7 rfl (j := 2 * j + 1) rfl (by omega) (by decide) dL_drafts_571 ?_
  refine q_top (v2 := .int (nI (bs m1 (xx % 6)))) (congrArg Value.int pk_us) ?_
  refine q_callS (As := [.int (nI (bs m1 (xx % 6)))]) (rest := [.int (nI (pc8 (bs m1 (xx % 6))))]) B hP hD hS ((cl_size l D cI cZ cP (bs m1 (xx % 6)) (by omega)).fr0 (lw cI o (va_up F 7 (upd (F 7) (2 * j + 1) (nI (bs m1 (xx % 6))))) ++ wk2)) (cwS 1 B.hts gL_drafts_L_size rfl rfl rfl (by decide +kernel) ⟨(Nat.le_of_ble_eq_true rfl), (Nat.le_of_ble_eq_true rfl)⟩) rfl hl.1 rfl (Nat.le_of_ble_eq_true rfl) dL_drafts_572 ⟨(Nat.le_of_ble_eq_true rfl), (Nat.le_of_ble_eq_true rfl)⟩ (fun E ce q9 H locs hx => False.elim hx) (fun v u H locs hp hP hD hS => ?_)
  obtain rfl := hp
  have hP : va_P D vwCl (lw cI o (va_up F 7 (upd (F 7) (2 * j + 1) (nI (bs m1 (xx % 6))))) ++ wk2) H := hP
  have hD : va_D A (lw cI o (va_up F 7 (upd (F 7) (2 * j + 1) (nI (bs m1 (xx % 6))))) ++ wk2) := hD
  refine lv_goto (tgt := 580) B.hx B.hb dL_drafts_575 (by decide) ?_
  refine lv_icmp_ne (tgt := 628) B.hx B.hb dL_drafts_580 (by decide) (fun c9 => False.elim (by replace c9 := mt (nI_eq (by omega) (by omega)).mpr c9; omega)) (fun _ => ?_)
  refine lv_aload_n B.hx B.hb dL_drafts_583 rfl (lv_at hl 5 rfl) ?_
  refine lv_iload_n B.hx B.hb dL_drafts_584 rfl (lv_at hl 7 rfl) ?_
  refine q_callV (As := [.int (nI j)]) (rest := []) B hP hD hS (cs2.fl (lw cI o (va_up F 7 (upd (F 7) (2 * j + 1) (nI (bs m1 (xx % 6))))))) (cwV 1 B.hts gL_drafts_X3_step rfl rfl rfl (by decide +kernel) ⟨(Nat.le_of_ble_eq_true rfl), (Nat.le_of_ble_eq_true rfl)⟩) (q2 + 8) 3 hq2 rfl rfl rfl hl.1 rfl (Nat.le_of_ble_eq_true rfl) dL_drafts_585 ⟨(Nat.le_of_ble_eq_true rfl), (Nat.le_of_ble_eq_true rfl)⟩ (fun E ce q9 H locs hx => False.elim hx) (fun v u H locs hp hP hD hS => ?_)
  obtain rfl := hp
  have hP : va_P D vwCl (lw cI o (va_up F 7 (upd (F 7) (2 * j + 1) (nI (bs m1 (xx % 6))))) ++ wk2) H := hP
  have hD : va_D A (lw cI o (va_up F 7 (upd (F 7) (2 * j + 1) (nI (bs m1 (xx % 6))))) ++ wk2) := hD
  refine lv_iload B.hx B.hb dL_drafts_588 (lv_at hl 0 rfl) ?_
  refine lv_if_eq (tgt := 603) B.hx B.hb dL_drafts_590 (by decide) (fun c10 => False.elim (by exact absurd c10 (by decide))) (fun _ => ?_)
  refine lv_iload B.hx B.hb dL_drafts_593 (lv_at hl 3 rfl) ?_
  refine lv_iconst (v := (nI 5)) B.hx B.hb dL_drafts_595 (by decide) ?_
  refine lv_icmp_ne (tgt := 603) B.hx B.hb dL_drafts_596 (by decide) (fun _ => ?_) (fun c11 => False.elim (by exact absurd c11 (by decide)))
  refine lv_iload B.hx B.hb dL_drafts_603 (lv_at hl 3 rfl) ?_
  refine lv_icmp_ne (tgt := 628) B.hx B.hb dL_drafts_605 (by decide) (fun c12 => False.elim (by exact absurd c12 (by decide))) (fun _ => ?_)
  refine lv_iload B.hx B.hb dL_drafts_608 (lv_at hl 3 rfl) ?_
  refine lv_iconst (v := (nI 1)) B.hx B.hb dL_drafts_610 (by decide) ?_
  refine lv_icmp_ne (tgt := 624) B.hx B.hb dL_drafts_611 (by decide) (fun c13 => False.elim (by exact absurd c13 (by decide))) (fun _ => ?_)
  refine lv_aload_n B.hx B.hb dL_drafts_614 rfl (lv_at hl 5 rfl) ?_
  refine lv_iload_n B.hx B.hb dL_drafts_615 rfl (lv_at hl 7 rfl) ?_
  refine q_callV (As := [.int (nI j)]) (rest := []) B hP hD hS (cw2.fl (lw cI o (va_up F 7 (upd (F 7) (2 * j + 1) (nI (bs m1 (xx % 6))))))) (cwV 1 B.hts gL_drafts_X3_waitsFor rfl rfl rfl (by decide +kernel) ⟨(Nat.le_of_ble_eq_true rfl), (Nat.le_of_ble_eq_true rfl)⟩) (q2 + 8) 3 hq2 rfl rfl rfl hl.1 rfl (Nat.le_of_ble_eq_true rfl) dL_drafts_616 ⟨(Nat.le_of_ble_eq_true rfl), (Nat.le_of_ble_eq_true rfl)⟩ (fun E ce q9 H locs hx => False.elim hx) (fun v u H locs hp hP hD hS => ?_)
  obtain rfl := hp
  have hP : va_P D vwCl (lw cI o (va_up F 7 (upd (F 7) (2 * j + 1) (nI (bs m1 (xx % 6))))) ++ wk2) H := hP
  have hD : va_D A (lw cI o (va_up F 7 (upd (F 7) (2 * j + 1) (nI (bs m1 (xx % 6))))) ++ wk2) := hD
  refine lv_iload B.hx B.hb dL_drafts_619 (lv_at hl 2 rfl) ?_
  refine lv_icmp_ne (tgt := 628) B.hx B.hb dL_drafts_621 (by decide) (fun c14 => False.elim (by exact c14 rfl)) (fun _ => ?_)
  refine lv_iconst (v := (nI 1)) B.hx B.hb dL_drafts_624 (by decide) ?_
  refine lv_goto (tgt := 629) B.hx B.hb dL_drafts_625 (by decide) ?_
  exact q_zret B hr hP hD hS (by decide) (u := ()) rfl rfl (Nat.le_of_ble_eq_true rfl) (Nat.le_of_ble_eq_true rfl) dL_drafts_629

set_option maxHeartbeats 4000000 in
set_option maxRecDepth 100000 in
theorem ld4y (l : Launch) (D : va_G) (cI cZ cP : ClassId) (o : Nat → Nat) (F : Nat → Nat → Int32) (wk wk2 : va_W) {q0 b : Nat} {fs : List Value} (hq : wk[q0]? = some (b, .inr (3, fs))) {q2 : Nat} {fs2 : List Value} (hq2 : wk2[q2]? = some (b, .inr (3, fs2))) (j xx yy : Nat) (wt : Int32) (hj : j < 8) (hx : xx < 2 ^ 30) (hy : yy < 2 ^ 30) (s0 : Nat) (h2 : 2 ≤ s0) (h4 : s0 ≤ 4) (m1 : Nat) (hm1 : m1 < 64) (f71 : F 7 (2 * j + 1) = nI m1) (hm : m1.testBit (xx % 6) = false) (cs : q_C l yX3_step wsX3_step ({ frames := 2, cells := 0, slots := 0, locals := 42 }) D cI cZ cP [.ref b, .int (nI j)] wk (S := Unit) (fun v _ => v = some (.int (nI s0))) (fun _ => wk) (fun _ => False) 0 0) (cwt : q_C l yX3_waitsFor wsX3_waitsFor ({ frames := 3, cells := 0, slots := 0, locals := 62 }) D cI cZ cP [.ref b, .int (nI j)] wk (S := Unit) (fun v _ => v = some (.int wt)) (fun _ => wk) (fun _ => False) 0 0) (ca : q_C l yL_asks wsL_asks ({ frames := 9, cells := 3, slots := 18, locals := 148 }) D cI cZ cP [.ref b, .int (nI 4), .int (nI j), .int (nI (xx % 6)), .int (nI 0)] wk (S := Unit) (fun v _ => v = some (.int (nI (pc8 (bs m1 (xx % 6)))))) (fun _ => wk2) (fun _ => False) 3 18) (cs2 : q_C l yX3_step wsX3_step ({ frames := 2, cells := 0, slots := 0, locals := 42 }) D cI cZ cP [.ref b, .int (nI j)] wk2 (S := Unit) (fun v _ => v = some (.int (nI s0))) (fun _ => wk2) (fun _ => False) 0 0) : q_C l yL_drafts wsL_drafts ({ frames := 11, cells := 3, slots := 18, locals := 196 }) D cI cZ cP [.ref b, .int (nI 4), .int (nI j), .int (nI xx), .int (nI yy), .ref (o 0), .ref (o 5), .ref (o 4), .ref (o 7)] (lw cI o F ++ wk) (S := Unit) (fun v _ => v = some (.int (nI 1))) (fun _ => (lw cI o (va_up F 7 (upd (F 7) (2 * j + 1) (nI (bs m1 (xx % 6))))) ++ wk2)) (fun _ => False) 3 18 := by
  refine q_of (cc := cL_drafts) (maxL := 14) (ret := (some .boolean)) (by decide +kernel) rfl (Nat.le_of_ble_eq_true rfl) ?_
  intro p e s m below meth c A ls B hr htb hmn hP hD hS hl
  have hl : lv_has ls 14 [(0, .ref b), (1, .int (nI 4)), (2, .int (nI j)), (3, .int (nI xx)), (4, .int (nI yy)), (5, .ref (o 0)), (6, .ref (o 5)), (7, .ref (o 4)), (8, .ref (o 7))] := hl
  have hbs : bs m1 (xx % 6) < 64 := bs_64 m1 hm1 (xx % 6) (by omega)
  have hp8 := pc8_le (bs m1 (xx % 6))
  refine lv_bipush (v := (nI 8)) B.hx B.hb dL_drafts_0 (by decide) ?_
  refine lv_iload_n B.hx B.hb dL_drafts_2 rfl (lv_at hl 2 rfl) ?_
  refine lv_imul B.hx B.hb dL_drafts_3 ?_
  refine q_top (v2 := .int (nI (8 * j))) (congrArg Value.int (pk_mul _ _)) ?_
  refine lv_istore (lv' := [(9, .int (nI (8 * j))), (0, .ref b), (1, .int (nI 4)), (2, .int (nI j)), (3, .int (nI xx)), (4, .int (nI yy)), (5, .ref (o 0)), (6, .ref (o 5)), (7, .ref (o 4)), (8, .ref (o 7))]) B.hx B.hb dL_drafts_4 hl (by decide) rfl (fun ls hl => ?_)
  refine lv_aload_n B.hx B.hb dL_drafts_6 rfl (lv_at hl 1 rfl) ?_
  refine lv_iload_n B.hx B.hb dL_drafts_7 rfl (lv_at hl 3 rfl) ?_
  refine q_callV (As := [.int (nI j)]) (rest := []) B hP hD hS (cs.fl (lw cI o F)) (cwV 1 B.hts gL_drafts_X3_step rfl rfl rfl (by decide +kernel) ⟨(Nat.le_of_ble_eq_true rfl), (Nat.le_of_ble_eq_true rfl)⟩) (q0 + 8) 3 hq rfl rfl rfl hl.1 rfl (Nat.le_of_ble_eq_true rfl) dL_drafts_8 ⟨(Nat.le_of_ble_eq_true rfl), (Nat.le_of_ble_eq_true rfl)⟩ (fun E ce q9 H locs hx => False.elim hx) (fun v u H locs hp hP hD hS => ?_)
  obtain rfl := hp
  have hP : va_P D vwCl (lw cI o F ++ wk) H := hP
  have hD : va_D A (lw cI o F ++ wk) := hD
  refine lv_istore (lv' := [(10, .int (nI s0)), (9, .int (nI (8 * j))), (0, .ref b), (1, .int (nI 4)), (2, .int (nI j)), (3, .int (nI xx)), (4, .int (nI yy)), (5, .ref (o 0)), (6, .ref (o 5)), (7, .ref (o 4)), (8, .ref (o 7))]) B.hx B.hb dL_drafts_11 hl (by decide) rfl (fun ls hl => ?_)
  refine lv_aload_n B.hx B.hb dL_drafts_13 rfl (lv_at hl 2 rfl) ?_
  refine lv_iload_n B.hx B.hb dL_drafts_14 rfl (lv_at hl 4 rfl) ?_
  refine q_callV (As := [.int (nI j)]) (rest := []) B hP hD hS (cwt.fl (lw cI o F)) (cwV 1 B.hts gL_drafts_X3_waitsFor rfl rfl rfl (by decide +kernel) ⟨(Nat.le_of_ble_eq_true rfl), (Nat.le_of_ble_eq_true rfl)⟩) (q0 + 8) 3 hq rfl rfl rfl hl.1 rfl (Nat.le_of_ble_eq_true rfl) dL_drafts_15 ⟨(Nat.le_of_ble_eq_true rfl), (Nat.le_of_ble_eq_true rfl)⟩ (fun E ce q9 H locs hx => False.elim hx) (fun v u H locs hp hP hD hS => ?_)
  obtain rfl := hp
  have hP : va_P D vwCl (lw cI o F ++ wk) H := hP
  have hD : va_D A (lw cI o F ++ wk) := hD
  refine lv_istore (lv' := [(11, .int wt), (10, .int (nI s0)), (9, .int (nI (8 * j))), (0, .ref b), (1, .int (nI 4)), (2, .int (nI j)), (3, .int (nI xx)), (4, .int (nI yy)), (5, .ref (o 0)), (6, .ref (o 5)), (7, .ref (o 4)), (8, .ref (o 7))]) B.hx B.hb dL_drafts_18 hl (by decide) rfl (fun ls hl => ?_)
  refine lv_iload_n B.hx B.hb dL_drafts_20 rfl (lv_at hl 4 rfl) ?_
  refine lv_if_ne (tgt := 159) B.hx B.hb dL_drafts_21 (by decide) (fun _ => ?_) (fun c1 => False.elim (by exact absurd c1 (by decide)))
  refine lv_iload_n B.hx B.hb dL_drafts_159 rfl (lv_at hl 4 rfl) ?_
  refine lv_iconst (v := (nI 1)) B.hx B.hb dL_drafts_160 (by decide) ?_
  refine lv_icmp_ne (tgt := 279) B.hx B.hb dL_drafts_161 (by decide) (fun _ => ?_) (fun c2 => False.elim (by exact absurd c2 (by decide)))
  refine lv_iload_n B.hx B.hb dL_drafts_279 rfl (lv_at hl 4 rfl) ?_
  refine lv_iconst (v := (nI 2)) B.hx B.hb dL_drafts_280 (by decide) ?_
  refine lv_icmp_ne (tgt := 336) B.hx B.hb dL_drafts_281 (by decide) (fun _ => ?_) (fun c3 => False.elim (by exact absurd c3 (by decide)))
  refine lv_iload_n B.hx B.hb dL_drafts_336 rfl (lv_at hl 6 rfl) ?_
  refine lv_bipush (v := (nI 6)) B.hx B.hb dL_drafts_337 (by decide) ?_
  refine lv_irem B.hx B.hb dL_drafts_339 (by decide) ?_
  refine q_top (v2 := .int (nI (xx % 6))) (congrArg Value.int (pk_rem (by omega) (by omega) (by omega))) ?_
  refine lv_istore (lv' := [(12, .int (nI (xx % 6))), (11, .int wt), (10, .int (nI s0)), (9, .int (nI (8 * j))), (0, .ref b), (1, .int (nI 4)), (2, .int (nI j)), (3, .int (nI xx)), (4, .int (nI yy)), (5, .ref (o 0)), (6, .ref (o 5)), (7, .ref (o 4)), (8, .ref (o 7))]) B.hx B.hb dL_drafts_340 hl (by decide) rfl (fun ls hl => ?_)
  refine lv_iload_n B.hx B.hb dL_drafts_342 rfl (lv_at hl 5 rfl) ?_
  refine lv_iconst (v := (nI 3)) B.hx B.hb dL_drafts_343 (by decide) ?_
  refine lv_icmp_ne (tgt := 498) B.hx B.hb dL_drafts_344 (by decide) (fun _ => ?_) (fun c4 => False.elim (by exact absurd c4 (by decide)))
  refine lv_iload B.hx B.hb dL_drafts_498 (lv_at hl 2 rfl) ?_
  refine lv_if_le (tgt := 523) B.hx B.hb dL_drafts_500 (by decide) (fun c5 => False.elim (by replace c5 := (nI_le0 (by omega)).mp c5; omega)) (fun _ => ?_)
  refine lv_aload B.hx B.hb dL_drafts_503 (lv_at hl 12 rfl) ?_
  refine lv_iconst (v := (nI 2)) B.hx B.hb dL_drafts_505 (by decide) ?_
  refine lv_iload_n B.hx B.hb dL_drafts_506 rfl (lv_at hl 6 rfl) ?_
  refine lv_imul B.hx B.hb dL_drafts_507 ?_
  refine q_top (v2 := .int (nI (2 * j))) (congrArg Value.int (pk_mul _ _)) ?_
  refine lv_iconst (v := (nI 1)) B.hx B.hb dL_drafts_508 (by decide) ?_
  refine lv_iadd B.hx B.hb dL_drafts_509 ?_
  refine q_top (v2 := .int (nI (2 * j + 1))) (congrArg Value.int (nI_add _ _)) ?_
  refine q_iald (f := (F 7)) B hP 7 rfl (j := 2 * j + 1) rfl (by omega) (by decide) dL_drafts_510 ?_
  refine q_top (v2 := .int (nI m1)) (congrArg Value.int f71) ?_
  refine lv_iload B.hx B.hb dL_drafts_511 (lv_at hl 0 rfl) ?_
  refine q_callS (As := [.int (nI m1), .int (nI (xx % 6))]) (rest := []) B hP hD hS ((cl_has l D cI cZ cP m1 (xx % 6) (by omega) (by omega)).fr0 (lw cI o F ++ wk)) (cwS 2 B.hts gL_drafts_L_has rfl rfl rfl (by decide +kernel) ⟨(Nat.le_of_ble_eq_true rfl), (Nat.le_of_ble_eq_true rfl)⟩) rfl hl.1 rfl (Nat.le_of_ble_eq_true rfl) dL_drafts_513 ⟨(Nat.le_of_ble_eq_true rfl), (Nat.le_of_ble_eq_true rfl)⟩ (fun E ce q9 H locs hx => False.elim hx) (fun v u H locs hp hP hD hS => ?_)
  obtain rfl := hp
  have hP : va_P D vwCl (lw cI o F ++ wk) H := hP
  have hD : va_D A (lw cI o F ++ wk) := hD
  refine lv_if_ne (tgt := 523) B.hx B.hb dL_drafts_516 (by decide) (fun c6 => False.elim (by replace c6 := bI_t1 c6; exact absurd (hm.symm.trans c6) (by decide))) (fun _ => ?_)
  refine lv_iconst (v := (nI 1)) B.hx B.hb dL_drafts_519 (by decide) ?_
  refine lv_goto (tgt := 524) B.hx B.hb dL_drafts_520 (by decide) ?_
  refine lv_istore (lv' := [(13, .int (nI 1)), (12, .int (nI (xx % 6))), (11, .int wt), (10, .int (nI s0)), (9, .int (nI (8 * j))), (0, .ref b), (1, .int (nI 4)), (2, .int (nI j)), (3, .int (nI xx)), (4, .int (nI yy)), (5, .ref (o 0)), (6, .ref (o 5)), (7, .ref (o 4)), (8, .ref (o 7))]) B.hx B.hb dL_drafts_524 hl (by decide) rfl (fun ls hl => ?_)
  refine lv_aload B.hx B.hb dL_drafts_526 (lv_at hl 13 rfl) ?_
  refine lv_iconst (v := (nI 2)) B.hx B.hb dL_drafts_528 (by decide) ?_
  refine lv_iload_n B.hx B.hb dL_drafts_529 rfl (lv_at hl 7 rfl) ?_
  refine lv_imul B.hx B.hb dL_drafts_530 ?_
  refine q_top (v2 := .int (nI (2 * j))) (congrArg Value.int (pk_mul _ _)) ?_
  refine lv_iconst (v := (nI 1)) B.hx B.hb dL_drafts_531 (by decide) ?_
  refine lv_iadd B.hx B.hb dL_drafts_532 ?_
  refine q_top (v2 := .int (nI (2 * j + 1))) (congrArg Value.int (nI_add _ _)) ?_
  refine lv_dup2_11 B.hx B.hb dL_drafts_533 rfl rfl ?_
  refine q_iald (f := (F 7)) B hP 7 rfl (j := 2 * j + 1) rfl (by omega) (by decide) dL_drafts_534 ?_
  refine q_top (v2 := .int (nI m1)) (congrArg Value.int f71) ?_
  refine lv_iload B.hx B.hb dL_drafts_535 (lv_at hl 0 rfl) ?_
  refine lv_if_eq (tgt := 547) B.hx B.hb dL_drafts_537 (by decide) (fun c7 => False.elim (by exact absurd c7 (by decide))) (fun _ => ?_)
  refine lv_iconst (v := (nI 1)) B.hx B.hb dL_drafts_540 (by decide) ?_
  refine lv_iload B.hx B.hb dL_drafts_541 (lv_at hl 1 rfl) ?_
  refine lv_ishl B.hx B.hb dL_drafts_543 ?_
  refine q_top (v2 := .int (nI (2 ^ (xx % 6)))) (congrArg Value.int (msk_shl (by omega))) ?_
  refine lv_goto (tgt := 548) B.hx B.hb dL_drafts_544 (by decide) ?_
  refine lv_ior B.hx B.hb dL_drafts_548 ?_
  refine q_top (v2 := .int (nI (bs m1 (xx % 6)))) (congrArg Value.int (bs_or (by omega) (by omega))) ?_
  refine q_iast (f := (F 7)) B hP hD hS 7 rfl (j := 2 * j + 1) rfl (by omega) (by decide) dL_drafts_549 (w' := (lw cI o (va_up F 7 (upd (F 7) (2 * j + 1) (nI (bs m1 (xx % 6))))) ++ wk)) rfl (fun H locs hP hD hS => ?_)
  refine lv_aload_n B.hx B.hb dL_drafts_550 rfl (lv_at hl 5 rfl) ?_
  refine lv_iconst (v := (nI 4)) B.hx B.hb dL_drafts_551 (by decide) ?_
  refine lv_iload_n B.hx B.hb dL_drafts_552 rfl (lv_at hl 7 rfl) ?_
  refine lv_iload B.hx B.hb dL_drafts_553 (lv_at hl 1 rfl) ?_
  refine lv_iconst (v := (nI 0)) B.hx B.hb dL_drafts_555 (by decide) ?_
  refine q_callSX (As := [.ref b, .int (nI 4), .int (nI j), .int (nI (xx % 6)), .int (nI 0)]) (rest := []) B hP hD hS (ca.fl (lw cI o (va_up F 7 (upd (F 7) (2 * j + 1) (nI (bs m1 (xx % 6))))))) (vx_cwSW 5 B.hts gL_drafts_L_asks rfl rfl rfl (by decide +kernel) ⟨(Nat.le_of_ble_eq_true rfl), (Nat.le_of_ble_eq_true rfl)⟩) rfl hl.1 rfl (Nat.le_of_ble_eq_true rfl) dL_drafts_556 ⟨(Nat.le_of_ble_eq_true rfl), (Nat.le_of_ble_eq_true rfl)⟩ (fun E ce q9 H locs hx => False.elim hx) (fun v u H locs hp hP hD hS => ?_)
  obtain rfl := hp
  have hP : va_P D vwCl (lw cI o (va_up F 7 (upd (F 7) (2 * j + 1) (nI (bs m1 (xx % 6))))) ++ wk2) H := hP
  have hD : va_D A (lw cI o (va_up F 7 (upd (F 7) (2 * j + 1) (nI (bs m1 (xx % 6))))) ++ wk2) := hD
  refine lv_iload B.hx B.hb dL_drafts_559 (lv_at hl 0 rfl) ?_
  refine lv_if_eq (tgt := 578) B.hx B.hb dL_drafts_561 (by decide) (fun c8 => False.elim (by exact absurd c8 (by decide))) (fun _ => ?_)
  refine lv_aload B.hx B.hb dL_drafts_564 (lv_at hl 13 rfl) ?_
  refine lv_iconst (v := (nI 2)) B.hx B.hb dL_drafts_566 (by decide) ?_
  refine lv_iload_n B.hx B.hb dL_drafts_567 rfl (lv_at hl 7 rfl) ?_
  refine lv_imul B.hx B.hb dL_drafts_568 ?_
  refine q_top (v2 := .int (nI (2 * j))) (congrArg Value.int (pk_mul _ _)) ?_
  refine lv_iconst (v := (nI 1)) B.hx B.hb dL_drafts_569 (by decide) ?_
  refine lv_iadd B.hx B.hb dL_drafts_570 ?_
  refine q_top (v2 := .int (nI (2 * j + 1))) (congrArg Value.int (nI_add _ _)) ?_
  refine q_iald (f := (upd (F 7) (2 * j + 1) (nI (bs m1 (xx % 6))))) B hP 7 rfl (j := 2 * j + 1) rfl (by omega) (by decide) dL_drafts_571 ?_
  refine q_top (v2 := .int (nI (bs m1 (xx % 6)))) (congrArg Value.int pk_us) ?_
  refine q_callS (As := [.int (nI (bs m1 (xx % 6)))]) (rest := [.int (nI (pc8 (bs m1 (xx % 6))))]) B hP hD hS ((cl_size l D cI cZ cP (bs m1 (xx % 6)) (by omega)).fr0 (lw cI o (va_up F 7 (upd (F 7) (2 * j + 1) (nI (bs m1 (xx % 6))))) ++ wk2)) (cwS 1 B.hts gL_drafts_L_size rfl rfl rfl (by decide +kernel) ⟨(Nat.le_of_ble_eq_true rfl), (Nat.le_of_ble_eq_true rfl)⟩) rfl hl.1 rfl (Nat.le_of_ble_eq_true rfl) dL_drafts_572 ⟨(Nat.le_of_ble_eq_true rfl), (Nat.le_of_ble_eq_true rfl)⟩ (fun E ce q9 H locs hx => False.elim hx) (fun v u H locs hp hP hD hS => ?_)
  obtain rfl := hp
  have hP : va_P D vwCl (lw cI o (va_up F 7 (upd (F 7) (2 * j + 1) (nI (bs m1 (xx % 6))))) ++ wk2) H := hP
  have hD : va_D A (lw cI o (va_up F 7 (upd (F 7) (2 * j + 1) (nI (bs m1 (xx % 6))))) ++ wk2) := hD
  refine lv_goto (tgt := 580) B.hx B.hb dL_drafts_575 (by decide) ?_
  refine lv_icmp_ne (tgt := 628) B.hx B.hb dL_drafts_580 (by decide) (fun c9 => False.elim (by replace c9 := mt (nI_eq (by omega) (by omega)).mpr c9; omega)) (fun _ => ?_)
  refine lv_aload_n B.hx B.hb dL_drafts_583 rfl (lv_at hl 5 rfl) ?_
  refine lv_iload_n B.hx B.hb dL_drafts_584 rfl (lv_at hl 7 rfl) ?_
  refine q_callV (As := [.int (nI j)]) (rest := []) B hP hD hS (cs2.fl (lw cI o (va_up F 7 (upd (F 7) (2 * j + 1) (nI (bs m1 (xx % 6))))))) (cwV 1 B.hts gL_drafts_X3_step rfl rfl rfl (by decide +kernel) ⟨(Nat.le_of_ble_eq_true rfl), (Nat.le_of_ble_eq_true rfl)⟩) (q2 + 8) 3 hq2 rfl rfl rfl hl.1 rfl (Nat.le_of_ble_eq_true rfl) dL_drafts_585 ⟨(Nat.le_of_ble_eq_true rfl), (Nat.le_of_ble_eq_true rfl)⟩ (fun E ce q9 H locs hx => False.elim hx) (fun v u H locs hp hP hD hS => ?_)
  obtain rfl := hp
  have hP : va_P D vwCl (lw cI o (va_up F 7 (upd (F 7) (2 * j + 1) (nI (bs m1 (xx % 6))))) ++ wk2) H := hP
  have hD : va_D A (lw cI o (va_up F 7 (upd (F 7) (2 * j + 1) (nI (bs m1 (xx % 6))))) ++ wk2) := hD
  refine lv_iload B.hx B.hb dL_drafts_588 (lv_at hl 0 rfl) ?_
  refine lv_if_eq (tgt := 603) B.hx B.hb dL_drafts_590 (by decide) (fun c10 => False.elim (by exact absurd c10 (by decide))) (fun _ => ?_)
  refine lv_iload B.hx B.hb dL_drafts_593 (lv_at hl 3 rfl) ?_
  refine lv_iconst (v := (nI 5)) B.hx B.hb dL_drafts_595 (by decide) ?_
  refine lv_icmp_ne (tgt := 603) B.hx B.hb dL_drafts_596 (by decide) (fun _ => ?_) (fun c11 => False.elim (by replace c11 := (nI_eq (by omega) (by omega)).mp c11; omega))
  refine lv_iload B.hx B.hb dL_drafts_603 (lv_at hl 3 rfl) ?_
  refine lv_icmp_ne (tgt := 628) B.hx B.hb dL_drafts_605 (by decide) (fun c12 => False.elim (by replace c12 := mt (nI_eq (by omega) (by omega)).mpr c12; omega)) (fun _ => ?_)
  refine lv_iload B.hx B.hb dL_drafts_608 (lv_at hl 3 rfl) ?_
  refine lv_iconst (v := (nI 1)) B.hx B.hb dL_drafts_610 (by decide) ?_
  refine lv_icmp_ne (tgt := 624) B.hx B.hb dL_drafts_611 (by decide) (fun _ => ?_) (fun c13 => False.elim (by replace c13 := (nI_eq (by omega) (by omega)).mp c13; omega))
  refine lv_iconst (v := (nI 1)) B.hx B.hb dL_drafts_624 (by decide) ?_
  refine lv_goto (tgt := 629) B.hx B.hb dL_drafts_625 (by decide) ?_
  exact q_zret B hr hP hD hS (by decide) (u := ()) rfl rfl (Nat.le_of_ble_eq_true rfl) (Nat.le_of_ble_eq_true rfl) dL_drafts_629

set_option maxHeartbeats 4000000 in
set_option maxRecDepth 100000 in
theorem ld4n (l : Launch) (D : va_G) (cI cZ cP : ClassId) (o : Nat → Nat) (F : Nat → Nat → Int32) (wk wk2 : va_W) {q0 b : Nat} {fs : List Value} (hq : wk[q0]? = some (b, .inr (3, fs))) {q2 : Nat} {fs2 : List Value} (hq2 : wk2[q2]? = some (b, .inr (3, fs2))) (j xx yy : Nat) (wt : Int32) (hj : j < 8) (hx : xx < 2 ^ 30) (hy : yy < 2 ^ 30) (s0 : Nat) (h5 : s0 ≤ 5) (m1 : Nat) (hm1 : m1 < 64) (f71 : F 7 (2 * j + 1) = nI m1) (hno : 1 ≤ s0 → m1.testBit (xx % 6) = false → False) (cs : q_C l yX3_step wsX3_step ({ frames := 2, cells := 0, slots := 0, locals := 42 }) D cI cZ cP [.ref b, .int (nI j)] wk (S := Unit) (fun v _ => v = some (.int (nI s0))) (fun _ => wk) (fun _ => False) 0 0) (cwt : q_C l yX3_waitsFor wsX3_waitsFor ({ frames := 3, cells := 0, slots := 0, locals := 62 }) D cI cZ cP [.ref b, .int (nI j)] wk (S := Unit) (fun v _ => v = some (.int wt)) (fun _ => wk) (fun _ => False) 0 0) (ca : q_C l yL_asks wsL_asks ({ frames := 9, cells := 3, slots := 18, locals := 148 }) D cI cZ cP [.ref b, .int (nI 4), .int (nI j), .int (nI (xx % 6)), .int (nI 0)] wk (S := Unit) (fun v _ => v = some (.int (-8))) (fun _ => wk) (fun _ => False) 3 18) : q_C l yL_drafts wsL_drafts ({ frames := 11, cells := 3, slots := 18, locals := 196 }) D cI cZ cP [.ref b, .int (nI 4), .int (nI j), .int (nI xx), .int (nI yy), .ref (o 0), .ref (o 5), .ref (o 4), .ref (o 7)] (lw cI o F ++ wk) (S := Unit) (fun v _ => v = some (.int (nI 1))) (fun _ => (lw cI o (va_up F 7 (upd (F 7) (2 * j + 1) (nI m1))) ++ wk)) (fun _ => False) 3 18 := by
  refine q_of (cc := cL_drafts) (maxL := 14) (ret := (some .boolean)) (by decide +kernel) rfl (Nat.le_of_ble_eq_true rfl) ?_
  intro p e s m below meth c A ls B hr htb hmn hP hD hS hl
  have hl : lv_has ls 14 [(0, .ref b), (1, .int (nI 4)), (2, .int (nI j)), (3, .int (nI xx)), (4, .int (nI yy)), (5, .ref (o 0)), (6, .ref (o 5)), (7, .ref (o 4)), (8, .ref (o 7))] := hl
  refine lv_bipush (v := (nI 8)) B.hx B.hb dL_drafts_0 (by decide) ?_
  refine lv_iload_n B.hx B.hb dL_drafts_2 rfl (lv_at hl 2 rfl) ?_
  refine lv_imul B.hx B.hb dL_drafts_3 ?_
  refine q_top (v2 := .int (nI (8 * j))) (congrArg Value.int (pk_mul _ _)) ?_
  refine lv_istore (lv' := [(9, .int (nI (8 * j))), (0, .ref b), (1, .int (nI 4)), (2, .int (nI j)), (3, .int (nI xx)), (4, .int (nI yy)), (5, .ref (o 0)), (6, .ref (o 5)), (7, .ref (o 4)), (8, .ref (o 7))]) B.hx B.hb dL_drafts_4 hl (by decide) rfl (fun ls hl => ?_)
  refine lv_aload_n B.hx B.hb dL_drafts_6 rfl (lv_at hl 1 rfl) ?_
  refine lv_iload_n B.hx B.hb dL_drafts_7 rfl (lv_at hl 3 rfl) ?_
  refine q_callV (As := [.int (nI j)]) (rest := []) B hP hD hS (cs.fl (lw cI o F)) (cwV 1 B.hts gL_drafts_X3_step rfl rfl rfl (by decide +kernel) ⟨(Nat.le_of_ble_eq_true rfl), (Nat.le_of_ble_eq_true rfl)⟩) (q0 + 8) 3 hq rfl rfl rfl hl.1 rfl (Nat.le_of_ble_eq_true rfl) dL_drafts_8 ⟨(Nat.le_of_ble_eq_true rfl), (Nat.le_of_ble_eq_true rfl)⟩ (fun E ce q9 H locs hx => False.elim hx) (fun v u H locs hp hP hD hS => ?_)
  obtain rfl := hp
  have hP : va_P D vwCl (lw cI o F ++ wk) H := hP
  have hD : va_D A (lw cI o F ++ wk) := hD
  refine lv_istore (lv' := [(10, .int (nI s0)), (9, .int (nI (8 * j))), (0, .ref b), (1, .int (nI 4)), (2, .int (nI j)), (3, .int (nI xx)), (4, .int (nI yy)), (5, .ref (o 0)), (6, .ref (o 5)), (7, .ref (o 4)), (8, .ref (o 7))]) B.hx B.hb dL_drafts_11 hl (by decide) rfl (fun ls hl => ?_)
  refine lv_aload_n B.hx B.hb dL_drafts_13 rfl (lv_at hl 2 rfl) ?_
  refine lv_iload_n B.hx B.hb dL_drafts_14 rfl (lv_at hl 4 rfl) ?_
  refine q_callV (As := [.int (nI j)]) (rest := []) B hP hD hS (cwt.fl (lw cI o F)) (cwV 1 B.hts gL_drafts_X3_waitsFor rfl rfl rfl (by decide +kernel) ⟨(Nat.le_of_ble_eq_true rfl), (Nat.le_of_ble_eq_true rfl)⟩) (q0 + 8) 3 hq rfl rfl rfl hl.1 rfl (Nat.le_of_ble_eq_true rfl) dL_drafts_15 ⟨(Nat.le_of_ble_eq_true rfl), (Nat.le_of_ble_eq_true rfl)⟩ (fun E ce q9 H locs hx => False.elim hx) (fun v u H locs hp hP hD hS => ?_)
  obtain rfl := hp
  have hP : va_P D vwCl (lw cI o F ++ wk) H := hP
  have hD : va_D A (lw cI o F ++ wk) := hD
  refine lv_istore (lv' := [(11, .int wt), (10, .int (nI s0)), (9, .int (nI (8 * j))), (0, .ref b), (1, .int (nI 4)), (2, .int (nI j)), (3, .int (nI xx)), (4, .int (nI yy)), (5, .ref (o 0)), (6, .ref (o 5)), (7, .ref (o 4)), (8, .ref (o 7))]) B.hx B.hb dL_drafts_18 hl (by decide) rfl (fun ls hl => ?_)
  refine lv_iload_n B.hx B.hb dL_drafts_20 rfl (lv_at hl 4 rfl) ?_
  refine lv_if_ne (tgt := 159) B.hx B.hb dL_drafts_21 (by decide) (fun _ => ?_) (fun c1 => False.elim (by exact absurd c1 (by decide)))
  refine lv_iload_n B.hx B.hb dL_drafts_159 rfl (lv_at hl 4 rfl) ?_
  refine lv_iconst (v := (nI 1)) B.hx B.hb dL_drafts_160 (by decide) ?_
  refine lv_icmp_ne (tgt := 279) B.hx B.hb dL_drafts_161 (by decide) (fun _ => ?_) (fun c2 => False.elim (by exact absurd c2 (by decide)))
  refine lv_iload_n B.hx B.hb dL_drafts_279 rfl (lv_at hl 4 rfl) ?_
  refine lv_iconst (v := (nI 2)) B.hx B.hb dL_drafts_280 (by decide) ?_
  refine lv_icmp_ne (tgt := 336) B.hx B.hb dL_drafts_281 (by decide) (fun _ => ?_) (fun c3 => False.elim (by exact absurd c3 (by decide)))
  refine lv_iload_n B.hx B.hb dL_drafts_336 rfl (lv_at hl 6 rfl) ?_
  refine lv_bipush (v := (nI 6)) B.hx B.hb dL_drafts_337 (by decide) ?_
  refine lv_irem B.hx B.hb dL_drafts_339 (by decide) ?_
  refine q_top (v2 := .int (nI (xx % 6))) (congrArg Value.int (pk_rem (by omega) (by omega) (by omega))) ?_
  refine lv_istore (lv' := [(12, .int (nI (xx % 6))), (11, .int wt), (10, .int (nI s0)), (9, .int (nI (8 * j))), (0, .ref b), (1, .int (nI 4)), (2, .int (nI j)), (3, .int (nI xx)), (4, .int (nI yy)), (5, .ref (o 0)), (6, .ref (o 5)), (7, .ref (o 4)), (8, .ref (o 7))]) B.hx B.hb dL_drafts_340 hl (by decide) rfl (fun ls hl => ?_)
  refine lv_iload_n B.hx B.hb dL_drafts_342 rfl (lv_at hl 5 rfl) ?_
  refine lv_iconst (v := (nI 3)) B.hx B.hb dL_drafts_343 (by decide) ?_
  refine lv_icmp_ne (tgt := 498) B.hx B.hb dL_drafts_344 (by decide) (fun _ => ?_) (fun c4 => False.elim (by exact absurd c4 (by decide)))
  refine q_join (D := D) (A := A) (J := 524) (stk := [.int (nI 0)]) (w := (lw cI o F ++ wk)) (fun H locs hP hD hS => ?_) (fun kJ5 => ?_)
  · refine lv_istore (lv' := [(13, .int (nI 0)), (12, .int (nI (xx % 6))), (11, .int wt), (10, .int (nI s0)), (9, .int (nI (8 * j))), (0, .ref b), (1, .int (nI 4)), (2, .int (nI j)), (3, .int (nI xx)), (4, .int (nI yy)), (5, .ref (o 0)), (6, .ref (o 5)), (7, .ref (o 4)), (8, .ref (o 7))]) B.hx B.hb dL_drafts_524 hl (by decide) rfl (fun ls hl => ?_)
    refine lv_aload B.hx B.hb dL_drafts_526 (lv_at hl 13 rfl) ?_
    refine lv_iconst (v := (nI 2)) B.hx B.hb dL_drafts_528 (by decide) ?_
    refine lv_iload_n B.hx B.hb dL_drafts_529 rfl (lv_at hl 7 rfl) ?_
    refine lv_imul B.hx B.hb dL_drafts_530 ?_
    refine q_top (v2 := .int (nI (2 * j))) (congrArg Value.int (pk_mul _ _)) ?_
    refine lv_iconst (v := (nI 1)) B.hx B.hb dL_drafts_531 (by decide) ?_
    refine lv_iadd B.hx B.hb dL_drafts_532 ?_
    refine q_top (v2 := .int (nI (2 * j + 1))) (congrArg Value.int (nI_add _ _)) ?_
    refine lv_dup2_11 B.hx B.hb dL_drafts_533 rfl rfl ?_
    refine q_iald (f := (F 7)) B hP 7 rfl (j := 2 * j + 1) rfl (by omega) (by decide) dL_drafts_534 ?_
    refine q_top (v2 := .int (nI m1)) (congrArg Value.int f71) ?_
    refine lv_iload B.hx B.hb dL_drafts_535 (lv_at hl 0 rfl) ?_
    refine lv_if_eq (tgt := 547) B.hx B.hb dL_drafts_537 (by decide) (fun _ => ?_) (fun c6 => False.elim (by exact absurd c6 (by decide)))
    refine lv_iconst (v := (nI 0)) B.hx B.hb dL_drafts_547 (by decide) ?_
    refine lv_ior B.hx B.hb dL_drafts_548 ?_
    refine q_top (v2 := .int (nI m1)) (congrArg Value.int or_0) ?_
    refine q_iast (f := (F 7)) B hP hD hS 7 rfl (j := 2 * j + 1) rfl (by omega) (by decide) dL_drafts_549 (w' := (lw cI o (va_up F 7 (upd (F 7) (2 * j + 1) (nI m1))) ++ wk)) rfl (fun H locs hP hD hS => ?_)
    refine lv_aload_n B.hx B.hb dL_drafts_550 rfl (lv_at hl 5 rfl) ?_
    refine lv_iconst (v := (nI 4)) B.hx B.hb dL_drafts_551 (by decide) ?_
    refine lv_iload_n B.hx B.hb dL_drafts_552 rfl (lv_at hl 7 rfl) ?_
    refine lv_iload B.hx B.hb dL_drafts_553 (lv_at hl 1 rfl) ?_
    refine lv_iconst (v := (nI 0)) B.hx B.hb dL_drafts_555 (by decide) ?_
    refine q_callSX (As := [.ref b, .int (nI 4), .int (nI j), .int (nI (xx % 6)), .int (nI 0)]) (rest := []) B hP hD hS (ca.fl (lw cI o (va_up F 7 (upd (F 7) (2 * j + 1) (nI m1))))) (vx_cwSW 5 B.hts gL_drafts_L_asks rfl rfl rfl (by decide +kernel) ⟨(Nat.le_of_ble_eq_true rfl), (Nat.le_of_ble_eq_true rfl)⟩) rfl hl.1 rfl (Nat.le_of_ble_eq_true rfl) dL_drafts_556 ⟨(Nat.le_of_ble_eq_true rfl), (Nat.le_of_ble_eq_true rfl)⟩ (fun E ce q9 H locs hx => False.elim hx) (fun v u H locs hp hP hD hS => ?_)
    obtain rfl := hp
    have hP : va_P D vwCl (lw cI o (va_up F 7 (upd (F 7) (2 * j + 1) (nI m1))) ++ wk) H := hP
    have hD : va_D A (lw cI o (va_up F 7 (upd (F 7) (2 * j + 1) (nI m1))) ++ wk) := hD
    refine lv_iload B.hx B.hb dL_drafts_559 (lv_at hl 0 rfl) ?_
    refine lv_if_eq (tgt := 578) B.hx B.hb dL_drafts_561 (by decide) (fun _ => ?_) (fun c7 => False.elim (by exact absurd c7 (by decide)))
    refine lv_bipush (v := (-8)) B.hx B.hb dL_drafts_578 (by decide) ?_
    refine lv_icmp_ne (tgt := 628) B.hx B.hb dL_drafts_580 (by decide) (fun c8 => False.elim (by exact absurd c8 (by decide))) (fun _ => ?_)
    refine lv_aload_n B.hx B.hb dL_drafts_583 rfl (lv_at hl 5 rfl) ?_
    refine lv_iload_n B.hx B.hb dL_drafts_584 rfl (lv_at hl 7 rfl) ?_
    refine q_callV (As := [.int (nI j)]) (rest := []) B hP hD hS (cs.fl (lw cI o (va_up F 7 (upd (F 7) (2 * j + 1) (nI m1))))) (cwV 1 B.hts gL_drafts_X3_step rfl rfl rfl (by decide +kernel) ⟨(Nat.le_of_ble_eq_true rfl), (Nat.le_of_ble_eq_true rfl)⟩) (q0 + 8) 3 hq rfl rfl rfl hl.1 rfl (Nat.le_of_ble_eq_true rfl) dL_drafts_585 ⟨(Nat.le_of_ble_eq_true rfl), (Nat.le_of_ble_eq_true rfl)⟩ (fun E ce q9 H locs hx => False.elim hx) (fun v u H locs hp hP hD hS => ?_)
    obtain rfl := hp
    have hP : va_P D vwCl (lw cI o (va_up F 7 (upd (F 7) (2 * j + 1) (nI m1))) ++ wk) H := hP
    have hD : va_D A (lw cI o (va_up F 7 (upd (F 7) (2 * j + 1) (nI m1))) ++ wk) := hD
    refine lv_iload B.hx B.hb dL_drafts_588 (lv_at hl 0 rfl) ?_
    refine lv_if_eq (tgt := 603) B.hx B.hb dL_drafts_590 (by decide) (fun _ => ?_) (fun c9 => False.elim (by exact absurd c9 (by decide)))
    refine lv_iload B.hx B.hb dL_drafts_603 (lv_at hl 3 rfl) ?_
    refine lv_icmp_ne (tgt := 628) B.hx B.hb dL_drafts_605 (by decide) (fun c10 => False.elim (by replace c10 := mt (nI_eq (by omega) (by omega)).mpr c10; omega)) (fun _ => ?_)
    refine lv_iload B.hx B.hb dL_drafts_608 (lv_at hl 3 rfl) ?_
    refine lv_iconst (v := (nI 1)) B.hx B.hb dL_drafts_610 (by decide) ?_
    refine lv_icmp_ne (tgt := 624) B.hx B.hb dL_drafts_611 (by decide) (fun c11 => ?_) (fun c11 => ?_)
    · replace c11 := mt (nI_eq (by omega) (by omega)).mpr c11
      refine lv_iconst (v := (nI 1)) B.hx B.hb dL_drafts_624 (by decide) ?_
      refine lv_goto (tgt := 629) B.hx B.hb dL_drafts_625 (by decide) ?_
      exact q_zret B hr hP hD hS (by decide) (u := ()) rfl rfl (Nat.le_of_ble_eq_true rfl) (Nat.le_of_ble_eq_true rfl) dL_drafts_629
    · replace c11 := (nI_eq (by omega) (by omega)).mp c11
      refine lv_aload_n B.hx B.hb dL_drafts_614 rfl (lv_at hl 5 rfl) ?_
      refine lv_iload_n B.hx B.hb dL_drafts_615 rfl (lv_at hl 7 rfl) ?_
      refine q_callV (As := [.int (nI j)]) (rest := []) B hP hD hS (cwt.fl (lw cI o (va_up F 7 (upd (F 7) (2 * j + 1) (nI m1))))) (cwV 1 B.hts gL_drafts_X3_waitsFor rfl rfl rfl (by decide +kernel) ⟨(Nat.le_of_ble_eq_true rfl), (Nat.le_of_ble_eq_true rfl)⟩) (q0 + 8) 3 hq rfl rfl rfl hl.1 rfl (Nat.le_of_ble_eq_true rfl) dL_drafts_616 ⟨(Nat.le_of_ble_eq_true rfl), (Nat.le_of_ble_eq_true rfl)⟩ (fun E ce q9 H locs hx => False.elim hx) (fun v u H locs hp hP hD hS => ?_)
      obtain rfl := hp
      have hP : va_P D vwCl (lw cI o (va_up F 7 (upd (F 7) (2 * j + 1) (nI m1))) ++ wk) H := hP
      have hD : va_D A (lw cI o (va_up F 7 (upd (F 7) (2 * j + 1) (nI m1))) ++ wk) := hD
      refine lv_iload B.hx B.hb dL_drafts_619 (lv_at hl 2 rfl) ?_
      refine lv_icmp_ne (tgt := 628) B.hx B.hb dL_drafts_621 (by decide) (fun c12 => False.elim (by exact c12 rfl)) (fun _ => ?_)
      refine lv_iconst (v := (nI 1)) B.hx B.hb dL_drafts_624 (by decide) ?_
      refine lv_goto (tgt := 629) B.hx B.hb dL_drafts_625 (by decide) ?_
      exact q_zret B hr hP hD hS (by decide) (u := ()) rfl rfl (Nat.le_of_ble_eq_true rfl) (Nat.le_of_ble_eq_true rfl) dL_drafts_629
  · refine lv_iload B.hx B.hb dL_drafts_498 (lv_at hl 2 rfl) ?_
    refine lv_if_le (tgt := 523) B.hx B.hb dL_drafts_500 (by decide) (fun c13 => ?_) (fun c13 => ?_)
    · replace c13 := (nI_le0 (by omega)).mp c13
      refine lv_iconst (v := (nI 0)) B.hx B.hb dL_drafts_523 (by decide) ?_
      exact kJ5 _ _ hP hD hS
    · replace c13 := mt (nI_le0 (by omega)).mpr c13
      refine lv_aload B.hx B.hb dL_drafts_503 (lv_at hl 12 rfl) ?_
      refine lv_iconst (v := (nI 2)) B.hx B.hb dL_drafts_505 (by decide) ?_
      refine lv_iload_n B.hx B.hb dL_drafts_506 rfl (lv_at hl 6 rfl) ?_
      refine lv_imul B.hx B.hb dL_drafts_507 ?_
      refine q_top (v2 := .int (nI (2 * j))) (congrArg Value.int (pk_mul _ _)) ?_
      refine lv_iconst (v := (nI 1)) B.hx B.hb dL_drafts_508 (by decide) ?_
      refine lv_iadd B.hx B.hb dL_drafts_509 ?_
      refine q_top (v2 := .int (nI (2 * j + 1))) (congrArg Value.int (nI_add _ _)) ?_
      refine q_iald (f := (F 7)) B hP 7 rfl (j := 2 * j + 1) rfl (by omega) (by decide) dL_drafts_510 ?_
      refine q_top (v2 := .int (nI m1)) (congrArg Value.int f71) ?_
      refine lv_iload B.hx B.hb dL_drafts_511 (lv_at hl 0 rfl) ?_
      refine q_callS (As := [.int (nI m1), .int (nI (xx % 6))]) (rest := []) B hP hD hS ((cl_has l D cI cZ cP m1 (xx % 6) (by omega) (by omega)).fr0 (lw cI o F ++ wk)) (cwS 2 B.hts gL_drafts_L_has rfl rfl rfl (by decide +kernel) ⟨(Nat.le_of_ble_eq_true rfl), (Nat.le_of_ble_eq_true rfl)⟩) rfl hl.1 rfl (Nat.le_of_ble_eq_true rfl) dL_drafts_513 ⟨(Nat.le_of_ble_eq_true rfl), (Nat.le_of_ble_eq_true rfl)⟩ (fun E ce q9 H locs hx => False.elim hx) (fun v u H locs hp hP hD hS => ?_)
      obtain rfl := hp
      have hP : va_P D vwCl (lw cI o F ++ wk) H := hP
      have hD : va_D A (lw cI o F ++ wk) := hD
      refine lv_if_ne (tgt := 523) B.hx B.hb dL_drafts_516 (by decide) (fun c14 => ?_) (fun c14 => ?_)
      · replace c14 := bI_t1 c14
        refine lv_iconst (v := (nI 0)) B.hx B.hb dL_drafts_523 (by decide) ?_
        exact kJ5 _ _ hP hD hS
      · replace c14 := bI_0.mp c14
        refine lv_iconst (v := (nI 1)) B.hx B.hb dL_drafts_519 (by decide) ?_
        refine lv_goto (tgt := 524) B.hx B.hb dL_drafts_520 (by decide) ?_
        exact (hno (by omega) c14).elim
