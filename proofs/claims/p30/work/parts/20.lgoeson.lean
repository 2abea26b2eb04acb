/-! goesOn, case by case: over the answers of the class. -/
set_option maxHeartbeats 4000000 in
set_option maxRecDepth 100000 in
theorem lg1a (l : Launch) (D : va_G) (cI cZ cP : ClassId) (o : Nat → Nat) (F : Nat → Nat → Int32) (wk wk2 : va_W) {q0 b : Nat} {fs : List Value} (hq : wk[q0]? = some (b, .inr (3, fs))) {q2 : Nat} {fs2 : List Value} (hq2 : wk2[q2]? = some (b, .inr (3, fs2))) (j xx yy : Nat) (hj : j < 8) (hx : xx < 2 ^ 30) (hy : yy < 2 ^ 30)  (cs : q_C l yX3_step wsX3_step ({ frames := 2, cells := 0, slots := 0, locals := 42 }) D cI cZ cP [.ref b, .int (nI j)] wk (S := Unit) (fun v _ => v = some (.int (nI 1))) (fun _ => wk) (fun _ => False) 0 0) (cwt : q_C l yX3_waitsFor wsX3_waitsFor ({ frames := 3, cells := 0, slots := 0, locals := 62 }) D cI cZ cP [.ref b, .int (nI j)] wk (S := Unit) (fun v _ => v = some (.int (-1))) (fun _ => wk) (fun _ => False) 0 0) (ca : q_C l yL_asks wsL_asks ({ frames := 9, cells := 4, slots := 24, locals := 149 }) D cI cZ cP [.ref b, .int (nI 5), .int (nI j), .int (nI (xx % 6)), .int (bI (decide ((nI (yy % 3)) = 0)))] wk (S := Unit) (fun v _ => v = some (.int (-8))) (fun _ => wk) (fun _ => False) 4 24) : q_C l yL_goesOn wsL_goesOn ({ frames := 11, cells := 18, slots := 108, locals := 197 }) D cI cZ cP [.ref b, .int (nI j), .int (nI xx), .int (nI yy), .ref (o 0), .ref (o 5), .ref (o 6), .ref (o 4)] (lw cI o F ++ wk) (S := Unit) (fun v _ => v = some (.int (nI 1))) (fun _ => (lw cI o F ++ wk)) (fun _ => False) 18 108 := by
  refine q_of (cc := cL_goesOn) (maxL := 15) (ret := (some .boolean)) (by decide +kernel) rfl (Nat.le_of_ble_eq_true rfl) ?_
  intro p e s m below meth c A ls B hr htb hmn hP hD hS hl
  have hl : lv_has ls 15 [(0, .ref b), (1, .int (nI j)), (2, .int (nI xx)), (3, .int (nI yy)), (4, .ref (o 0)), (5, .ref (o 5)), (6, .ref (o 6)), (7, .ref (o 4))] := hl
  refine lv_bipush (v := (nI 8)) B.hx B.hb dL_goesOn_0 (by decide) ?_
  refine lv_iload_n B.hx B.hb dL_goesOn_2 rfl (lv_at hl 1 rfl) ?_
  refine lv_imul B.hx B.hb dL_goesOn_3 ?_
  refine q_top (v2 := .int (nI (8 * j))) (congrArg Value.int (pk_mul _ _)) ?_
  refine lv_istore (lv' := [(8, .int (nI (8 * j))), (0, .ref b), (1, .int (nI j)), (2, .int (nI xx)), (3, .int (nI yy)), (4, .ref (o 0)), (5, .ref (o 5)), (6, .ref (o 6)), (7, .ref (o 4))]) B.hx B.hb dL_goesOn_4 hl (by decide) rfl (fun ls hl => ?_)
  refine lv_aload_n B.hx B.hb dL_goesOn_6 rfl (lv_at hl 1 rfl) ?_
  refine lv_iload_n B.hx B.hb dL_goesOn_7 rfl (lv_at hl 2 rfl) ?_
  refine q_callV (As := [.int (nI j)]) (rest := []) B hP hD hS (cs.fl (lw cI o F)) (cwV 1 B.hts gL_goesOn_X3_step rfl rfl rfl (by decide +kernel) ⟨(Nat.le_of_ble_eq_true rfl), (Nat.le_of_ble_eq_true rfl)⟩) (q0 + 8) 3 hq rfl rfl rfl hl.1 rfl (Nat.le_of_ble_eq_true rfl) dL_goesOn_8 ⟨(Nat.le_of_ble_eq_true rfl), (Nat.le_of_ble_eq_true rfl)⟩ (fun E ce q9 H locs hx => False.elim hx) (fun v u H locs hp hP hD hS => ?_)
  obtain rfl := hp
  have hP : va_P D vwCl (lw cI o F ++ wk) H := hP
  have hD : va_D A (lw cI o F ++ wk) := hD
  refine lv_istore (lv' := [(9, .int (nI 1)), (8, .int (nI (8 * j))), (0, .ref b), (1, .int (nI j)), (2, .int (nI xx)), (3, .int (nI yy)), (4, .ref (o 0)), (5, .ref (o 5)), (6, .ref (o 6)), (7, .ref (o 4))]) B.hx B.hb dL_goesOn_11 hl (by decide) rfl (fun ls hl => ?_)
  refine lv_aload_n B.hx B.hb dL_goesOn_13 rfl (lv_at hl 2 rfl) ?_
  refine lv_iload_n B.hx B.hb dL_goesOn_14 rfl (lv_at hl 3 rfl) ?_
  refine q_callV (As := [.int (nI j)]) (rest := []) B hP hD hS (cwt.fl (lw cI o F)) (cwV 1 B.hts gL_goesOn_X3_waitsFor rfl rfl rfl (by decide +kernel) ⟨(Nat.le_of_ble_eq_true rfl), (Nat.le_of_ble_eq_true rfl)⟩) (q0 + 8) 3 hq rfl rfl rfl hl.1 rfl (Nat.le_of_ble_eq_true rfl) dL_goesOn_15 ⟨(Nat.le_of_ble_eq_true rfl), (Nat.le_of_ble_eq_true rfl)⟩ (fun E ce q9 H locs hx => False.elim hx) (fun v u H locs hp hP hD hS => ?_)
  obtain rfl := hp
  have hP : va_P D vwCl (lw cI o F ++ wk) H := hP
  have hD : va_D A (lw cI o F ++ wk) := hD
  refine lv_istore (lv' := [(10, .int (-1)), (9, .int (nI 1)), (8, .int (nI (8 * j))), (0, .ref b), (1, .int (nI j)), (2, .int (nI xx)), (3, .int (nI yy)), (4, .ref (o 0)), (5, .ref (o 5)), (6, .ref (o 6)), (7, .ref (o 4))]) B.hx B.hb dL_goesOn_18 hl (by decide) rfl (fun ls hl => ?_)
  refine lv_iload B.hx B.hb dL_goesOn_20 (lv_at hl 1 rfl) ?_
  refine lv_iconst (v := (nI 1)) B.hx B.hb dL_goesOn_22 (by decide) ?_
  refine lv_icmp_ne (tgt := 175) B.hx B.hb dL_goesOn_23 (by decide) (fun c1 => False.elim (by exact absurd c1 (by decide))) (fun _ => ?_)
  refine lv_aload_n B.hx B.hb dL_goesOn_26 rfl (lv_at hl 3 rfl) ?_
  refine lv_iconst (v := (nI 5)) B.hx B.hb dL_goesOn_27 (by decide) ?_
  refine lv_iload_n B.hx B.hb dL_goesOn_28 rfl (lv_at hl 4 rfl) ?_
  refine lv_iload B.hx B.hb dL_goesOn_29 (lv_at hl 0 rfl) ?_
  refine lv_if_ge (tgt := 41) B.hx B.hb dL_goesOn_31 (by decide) (fun c2 => False.elim (by exact absurd c2 (by decide))) (fun _ => ?_)
  refine lv_iload_n B.hx B.hb dL_goesOn_34 rfl (lv_at hl 5 rfl) ?_
  refine lv_bipush (v := (nI 6)) B.hx B.hb dL_goesOn_35 (by decide) ?_
  refine lv_irem B.hx B.hb dL_goesOn_37 (by decide) ?_
  refine q_top (v2 := .int (nI (xx % 6))) (congrArg Value.int (pk_rem (by omega) (by omega) (by omega))) ?_
  refine lv_goto (tgt := 43) B.hx B.hb dL_goesOn_38 (by decide) ?_
  refine lv_iload_n B.hx B.hb dL_goesOn_43 rfl (lv_at hl 6 rfl) ?_
  refine lv_iconst (v := (nI 3)) B.hx B.hb dL_goesOn_44 (by decide) ?_
  refine lv_irem B.hx B.hb dL_goesOn_45 (by decide) ?_
  refine q_top (v2 := .int (nI (yy % 3))) (congrArg Value.int (pk_rem (by omega) (by omega) (by omega))) ?_
  refine q_join0 (J := 54) (stk := [.int (bI (decide ((nI (yy % 3)) = 0))), .int (nI (xx % 6)), .int (nI j), .int (nI 5), .ref b]) ?_ (fun kJ => ?_)
  · refine q_callSX (As := [.ref b, .int (nI 5), .int (nI j), .int (nI (xx % 6)), .int (bI (decide ((nI (yy % 3)) = 0)))]) (rest := []) B hP hD hS (ca.fl (lw cI o F)) (vx_cwSW 5 B.hts gL_goesOn_L_asks rfl rfl rfl (by decide +kernel) ⟨(Nat.le_of_ble_eq_true rfl), (Nat.le_of_ble_eq_true rfl)⟩) rfl hl.1 rfl (Nat.le_of_ble_eq_true rfl) dL_goesOn_54 ⟨(Nat.le_of_ble_eq_true rfl), (Nat.le_of_ble_eq_true rfl)⟩ (fun E ce q9 H locs hx => False.elim hx) (fun v u H locs hp hP hD hS => ?_)
    obtain rfl := hp
    have hP : va_P D vwCl (lw cI o F ++ wk) H := hP
    have hD : va_D A (lw cI o F ++ wk) := hD
    refine lv_istore (lv' := [(11, .int (-8)), (10, .int (-1)), (9, .int (nI 1)), (8, .int (nI (8 * j))), (0, .ref b), (1, .int (nI j)), (2, .int (nI xx)), (3, .int (nI yy)), (4, .ref (o 0)), (5, .ref (o 5)), (6, .ref (o 6)), (7, .ref (o 4))]) B.hx B.hb dL_goesOn_57 hl (by decide) rfl (fun ls hl => ?_)
    refine lv_aload_n B.hx B.hb dL_goesOn_59 rfl (lv_at hl 4 rfl) ?_
    refine lv_iload_n B.hx B.hb dL_goesOn_60 rfl (lv_at hl 5 rfl) ?_
    refine q_callV (As := [.int (nI j)]) (rest := []) B hP hD hS (cs.fl (lw cI o F)) (cwV 1 B.hts gL_goesOn_X3_step rfl rfl rfl (by decide +kernel) ⟨(Nat.le_of_ble_eq_true rfl), (Nat.le_of_ble_eq_true rfl)⟩) (q0 + 8) 3 hq rfl rfl rfl hl.1 rfl (Nat.le_of_ble_eq_true rfl) dL_goesOn_61 ⟨(Nat.le_of_ble_eq_true rfl), (Nat.le_of_ble_eq_true rfl)⟩ (fun E ce q9 H locs hx => False.elim hx) (fun v u H locs hp hP hD hS => ?_)
    obtain rfl := hp
    have hP : va_P D vwCl (lw cI o F ++ wk) H := hP
    have hD : va_D A (lw cI o F ++ wk) := hD
    refine lv_istore (lv' := [(12, .int (nI 1)), (11, .int (-8)), (10, .int (-1)), (9, .int (nI 1)), (8, .int (nI (8 * j))), (0, .ref b), (1, .int (nI j)), (2, .int (nI xx)), (3, .int (nI yy)), (4, .ref (o 0)), (5, .ref (o 5)), (6, .ref (o 6)), (7, .ref (o 4))]) B.hx B.hb dL_goesOn_64 hl (by decide) rfl (fun ls hl => ?_)
    refine lv_iload B.hx B.hb dL_goesOn_66 (lv_at hl 2 rfl) ?_
    refine lv_if_ge (tgt := 92) B.hx B.hb dL_goesOn_68 (by decide) (fun c4 => False.elim (by exact absurd c4 (by decide))) (fun _ => ?_)
    refine lv_iload B.hx B.hb dL_goesOn_71 (lv_at hl 1 rfl) ?_
    refine lv_bipush (v := (-8)) B.hx B.hb dL_goesOn_73 (by decide) ?_
    refine lv_icmp_ne (tgt := 88) B.hx B.hb dL_goesOn_75 (by decide) (fun c5 => False.elim (by exact absurd c5 (by decide))) (fun _ => ?_)
    refine lv_iload B.hx B.hb dL_goesOn_78 (lv_at hl 0 rfl) ?_
    refine lv_iconst (v := (nI 1)) B.hx B.hb dL_goesOn_80 (by decide) ?_
    refine lv_icmp_ne (tgt := 88) B.hx B.hb dL_goesOn_81 (by decide) (fun c6 => False.elim (by exact absurd c6 (by decide))) (fun _ => ?_)
    refine lv_iconst (v := (nI 1)) B.hx B.hb dL_goesOn_84 (by decide) ?_
    refine lv_goto (tgt := 174) B.hx B.hb dL_goesOn_85 (by decide) ?_
    exact q_zret B hr hP hD hS (by decide) (u := ()) rfl rfl (Nat.le_of_ble_eq_true rfl) (Nat.le_of_ble_eq_true rfl) dL_goesOn_174
  · refine lv_if_ne (tgt := 53) B.hx B.hb dL_goesOn_46 (by decide) (fun c3 => ?_) (fun c3 => ?_)
    · refine lv_iconst (v := nI 0) B.hx B.hb dL_goesOn_53 (by decide) ?_
      refine q_top (v2 := .int (bI (decide ((nI (yy % 3)) = 0)))) (congrArg Value.int (bI_f (decide_eq_false c3))) ?_
      exact kJ
    · refine lv_iconst (v := nI 1) B.hx B.hb dL_goesOn_49 (by decide) ?_
      refine lv_goto (tgt := 54) B.hx B.hb dL_goesOn_50 (by decide) ?_
      refine q_top (v2 := .int (bI (decide ((nI (yy % 3)) = 0)))) (congrArg Value.int (bI_t (decide_eq_true c3))) ?_
      exact kJ

set_option maxHeartbeats 4000000 in
set_option maxRecDepth 100000 in
theorem lg1r (l : Launch) (D : va_G) (cI cZ cP : ClassId) (o : Nat → Nat) (F : Nat → Nat → Int32) (wk wk2 : va_W) {q0 b : Nat} {fs : List Value} (hq : wk[q0]? = some (b, .inr (3, fs))) {q2 : Nat} {fs2 : List Value} (hq2 : wk2[q2]? = some (b, .inr (3, fs2))) (j xx yy : Nat) (hj : j < 8) (hx : xx < 2 ^ 30) (hy : yy < 2 ^ 30) (p9 s2 : Nat) (wt2 : Int32) (hp9 : p9 < 6) (hs5 : s2 ≤ 5) (hs2 : (s2 = 1 ∧ ¬ wt2 = nI p9) ∨ s2 = 2 ∨ (s2 = 3 ∧ 0 < yy % 3)) (h3 : yy % 3 = 0) (k3 : Nat) (hk3 : k3 ≤ 3) (cs : q_C l yX3_step wsX3_step ({ frames := 2, cells := 0, slots := 0, locals := 42 }) D cI cZ cP [.ref b, .int (nI j)] wk (S := Unit) (fun v _ => v = some (.int (nI 1))) (fun _ => wk) (fun _ => False) 0 0) (cwt : q_C l yX3_waitsFor wsX3_waitsFor ({ frames := 3, cells := 0, slots := 0, locals := 62 }) D cI cZ cP [.ref b, .int (nI j)] wk (S := Unit) (fun v _ => v = some (.int (nI p9))) (fun _ => wk) (fun _ => False) 0 0) (ca : q_C l yL_asks wsL_asks ({ frames := 9, cells := 4, slots := 24, locals := 149 }) D cI cZ cP [.ref b, .int (nI 5), .int (nI j), .int (nI p9), .int (bI (decide ((nI (yy % 3)) = 0)))] wk (S := Unit) (fun v _ => v = some (.int (nI k3))) (fun _ => wk2) (fun _ => False) 4 24) (cs2 : q_C l yX3_step wsX3_step ({ frames := 2, cells := 0, slots := 0, locals := 42 }) D cI cZ cP [.ref b, .int (nI j)] wk2 (S := Unit) (fun v _ => v = some (.int (nI s2))) (fun _ => wk2) (fun _ => False) 0 0) (cw2 : q_C l yX3_waitsFor wsX3_waitsFor ({ frames := 3, cells := 0, slots := 0, locals := 62 }) D cI cZ cP [.ref b, .int (nI j)] wk2 (S := Unit) (fun v _ => v = some (.int wt2)) (fun _ => wk2) (fun _ => False) 0 0) (ca2 : q_C l yL_asks wsL_asks ({ frames := 9, cells := 4, slots := 24, locals := 149 }) D cI cZ cP [.ref b, .int (nI 5), .int (nI j), .int (nI p9), .int (nI 0)] wk2 (S := Unit) (fun v _ => v = some (.int (-8))) (fun _ => wk2) (fun _ => False) 4 24) : q_C l yL_goesOn wsL_goesOn ({ frames := 11, cells := 18, slots := 108, locals := 197 }) D cI cZ cP [.ref b, .int (nI j), .int (nI xx), .int (nI yy), .ref (o 0), .ref (o 5), .ref (o 6), .ref (o 4)] (lw cI o F ++ wk) (S := Unit) (fun v _ => v = some (.int (nI 1))) (fun _ => (lw cI o F ++ wk2)) (fun _ => False) 18 108 := by
  refine q_of (cc := cL_goesOn) (maxL := 15) (ret := (some .boolean)) (by decide +kernel) rfl (Nat.le_of_ble_eq_true rfl) ?_
  intro p e s m below meth c A ls B hr htb hmn hP hD hS hl
  have hl : lv_has ls 15 [(0, .ref b), (1, .int (nI j)), (2, .int (nI xx)), (3, .int (nI yy)), (4, .ref (o 0)), (5, .ref (o 5)), (6, .ref (o 6)), (7, .ref (o 4))] := hl
  refine lv_bipush (v := (nI 8)) B.hx B.hb dL_goesOn_0 (by decide) ?_
  refine lv_iload_n B.hx B.hb dL_goesOn_2 rfl (lv_at hl 1 rfl) ?_
  refine lv_imul B.hx B.hb dL_goesOn_3 ?_
  refine q_top (v2 := .int (nI (8 * j))) (congrArg Value.int (pk_mul _ _)) ?_
  refine lv_istore (lv' := [(8, .int (nI (8 * j))), (0, .ref b), (1, .int (nI j)), (2, .int (nI xx)), (3, .int (nI yy)), (4, .ref (o 0)), (5, .ref (o 5)), (6, .ref (o 6)), (7, .ref (o 4))]) B.hx B.hb dL_goesOn_4 hl (by decide) rfl (fun ls hl => ?_)
  refine lv_aload_n B.hx B.hb dL_goesOn_6 rfl (lv_at hl 1 rfl) ?_
  refine lv_iload_n B.hx B.hb dL_goesOn_7 rfl (lv_at hl 2 rfl) ?_
  refine q_callV (As := [.int (nI j)]) (rest := []) B hP hD hS (cs.fl (lw cI o F)) (cwV 1 B.hts gL_goesOn_X3_step rfl rfl rfl (by decide +kernel) ⟨(Nat.le_of_ble_eq_true rfl), (Nat.le_of_ble_eq_true rfl)⟩) (q0 + 8) 3 hq rfl rfl rfl hl.1 rfl (Nat.le_of_ble_eq_true rfl) dL_goesOn_8 ⟨(Nat.le_of_ble_eq_true rfl), (Nat.le_of_ble_eq_true rfl)⟩ (fun E ce q9 H locs hx => False.elim hx) (fun v u H locs hp hP hD hS => ?_)
  obtain rfl := hp
  have hP : va_P D vwCl (lw cI o F ++ wk) H := hP
  have hD : va_D A (lw cI o F ++ wk) := hD
  refine lv_istore (lv' := [(9, .int (nI 1)), (8, .int (nI (8 * j))), (0, .ref b), (1, .int (nI j)), (2, .int (nI xx)), (3, .int (nI yy)), (4, .ref (o 0)), (5, .ref (o 5)), (6, .ref (o 6)), (7, .ref (o 4))]) B.hx B.hb dL_goesOn_11 hl (by decide) rfl (fun ls hl => ?_)
  refine lv_aload_n B.hx B.hb dL_goesOn_13 rfl (lv_at hl 2 rfl) ?_
  refine lv_iload_n B.hx B.hb dL_goesOn_14 rfl (lv_at hl 3 rfl) ?_
  refine q_callV (As := [.int (nI j)]) (rest := []) B hP hD hS (cwt.fl (lw cI o F)) (cwV 1 B.hts gL_goesOn_X3_waitsFor rfl rfl rfl (by decide +kernel) ⟨(Nat.le_of_ble_eq_true rfl), (Nat.le_of_ble_eq_true rfl)⟩) (q0 + 8) 3 hq rfl rfl rfl hl.1 rfl (Nat.le_of_ble_eq_true rfl) dL_goesOn_15 ⟨(Nat.le_of_ble_eq_true rfl), (Nat.le_of_ble_eq_true rfl)⟩ (fun E ce q9 H locs hx => False.elim hx) (fun v u H locs hp hP hD hS => ?_)
  obtain rfl := hp
  have hP : va_P D vwCl (lw cI o F ++ wk) H := hP
  have hD : va_D A (lw cI o F ++ wk) := hD
  refine lv_istore (lv' := [(10, .int (nI p9)), (9, .int (nI 1)), (8, .int (nI (8 * j))), (0, .ref b), (1, .int (nI j)), (2, .int (nI xx)), (3, .int (nI yy)), (4, .ref (o 0)), (5, .ref (o 5)), (6, .ref (o 6)), (7, .ref (o 4))]) B.hx B.hb dL_goesOn_18 hl (by decide) rfl (fun ls hl => ?_)
  refine lv_iload B.hx B.hb dL_goesOn_20 (lv_at hl 1 rfl) ?_
  refine lv_iconst (v := (nI 1)) B.hx B.hb dL_goesOn_22 (by decide) ?_
  refine lv_icmp_ne (tgt := 175) B.hx B.hb dL_goesOn_23 (by decide) (fun c1 => False.elim (by exact absurd c1 (by decide))) (fun _ => ?_)
  refine lv_aload_n B.hx B.hb dL_goesOn_26 rfl (lv_at hl 3 rfl) ?_
  refine lv_iconst (v := (nI 5)) B.hx B.hb dL_goesOn_27 (by decide) ?_
  refine lv_iload_n B.hx B.hb dL_goesOn_28 rfl (lv_at hl 4 rfl) ?_
  refine lv_iload B.hx B.hb dL_goesOn_29 (lv_at hl 0 rfl) ?_
  refine lv_if_ge (tgt := 41) B.hx B.hb dL_goesOn_31 (by decide) (fun _ => ?_) (fun c2 => False.elim (by replace c2 := mt (nI_ge0 (by omega)).mpr c2; exact c2 trivial))
  refine lv_iload B.hx B.hb dL_goesOn_41 (lv_at hl 0 rfl) ?_
  refine lv_iload_n B.hx B.hb dL_goesOn_43 rfl (lv_at hl 6 rfl) ?_
  refine lv_iconst (v := (nI 3)) B.hx B.hb dL_goesOn_44 (by decide) ?_
  refine lv_irem B.hx B.hb dL_goesOn_45 (by decide) ?_
  refine q_top (v2 := .int (nI (yy % 3))) (congrArg Value.int (pk_rem (by omega) (by omega) (by omega))) ?_
  refine q_join0 (J := 54) (stk := [.int (bI (decide ((nI (yy % 3)) = 0))), .int (nI p9), .int (nI j), .int (nI 5), .ref b]) ?_ (fun kJ => ?_)
  · refine q_callSX (As := [.ref b, .int (nI 5), .int (nI j), .int (nI p9), .int (bI (decide ((nI (yy % 3)) = 0)))]) (rest := []) B hP hD hS (ca.fl (lw cI o F)) (vx_cwSW 5 B.hts gL_goesOn_L_asks rfl rfl rfl (by decide +kernel) ⟨(Nat.le_of_ble_eq_true rfl), (Nat.le_of_ble_eq_true rfl)⟩) rfl hl.1 rfl (Nat.le_of_ble_eq_true rfl) dL_goesOn_54 ⟨(Nat.le_of_ble_eq_true rfl), (Nat.le_of_ble_eq_true rfl)⟩ (fun E ce q9 H locs hx => False.elim hx) (fun v u H locs hp hP hD hS => ?_)
    obtain rfl := hp
    have hP : va_P D vwCl (lw cI o F ++ wk2) H := hP
    have hD : va_D A (lw cI o F ++ wk2) := hD
    refine lv_istore (lv' := [(11, .int (nI k3)), (10, .int (nI p9)), (9, .int (nI 1)), (8, .int (nI (8 * j))), (0, .ref b), (1, .int (nI j)), (2, .int (nI xx)), (3, .int (nI yy)), (4, .ref (o 0)), (5, .ref (o 5)), (6, .ref (o 6)), (7, .ref (o 4))]) B.hx B.hb dL_goesOn_57 hl (by decide) rfl (fun ls hl => ?_)
    refine lv_aload_n B.hx B.hb dL_goesOn_59 rfl (lv_at hl 4 rfl) ?_
    refine lv_iload_n B.hx B.hb dL_goesOn_60 rfl (lv_at hl 5 rfl) ?_
    refine q_callV (As := [.int (nI j)]) (rest := []) B hP hD hS (cs2.fl (lw cI o F)) (cwV 1 B.hts gL_goesOn_X3_step rfl rfl rfl (by decide +kernel) ⟨(Nat.le_of_ble_eq_true rfl), (Nat.le_of_ble_eq_true rfl)⟩) (q2 + 8) 3 hq2 rfl rfl rfl hl.1 rfl (Nat.le_of_ble_eq_true rfl) dL_goesOn_61 ⟨(Nat.le_of_ble_eq_true rfl), (Nat.le_of_ble_eq_true rfl)⟩ (fun E ce q9 H locs hx => False.elim hx) (fun v u H locs hp hP hD hS => ?_)
    obtain rfl := hp
    have hP : va_P D vwCl (lw cI o F ++ wk2) H := hP
    have hD : va_D A (lw cI o F ++ wk2) := hD
    refine lv_istore (lv' := [(12, .int (nI s2)), (11, .int (nI k3)), (10, .int (nI p9)), (9, .int (nI 1)), (8, .int (nI (8 * j))), (0, .ref b), (1, .int (nI j)), (2, .int (nI xx)), (3, .int (nI yy)), (4, .ref (o 0)), (5, .ref (o 5)), (6, .ref (o 6)), (7, .ref (o 4))]) B.hx B.hb dL_goesOn_64 hl (by decide) rfl (fun ls hl => ?_)
    refine lv_iload B.hx B.hb dL_goesOn_66 (lv_at hl 2 rfl) ?_
    refine lv_if_ge (tgt := 92) B.hx B.hb dL_goesOn_68 (by decide) (fun _ => ?_) (fun c4 => False.elim (by replace c4 := mt (nI_ge0 (by omega)).mpr c4; exact c4 trivial))
    refine lv_iload_n B.hx B.hb dL_goesOn_92 rfl (lv_at hl 8 rfl) ?_
    refine lv_iconst (v := (nI 3)) B.hx B.hb dL_goesOn_93 (by decide) ?_
    refine lv_irem B.hx B.hb dL_goesOn_94 (by decide) ?_
    refine q_top (v2 := .int (nI (yy % 3))) (congrArg Value.int (pk_rem (by omega) (by omega) (by omega))) ?_
    refine lv_if_ne (tgt := 112) B.hx B.hb dL_goesOn_95 (by decide) (fun c5 => False.elim (by replace c5 := mt (nI_eq0 (by omega)).mpr c5; exact c5 h3)) (fun _ => ?_)
    refine lv_iload B.hx B.hb dL_goesOn_98 (lv_at hl 1 rfl) ?_
    refine lv_if_lt (tgt := 173) B.hx B.hb dL_goesOn_100 (by decide) (fun c6 => False.elim (by replace c6 := (nI_lt0 (by omega)).mp c6; exact c6)) (fun _ => ?_)
    refine lv_iload B.hx B.hb dL_goesOn_103 (lv_at hl 1 rfl) ?_
    refine lv_iconst (v := (nI 3)) B.hx B.hb dL_goesOn_105 (by decide) ?_
    refine lv_icmp_gt (tgt := 173) B.hx B.hb dL_goesOn_106 (by decide) (fun c7 => False.elim (by replace c7 := (nI_ltI (by omega) (by omega)).mp c7; omega)) (fun _ => ?_)
    refine lv_goto (tgt := 118) B.hx B.hb dL_goesOn_109 (by decide) ?_
    rcases hs2 with ⟨rfl, hw2⟩ | rfl | ⟨rfl, hy3⟩
    · refine lv_iload B.hx B.hb dL_goesOn_118 (lv_at hl 0 rfl) ?_
      refine lv_iconst (v := (nI 1)) B.hx B.hb dL_goesOn_120 (by decide) ?_
      refine lv_icmp_ne (tgt := 137) B.hx B.hb dL_goesOn_121 (by decide) (fun c8 => False.elim (by exact absurd c8 (by decide))) (fun _ => ?_)
      refine lv_aload_n B.hx B.hb dL_goesOn_124 rfl (lv_at hl 5 rfl) ?_
      refine lv_iload_n B.hx B.hb dL_goesOn_125 rfl (lv_at hl 6 rfl) ?_
      refine q_callV (As := [.int (nI j)]) (rest := []) B hP hD hS (cw2.fl (lw cI o F)) (cwV 1 B.hts gL_goesOn_X3_waitsFor rfl rfl rfl (by decide +kernel) ⟨(Nat.le_of_ble_eq_true rfl), (Nat.le_of_ble_eq_true rfl)⟩) (q2 + 8) 3 hq2 rfl rfl rfl hl.1 rfl (Nat.le_of_ble_eq_true rfl) dL_goesOn_126 ⟨(Nat.le_of_ble_eq_true rfl), (Nat.le_of_ble_eq_true rfl)⟩ (fun E ce q9 H locs hx => False.elim hx) (fun v u H locs hp hP hD hS => ?_)
      obtain rfl := hp
      have hP : va_P D vwCl (lw cI o F ++ wk2) H := hP
      have hD : va_D A (lw cI o F ++ wk2) := hD
      refine lv_iload B.hx B.hb dL_goesOn_129 (lv_at hl 2 rfl) ?_
      refine lv_icmp_eq (tgt := 173) B.hx B.hb dL_goesOn_131 (by decide) (fun c9 => False.elim (by exact hw2 c9)) (fun _ => ?_)
      refine lv_goto (tgt := 155) B.hx B.hb dL_goesOn_134 (by decide) ?_
      refine lv_aload_n B.hx B.hb dL_goesOn_155 rfl (lv_at hl 5 rfl) ?_
      refine lv_iconst (v := (nI 5)) B.hx B.hb dL_goesOn_156 (by decide) ?_
      refine lv_iload_n B.hx B.hb dL_goesOn_157 rfl (lv_at hl 6 rfl) ?_
      refine lv_iload B.hx B.hb dL_goesOn_158 (lv_at hl 2 rfl) ?_
      refine lv_iconst (v := (nI 0)) B.hx B.hb dL_goesOn_160 (by decide) ?_
      refine q_callSX (As := [.ref b, .int (nI 5), .int (nI j), .int (nI p9), .int (nI 0)]) (rest := []) B hP hD hS (ca2.fl (lw cI o F)) (vx_cwSW 5 B.hts gL_goesOn_L_asks rfl rfl rfl (by decide +kernel) ⟨(Nat.le_of_ble_eq_true rfl), (Nat.le_of_ble_eq_true rfl)⟩) rfl hl.1 rfl (Nat.le_of_ble_eq_true rfl) dL_goesOn_161 ⟨(Nat.le_of_ble_eq_true rfl), (Nat.le_of_ble_eq_true rfl)⟩ (fun E ce q9 H locs hx => False.elim hx) (fun v u H locs hp hP hD hS => ?_)
      obtain rfl := hp
      have hP : va_P D vwCl (lw cI o F ++ wk2) H := hP
      have hD : va_D A (lw cI o F ++ wk2) := hD
      refine lv_bipush (v := (-8)) B.hx B.hb dL_goesOn_164 (by decide) ?_
      refine lv_icmp_ne (tgt := 173) B.hx B.hb dL_goesOn_166 (by decide) (fun c10 => False.elim (by exact absurd c10 (by decide))) (fun _ => ?_)
      refine lv_iconst (v := (nI 1)) B.hx B.hb dL_goesOn_169 (by decide) ?_
      refine lv_goto (tgt := 174) B.hx B.hb dL_goesOn_170 (by decide) ?_
      exact q_zret B hr hP hD hS (by decide) (u := ()) rfl rfl (Nat.le_of_ble_eq_true rfl) (Nat.le_of_ble_eq_true rfl) dL_goesOn_174
    · refine lv_iload B.hx B.hb dL_goesOn_118 (lv_at hl 0 rfl) ?_
      refine lv_iconst (v := (nI 1)) B.hx B.hb dL_goesOn_120 (by decide) ?_
      refine lv_icmp_ne (tgt := 137) B.hx B.hb dL_goesOn_121 (by decide) (fun _ => ?_) (fun c11 => False.elim (by exact absurd c11 (by decide)))
      refine lv_iload B.hx B.hb dL_goesOn_137 (lv_at hl 0 rfl) ?_
      refine lv_iconst (v := (nI 2)) B.hx B.hb dL_goesOn_139 (by decide) ?_
      refine lv_icmp_eq (tgt := 155) B.hx B.hb dL_goesOn_140 (by decide) (fun _ => ?_) (fun c12 => False.elim (by exact absurd c12 (by decide)))
      refine lv_aload_n B.hx B.hb dL_goesOn_155 rfl (lv_at hl 5 rfl) ?_
      refine lv_iconst (v := (nI 5)) B.hx B.hb dL_goesOn_156 (by decide) ?_
      refine lv_iload_n B.hx B.hb dL_goesOn_157 rfl (lv_at hl 6 rfl) ?_
      refine lv_iload B.hx B.hb dL_goesOn_158 (lv_at hl 2 rfl) ?_
      refine lv_iconst (v := (nI 0)) B.hx B.hb dL_goesOn_160 (by decide) ?_
      refine q_callSX (As := [.ref b, .int (nI 5), .int (nI j), .int (nI p9), .int (nI 0)]) (rest := []) B hP hD hS (ca2.fl (lw cI o F)) (vx_cwSW 5 B.hts gL_goesOn_L_asks rfl rfl rfl (by decide +kernel) ⟨(Nat.le_of_ble_eq_true rfl), (Nat.le_of_ble_eq_true rfl)⟩) rfl hl.1 rfl (Nat.le_of_ble_eq_true rfl) dL_goesOn_161 ⟨(Nat.le_of_ble_eq_true rfl), (Nat.le_of_ble_eq_true rfl)⟩ (fun E ce q9 H locs hx => False.elim hx) (fun v u H locs hp hP hD hS => ?_)
      obtain rfl := hp
      have hP : va_P D vwCl (lw cI o F ++ wk2) H := hP
      have hD : va_D A (lw cI o F ++ wk2) := hD
      refine lv_bipush (v := (-8)) B.hx B.hb dL_goesOn_164 (by decide) ?_
      refine lv_icmp_ne (tgt := 173) B.hx B.hb dL_goesOn_166 (by decide) (fun c13 => False.elim (by exact absurd c13 (by decide))) (fun _ => ?_)
      refine lv_iconst (v := (nI 1)) B.hx B.hb dL_goesOn_169 (by decide) ?_
      refine lv_goto (tgt := 174) B.hx B.hb dL_goesOn_170 (by decide) ?_
      exact q_zret B hr hP hD hS (by decide) (u := ()) rfl rfl (Nat.le_of_ble_eq_true rfl) (Nat.le_of_ble_eq_true rfl) dL_goesOn_174
    · refine lv_iload B.hx B.hb dL_goesOn_118 (lv_at hl 0 rfl) ?_
      refine lv_iconst (v := (nI 1)) B.hx B.hb dL_goesOn_120 (by decide) ?_
      refine lv_icmp_ne (tgt := 137) B.hx B.hb dL_goesOn_121 (by decide) (fun _ => ?_) (fun c14 => False.elim (by exact absurd c14 (by decide)))
      refine lv_iload B.hx B.hb dL_goesOn_137 (lv_at hl 0 rfl) ?_
      refine lv_iconst (v := (nI 2)) B.hx B.hb dL_goesOn_139 (by decide) ?_
      refine lv_icmp_eq (tgt := 155) B.hx B.hb dL_goesOn_140 (by decide) (fun c15 => False.elim (by exact absurd c15 (by decide))) (fun _ => ?_)
      refine lv_iload B.hx B.hb dL_goesOn_143 (lv_at hl 0 rfl) ?_
      refine lv_iconst (v := (nI 3)) B.hx B.hb dL_goesOn_145 (by decide) ?_
      refine lv_icmp_ne (tgt := 173) B.hx B.hb dL_goesOn_146 (by decide) (fun c16 => False.elim (by exact absurd c16 (by decide))) (fun _ => ?_)
      refine lv_iload_n B.hx B.hb dL_goesOn_149 rfl (lv_at hl 8 rfl) ?_
      refine lv_iconst (v := (nI 3)) B.hx B.hb dL_goesOn_150 (by decide) ?_
      refine lv_irem B.hx B.hb dL_goesOn_151 (by decide) ?_
      refine q_top (v2 := .int (nI (yy % 3))) (congrArg Value.int (pk_rem (by omega) (by omega) (by omega))) ?_
      refine lv_if_le (tgt := 173) B.hx B.hb dL_goesOn_152 (by decide) (fun c17 => False.elim (by replace c17 := (nI_le0 (by omega)).mp c17; omega)) (fun _ => ?_)
      refine lv_aload_n B.hx B.hb dL_goesOn_155 rfl (lv_at hl 5 rfl) ?_
      refine lv_iconst (v := (nI 5)) B.hx B.hb dL_goesOn_156 (by decide) ?_
      refine lv_iload_n B.hx B.hb dL_goesOn_157 rfl (lv_at hl 6 rfl) ?_
      refine lv_iload B.hx B.hb dL_goesOn_158 (lv_at hl 2 rfl) ?_
      refine lv_iconst (v := (nI 0)) B.hx B.hb dL_goesOn_160 (by decide) ?_
      refine q_callSX (As := [.ref b, .int (nI 5), .int (nI j), .int (nI p9), .int (nI 0)]) (rest := []) B hP hD hS (ca2.fl (lw cI o F)) (vx_cwSW 5 B.hts gL_goesOn_L_asks rfl rfl rfl (by decide +kernel) ⟨(Nat.le_of_ble_eq_true rfl), (Nat.le_of_ble_eq_true rfl)⟩) rfl hl.1 rfl (Nat.le_of_ble_eq_true rfl) dL_goesOn_161 ⟨(Nat.le_of_ble_eq_true rfl), (Nat.le_of_ble_eq_true rfl)⟩ (fun E ce q9 H locs hx => False.elim hx) (fun v u H locs hp hP hD hS => ?_)
      obtain rfl := hp
      have hP : va_P D vwCl (lw cI o F ++ wk2) H := hP
      have hD : va_D A (lw cI o F ++ wk2) := hD
      refine lv_bipush (v := (-8)) B.hx B.hb dL_goesOn_164 (by decide) ?_
      refine lv_icmp_ne (tgt := 173) B.hx B.hb dL_goesOn_166 (by decide) (fun c18 => False.elim (by exact absurd c18 (by decide))) (fun _ => ?_)
      refine lv_iconst (v := (nI 1)) B.hx B.hb dL_goesOn_169 (by decide) ?_
      refine lv_goto (tgt := 174) B.hx B.hb dL_goesOn_170 (by decide) ?_
      exact q_zret B hr hP hD hS (by decide) (u := ()) rfl rfl (Nat.le_of_ble_eq_true rfl) (Nat.le_of_ble_eq_true rfl) dL_goesOn_174
  · refine lv_if_ne (tgt := 53) B.hx B.hb dL_goesOn_46 (by decide) (fun c3 => ?_) (fun c3 => ?_)
    · refine lv_iconst (v := nI 0) B.hx B.hb dL_goesOn_53 (by decide) ?_
      refine q_top (v2 := .int (bI (decide ((nI (yy % 3)) = 0)))) (congrArg Value.int (bI_f (decide_eq_false c3))) ?_
      exact kJ
    · refine lv_iconst (v := nI 1) B.hx B.hb dL_goesOn_49 (by decide) ?_
      refine lv_goto (tgt := 54) B.hx B.hb dL_goesOn_50 (by decide) ?_
      refine q_top (v2 := .int (bI (decide ((nI (yy % 3)) = 0)))) (congrArg Value.int (bI_t (decide_eq_true c3))) ?_
      exact kJ

set_option maxHeartbeats 4000000 in
set_option maxRecDepth 100000 in
theorem lg1n (l : Launch) (D : va_G) (cI cZ cP : ClassId) (o : Nat → Nat) (F : Nat → Nat → Int32) (wk wk2 : va_W) {q0 b : Nat} {fs : List Value} (hq : wk[q0]? = some (b, .inr (3, fs))) {q2 : Nat} {fs2 : List Value} (hq2 : wk2[q2]? = some (b, .inr (3, fs2))) (j xx yy : Nat) (hj : j < 8) (hx : xx < 2 ^ 30) (hy : yy < 2 ^ 30) (p9 s2 : Nat) (wt2 : Int32) (hp9 : p9 < 6) (hs5 : s2 ≤ 5) (hs2 : (s2 = 1 ∧ ¬ wt2 = nI p9) ∨ s2 = 2 ∨ (s2 = 3 ∧ 0 < yy % 3)) (h3 : ¬ yy % 3 = 0) (cs : q_C l yX3_step wsX3_step ({ frames := 2, cells := 0, slots := 0, locals := 42 }) D cI cZ cP [.ref b, .int (nI j)] wk (S := Unit) (fun v _ => v = some (.int (nI 1))) (fun _ => wk) (fun _ => False) 0 0) (cwt : q_C l yX3_waitsFor wsX3_waitsFor ({ frames := 3, cells := 0, slots := 0, locals := 62 }) D cI cZ cP [.ref b, .int (nI j)] wk (S := Unit) (fun v _ => v = some (.int (nI p9))) (fun _ => wk) (fun _ => False) 0 0) (ca : q_C l yL_asks wsL_asks ({ frames := 9, cells := 4, slots := 24, locals := 149 }) D cI cZ cP [.ref b, .int (nI 5), .int (nI j), .int (nI p9), .int (bI (decide ((nI (yy % 3)) = 0)))] wk (S := Unit) (fun v _ => v = some (.int (-1))) (fun _ => wk2) (fun _ => False) 4 24) (cs2 : q_C l yX3_step wsX3_step ({ frames := 2, cells := 0, slots := 0, locals := 42 }) D cI cZ cP [.ref b, .int (nI j)] wk2 (S := Unit) (fun v _ => v = some (.int (nI s2))) (fun _ => wk2) (fun _ => False) 0 0) (cw2 : q_C l yX3_waitsFor wsX3_waitsFor ({ frames := 3, cells := 0, slots := 0, locals := 62 }) D cI cZ cP [.ref b, .int (nI j)] wk2 (S := Unit) (fun v _ => v = some (.int wt2)) (fun _ => wk2) (fun _ => False) 0 0) (ca2 : q_C l yL_asks wsL_asks ({ frames := 9, cells := 4, slots := 24, locals := 149 }) D cI cZ cP [.ref b, .int (nI 5), .int (nI j), .int (nI p9), .int (nI 0)] wk2 (S := Unit) (fun v _ => v = some (.int (-8))) (fun _ => wk2) (fun _ => False) 4 24) : q_C l yL_goesOn wsL_goesOn ({ frames := 11, cells := 18, slots := 108, locals := 197 }) D cI cZ cP [.ref b, .int (nI j), .int (nI xx), .int (nI yy), .ref (o 0), .ref (o 5), .ref (o 6), .ref (o 4)] (lw cI o F ++ wk) (S := Unit) (fun v _ => v = some (.int (nI 1))) (fun _ => (lw cI o F ++ wk2)) (fun _ => False) 18 108 := by
  refine q_of (cc := cL_goesOn) (maxL := 15) (ret := (some .boolean)) (by decide +kernel) rfl (Nat.le_of_ble_eq_true rfl) ?_
  intro p e s m below meth c A ls B hr htb hmn hP hD hS hl
  have hl : lv_has ls 15 [(0, .ref b), (1, .int (nI j)), (2, .int (nI xx)), (3, .int (nI yy)), (4, .ref (o 0)), (5, .ref (o 5)), (6, .ref (o 6)), (7, .ref (o 4))] := hl
  refine lv_bipush (v := (nI 8)) B.hx B.hb dL_goesOn_0 (by decide) ?_
  refine lv_iload_n B.hx B.hb dL_goesOn_2 rfl (lv_at hl 1 rfl) ?_
  refine lv_imul B.hx B.hb dL_goesOn_3 ?_
  refine q_top (v2 := .int (nI (8 * j))) (congrArg Value.int (pk_mul _ _)) ?_
  refine lv_istore (lv' := [(8, .int (nI (8 * j))), (0, .ref b), (1, .int (nI j)), (2, .int (nI xx)), (3, .int (nI yy)), (4, .ref (o 0)), (5, .ref (o 5)), (6, .ref (o 6)), (7, .ref (o 4))]) B.hx B.hb dL_goesOn_4 hl (by decide) rfl (fun ls hl => ?_)
  refine lv_aload_n B.hx B.hb dL_goesOn_6 rfl (lv_at hl 1 rfl) ?_
  refine lv_iload_n B.hx B.hb dL_goesOn_7 rfl (lv_at hl 2 rfl) ?_
  refine q_callV (As := [.int (nI j)]) (rest := []) B hP hD hS (cs.fl (lw cI o F)) (cwV 1 B.hts gL_goesOn_X3_step rfl rfl rfl (by decide +kernel) ⟨(Nat.le_of_ble_eq_true rfl), (Nat.le_of_ble_eq_true rfl)⟩) (q0 + 8) 3 hq rfl rfl rfl hl.1 rfl (Nat.le_of_ble_eq_true rfl) dL_goesOn_8 ⟨(Nat.le_of_ble_eq_true rfl), (Nat.le_of_ble_eq_true rfl)⟩ (fun E ce q9 H locs hx => False.elim hx) (fun v u H locs hp hP hD hS => ?_)
  obtain rfl := hp
  have hP : va_P D vwCl (lw cI o F ++ wk) H := hP
  have hD : va_D A (lw cI o F ++ wk) := hD
  refine lv_istore (lv' := [(9, .int (nI 1)), (8, .int (nI (8 * j))), (0, .ref b), (1, .int (nI j)), (2, .int (nI xx)), (3, .int (nI yy)), (4, .ref (o 0)), (5, .ref (o 5)), (6, .ref (o 6)), (7, .ref (o 4))]) B.hx B.hb dL_goesOn_11 hl (by decide) rfl (fun ls hl => ?_)
  refine lv_aload_n B.hx B.hb dL_goesOn_13 rfl (lv_at hl 2 rfl) ?_
  refine lv_iload_n B.hx B.hb dL_goesOn_14 rfl (lv_at hl 3 rfl) ?_
  refine q_callV (As := [.int (nI j)]) (rest := []) B hP hD hS (cwt.fl (lw cI o F)) (cwV 1 B.hts gL_goesOn_X3_waitsFor rfl rfl rfl (by decide +kernel) ⟨(Nat.le_of_ble_eq_true rfl), (Nat.le_of_ble_eq_true rfl)⟩) (q0 + 8) 3 hq rfl rfl rfl hl.1 rfl (Nat.le_of_ble_eq_true rfl) dL_goesOn_15 ⟨(Nat.le_of_ble_eq_true rfl), (Nat.le_of_ble_eq_true rfl)⟩ (fun E ce q9 H locs hx => False.elim hx) (fun v u H locs hp hP hD hS => ?_)
  obtain rfl := hp
  have hP : va_P D vwCl (lw cI o F ++ wk) H := hP
  have hD : va_D A (lw cI o F ++ wk) := hD
  refine lv_istore (lv' := [(10, .int (nI p9)), (9, .int (nI 1)), (8, .int (nI (8 * j))), (0, .ref b), (1, .int (nI j)), (2, .int (nI xx)), (3, .int (nI yy)), (4, .ref (o 0)), (5, .ref (o 5)), (6, .ref (o 6)), (7, .ref (o 4))]) B.hx B.hb dL_goesOn_18 hl (by decide) rfl (fun ls hl => ?_)
  refine lv_iload B.hx B.hb dL_goesOn_20 (lv_at hl 1 rfl) ?_
  refine lv_iconst (v := (nI 1)) B.hx B.hb dL_goesOn_22 (by decide) ?_
  refine lv_icmp_ne (tgt := 175) B.hx B.hb dL_goesOn_23 (by decide) (fun c1 => False.elim (by exact absurd c1 (by decide))) (fun _ => ?_)
  refine lv_aload_n B.hx B.hb dL_goesOn_26 rfl (lv_at hl 3 rfl) ?_
  refine lv_iconst (v := (nI 5)) B.hx B.hb dL_goesOn_27 (by decide) ?_
  refine lv_iload_n B.hx B.hb dL_goesOn_28 rfl (lv_at hl 4 rfl) ?_
  refine lv_iload B.hx B.hb dL_goesOn_29 (lv_at hl 0 rfl) ?_
  refine lv_if_ge (tgt := 41) B.hx B.hb dL_goesOn_31 (by decide) (fun _ => ?_) (fun c2 => False.elim (by replace c2 := mt (nI_ge0 (by omega)).mpr c2; exact c2 trivial))
  refine lv_iload B.hx B.hb dL_goesOn_41 (lv_at hl 0 rfl) ?_
  refine lv_iload_n B.hx B.hb dL_goesOn_43 rfl (lv_at hl 6 rfl) ?_
  refine lv_iconst (v := (nI 3)) B.hx B.hb dL_goesOn_44 (by decide) ?_
  refine lv_irem B.hx B.hb dL_goesOn_45 (by decide) ?_
  refine q_top (v2 := .int (nI (yy % 3))) (congrArg Value.int (pk_rem (by omega) (by omega) (by omega))) ?_
  refine q_join0 (J := 54) (stk := [.int (bI (decide ((nI (yy % 3)) = 0))), .int (nI p9), .int (nI j), .int (nI 5), .ref b]) ?_ (fun kJ => ?_)
  · refine q_callSX (As := [.ref b, .int (nI 5), .int (nI j), .int (nI p9), .int (bI (decide ((nI (yy % 3)) = 0)))]) (rest := []) B hP hD hS (ca.fl (lw cI o F)) (vx_cwSW 5 B.hts gL_goesOn_L_asks rfl rfl rfl (by decide +kernel) ⟨(Nat.le_of_ble_eq_true rfl), (Nat.le_of_ble_eq_true rfl)⟩) rfl hl.1 rfl (Nat.le_of_ble_eq_true rfl) dL_goesOn_54 ⟨(Nat.le_of_ble_eq_true rfl), (Nat.le_of_ble_eq_true rfl)⟩ (fun E ce q9 H locs hx => False.elim hx) (fun v u H locs hp hP hD hS => ?_)
    obtain rfl := hp
    have hP : va_P D vwCl (lw cI o F ++ wk2) H := hP
    have hD : va_D A (lw cI o F ++ wk2) := hD
    refine lv_istore (lv' := [(11, .int (-1)), (10, .int (nI p9)), (9, .int (nI 1)), (8, .int (nI (8 * j))), (0, .ref b), (1, .int (nI j)), (2, .int (nI xx)), (3, .int (nI yy)), (4, .ref (o 0)), (5, .ref (o 5)), (6, .ref (o 6)), (7, .ref (o 4))]) B.hx B.hb dL_goesOn_57 hl (by decide) rfl (fun ls hl => ?_)
    refine lv_aload_n B.hx B.hb dL_goesOn_59 rfl (lv_at hl 4 rfl) ?_
    refine lv_iload_n B.hx B.hb dL_goesOn_60 rfl (lv_at hl 5 rfl) ?_
    refine q_callV (As := [.int (nI j)]) (rest := []) B hP hD hS (cs2.fl (lw cI o F)) (cwV 1 B.hts gL_goesOn_X3_step rfl rfl rfl (by decide +kernel) ⟨(Nat.le_of_ble_eq_true rfl), (Nat.le_of_ble_eq_true rfl)⟩) (q2 + 8) 3 hq2 rfl rfl rfl hl.1 rfl (Nat.le_of_ble_eq_true rfl) dL_goesOn_61 ⟨(Nat.le_of_ble_eq_true rfl), (Nat.le_of_ble_eq_true rfl)⟩ (fun E ce q9 H locs hx => False.elim hx) (fun v u H locs hp hP hD hS => ?_)
    obtain rfl := hp
    have hP : va_P D vwCl (lw cI o F ++ wk2) H := hP
    have hD : va_D A (lw cI o F ++ wk2) := hD
    refine lv_istore (lv' := [(12, .int (nI s2)), (11, .int (-1)), (10, .int (nI p9)), (9, .int (nI 1)), (8, .int (nI (8 * j))), (0, .ref b), (1, .int (nI j)), (2, .int (nI xx)), (3, .int (nI yy)), (4, .ref (o 0)), (5, .ref (o 5)), (6, .ref (o 6)), (7, .ref (o 4))]) B.hx B.hb dL_goesOn_64 hl (by decide) rfl (fun ls hl => ?_)
    refine lv_iload B.hx B.hb dL_goesOn_66 (lv_at hl 2 rfl) ?_
    refine lv_if_ge (tgt := 92) B.hx B.hb dL_goesOn_68 (by decide) (fun _ => ?_) (fun c4 => False.elim (by replace c4 := mt (nI_ge0 (by omega)).mpr c4; exact c4 trivial))
    refine lv_iload_n B.hx B.hb dL_goesOn_92 rfl (lv_at hl 8 rfl) ?_
    refine lv_iconst (v := (nI 3)) B.hx B.hb dL_goesOn_93 (by decide) ?_
    refine lv_irem B.hx B.hb dL_goesOn_94 (by decide) ?_
    refine q_top (v2 := .int (nI (yy % 3))) (congrArg Value.int (pk_rem (by omega) (by omega) (by omega))) ?_
    refine lv_if_ne (tgt := 112) B.hx B.hb dL_goesOn_95 (by decide) (fun _ => ?_) (fun c5 => False.elim (by replace c5 := (nI_eq0 (by omega)).mp c5; exact h3 c5))
    refine lv_iload B.hx B.hb dL_goesOn_112 (lv_at hl 1 rfl) ?_
    refine lv_iconst (v := (-1)) B.hx B.hb dL_goesOn_114 (by decide) ?_
    refine lv_icmp_ne (tgt := 173) B.hx B.hb dL_goesOn_115 (by decide) (fun c6 => False.elim (by exact absurd c6 (by decide))) (fun _ => ?_)
    rcases hs2 with ⟨rfl, hw2⟩ | rfl | ⟨rfl, hy3⟩
    · refine lv_iload B.hx B.hb dL_goesOn_118 (lv_at hl 0 rfl) ?_
      refine lv_iconst (v := (nI 1)) B.hx B.hb dL_goesOn_120 (by decide) ?_
      refine lv_icmp_ne (tgt := 137) B.hx B.hb dL_goesOn_121 (by decide) (fun c7 => False.elim (by exact absurd c7 (by decide))) (fun _ => ?_)
      refine lv_aload_n B.hx B.hb dL_goesOn_124 rfl (lv_at hl 5 rfl) ?_
      refine lv_iload_n B.hx B.hb dL_goesOn_125 rfl (lv_at hl 6 rfl) ?_
      refine q_callV (As := [.int (nI j)]) (rest := []) B hP hD hS (cw2.fl (lw cI o F)) (cwV 1 B.hts gL_goesOn_X3_waitsFor rfl rfl rfl (by decide +kernel) ⟨(Nat.le_of_ble_eq_true rfl), (Nat.le_of_ble_eq_true rfl)⟩) (q2 + 8) 3 hq2 rfl rfl rfl hl.1 rfl (Nat.le_of_ble_eq_true rfl) dL_goesOn_126 ⟨(Nat.le_of_ble_eq_true rfl), (Nat.le_of_ble_eq_true rfl)⟩ (fun E ce q9 H locs hx => False.elim hx) (fun v u H locs hp hP hD hS => ?_)
      obtain rfl := hp
      have hP : va_P D vwCl (lw cI o F ++ wk2) H := hP
      have hD : va_D A (lw cI o F ++ wk2) := hD
      refine lv_iload B.hx B.hb dL_goesOn_129 (lv_at hl 2 rfl) ?_
      refine lv_icmp_eq (tgt := 173) B.hx B.hb dL_goesOn_131 (by decide) (fun c8 => False.elim (by exact hw2 c8)) (fun _ => ?_)
      refine lv_goto (tgt := 155) B.hx B.hb dL_goesOn_134 (by decide) ?_
      refine lv_aload_n B.hx B.hb dL_goesOn_155 rfl (lv_at hl 5 rfl) ?_
      refine lv_iconst (v := (nI 5)) B.hx B.hb dL_goesOn_156 (by decide) ?_
      refine lv_iload_n B.hx B.hb dL_goesOn_157 rfl (lv_at hl 6 rfl) ?_
      refine lv_iload B.hx B.hb dL_goesOn_158 (lv_at hl 2 rfl) ?_
      refine lv_iconst (v := (nI 0)) B.hx B.hb dL_goesOn_160 (by decide) ?_
      refine q_callSX (As := [.ref b, .int (nI 5), .int (nI j), .int (nI p9), .int (nI 0)]) (rest := []) B hP hD hS (ca2.fl (lw cI o F)) (vx_cwSW 5 B.hts gL_goesOn_L_asks rfl rfl rfl (by decide +kernel) ⟨(Nat.le_of_ble_eq_true rfl), (Nat.le_of_ble_eq_true rfl)⟩) rfl hl.1 rfl (Nat.le_of_ble_eq_true rfl) dL_goesOn_161 ⟨(Nat.le_of_ble_eq_true rfl), (Nat.le_of_ble_eq_true rfl)⟩ (fun E ce q9 H locs hx => False.elim hx) (fun v u H locs hp hP hD hS => ?_)
      obtain rfl := hp
      have hP : va_P D vwCl (lw cI o F ++ wk2) H := hP
      have hD : va_D A (lw cI o F ++ wk2) := hD
      refine lv_bipush (v := (-8)) B.hx B.hb dL_goesOn_164 (by decide) ?_
      refine lv_icmp_ne (tgt := 173) B.hx B.hb dL_goesOn_166 (by decide) (fun c9 => False.elim (by exact absurd c9 (by decide))) (fun _ => ?_)
      refine lv_iconst (v := (nI 1)) B.hx B.hb dL_goesOn_169 (by decide) ?_
      refine lv_goto (tgt := 174) B.hx B.hb dL_goesOn_170 (by decide) ?_
      exact q_zret B hr hP hD hS (by decide) (u := ()) rfl rfl (Nat.le_of_ble_eq_true rfl) (Nat.le_of_ble_eq_true rfl) dL_goesOn_174
    · refine lv_iload B.hx B.hb dL_goesOn_118 (lv_at hl 0 rfl) ?_
      refine lv_iconst (v := (nI 1)) B.hx B.hb dL_goesOn_120 (by decide) ?_
      refine lv_icmp_ne (tgt := 137) B.hx B.hb dL_goesOn_121 (by decide) (fun _ => ?_) (fun c10 => False.elim (by exact absurd c10 (by decide)))
      refine lv_iload B.hx B.hb dL_goesOn_137 (lv_at hl 0 rfl) ?_
      refine lv_iconst (v := (nI 2)) B.hx B.hb dL_goesOn_139 (by decide) ?_
      refine lv_icmp_eq (tgt := 155) B.hx B.hb dL_goesOn_140 (by decide) (fun _ => ?_) (fun c11 => False.elim (by exact absurd c11 (by decide)))
      refine lv_aload_n B.hx B.hb dL_goesOn_155 rfl (lv_at hl 5 rfl) ?_
      refine lv_iconst (v := (nI 5)) B.hx B.hb dL_goesOn_156 (by decide) ?_
      refine lv_iload_n B.hx B.hb dL_goesOn_157 rfl (lv_at hl 6 rfl) ?_
      refine lv_iload B.hx B.hb dL_goesOn_158 (lv_at hl 2 rfl) ?_
      refine lv_iconst (v := (nI 0)) B.hx B.hb dL_goesOn_160 (by decide) ?_
      refine q_callSX (As := [.ref b, .int (nI 5), .int (nI j), .int (nI p9), .int (nI 0)]) (rest := []) B hP hD hS (ca2.fl (lw cI o F)) (vx_cwSW 5 B.hts gL_goesOn_L_asks rfl rfl rfl (by decide +kernel) ⟨(Nat.le_of_ble_eq_true rfl), (Nat.le_of_ble_eq_true rfl)⟩) rfl hl.1 rfl (Nat.le_of_ble_eq_true rfl) dL_goesOn_161 ⟨(Nat.le_of_ble_eq_true rfl), (Nat.le_of_ble_eq_true rfl)⟩ (fun E ce q9 H locs hx => False.elim hx) (fun v u H locs hp hP hD hS => ?_)
      obtain rfl := hp
      have hP : va_P D vwCl (lw cI o F ++ wk2) H := hP
      have hD : va_D A (lw cI o F ++ wk2) := hD
      refine lv_bipush (v := (-8)) B.hx B.hb dL_goesOn_164 (by decide) ?_
      refine lv_icmp_ne (tgt := 173) B.hx B.hb dL_goesOn_166 (by decide) (fun c12 => False.elim (by exact absurd c12 (by decide))) (fun _ => ?_)
      refine lv_iconst (v := (nI 1)) B.hx B.hb dL_goesOn_169 (by decide) ?_
      refine lv_goto (tgt := 174) B.hx B.hb dL_goesOn_170 (by decide) ?_
      exact q_zret B hr hP hD hS (by decide) (u := ()) rfl rfl (Nat.le_of_ble_eq_true rfl) (Nat.le_of_ble_eq_true rfl) dL_goesOn_174
    · refine lv_iload B.hx B.hb dL_goesOn_118 (lv_at hl 0 rfl) ?_
      refine lv_iconst (v := (nI 1)) B.hx B.hb dL_goesOn_120 (by decide) ?_
      refine lv_icmp_ne (tgt := 137) B.hx B.hb dL_goesOn_121 (by decide) (fun _ => ?_) (fun c13 => False.elim (by exact absurd c13 (by decide)))
      refine lv_iload B.hx B.hb dL_goesOn_137 (lv_at hl 0 rfl) ?_
      refine lv_iconst (v := (nI 2)) B.hx B.hb dL_goesOn_139 (by decide) ?_
      refine lv_icmp_eq (tgt := 155) B.hx B.hb dL_goesOn_140 (by decide) (fun c14 => False.elim (by exact absurd c14 (by decide))) (fun _ => ?_)
      refine lv_iload B.hx B.hb dL_goesOn_143 (lv_at hl 0 rfl) ?_
      refine lv_iconst (v := (nI 3)) B.hx B.hb dL_goesOn_145 (by decide) ?_
      refine lv_icmp_ne (tgt := 173) B.hx B.hb dL_goesOn_146 (by decide) (fun c15 => False.elim (by exact absurd c15 (by decide))) (fun _ => ?_)
      refine lv_iload_n B.hx B.hb dL_goesOn_149 rfl (lv_at hl 8 rfl) ?_
      refine lv_iconst (v := (nI 3)) B.hx B.hb dL_goesOn_150 (by decide) ?_
      refine lv_irem B.hx B.hb dL_goesOn_151 (by decide) ?_
      refine q_top (v2 := .int (nI (yy % 3))) (congrArg Value.int (pk_rem (by omega) (by omega) (by omega))) ?_
      refine lv_if_le (tgt := 173) B.hx B.hb dL_goesOn_152 (by decide) (fun c16 => False.elim (by replace c16 := (nI_le0 (by omega)).mp c16; omega)) (fun _ => ?_)
      refine lv_aload_n B.hx B.hb dL_goesOn_155 rfl (lv_at hl 5 rfl) ?_
      refine lv_iconst (v := (nI 5)) B.hx B.hb dL_goesOn_156 (by decide) ?_
      refine lv_iload_n B.hx B.hb dL_goesOn_157 rfl (lv_at hl 6 rfl) ?_
      refine lv_iload B.hx B.hb dL_goesOn_158 (lv_at hl 2 rfl) ?_
      refine lv_iconst (v := (nI 0)) B.hx B.hb dL_goesOn_160 (by decide) ?_
      refine q_callSX (As := [.ref b, .int (nI 5), .int (nI j), .int (nI p9), .int (nI 0)]) (rest := []) B hP hD hS (ca2.fl (lw cI o F)) (vx_cwSW 5 B.hts gL_goesOn_L_asks rfl rfl rfl (by decide +kernel) ⟨(Nat.le_of_ble_eq_true rfl), (Nat.le_of_ble_eq_true rfl)⟩) rfl hl.1 rfl (Nat.le_of_ble_eq_true rfl) dL_goesOn_161 ⟨(Nat.le_of_ble_eq_true rfl), (Nat.le_of_ble_eq_true rfl)⟩ (fun E ce q9 H locs hx => False.elim hx) (fun v u H locs hp hP hD hS => ?_)
      obtain rfl := hp
      have hP : va_P D vwCl (lw cI o F ++ wk2) H := hP
      have hD : va_D A (lw cI o F ++ wk2) := hD
      refine lv_bipush (v := (-8)) B.hx B.hb dL_goesOn_164 (by decide) ?_
      refine lv_icmp_ne (tgt := 173) B.hx B.hb dL_goesOn_166 (by decide) (fun c17 => False.elim (by exact absurd c17 (by decide))) (fun _ => ?_)
      refine lv_iconst (v := (nI 1)) B.hx B.hb dL_goesOn_169 (by decide) ?_
      refine lv_goto (tgt := 174) B.hx B.hb dL_goesOn_170 (by decide) ?_
      exact q_zret B hr hP hD hS (by decide) (u := ()) rfl rfl (Nat.le_of_ble_eq_true rfl) (Nat.le_of_ble_eq_true rfl) dL_goesOn_174
  · refine lv_if_ne (tgt := 53) B.hx B.hb dL_goesOn_46 (by decide) (fun c3 => ?_) (fun c3 => ?_)
    · refine lv_iconst (v := nI 0) B.hx B.hb dL_goesOn_53 (by decide) ?_
      refine q_top (v2 := .int (bI (decide ((nI (yy % 3)) = 0)))) (congrArg Value.int (bI_f (decide_eq_false c3))) ?_
      exact kJ
    · refine lv_iconst (v := nI 1) B.hx B.hb dL_goesOn_49 (by decide) ?_
      refine lv_goto (tgt := 54) B.hx B.hb dL_goesOn_50 (by decide) ?_
      refine q_top (v2 := .int (bI (decide ((nI (yy % 3)) = 0)))) (congrArg Value.int (bI_t (decide_eq_true c3))) ?_
      exact kJ

set_option maxHeartbeats 4000000 in
set_option maxRecDepth 100000 in
theorem lg2 (l : Launch) (D : va_G) (cI cZ cP : ClassId) (o : Nat → Nat) (F : Nat → Nat → Int32) (wk wk2 : va_W) {q0 b : Nat} {fs : List Value} (hq : wk[q0]? = some (b, .inr (3, fs))) {q2 : Nat} {fs2 : List Value} (hq2 : wk2[q2]? = some (b, .inr (3, fs2))) (j xx yy : Nat) (wt : Int32) (hj : j < 8) (hx : xx < 2 ^ 30) (hy : yy < 2 ^ 30) (wkf : Nat → va_W) (tf : Nat → Int32) (opf : Nat → Nat) (hw0 : wkf 0 = wk) (h0 : opf 0 = 5) (h4 : opf 4 = 0) (hop : ∀ i, i ≤ 4 → opf i ≤ 5) {q4 : Nat} {fs4 : List Value} (hq4 : (wkf 4)[q4]? = some (b, .inr (3, fs4))) (htf : ∀ i, i < 4 → (tf i = -7 ∧ opf (i + 1) = opf i) ∨ (tf i = -8 ∧ opf (i + 1) = opf i) ∨ (∃ t, tf i = nI t ∧ t < opf i ∧ opf (i + 1) = t)) (cs : q_C l yX3_step wsX3_step ({ frames := 2, cells := 0, slots := 0, locals := 42 }) D cI cZ cP [.ref b, .int (nI j)] wk (S := Unit) (fun v _ => v = some (.int (nI 2))) (fun _ => wk) (fun _ => False) 0 0) (cwt : q_C l yX3_waitsFor wsX3_waitsFor ({ frames := 3, cells := 0, slots := 0, locals := 62 }) D cI cZ cP [.ref b, .int (nI j)] wk (S := Unit) (fun v _ => v = some (.int wt)) (fun _ => wk) (fun _ => False) 0 0) (ca : ∀ i, i < 4 → q_C l yL_asks wsL_asks ({ frames := 8, cells := 3, slots := 18, locals := 126 }) D cI cZ cP [.ref b, .int (nI 6), .int (nI j), .int (nI i), .int (nI 0)] (wkf i) (S := Unit) (fun v _ => v = some (.int (tf i))) (fun _ => (wkf (i + 1))) (fun _ => False) 3 18) (cs4 : q_C l yX3_step wsX3_step ({ frames := 2, cells := 0, slots := 0, locals := 42 }) D cI cZ cP [.ref b, .int (nI j)] (wkf 4) (S := Unit) (fun v _ => v = some (.int (nI 3))) (fun _ => (wkf 4)) (fun _ => False) 0 0) (ca4 : q_C l yL_asks wsL_asks ({ frames := 8, cells := 3, slots := 18, locals := 126 }) D cI cZ cP [.ref b, .int (nI 6), .int (nI j), .int (nI 4), .int (nI 0)] (wkf 4) (S := Unit) (fun v _ => v = some (.int (-7))) (fun _ => (wkf 4)) (fun _ => False) 3 18) (ca5 : q_C l yL_asks wsL_asks ({ frames := 8, cells := 3, slots := 18, locals := 126 }) D cI cZ cP [.ref b, .int (nI 6), .int (nI j), .int (-1), .int (nI 0)] (wkf 4) (S := Unit) (fun v _ => v = some (.int (-7))) (fun _ => (wkf 4)) (fun _ => False) 3 18) : q_C l yL_goesOn wsL_goesOn ({ frames := 11, cells := 18, slots := 108, locals := 197 }) D cI cZ cP [.ref b, .int (nI j), .int (nI xx), .int (nI yy), .ref (o 0), .ref (o 5), .ref (o 6), .ref (o 4)] (lw cI o F ++ wk) (S := Unit) (fun v _ => v = some (.int (nI 1))) (fun _ => (lw cI o F ++ (wkf 4))) (fun _ => False) 18 108 := by
  refine q_of (cc := cL_goesOn) (maxL := 15) (ret := (some .boolean)) (by decide +kernel) rfl (Nat.le_of_ble_eq_true rfl) ?_
  intro p e s m below meth c A ls B hr htb hmn hP hD hS hl
  have hl : lv_has ls 15 [(0, .ref b), (1, .int (nI j)), (2, .int (nI xx)), (3, .int (nI yy)), (4, .ref (o 0)), (5, .ref (o 5)), (6, .ref (o 6)), (7, .ref (o 4))] := hl
  have hop4 : ∀ i, i ≤ 4 → opf i < 2 ^ 31 := fun i hi => by have := hop i hi; omega
  refine lv_bipush (v := (nI 8)) B.hx B.hb dL_goesOn_0 (by decide) ?_
  refine lv_iload_n B.hx B.hb dL_goesOn_2 rfl (lv_at hl 1 rfl) ?_
  refine lv_imul B.hx B.hb dL_goesOn_3 ?_
  refine q_top (v2 := .int (nI (8 * j))) (congrArg Value.int (pk_mul _ _)) ?_
  refine lv_istore (lv' := [(8, .int (nI (8 * j))), (0, .ref b), (1, .int (nI j)), (2, .int (nI xx)), (3, .int (nI yy)), (4, .ref (o 0)), (5, .ref (o 5)), (6, .ref (o 6)), (7, .ref (o 4))]) B.hx B.hb dL_goesOn_4 hl (by decide) rfl (fun ls hl => ?_)
  refine lv_aload_n B.hx B.hb dL_goesOn_6 rfl (lv_at hl 1 rfl) ?_
  refine lv_iload_n B.hx B.hb dL_goesOn_7 rfl (lv_at hl 2 rfl) ?_
  refine q_callV (As := [.int (nI j)]) (rest := []) B hP hD hS (cs.fl (lw cI o F)) (cwV 1 B.hts gL_goesOn_X3_step rfl rfl rfl (by decide +kernel) ⟨(Nat.le_of_ble_eq_true rfl), (Nat.le_of_ble_eq_true rfl)⟩) (q0 + 8) 3 hq rfl rfl rfl hl.1 rfl (Nat.le_of_ble_eq_true rfl) dL_goesOn_8 ⟨(Nat.le_of_ble_eq_true rfl), (Nat.le_of_ble_eq_true rfl)⟩ (fun E ce q9 H locs hx => False.elim hx) (fun v u H locs hp hP hD hS => ?_)
  obtain rfl := hp
  have hP : va_P D vwCl (lw cI o F ++ wk) H := hP
  have hD : va_D A (lw cI o F ++ wk) := hD
  refine lv_istore (lv' := [(9, .int (nI 2)), (8, .int (nI (8 * j))), (0, .ref b), (1, .int (nI j)), (2, .int (nI xx)), (3, .int (nI yy)), (4, .ref (o 0)), (5, .ref (o 5)), (6, .ref (o 6)), (7, .ref (o 4))]) B.hx B.hb dL_goesOn_11 hl (by decide) rfl (fun ls hl => ?_)
  refine lv_aload_n B.hx B.hb dL_goesOn_13 rfl (lv_at hl 2 rfl) ?_
  refine lv_iload_n B.hx B.hb dL_goesOn_14 rfl (lv_at hl 3 rfl) ?_
  refine q_callV (As := [.int (nI j)]) (rest := []) B hP hD hS (cwt.fl (lw cI o F)) (cwV 1 B.hts gL_goesOn_X3_waitsFor rfl rfl rfl (by decide +kernel) ⟨(Nat.le_of_ble_eq_true rfl), (Nat.le_of_ble_eq_true rfl)⟩) (q0 + 8) 3 hq rfl rfl rfl hl.1 rfl (Nat.le_of_ble_eq_true rfl) dL_goesOn_15 ⟨(Nat.le_of_ble_eq_true rfl), (Nat.le_of_ble_eq_true rfl)⟩ (fun E ce q9 H locs hx => False.elim hx) (fun v u H locs hp hP hD hS => ?_)
  obtain rfl := hp
  have hP : va_P D vwCl (lw cI o F ++ wk) H := hP
  have hD : va_D A (lw cI o F ++ wk) := hD
  refine lv_istore (lv' := [(10, .int wt), (9, .int (nI 2)), (8, .int (nI (8 * j))), (0, .ref b), (1, .int (nI j)), (2, .int (nI xx)), (3, .int (nI yy)), (4, .ref (o 0)), (5, .ref (o 5)), (6, .ref (o 6)), (7, .ref (o 4))]) B.hx B.hb dL_goesOn_18 hl (by decide) rfl (fun ls hl => ?_)
  refine lv_iload B.hx B.hb dL_goesOn_20 (lv_at hl 1 rfl) ?_
  refine lv_iconst (v := (nI 1)) B.hx B.hb dL_goesOn_22 (by decide) ?_
  refine lv_icmp_ne (tgt := 175) B.hx B.hb dL_goesOn_23 (by decide) (fun _ => ?_) (fun c1 => False.elim (by exact absurd c1 (by decide)))
  refine lv_iload B.hx B.hb dL_goesOn_175 (lv_at hl 1 rfl) ?_
  refine lv_iconst (v := (nI 2)) B.hx B.hb dL_goesOn_177 (by decide) ?_
  refine lv_icmp_ne (tgt := 313) B.hx B.hb dL_goesOn_178 (by decide) (fun c2 => False.elim (by exact absurd c2 (by decide))) (fun _ => ?_)
  refine lv_iconst (v := (nI 5)) B.hx B.hb dL_goesOn_181 (by decide) ?_
  refine lv_istore (lv' := [(11, .int (nI 5)), (10, .int wt), (9, .int (nI 2)), (8, .int (nI (8 * j))), (0, .ref b), (1, .int (nI j)), (2, .int (nI xx)), (3, .int (nI yy)), (4, .ref (o 0)), (5, .ref (o 5)), (6, .ref (o 6)), (7, .ref (o 4))]) B.hx B.hb dL_goesOn_182 hl (by decide) rfl (fun ls hl => ?_)
  refine lv_iconst (v := (nI 0)) B.hx B.hb dL_goesOn_184 (by decide) ?_
  refine lv_istore (lv' := [(12, .int (nI 0)), (11, .int (nI 5)), (10, .int wt), (9, .int (nI 2)), (8, .int (nI (8 * j))), (0, .ref b), (1, .int (nI j)), (2, .int (nI xx)), (3, .int (nI yy)), (4, .ref (o 0)), (5, .ref (o 5)), (6, .ref (o 6)), (7, .ref (o 4))]) B.hx B.hb dL_goesOn_185 hl (by decide) rfl (fun ls hl => ?_)
  have e0 : nI 5 = nI (opf 0) := by rw [h0]
  have hl : lv_has ls 15 [(12, .int (nI 0)), (11, .int (nI (opf 0))), (10, .int wt), (9, .int (nI 2)), (8, .int (nI (8 * j))), (0, .ref b), (1, .int (nI j)), (2, .int (nI xx)), (3, .int (nI yy)), (4, .ref (o 0)), (5, .ref (o 5)), (6, .ref (o 6)), (7, .ref (o 4))] := by rw [← e0]; exact hl
  refine q_loopG (nL := 15) (fun i : Nat => i ≤ 4) (fun i : Nat => 4 - i) (fun i : Nat => [(12, .int (nI i)), (11, .int (nI (opf i))), (10, .int wt), (9, .int (nI 2)), (8, .int (nI (8 * j))), (0, .ref b), (1, .int (nI j)), (2, .int (nI xx)), (3, .int (nI yy)), (4, .ref (o 0)), (5, .ref (o 5)), (6, .ref (o 6)), (7, .ref (o 4))]) (fun i : Nat => (lw cI o F ++ wkf i)) (fun i : Nat => 3 * i) (fun i : Nat => 18 * i) (0) (Nat.zero_le _) (lv_sub hl [0, 1, 2, 3, 4, 5, 6, 7, 8, 9, 10, 11, 12] rfl) (show va_P D vwCl (lw cI o F ++ wkf 0) _ by rw [hw0]; exact hP) (show va_D A (lw cI o F ++ wkf 0) by rw [hw0]; exact hD) hS ?_
  intro i3 hI4 ih5 ls H locs hl hP hD hS
  have hI4 : i3 ≤ 4 := hI4
  have hl : lv_has ls 15 [(12, .int (nI i3)), (11, .int (nI (opf i3))), (10, .int wt), (9, .int (nI 2)), (8, .int (nI (8 * j))), (0, .ref b), (1, .int (nI j)), (2, .int (nI xx)), (3, .int (nI yy)), (4, .ref (o 0)), (5, .ref (o 5)), (6, .ref (o 6)), (7, .ref (o 4))] := hl
  have hP : va_P D vwCl (lw cI o F ++ (wkf i3)) H := hP
  have hD : va_D A (lw cI o F ++ (wkf i3)) := hD
  refine lv_iload B.hx B.hb dL_goesOn_187 (lv_at hl 0 rfl) ?_
  refine lv_iconst (v := (nI 4)) B.hx B.hb dL_goesOn_189 (by decide) ?_
  refine lv_icmp_ge (tgt := 265) B.hx B.hb dL_goesOn_190 (by decide) (fun c6 => ?_) (fun c6 => ?_)
  · replace c6 := (nI_leI (by omega) (by omega)).mp c6
    obtain rfl : i3 = 4 := by omega
    have e4 : nI (opf 4) = nI 0 := by rw [h4]
    have hl : lv_has ls 15 [(12, .int (nI 4)), (11, .int (nI 0)), (10, .int wt), (9, .int (nI 2)), (8, .int (nI (8 * j))), (0, .ref b), (1, .int (nI j)), (2, .int (nI xx)), (3, .int (nI yy)), (4, .ref (o 0)), (5, .ref (o 5)), (6, .ref (o 6)), (7, .ref (o 4))] := by rw [← e4]; exact hl
    refine lv_iload B.hx B.hb dL_goesOn_265 (lv_at hl 1 rfl) ?_
    refine lv_if_ne (tgt := 311) B.hx B.hb dL_goesOn_267 (by decide) (fun c7 => False.elim (by exact absurd c7 (by decide))) (fun _ => ?_)
    refine lv_aload_n B.hx B.hb dL_goesOn_270 rfl (lv_at hl 5 rfl) ?_
    refine lv_iload_n B.hx B.hb dL_goesOn_271 rfl (lv_at hl 6 rfl) ?_
    refine q_callV (As := [.int (nI j)]) (rest := []) B hP hD hS (cs4.fl (lw cI o F)) (cwV 1 B.hts gL_goesOn_X3_step rfl rfl rfl (by decide +kernel) ⟨(Nat.le_of_ble_eq_true rfl), (Nat.le_of_ble_eq_true rfl)⟩) (q4 + 8) 3 hq4 rfl rfl rfl hl.1 rfl (Nat.le_of_ble_eq_true rfl) dL_goesOn_272 ⟨(Nat.le_of_ble_eq_true rfl), (Nat.le_of_ble_eq_true rfl)⟩ (fun E ce q9 H locs hx => False.elim hx) (fun v u H locs hp hP hD hS => ?_)
    obtain rfl := hp
    have hP : va_P D vwCl (lw cI o F ++ (wkf 4)) H := hP
    have hD : va_D A (lw cI o F ++ (wkf 4)) := hD
    refine lv_iconst (v := (nI 3)) B.hx B.hb dL_goesOn_275 (by decide) ?_
    refine lv_icmp_ne (tgt := 311) B.hx B.hb dL_goesOn_276 (by decide) (fun c8 => False.elim (by exact absurd c8 (by decide))) (fun _ => ?_)
    refine lv_aload_n B.hx B.hb dL_goesOn_279 rfl (lv_at hl 5 rfl) ?_
    refine lv_bipush (v := (nI 6)) B.hx B.hb dL_goesOn_280 (by decide) ?_
    refine lv_iload_n B.hx B.hb dL_goesOn_282 rfl (lv_at hl 6 rfl) ?_
    refine lv_iconst (v := (nI 4)) B.hx B.hb dL_goesOn_283 (by decide) ?_
    refine lv_iconst (v := (nI 0)) B.hx B.hb dL_goesOn_284 (by decide) ?_
    refine q_callSX (As := [.ref b, .int (nI 6), .int (nI j), .int (nI 4), .int (nI 0)]) (rest := []) B hP hD hS (ca4.fl (lw cI o F)) (vx_cwSW 5 B.hts gL_goesOn_L_asks rfl rfl rfl (by decide +kernel) ⟨(Nat.le_of_ble_eq_true rfl), (Nat.le_of_ble_eq_true rfl)⟩) rfl hl.1 rfl (Nat.le_of_ble_eq_true rfl) dL_goesOn_285 ⟨(Nat.le_of_ble_eq_true rfl), (Nat.le_of_ble_eq_true rfl)⟩ (fun E ce q9 H locs hx => False.elim hx) (fun v u H locs hp hP hD hS => ?_)
    obtain rfl := hp
    have hP : va_P D vwCl (lw cI o F ++ (wkf 4)) H := hP
    have hD : va_D A (lw cI o F ++ (wkf 4)) := hD
    refine lv_bipush (v := (-7)) B.hx B.hb dL_goesOn_288 (by decide) ?_
    refine lv_icmp_ne (tgt := 311) B.hx B.hb dL_goesOn_290 (by decide) (fun c9 => False.elim (by exact absurd c9 (by decide))) (fun _ => ?_)
    refine lv_aload_n B.hx B.hb dL_goesOn_293 rfl (lv_at hl 5 rfl) ?_
    refine lv_bipush (v := (nI 6)) B.hx B.hb dL_goesOn_294 (by decide) ?_
    refine lv_iload_n B.hx B.hb dL_goesOn_296 rfl (lv_at hl 6 rfl) ?_
    refine lv_iconst (v := (-1)) B.hx B.hb dL_goesOn_297 (by decide) ?_
    refine lv_iconst (v := (nI 0)) B.hx B.hb dL_goesOn_298 (by decide) ?_
    refine q_callSX (As := [.ref b, .int (nI 6), .int (nI j), .int (-1), .int (nI 0)]) (rest := []) B hP hD hS (ca5.fl (lw cI o F)) (vx_cwSW 5 B.hts gL_goesOn_L_asks rfl rfl rfl (by decide +kernel) ⟨(Nat.le_of_ble_eq_true rfl), (Nat.le_of_ble_eq_true rfl)⟩) rfl hl.1 rfl (Nat.le_of_ble_eq_true rfl) dL_goesOn_299 ⟨(Nat.le_of_ble_eq_true rfl), (Nat.le_of_ble_eq_true rfl)⟩ (fun E ce q9 H locs hx => False.elim hx) (fun v u H locs hp hP hD hS => ?_)
    obtain rfl := hp
    have hP : va_P D vwCl (lw cI o F ++ (wkf 4)) H := hP
    have hD : va_D A (lw cI o F ++ (wkf 4)) := hD
    refine lv_bipush (v := (-7)) B.hx B.hb dL_goesOn_302 (by decide) ?_
    refine lv_icmp_ne (tgt := 311) B.hx B.hb dL_goesOn_304 (by decide) (fun c10 => False.elim (by exact absurd c10 (by decide))) (fun _ => ?_)
    refine lv_iconst (v := (nI 1)) B.hx B.hb dL_goesOn_307 (by decide) ?_
    refine lv_goto (tgt := 312) B.hx B.hb dL_goesOn_308 (by decide) ?_
    exact q_zret B hr hP hD hS (by decide) (u := ()) rfl rfl (Nat.le_of_ble_eq_true rfl) (Nat.le_of_ble_eq_true rfl) dL_goesOn_312
  · replace c6 := mt (nI_leI (by omega) (by omega)).mpr c6
    refine lv_aload_n B.hx B.hb dL_goesOn_193 rfl (lv_at hl 5 rfl) ?_
    refine lv_bipush (v := (nI 6)) B.hx B.hb dL_goesOn_194 (by decide) ?_
    refine lv_iload_n B.hx B.hb dL_goesOn_196 rfl (lv_at hl 6 rfl) ?_
    refine lv_iload B.hx B.hb dL_goesOn_197 (lv_at hl 0 rfl) ?_
    refine lv_iconst (v := (nI 0)) B.hx B.hb dL_goesOn_199 (by decide) ?_
    refine q_callSX (As := [.ref b, .int (nI 6), .int (nI j), .int (nI i3), .int (nI 0)]) (rest := []) B hP hD hS ((ca i3 (by omega)).fl (lw cI o F)) (vx_cwSW 5 B.hts gL_goesOn_L_asks rfl rfl rfl (by decide +kernel) ⟨(Nat.le_of_ble_eq_true rfl), (Nat.le_of_ble_eq_true rfl)⟩) rfl hl.1 rfl (Nat.le_of_ble_eq_true rfl) dL_goesOn_200 ⟨show 3 * i3 + 3 ≤ 18 by omega, show 18 * i3 + 18 ≤ 108 by omega⟩ (fun E ce q9 H locs hx => False.elim hx) (fun v u H locs hp hP hD hS => ?_)
    obtain rfl := hp
    have hP : va_P D vwCl (lw cI o F ++ (wkf (i3 + 1))) H := hP
    have hD : va_D A (lw cI o F ++ (wkf (i3 + 1))) := hD
    refine lv_istore (lv' := [(13, .int (tf i3)), (12, .int (nI i3)), (11, .int (nI (opf i3))), (10, .int wt), (9, .int (nI 2)), (8, .int (nI (8 * j))), (0, .ref b), (1, .int (nI j)), (2, .int (nI xx)), (3, .int (nI yy)), (4, .ref (o 0)), (5, .ref (o 5)), (6, .ref (o 6)), (7, .ref (o 4))]) B.hx B.hb dL_goesOn_203 hl (by decide) rfl (fun ls hl => ?_)
    rcases htf i3 (by omega) with ⟨ht, ho⟩ | ⟨ht, ho⟩ | ⟨t9, ht, hlt, ho⟩
    · have hop8 := hop i3 (by omega)
      have hop9 := hop (i3 + 1) (by omega)
      have hl : lv_has ls 15 [(13, .int (-7)), (12, .int (nI i3)), (11, .int (nI (opf i3))), (10, .int wt), (9, .int (nI 2)), (8, .int (nI (8 * j))), (0, .ref b), (1, .int (nI j)), (2, .int (nI xx)), (3, .int (nI yy)), (4, .ref (o 0)), (5, .ref (o 5)), (6, .ref (o 6)), (7, .ref (o 4))] := by rw [← ht]; exact hl
      refine lv_iload B.hx B.hb dL_goesOn_205 (lv_at hl 0 rfl) ?_
      refine lv_bipush (v := (-7)) B.hx B.hb dL_goesOn_207 (by decide) ?_
      refine lv_icmp_eq (tgt := 231) B.hx B.hb dL_goesOn_209 (by decide) (fun _ => ?_) (fun c11 => False.elim (by exact absurd c11 (by decide)))
      refine lv_iconst (v := (nI 1)) B.hx B.hb dL_goesOn_231 (by decide) ?_
      refine lv_goto (tgt := 236) B.hx B.hb dL_goesOn_232 (by decide) ?_
      refine lv_istore (lv' := [(14, .int (nI 1)), (13, .int (-7)), (12, .int (nI i3)), (11, .int (nI (opf i3))), (10, .int wt), (9, .int (nI 2)), (8, .int (nI (8 * j))), (0, .ref b), (1, .int (nI j)), (2, .int (nI xx)), (3, .int (nI yy)), (4, .ref (o 0)), (5, .ref (o 5)), (6, .ref (o 6)), (7, .ref (o 4))]) B.hx B.hb dL_goesOn_236 hl (by decide) rfl (fun ls hl => ?_)
      refine lv_iload B.hx B.hb dL_goesOn_238 (lv_at hl 1 rfl) ?_
      refine lv_if_lt (tgt := 248) B.hx B.hb dL_goesOn_240 (by decide) (fun _ => ?_) (fun c12 => False.elim (by exact absurd c12 (by decide)))
      refine lv_iload B.hx B.hb dL_goesOn_248 (lv_at hl 3 rfl) ?_
      refine lv_istore (lv' := [(11, .int (nI (opf i3))), (14, .int (nI 1)), (13, .int (-7)), (12, .int (nI i3)), (10, .int wt), (9, .int (nI 2)), (8, .int (nI (8 * j))), (0, .ref b), (1, .int (nI j)), (2, .int (nI xx)), (3, .int (nI yy)), (4, .ref (o 0)), (5, .ref (o 5)), (6, .ref (o 6)), (7, .ref (o 4))]) B.hx B.hb dL_goesOn_250 hl (by decide) rfl (fun ls hl => ?_)
      refine lv_iload B.hx B.hb dL_goesOn_252 (lv_at hl 1 rfl) ?_
      refine lv_if_ne (tgt := 259) B.hx B.hb dL_goesOn_254 (by decide) (fun _ => ?_) (fun c13 => False.elim (by exact absurd c13 (by decide)))
      have hl : lv_has ls 15 [(11, .int (nI (opf (i3 + 1)))), (14, .int (nI 1)), (13, .int (-7)), (12, .int (nI i3)), (10, .int wt), (9, .int (nI 2)), (8, .int (nI (8 * j))), (0, .ref b), (1, .int (nI j)), (2, .int (nI xx)), (3, .int (nI yy)), (4, .ref (o 0)), (5, .ref (o 5)), (6, .ref (o 6)), (7, .ref (o 4))] := by rw [ho]; exact hl
      refine lv_iinc (v := (nI (i3 + 1))) (lv' := [(12, .int (nI (i3 + 1))), (11, .int (nI (opf (i3 + 1)))), (14, .int (nI 1)), (13, .int (-7)), (10, .int wt), (9, .int (nI 2)), (8, .int (nI (8 * j))), (0, .ref b), (1, .int (nI j)), (2, .int (nI xx)), (3, .int (nI yy)), (4, .ref (o 0)), (5, .ref (o 5)), (6, .ref (o 6)), (7, .ref (o 4))]) B.hx B.hb dL_goesOn_259 hl (k := 3) rfl (nI_1 _) (by decide) rfl (fun ls hl => ?_)
      refine lv_goto (tgt := 187) B.hx B.hb dL_goesOn_262 (by decide) ?_
      exact ih5 (i3 + 1) (by omega) (by omega) ls H _ (lv_sub hl [0, 1, 4, 5, 6, 7, 8, 9, 10, 11, 12, 13, 14] rfl) hP hD hS
    · have hop8 := hop i3 (by omega)
      have hop9 := hop (i3 + 1) (by omega)
      have hl : lv_has ls 15 [(13, .int (-8)), (12, .int (nI i3)), (11, .int (nI (opf i3))), (10, .int wt), (9, .int (nI 2)), (8, .int (nI (8 * j))), (0, .ref b), (1, .int (nI j)), (2, .int (nI xx)), (3, .int (nI yy)), (4, .ref (o 0)), (5, .ref (o 5)), (6, .ref (o 6)), (7, .ref (o 4))] := by rw [← ht]; exact hl
      refine lv_iload B.hx B.hb dL_goesOn_205 (lv_at hl 0 rfl) ?_
      refine lv_bipush (v := (-7)) B.hx B.hb dL_goesOn_207 (by decide) ?_
      refine lv_icmp_eq (tgt := 231) B.hx B.hb dL_goesOn_209 (by decide) (fun c14 => False.elim (by exact absurd c14 (by decide))) (fun _ => ?_)
      refine lv_iload B.hx B.hb dL_goesOn_212 (lv_at hl 0 rfl) ?_
      refine lv_bipush (v := (-8)) B.hx B.hb dL_goesOn_214 (by decide) ?_
      refine lv_icmp_eq (tgt := 231) B.hx B.hb dL_goesOn_216 (by decide) (fun _ => ?_) (fun c15 => False.elim (by exact absurd c15 (by decide)))
      refine lv_iconst (v := (nI 1)) B.hx B.hb dL_goesOn_231 (by decide) ?_
      refine lv_goto (tgt := 236) B.hx B.hb dL_goesOn_232 (by decide) ?_
      refine lv_istore (lv' := [(14, .int (nI 1)), (13, .int (-8)), (12, .int (nI i3)), (11, .int (nI (opf i3))), (10, .int wt), (9, .int (nI 2)), (8, .int (nI (8 * j))), (0, .ref b), (1, .int (nI j)), (2, .int (nI xx)), (3, .int (nI yy)), (4, .ref (o 0)), (5, .ref (o 5)), (6, .ref (o 6)), (7, .ref (o 4))]) B.hx B.hb dL_goesOn_236 hl (by decide) rfl (fun ls hl => ?_)
      refine lv_iload B.hx B.hb dL_goesOn_238 (lv_at hl 1 rfl) ?_
      refine lv_if_lt (tgt := 248) B.hx B.hb dL_goesOn_240 (by decide) (fun _ => ?_) (fun c16 => False.elim (by exact absurd c16 (by decide)))
      refine lv_iload B.hx B.hb dL_goesOn_248 (lv_at hl 3 rfl) ?_
      refine lv_istore (lv' := [(11, .int (nI (opf i3))), (14, .int (nI 1)), (13, .int (-8)), (12, .int (nI i3)), (10, .int wt), (9, .int (nI 2)), (8, .int (nI (8 * j))), (0, .ref b), (1, .int (nI j)), (2, .int (nI xx)), (3, .int (nI yy)), (4, .ref (o 0)), (5, .ref (o 5)), (6, .ref (o 6)), (7, .ref (o 4))]) B.hx B.hb dL_goesOn_250 hl (by decide) rfl (fun ls hl => ?_)
      refine lv_iload B.hx B.hb dL_goesOn_252 (lv_at hl 1 rfl) ?_
      refine lv_if_ne (tgt := 259) B.hx B.hb dL_goesOn_254 (by decide) (fun _ => ?_) (fun c17 => False.elim (by exact absurd c17 (by decide)))
      have hl : lv_has ls 15 [(11, .int (nI (opf (i3 + 1)))), (14, .int (nI 1)), (13, .int (-8)), (12, .int (nI i3)), (10, .int wt), (9, .int (nI 2)), (8, .int (nI (8 * j))), (0, .ref b), (1, .int (nI j)), (2, .int (nI xx)), (3, .int (nI yy)), (4, .ref (o 0)), (5, .ref (o 5)), (6, .ref (o 6)), (7, .ref (o 4))] := by rw [ho]; exact hl
      refine lv_iinc (v := (nI (i3 + 1))) (lv' := [(12, .int (nI (i3 + 1))), (11, .int (nI (opf (i3 + 1)))), (14, .int (nI 1)), (13, .int (-8)), (10, .int wt), (9, .int (nI 2)), (8, .int (nI (8 * j))), (0, .ref b), (1, .int (nI j)), (2, .int (nI xx)), (3, .int (nI yy)), (4, .ref (o 0)), (5, .ref (o 5)), (6, .ref (o 6)), (7, .ref (o 4))]) B.hx B.hb dL_goesOn_259 hl (k := 3) rfl (nI_1 _) (by decide) rfl (fun ls hl => ?_)
      refine lv_goto (tgt := 187) B.hx B.hb dL_goesOn_262 (by decide) ?_
      exact ih5 (i3 + 1) (by omega) (by omega) ls H _ (lv_sub hl [0, 1, 4, 5, 6, 7, 8, 9, 10, 11, 12, 13, 14] rfl) hP hD hS
    · have hop8 := hop i3 (by omega)
      have hop9 := hop (i3 + 1) (by omega)
      have hl : lv_has ls 15 [(13, .int (nI t9)), (12, .int (nI i3)), (11, .int (nI (opf i3))), (10, .int wt), (9, .int (nI 2)), (8, .int (nI (8 * j))), (0, .ref b), (1, .int (nI j)), (2, .int (nI xx)), (3, .int (nI yy)), (4, .ref (o 0)), (5, .ref (o 5)), (6, .ref (o 6)), (7, .ref (o 4))] := by rw [← ht]; exact hl
      refine lv_iload B.hx B.hb dL_goesOn_205 (lv_at hl 0 rfl) ?_
      refine lv_bipush (v := (-7)) B.hx B.hb dL_goesOn_207 (by decide) ?_
      refine lv_icmp_eq (tgt := 231) B.hx B.hb dL_goesOn_209 (by decide) (fun c18 => False.elim (by exact nI_nn (by omega) (by decide) c18)) (fun _ => ?_)
      refine lv_iload B.hx B.hb dL_goesOn_212 (lv_at hl 0 rfl) ?_
      refine lv_bipush (v := (-8)) B.hx B.hb dL_goesOn_214 (by decide) ?_
      refine lv_icmp_eq (tgt := 231) B.hx B.hb dL_goesOn_216 (by decide) (fun c19 => False.elim (by exact nI_nn (by omega) (by decide) c19)) (fun _ => ?_)
      refine lv_iload B.hx B.hb dL_goesOn_219 (lv_at hl 0 rfl) ?_
      refine lv_if_lt (tgt := 235) B.hx B.hb dL_goesOn_221 (by decide) (fun c20 => False.elim (by replace c20 := (nI_lt0 (by omega)).mp c20; exact c20)) (fun _ => ?_)
      refine lv_iload B.hx B.hb dL_goesOn_224 (lv_at hl 0 rfl) ?_
      refine lv_iload B.hx B.hb dL_goesOn_226 (lv_at hl 2 rfl) ?_
      refine lv_icmp_ge (tgt := 235) B.hx B.hb dL_goesOn_228 (by decide) (fun c21 => False.elim (by replace c21 := (nI_leI (by omega) (by omega)).mp c21; omega)) (fun _ => ?_)
      refine lv_iconst (v := (nI 1)) B.hx B.hb dL_goesOn_231 (by decide) ?_
      refine lv_goto (tgt := 236) B.hx B.hb dL_goesOn_232 (by decide) ?_
      refine lv_istore (lv' := [(14, .int (nI 1)), (13, .int (nI t9)), (12, .int (nI i3)), (11, .int (nI (opf i3))), (10, .int wt), (9, .int (nI 2)), (8, .int (nI (8 * j))), (0, .ref b), (1, .int (nI j)), (2, .int (nI xx)), (3, .int (nI yy)), (4, .ref (o 0)), (5, .ref (o 5)), (6, .ref (o 6)), (7, .ref (o 4))]) B.hx B.hb dL_goesOn_236 hl (by decide) rfl (fun ls hl => ?_)
      refine lv_iload B.hx B.hb dL_goesOn_238 (lv_at hl 1 rfl) ?_
      refine lv_if_lt (tgt := 248) B.hx B.hb dL_goesOn_240 (by decide) (fun c22 => False.elim (by replace c22 := (nI_lt0 (by omega)).mp c22; exact c22)) (fun _ => ?_)
      refine lv_iload B.hx B.hb dL_goesOn_243 (lv_at hl 1 rfl) ?_
      refine lv_goto (tgt := 250) B.hx B.hb dL_goesOn_245 (by decide) ?_
      refine lv_istore (lv' := [(11, .int (nI t9)), (14, .int (nI 1)), (13, .int (nI t9)), (12, .int (nI i3)), (10, .int wt), (9, .int (nI 2)), (8, .int (nI (8 * j))), (0, .ref b), (1, .int (nI j)), (2, .int (nI xx)), (3, .int (nI yy)), (4, .ref (o 0)), (5, .ref (o 5)), (6, .ref (o 6)), (7, .ref (o 4))]) B.hx B.hb dL_goesOn_250 hl (by decide) rfl (fun ls hl => ?_)
      refine lv_iload B.hx B.hb dL_goesOn_252 (lv_at hl 1 rfl) ?_
      refine lv_if_ne (tgt := 259) B.hx B.hb dL_goesOn_254 (by decide) (fun _ => ?_) (fun c23 => False.elim (by exact absurd c23 (by decide)))
      have hl : lv_has ls 15 [(11, .int (nI (opf (i3 + 1)))), (14, .int (nI 1)), (13, .int (nI t9)), (12, .int (nI i3)), (10, .int wt), (9, .int (nI 2)), (8, .int (nI (8 * j))), (0, .ref b), (1, .int (nI j)), (2, .int (nI xx)), (3, .int (nI yy)), (4, .ref (o 0)), (5, .ref (o 5)), (6, .ref (o 6)), (7, .ref (o 4))] := by rw [ho]; exact hl
      refine lv_iinc (v := (nI (i3 + 1))) (lv' := [(12, .int (nI (i3 + 1))), (11, .int (nI (opf (i3 + 1)))), (14, .int (nI 1)), (13, .int (nI t9)), (10, .int wt), (9, .int (nI 2)), (8, .int (nI (8 * j))), (0, .ref b), (1, .int (nI j)), (2, .int (nI xx)), (3, .int (nI yy)), (4, .ref (o 0)), (5, .ref (o 5)), (6, .ref (o 6)), (7, .ref (o 4))]) B.hx B.hb dL_goesOn_259 hl (k := 3) rfl (nI_1 _) (by decide) rfl (fun ls hl => ?_)
      refine lv_goto (tgt := 187) B.hx B.hb dL_goesOn_262 (by decide) ?_
      exact ih5 (i3 + 1) (by omega) (by omega) ls H _ (lv_sub hl [0, 1, 4, 5, 6, 7, 8, 9, 10, 11, 12, 13, 14] rfl) hP hD hS

set_option maxHeartbeats 4000000 in
set_option maxRecDepth 100000 in
theorem lg3y (l : Launch) (D : va_G) (cI cZ cP : ClassId) (o : Nat → Nat) (F : Nat → Nat → Int32) (wk wk2 : va_W) {q0 b : Nat} {fs : List Value} (hq : wk[q0]? = some (b, .inr (3, fs))) {q2 : Nat} {fs2 : List Value} (hq2 : wk2[q2]? = some (b, .inr (3, fs2))) (j xx yy : Nat) (wt : Int32) (hj : j < 8) (hx : xx < 2 ^ 30) (hy : yy < 2 ^ 30) (td : Nat) (htd : td ≤ 1000) (M : Nat) (hM : M < 64) (f40 : F 4 0 = nI td) (f51 : F 5 1 = nI M) (s2 : Nat) (h3 : 3 < s2) (hs5 : s2 ≤ 5) (hau : ¬ nI (xx % 6) = F 0 (8 * j + 1)) (hm : lmA M (F 6) (xx % 6) 6 = true) (hd : td + 1 + yy % 9 ≤ 1000) (cs : q_C l yX3_step wsX3_step ({ frames := 2, cells := 0, slots := 0, locals := 42 }) D cI cZ cP [.ref b, .int (nI j)] wk (S := Unit) (fun v _ => v = some (.int (nI 3))) (fun _ => wk) (fun _ => False) 0 0) (cwt : q_C l yX3_waitsFor wsX3_waitsFor ({ frames := 3, cells := 0, slots := 0, locals := 62 }) D cI cZ cP [.ref b, .int (nI j)] wk (S := Unit) (fun v _ => v = some (.int wt)) (fun _ => wk) (fun _ => False) 0 0) (ca : q_C l yL_asks wsL_asks ({ frames := 10, cells := 4, slots := 24, locals := 172 }) D cI cZ cP [.ref b, .int (nI 7), .int (nI j), .int (nI (xx % 6)), .int (nI (td + 1 + (yy % 9)))] wk (S := Unit) (fun v _ => v = some (.int (nI 0))) (fun _ => wk2) (fun _ => False) 4 24) (cs2 : q_C l yX3_step wsX3_step ({ frames := 2, cells := 0, slots := 0, locals := 42 }) D cI cZ cP [.ref b, .int (nI j)] wk2 (S := Unit) (fun v _ => v = some (.int (nI s2))) (fun _ => wk2) (fun _ => False) 0 0) (ca2 : q_C l yL_asks wsL_asks ({ frames := 10, cells := 4, slots := 24, locals := 172 }) D cI cZ cP [.ref b, .int (nI 7), .int (nI j), .int (nI (xx % 6)), .int (nI td)] wk2 (S := Unit) (fun v _ => v = some (.int (-9))) (fun _ => wk2) (fun _ => False) 4 24) : q_C l yL_goesOn wsL_goesOn ({ frames := 11, cells := 18, slots := 108, locals := 197 }) D cI cZ cP [.ref b, .int (nI j), .int (nI xx), .int (nI yy), .ref (o 0), .ref (o 5), .ref (o 6), .ref (o 4)] (lw cI o F ++ wk) (S := Unit) (fun v _ => v = some (.int (nI 1))) (fun _ => (lw cI o (va_up F 0 (upd (F 0) (8 * j + 4) (nI (td + 1 + (yy % 9))))) ++ wk2)) (fun _ => False) 18 108 := by
  refine q_of (cc := cL_goesOn) (maxL := 15) (ret := (some .boolean)) (by decide +kernel) rfl (Nat.le_of_ble_eq_true rfl) ?_
  intro p e s m below meth c A ls B hr htb hmn hP hD hS hl
  have hl : lv_has ls 15 [(0, .ref b), (1, .int (nI j)), (2, .int (nI xx)), (3, .int (nI yy)), (4, .ref (o 0)), (5, .ref (o 5)), (6, .ref (o 6)), (7, .ref (o 4))] := hl
  refine lv_bipush (v := (nI 8)) B.hx B.hb dL_goesOn_0 (by decide) ?_
  refine lv_iload_n B.hx B.hb dL_goesOn_2 rfl (lv_at hl 1 rfl) ?_
  refine lv_imul B.hx B.hb dL_goesOn_3 ?_
  refine q_top (v2 := .int (nI (8 * j))) (congrArg Value.int (pk_mul _ _)) ?_
  refine lv_istore (lv' := [(8, .int (nI (8 * j))), (0, .ref b), (1, .int (nI j)), (2, .int (nI xx)), (3, .int (nI yy)), (4, .ref (o 0)), (5, .ref (o 5)), (6, .ref (o 6)), (7, .ref (o 4))]) B.hx B.hb dL_goesOn_4 hl (by decide) rfl (fun ls hl => ?_)
  refine lv_aload_n B.hx B.hb dL_goesOn_6 rfl (lv_at hl 1 rfl) ?_
  refine lv_iload_n B.hx B.hb dL_goesOn_7 rfl (lv_at hl 2 rfl) ?_
  refine q_callV (As := [.int (nI j)]) (rest := []) B hP hD hS (cs.fl (lw cI o F)) (cwV 1 B.hts gL_goesOn_X3_step rfl rfl rfl (by decide +kernel) ⟨(Nat.le_of_ble_eq_true rfl), (Nat.le_of_ble_eq_true rfl)⟩) (q0 + 8) 3 hq rfl rfl rfl hl.1 rfl (Nat.le_of_ble_eq_true rfl) dL_goesOn_8 ⟨(Nat.le_of_ble_eq_true rfl), (Nat.le_of_ble_eq_true rfl)⟩ (fun E ce q9 H locs hx => False.elim hx) (fun v u H locs hp hP hD hS => ?_)
  obtain rfl := hp
  have hP : va_P D vwCl (lw cI o F ++ wk) H := hP
  have hD : va_D A (lw cI o F ++ wk) := hD
  refine lv_istore (lv' := [(9, .int (nI 3)), (8, .int (nI (8 * j))), (0, .ref b), (1, .int (nI j)), (2, .int (nI xx)), (3, .int (nI yy)), (4, .ref (o 0)), (5, .ref (o 5)), (6, .ref (o 6)), (7, .ref (o 4))]) B.hx B.hb dL_goesOn_11 hl (by decide) rfl (fun ls hl => ?_)
  refine lv_aload_n B.hx B.hb dL_goesOn_13 rfl (lv_at hl 2 rfl) ?_
  refine lv_iload_n B.hx B.hb dL_goesOn_14 rfl (lv_at hl 3 rfl) ?_
  refine q_callV (As := [.int (nI j)]) (rest := []) B hP hD hS (cwt.fl (lw cI o F)) (cwV 1 B.hts gL_goesOn_X3_waitsFor rfl rfl rfl (by decide +kernel) ⟨(Nat.le_of_ble_eq_true rfl), (Nat.le_of_ble_eq_true rfl)⟩) (q0 + 8) 3 hq rfl rfl rfl hl.1 rfl (Nat.le_of_ble_eq_true rfl) dL_goesOn_15 ⟨(Nat.le_of_ble_eq_true rfl), (Nat.le_of_ble_eq_true rfl)⟩ (fun E ce q9 H locs hx => False.elim hx) (fun v u H locs hp hP hD hS => ?_)
  obtain rfl := hp
  have hP : va_P D vwCl (lw cI o F ++ wk) H := hP
  have hD : va_D A (lw cI o F ++ wk) := hD
  refine lv_istore (lv' := [(10, .int wt), (9, .int (nI 3)), (8, .int (nI (8 * j))), (0, .ref b), (1, .int (nI j)), (2, .int (nI xx)), (3, .int (nI yy)), (4, .ref (o 0)), (5, .ref (o 5)), (6, .ref (o 6)), (7, .ref (o 4))]) B.hx B.hb dL_goesOn_18 hl (by decide) rfl (fun ls hl => ?_)
  refine lv_iload B.hx B.hb dL_goesOn_20 (lv_at hl 1 rfl) ?_
  refine lv_iconst (v := (nI 1)) B.hx B.hb dL_goesOn_22 (by decide) ?_
  refine lv_icmp_ne (tgt := 175) B.hx B.hb dL_goesOn_23 (by decide) (fun _ => ?_) (fun c1 => False.elim (by exact absurd c1 (by decide)))
  refine lv_iload B.hx B.hb dL_goesOn_175 (lv_at hl 1 rfl) ?_
  refine lv_iconst (v := (nI 2)) B.hx B.hb dL_goesOn_177 (by decide) ?_
  refine lv_icmp_ne (tgt := 313) B.hx B.hb dL_goesOn_178 (by decide) (fun _ => ?_) (fun c2 => False.elim (by exact absurd c2 (by decide)))
  refine lv_iload B.hx B.hb dL_goesOn_313 (lv_at hl 1 rfl) ?_
  refine lv_iconst (v := (nI 3)) B.hx B.hb dL_goesOn_315 (by decide) ?_
  refine lv_icmp_ne (tgt := 487) B.hx B.hb dL_goesOn_316 (by decide) (fun c3 => False.elim (by exact absurd c3 (by decide))) (fun _ => ?_)
  refine lv_iload_n B.hx B.hb dL_goesOn_319 rfl (lv_at hl 5 rfl) ?_
  refine lv_bipush (v := (nI 6)) B.hx B.hb dL_goesOn_320 (by decide) ?_
  refine lv_irem B.hx B.hb dL_goesOn_322 (by decide) ?_
  refine q_top (v2 := .int (nI (xx % 6))) (congrArg Value.int (pk_rem (by omega) (by omega) (by omega))) ?_
  refine lv_istore (lv' := [(11, .int (nI (xx % 6))), (10, .int wt), (9, .int (nI 3)), (8, .int (nI (8 * j))), (0, .ref b), (1, .int (nI j)), (2, .int (nI xx)), (3, .int (nI yy)), (4, .ref (o 0)), (5, .ref (o 5)), (6, .ref (o 6)), (7, .ref (o 4))]) B.hx B.hb dL_goesOn_323 hl (by decide) rfl (fun ls hl => ?_)
  refine lv_aload B.hx B.hb dL_goesOn_325 (lv_at hl 11 rfl) ?_
  refine lv_iconst (v := (nI 0)) B.hx B.hb dL_goesOn_327 (by decide) ?_
  refine q_iald (f := (F 4)) B hP 4 rfl (j := 0) rfl (by decide) (by decide) dL_goesOn_328 ?_
  refine q_top (v2 := .int (nI td)) (congrArg Value.int f40) ?_
  refine lv_iconst (v := (nI 1)) B.hx B.hb dL_goesOn_329 (by decide) ?_
  refine lv_iadd B.hx B.hb dL_goesOn_330 ?_
  refine q_top (v2 := .int (nI (td + 1))) (congrArg Value.int (nI_add _ _)) ?_
  refine lv_iload_n B.hx B.hb dL_goesOn_331 rfl (lv_at hl 7 rfl) ?_
  refine lv_bipush (v := (nI 9)) B.hx B.hb dL_goesOn_332 (by decide) ?_
  refine lv_irem B.hx B.hb dL_goesOn_334 (by decide) ?_
  refine q_top (v2 := .int (nI (yy % 9))) (congrArg Value.int (pk_rem (by omega) (by omega) (by omega))) ?_
  refine lv_iadd B.hx B.hb dL_goesOn_335 ?_
  refine q_top (v2 := .int (nI (td + 1 + (yy % 9)))) (congrArg Value.int (nI_add _ _)) ?_
  refine lv_istore (lv' := [(12, .int (nI (td + 1 + (yy % 9)))), (11, .int (nI (xx % 6))), (10, .int wt), (9, .int (nI 3)), (8, .int (nI (8 * j))), (0, .ref b), (1, .int (nI j)), (2, .int (nI xx)), (3, .int (nI yy)), (4, .ref (o 0)), (5, .ref (o 5)), (6, .ref (o 6)), (7, .ref (o 4))]) B.hx B.hb dL_goesOn_336 hl (by decide) rfl (fun ls hl => ?_)
  refine lv_iload B.hx B.hb dL_goesOn_338 (lv_at hl 1 rfl) ?_
  refine lv_aload B.hx B.hb dL_goesOn_340 (lv_at hl 9 rfl) ?_
  refine lv_iload B.hx B.hb dL_goesOn_342 (lv_at hl 4 rfl) ?_
  refine lv_iconst (v := (nI 1)) B.hx B.hb dL_goesOn_344 (by decide) ?_
  refine lv_iadd B.hx B.hb dL_goesOn_345 ?_
  refine q_top (v2 := .int (nI (8 * j + 1))) (congrArg Value.int (nI_add _ _)) ?_
  refine q_iald (f := (F 0)) B hP 0 rfl (j := 8 * j + 1) rfl (by omega) (by decide) dL_goesOn_346 ?_
  refine lv_icmp_eq (tgt := 374) B.hx B.hb dL_goesOn_347 (by decide) (fun c4 => False.elim (by exact hau c4)) (fun _ => ?_)
  refine lv_aload B.hx B.hb dL_goesOn_350 (lv_at hl 10 rfl) ?_
  refine lv_aload B.hx B.hb dL_goesOn_352 (lv_at hl 11 rfl) ?_
  refine lv_iload B.hx B.hb dL_goesOn_354 (lv_at hl 1 rfl) ?_
  refine q_callS (As := [.ref (o 5), .ref (o 6), .int (nI (xx % 6))]) (rest := []) B hP hD hS ((cl_mayApprove l D cI cZ cP o F M (xx % 6) f51 hM (by omega)).fr wk) (cwS 3 B.hts gL_goesOn_L_mayApprove rfl rfl rfl (by decide +kernel) ⟨(Nat.le_of_ble_eq_true rfl), (Nat.le_of_ble_eq_true rfl)⟩) rfl hl.1 rfl (Nat.le_of_ble_eq_true rfl) dL_goesOn_356 ⟨(Nat.le_of_ble_eq_true rfl), (Nat.le_of_ble_eq_true rfl)⟩ (fun E ce q9 H locs hx => False.elim hx) (fun v u H locs hp hP hD hS => ?_)
  obtain rfl := hp
  have hP : va_P D vwCl (lw cI o F ++ wk) H := hP
  have hD : va_D A (lw cI o F ++ wk) := hD
  refine lv_if_eq (tgt := 374) B.hx B.hb dL_goesOn_359 (by decide) (fun c5 => False.elim (by replace c5 := bI_0.mp c5; exact absurd (hm.symm.trans c5) (by decide))) (fun _ => ?_)
  refine lv_iload B.hx B.hb dL_goesOn_362 (lv_at hl 0 rfl) ?_
  refine lv_sipush (v := (nI 1000)) B.hx B.hb dL_goesOn_364 (by decide) ?_
  refine lv_icmp_gt (tgt := 374) B.hx B.hb dL_goesOn_367 (by decide) (fun c6 => False.elim (by replace c6 := (nI_ltI (by omega) (by omega)).mp c6; omega)) (fun _ => ?_)
  refine lv_iconst (v := (nI 1)) B.hx B.hb dL_goesOn_370 (by decide) ?_
  refine lv_goto (tgt := 375) B.hx B.hb dL_goesOn_371 (by decide) ?_
  refine lv_istore (lv' := [(13, .int (nI 1)), (12, .int (nI (td + 1 + (yy % 9)))), (11, .int (nI (xx % 6))), (10, .int wt), (9, .int (nI 3)), (8, .int (nI (8 * j))), (0, .ref b), (1, .int (nI j)), (2, .int (nI xx)), (3, .int (nI yy)), (4, .ref (o 0)), (5, .ref (o 5)), (6, .ref (o 6)), (7, .ref (o 4))]) B.hx B.hb dL_goesOn_375 hl (by decide) rfl (fun ls hl => ?_)
  refine lv_aload_n B.hx B.hb dL_goesOn_377 rfl (lv_at hl 6 rfl) ?_
  refine lv_bipush (v := (nI 7)) B.hx B.hb dL_goesOn_378 (by decide) ?_
  refine lv_iload_n B.hx B.hb dL_goesOn_380 rfl (lv_at hl 7 rfl) ?_
  refine lv_iload B.hx B.hb dL_goesOn_381 (lv_at hl 2 rfl) ?_
  refine lv_iload B.hx B.hb dL_goesOn_383 (lv_at hl 1 rfl) ?_
  refine q_callSX (As := [.ref b, .int (nI 7), .int (nI j), .int (nI (xx % 6)), .int (nI (td + 1 + (yy % 9)))]) (rest := []) B hP hD hS (ca.fl (lw cI o F)) (vx_cwSW 5 B.hts gL_goesOn_L_asks rfl rfl rfl (by decide +kernel) ⟨(Nat.le_of_ble_eq_true rfl), (Nat.le_of_ble_eq_true rfl)⟩) rfl hl.1 rfl (Nat.le_of_ble_eq_true rfl) dL_goesOn_385 ⟨(Nat.le_of_ble_eq_true rfl), (Nat.le_of_ble_eq_true rfl)⟩ (fun E ce q9 H locs hx => False.elim hx) (fun v u H locs hp hP hD hS => ?_)
  obtain rfl := hp
  have hP : va_P D vwCl (lw cI o F ++ wk2) H := hP
  have hD : va_D A (lw cI o F ++ wk2) := hD
  refine lv_istore (lv' := [(14, .int (nI 0)), (13, .int (nI 1)), (12, .int (nI (td + 1 + (yy % 9)))), (11, .int (nI (xx % 6))), (10, .int wt), (9, .int (nI 3)), (8, .int (nI (8 * j))), (0, .ref b), (1, .int (nI j)), (2, .int (nI xx)), (3, .int (nI yy)), (4, .ref (o 0)), (5, .ref (o 5)), (6, .ref (o 6)), (7, .ref (o 4))]) B.hx B.hb dL_goesOn_388 hl (by decide) rfl (fun ls hl => ?_)
  refine lv_aload B.hx B.hb dL_goesOn_390 (lv_at hl 11 rfl) ?_
  refine lv_iload B.hx B.hb dL_goesOn_392 (lv_at hl 6 rfl) ?_
  refine lv_iconst (v := (nI 4)) B.hx B.hb dL_goesOn_394 (by decide) ?_
  refine lv_iadd B.hx B.hb dL_goesOn_395 ?_
  refine q_top (v2 := .int (nI (8 * j + 4))) (congrArg Value.int (nI_add _ _)) ?_
  refine lv_iload B.hx B.hb dL_goesOn_396 (lv_at hl 1 rfl) ?_
  refine lv_if_eq (tgt := 406) B.hx B.hb dL_goesOn_398 (by decide) (fun c7 => False.elim (by exact absurd c7 (by decide))) (fun _ => ?_)
  refine lv_iload B.hx B.hb dL_goesOn_401 (lv_at hl 2 rfl) ?_
  refine lv_goto (tgt := 407) B.hx B.hb dL_goesOn_403 (by decide) ?_
  refine q_iast (f := (F 0)) B hP hD hS 0 rfl (j := 8 * j + 4) rfl (by omega) (by decide) dL_goesOn_407 (w' := (lw cI o (va_up F 0 (upd (F 0) (8 * j + 4) (nI (td + 1 + (yy % 9))))) ++ wk2)) rfl (fun H locs hP hD hS => ?_)
  refine lv_iload B.hx B.hb dL_goesOn_408 (lv_at hl 0 rfl) ?_
  refine lv_iload B.hx B.hb dL_goesOn_410 (lv_at hl 1 rfl) ?_
  refine lv_if_eq (tgt := 419) B.hx B.hb dL_goesOn_412 (by decide) (fun c8 => False.elim (by exact absurd c8 (by decide))) (fun _ => ?_)
  refine lv_iconst (v := (nI 0)) B.hx B.hb dL_goesOn_415 (by decide) ?_
  refine lv_goto (tgt := 434) B.hx B.hb dL_goesOn_416 (by decide) ?_
  refine lv_icmp_ne (tgt := 485) B.hx B.hb dL_goesOn_434 (by decide) (fun c9 => False.elim (by exact absurd c9 (by decide))) (fun _ => ?_)
  refine lv_iload B.hx B.hb dL_goesOn_437 (lv_at hl 1 rfl) ?_
  refine lv_if_eq (tgt := 454) B.hx B.hb dL_goesOn_439 (by decide) (fun c10 => False.elim (by exact absurd c10 (by decide))) (fun _ => ?_)
  refine lv_aload_n B.hx B.hb dL_goesOn_442 rfl (lv_at hl 7 rfl) ?_
  refine lv_iload_n B.hx B.hb dL_goesOn_443 rfl (lv_at hl 8 rfl) ?_
  refine q_callV (As := [.int (nI j)]) (rest := []) B hP hD hS (cs2.fl (lw cI o (va_up F 0 (upd (F 0) (8 * j + 4) (nI (td + 1 + (yy % 9))))))) (cwV 1 B.hts gL_goesOn_X3_step rfl rfl rfl (by decide +kernel) ⟨(Nat.le_of_ble_eq_true rfl), (Nat.le_of_ble_eq_true rfl)⟩) (q2 + 8) 3 hq2 rfl rfl rfl hl.1 rfl (Nat.le_of_ble_eq_true rfl) dL_goesOn_444 ⟨(Nat.le_of_ble_eq_true rfl), (Nat.le_of_ble_eq_true rfl)⟩ (fun E ce q9 H locs hx => False.elim hx) (fun v u H locs hp hP hD hS => ?_)
  obtain rfl := hp
  have hP : va_P D vwCl (lw cI o (va_up F 0 (upd (F 0) (8 * j + 4) (nI (td + 1 + (yy % 9))))) ++ wk2) H := hP
  have hD : va_D A (lw cI o (va_up F 0 (upd (F 0) (8 * j + 4) (nI (td + 1 + (yy % 9))))) ++ wk2) := hD
  refine lv_iconst (v := (nI 3)) B.hx B.hb dL_goesOn_447 (by decide) ?_
  refine lv_icmp_le (tgt := 485) B.hx B.hb dL_goesOn_448 (by decide) (fun c11 => False.elim (by replace c11 := (nI_leI (by omega) (by omega)).mp c11; omega)) (fun _ => ?_)
  refine lv_goto (tgt := 463) B.hx B.hb dL_goesOn_451 (by decide) ?_
  refine lv_aload_n B.hx B.hb dL_goesOn_463 rfl (lv_at hl 7 rfl) ?_
  refine lv_bipush (v := (nI 7)) B.hx B.hb dL_goesOn_464 (by decide) ?_
  refine lv_iload_n B.hx B.hb dL_goesOn_466 rfl (lv_at hl 8 rfl) ?_
  refine lv_iload B.hx B.hb dL_goesOn_467 (lv_at hl 3 rfl) ?_
  refine lv_aload B.hx B.hb dL_goesOn_469 (lv_at hl 14 rfl) ?_
  refine lv_iconst (v := (nI 0)) B.hx B.hb dL_goesOn_471 (by decide) ?_
  refine q_iald (f := (F 4)) B hP 4 rfl (j := 0) rfl (by decide) (by decide) dL_goesOn_472 ?_
  refine q_top (v2 := .int (nI td)) (congrArg Value.int f40) ?_
  refine q_callSX (As := [.ref b, .int (nI 7), .int (nI j), .int (nI (xx % 6)), .int (nI td)]) (rest := []) B hP hD hS (ca2.fl (lw cI o (va_up F 0 (upd (F 0) (8 * j + 4) (nI (td + 1 + (yy % 9))))))) (vx_cwSW 5 B.hts gL_goesOn_L_asks rfl rfl rfl (by decide +kernel) ⟨(Nat.le_of_ble_eq_true rfl), (Nat.le_of_ble_eq_true rfl)⟩) rfl hl.1 rfl (Nat.le_of_ble_eq_true rfl) dL_goesOn_473 ⟨(Nat.le_of_ble_eq_true rfl), (Nat.le_of_ble_eq_true rfl)⟩ (fun E ce q9 H locs hx => False.elim hx) (fun v u H locs hp hP hD hS => ?_)
  obtain rfl := hp
  have hP : va_P D vwCl (lw cI o (va_up F 0 (upd (F 0) (8 * j + 4) (nI (td + 1 + (yy % 9))))) ++ wk2) H := hP
  have hD : va_D A (lw cI o (va_up F 0 (upd (F 0) (8 * j + 4) (nI (td + 1 + (yy % 9))))) ++ wk2) := hD
  refine lv_bipush (v := (-9)) B.hx B.hb dL_goesOn_476 (by decide) ?_
  refine lv_icmp_ne (tgt := 485) B.hx B.hb dL_goesOn_478 (by decide) (fun c12 => False.elim (by exact absurd c12 (by decide))) (fun _ => ?_)
  refine lv_iconst (v := (nI 1)) B.hx B.hb dL_goesOn_481 (by decide) ?_
  refine lv_goto (tgt := 486) B.hx B.hb dL_goesOn_482 (by decide) ?_
  exact q_zret B hr hP hD hS (by decide) (u := ()) rfl rfl (Nat.le_of_ble_eq_true rfl) (Nat.le_of_ble_eq_true rfl) dL_goesOn_486

set_option maxHeartbeats 4000000 in
set_option maxRecDepth 100000 in
theorem lg3n (l : Launch) (D : va_G) (cI cZ cP : ClassId) (o : Nat → Nat) (F : Nat → Nat → Int32) (wk wk2 : va_W) {q0 b : Nat} {fs : List Value} (hq : wk[q0]? = some (b, .inr (3, fs))) {q2 : Nat} {fs2 : List Value} (hq2 : wk2[q2]? = some (b, .inr (3, fs2))) (j xx yy : Nat) (wt : Int32) (hj : j < 8) (hx : xx < 2 ^ 30) (hy : yy < 2 ^ 30) (td : Nat) (htd : td ≤ 1000) (M : Nat) (hM : M < 64) (f40 : F 4 0 = nI td) (f51 : F 5 1 = nI M) (hno : ¬ nI (xx % 6) = F 0 (8 * j + 1) → lmA M (F 6) (xx % 6) 6 = true → False) (hd : td + 1 + yy % 9 ≤ 1000) (cs : q_C l yX3_step wsX3_step ({ frames := 2, cells := 0, slots := 0, locals := 42 }) D cI cZ cP [.ref b, .int (nI j)] wk (S := Unit) (fun v _ => v = some (.int (nI 3))) (fun _ => wk) (fun _ => False) 0 0) (cwt : q_C l yX3_waitsFor wsX3_waitsFor ({ frames := 3, cells := 0, slots := 0, locals := 62 }) D cI cZ cP [.ref b, .int (nI j)] wk (S := Unit) (fun v _ => v = some (.int wt)) (fun _ => wk) (fun _ => False) 0 0) (ca : q_C l yL_asks wsL_asks ({ frames := 10, cells := 4, slots := 24, locals := 172 }) D cI cZ cP [.ref b, .int (nI 7), .int (nI j), .int (nI (xx % 6)), .int (nI (td + 1 + (yy % 9)))] wk (S := Unit) (fun v _ => v = some (.int (-8))) (fun _ => wk) (fun _ => False) 4 24) (ca2 : q_C l yL_asks wsL_asks ({ frames := 10, cells := 4, slots := 24, locals := 172 }) D cI cZ cP [.ref b, .int (nI 7), .int (nI j), .int (nI (xx % 6)), .int (nI td)] wk (S := Unit) (fun v _ => v = some (.int (-9))) (fun _ => wk) (fun _ => False) 4 24) : q_C l yL_goesOn wsL_goesOn ({ frames := 11, cells := 18, slots := 108, locals := 197 }) D cI cZ cP [.ref b, .int (nI j), .int (nI xx), .int (nI yy), .ref (o 0), .ref (o 5), .ref (o 6), .ref (o 4)] (lw cI o F ++ wk) (S := Unit) (fun v _ => v = some (.int (nI 1))) (fun _ => (lw cI o (va_up F 0 (upd (F 0) (8 * j + 4) (nI 0))) ++ wk)) (fun _ => False) 18 108 := by
  refine q_of (cc := cL_goesOn) (maxL := 15) (ret := (some .boolean)) (by decide +kernel) rfl (Nat.le_of_ble_eq_true rfl) ?_
  intro p e s m below meth c A ls B hr htb hmn hP hD hS hl
  have hl : lv_has ls 15 [(0, .ref b), (1, .int (nI j)), (2, .int (nI xx)), (3, .int (nI yy)), (4, .ref (o 0)), (5, .ref (o 5)), (6, .ref (o 6)), (7, .ref (o 4))] := hl
  refine lv_bipush (v := (nI 8)) B.hx B.hb dL_goesOn_0 (by decide) ?_
  refine lv_iload_n B.hx B.hb dL_goesOn_2 rfl (lv_at hl 1 rfl) ?_
  refine lv_imul B.hx B.hb dL_goesOn_3 ?_
  refine q_top (v2 := .int (nI (8 * j))) (congrArg Value.int (pk_mul _ _)) ?_
  refine lv_istore (lv' := [(8, .int (nI (8 * j))), (0, .ref b), (1, .int (nI j)), (2, .int (nI xx)), (3, .int (nI yy)), (4, .ref (o 0)), (5, .ref (o 5)), (6, .ref (o 6)), (7, .ref (o 4))]) B.hx B.hb dL_goesOn_4 hl (by decide) rfl (fun ls hl => ?_)
  refine lv_aload_n B.hx B.hb dL_goesOn_6 rfl (lv_at hl 1 rfl) ?_
  refine lv_iload_n B.hx B.hb dL_goesOn_7 rfl (lv_at hl 2 rfl) ?_
  refine q_callV (As := [.int (nI j)]) (rest := []) B hP hD hS (cs.fl (lw cI o F)) (cwV 1 B.hts gL_goesOn_X3_step rfl rfl rfl (by decide +kernel) ⟨(Nat.le_of_ble_eq_true rfl), (Nat.le_of_ble_eq_true rfl)⟩) (q0 + 8) 3 hq rfl rfl rfl hl.1 rfl (Nat.le_of_ble_eq_true rfl) dL_goesOn_8 ⟨(Nat.le_of_ble_eq_true rfl), (Nat.le_of_ble_eq_true rfl)⟩ (fun E ce q9 H locs hx => False.elim hx) (fun v u H locs hp hP hD hS => ?_)
  obtain rfl := hp
  have hP : va_P D vwCl (lw cI o F ++ wk) H := hP
  have hD : va_D A (lw cI o F ++ wk) := hD
  refine lv_istore (lv' := [(9, .int (nI 3)), (8, .int (nI (8 * j))), (0, .ref b), (1, .int (nI j)), (2, .int (nI xx)), (3, .int (nI yy)), (4, .ref (o 0)), (5, .ref (o 5)), (6, .ref (o 6)), (7, .ref (o 4))]) B.hx B.hb dL_goesOn_11 hl (by decide) rfl (fun ls hl => ?_)
  refine lv_aload_n B.hx B.hb dL_goesOn_13 rfl (lv_at hl 2 rfl) ?_
  refine lv_iload_n B.hx B.hb dL_goesOn_14 rfl (lv_at hl 3 rfl) ?_
  refine q_callV (As := [.int (nI j)]) (rest := []) B hP hD hS (cwt.fl (lw cI o F)) (cwV 1 B.hts gL_goesOn_X3_waitsFor rfl rfl rfl (by decide +kernel) ⟨(Nat.le_of_ble_eq_true rfl), (Nat.le_of_ble_eq_true rfl)⟩) (q0 + 8) 3 hq rfl rfl rfl hl.1 rfl (Nat.le_of_ble_eq_true rfl) dL_goesOn_15 ⟨(Nat.le_of_ble_eq_true rfl), (Nat.le_of_ble_eq_true rfl)⟩ (fun E ce q9 H locs hx => False.elim hx) (fun v u H locs hp hP hD hS => ?_)
  obtain rfl := hp
  have hP : va_P D vwCl (lw cI o F ++ wk) H := hP
  have hD : va_D A (lw cI o F ++ wk) := hD
  refine lv_istore (lv' := [(10, .int wt), (9, .int (nI 3)), (8, .int (nI (8 * j))), (0, .ref b), (1, .int (nI j)), (2, .int (nI xx)), (3, .int (nI yy)), (4, .ref (o 0)), (5, .ref (o 5)), (6, .ref (o 6)), (7, .ref (o 4))]) B.hx B.hb dL_goesOn_18 hl (by decide) rfl (fun ls hl => ?_)
  refine lv_iload B.hx B.hb dL_goesOn_20 (lv_at hl 1 rfl) ?_
  refine lv_iconst (v := (nI 1)) B.hx B.hb dL_goesOn_22 (by decide) ?_
  refine lv_icmp_ne (tgt := 175) B.hx B.hb dL_goesOn_23 (by decide) (fun _ => ?_) (fun c1 => False.elim (by exact absurd c1 (by decide)))
  refine lv_iload B.hx B.hb dL_goesOn_175 (lv_at hl 1 rfl) ?_
  refine lv_iconst (v := (nI 2)) B.hx B.hb dL_goesOn_177 (by decide) ?_
  refine lv_icmp_ne (tgt := 313) B.hx B.hb dL_goesOn_178 (by decide) (fun _ => ?_) (fun c2 => False.elim (by exact absurd c2 (by decide)))
  refine lv_iload B.hx B.hb dL_goesOn_313 (lv_at hl 1 rfl) ?_
  refine lv_iconst (v := (nI 3)) B.hx B.hb dL_goesOn_315 (by decide) ?_
  refine lv_icmp_ne (tgt := 487) B.hx B.hb dL_goesOn_316 (by decide) (fun c3 => False.elim (by exact absurd c3 (by decide))) (fun _ => ?_)
  refine lv_iload_n B.hx B.hb dL_goesOn_319 rfl (lv_at hl 5 rfl) ?_
  refine lv_bipush (v := (nI 6)) B.hx B.hb dL_goesOn_320 (by decide) ?_
  refine lv_irem B.hx B.hb dL_goesOn_322 (by decide) ?_
  refine q_top (v2 := .int (nI (xx % 6))) (congrArg Value.int (pk_rem (by omega) (by omega) (by omega))) ?_
  refine lv_istore (lv' := [(11, .int (nI (xx % 6))), (10, .int wt), (9, .int (nI 3)), (8, .int (nI (8 * j))), (0, .ref b), (1, .int (nI j)), (2, .int (nI xx)), (3, .int (nI yy)), (4, .ref (o 0)), (5, .ref (o 5)), (6, .ref (o 6)), (7, .ref (o 4))]) B.hx B.hb dL_goesOn_323 hl (by decide) rfl (fun ls hl => ?_)
  refine lv_aload B.hx B.hb dL_goesOn_325 (lv_at hl 11 rfl) ?_
  refine lv_iconst (v := (nI 0)) B.hx B.hb dL_goesOn_327 (by decide) ?_
  refine q_iald (f := (F 4)) B hP 4 rfl (j := 0) rfl (by decide) (by decide) dL_goesOn_328 ?_
  refine q_top (v2 := .int (nI td)) (congrArg Value.int f40) ?_
  refine lv_iconst (v := (nI 1)) B.hx B.hb dL_goesOn_329 (by decide) ?_
  refine lv_iadd B.hx B.hb dL_goesOn_330 ?_
  refine q_top (v2 := .int (nI (td + 1))) (congrArg Value.int (nI_add _ _)) ?_
  refine lv_iload_n B.hx B.hb dL_goesOn_331 rfl (lv_at hl 7 rfl) ?_
  refine lv_bipush (v := (nI 9)) B.hx B.hb dL_goesOn_332 (by decide) ?_
  refine lv_irem B.hx B.hb dL_goesOn_334 (by decide) ?_
  refine q_top (v2 := .int (nI (yy % 9))) (congrArg Value.int (pk_rem (by omega) (by omega) (by omega))) ?_
  refine lv_iadd B.hx B.hb dL_goesOn_335 ?_
  refine q_top (v2 := .int (nI (td + 1 + (yy % 9)))) (congrArg Value.int (nI_add _ _)) ?_
  refine lv_istore (lv' := [(12, .int (nI (td + 1 + (yy % 9)))), (11, .int (nI (xx % 6))), (10, .int wt), (9, .int (nI 3)), (8, .int (nI (8 * j))), (0, .ref b), (1, .int (nI j)), (2, .int (nI xx)), (3, .int (nI yy)), (4, .ref (o 0)), (5, .ref (o 5)), (6, .ref (o 6)), (7, .ref (o 4))]) B.hx B.hb dL_goesOn_336 hl (by decide) rfl (fun ls hl => ?_)
  refine q_join (D := D) (A := A) (J := 375) (stk := [.int (nI 0)]) (w := (lw cI o F ++ wk)) (fun H locs hP hD hS => ?_) (fun kJ4 => ?_)
  · refine lv_istore (lv' := [(13, .int (nI 0)), (12, .int (nI (td + 1 + (yy % 9)))), (11, .int (nI (xx % 6))), (10, .int wt), (9, .int (nI 3)), (8, .int (nI (8 * j))), (0, .ref b), (1, .int (nI j)), (2, .int (nI xx)), (3, .int (nI yy)), (4, .ref (o 0)), (5, .ref (o 5)), (6, .ref (o 6)), (7, .ref (o 4))]) B.hx B.hb dL_goesOn_375 hl (by decide) rfl (fun ls hl => ?_)
    refine lv_aload_n B.hx B.hb dL_goesOn_377 rfl (lv_at hl 6 rfl) ?_
    refine lv_bipush (v := (nI 7)) B.hx B.hb dL_goesOn_378 (by decide) ?_
    refine lv_iload_n B.hx B.hb dL_goesOn_380 rfl (lv_at hl 7 rfl) ?_
    refine lv_iload B.hx B.hb dL_goesOn_381 (lv_at hl 2 rfl) ?_
    refine lv_iload B.hx B.hb dL_goesOn_383 (lv_at hl 1 rfl) ?_
    refine q_callSX (As := [.ref b, .int (nI 7), .int (nI j), .int (nI (xx % 6)), .int (nI (td + 1 + (yy % 9)))]) (rest := []) B hP hD hS (ca.fl (lw cI o F)) (vx_cwSW 5 B.hts gL_goesOn_L_asks rfl rfl rfl (by decide +kernel) ⟨(Nat.le_of_ble_eq_true rfl), (Nat.le_of_ble_eq_true rfl)⟩) rfl hl.1 rfl (Nat.le_of_ble_eq_true rfl) dL_goesOn_385 ⟨(Nat.le_of_ble_eq_true rfl), (Nat.le_of_ble_eq_true rfl)⟩ (fun E ce q9 H locs hx => False.elim hx) (fun v u H locs hp hP hD hS => ?_)
    obtain rfl := hp
    have hP : va_P D vwCl (lw cI o F ++ wk) H := hP
    have hD : va_D A (lw cI o F ++ wk) := hD
    refine lv_istore (lv' := [(14, .int (-8)), (13, .int (nI 0)), (12, .int (nI (td + 1 + (yy % 9)))), (11, .int (nI (xx % 6))), (10, .int wt), (9, .int (nI 3)), (8, .int (nI (8 * j))), (0, .ref b), (1, .int (nI j)), (2, .int (nI xx)), (3, .int (nI yy)), (4, .ref (o 0)), (5, .ref (o 5)), (6, .ref (o 6)), (7, .ref (o 4))]) B.hx B.hb dL_goesOn_388 hl (by decide) rfl (fun ls hl => ?_)
    refine lv_aload B.hx B.hb dL_goesOn_390 (lv_at hl 11 rfl) ?_
    refine lv_iload B.hx B.hb dL_goesOn_392 (lv_at hl 6 rfl) ?_
    refine lv_iconst (v := (nI 4)) B.hx B.hb dL_goesOn_394 (by decide) ?_
    refine lv_iadd B.hx B.hb dL_goesOn_395 ?_
    refine q_top (v2 := .int (nI (8 * j + 4))) (congrArg Value.int (nI_add _ _)) ?_
    refine lv_iload B.hx B.hb dL_goesOn_396 (lv_at hl 1 rfl) ?_
    refine lv_if_eq (tgt := 406) B.hx B.hb dL_goesOn_398 (by decide) (fun _ => ?_) (fun c5 => False.elim (by exact absurd c5 (by decide)))
    refine lv_iconst (v := (nI 0)) B.hx B.hb dL_goesOn_406 (by decide) ?_
    refine q_iast (f := (F 0)) B hP hD hS 0 rfl (j := 8 * j + 4) rfl (by omega) (by decide) dL_goesOn_407 (w' := (lw cI o (va_up F 0 (upd (F 0) (8 * j + 4) (nI 0))) ++ wk)) rfl (fun H locs hP hD hS => ?_)
    refine lv_iload B.hx B.hb dL_goesOn_408 (lv_at hl 0 rfl) ?_
    refine lv_iload B.hx B.hb dL_goesOn_410 (lv_at hl 1 rfl) ?_
    refine lv_if_eq (tgt := 419) B.hx B.hb dL_goesOn_412 (by decide) (fun _ => ?_) (fun c6 => False.elim (by exact absurd c6 (by decide)))
    refine lv_iload B.hx B.hb dL_goesOn_419 (lv_at hl 2 rfl) ?_
    refine lv_sipush (v := (nI 1000)) B.hx B.hb dL_goesOn_421 (by decide) ?_
    refine lv_icmp_le (tgt := 432) B.hx B.hb dL_goesOn_424 (by decide) (fun _ => ?_) (fun c7 => False.elim (by replace c7 := mt (nI_leI (by omega) (by omega)).mpr c7; omega))
    refine lv_bipush (v := (-8)) B.hx B.hb dL_goesOn_432 (by decide) ?_
    refine lv_icmp_ne (tgt := 485) B.hx B.hb dL_goesOn_434 (by decide) (fun c8 => False.elim (by exact absurd c8 (by decide))) (fun _ => ?_)
    refine lv_iload B.hx B.hb dL_goesOn_437 (lv_at hl 1 rfl) ?_
    refine lv_if_eq (tgt := 454) B.hx B.hb dL_goesOn_439 (by decide) (fun _ => ?_) (fun c9 => False.elim (by exact absurd c9 (by decide)))
    refine lv_aload_n B.hx B.hb dL_goesOn_454 rfl (lv_at hl 7 rfl) ?_
    refine lv_iload_n B.hx B.hb dL_goesOn_455 rfl (lv_at hl 8 rfl) ?_
    refine q_callV (As := [.int (nI j)]) (rest := []) B hP hD hS (cs.fl (lw cI o (va_up F 0 (upd (F 0) (8 * j + 4) (nI 0))))) (cwV 1 B.hts gL_goesOn_X3_step rfl rfl rfl (by decide +kernel) ⟨(Nat.le_of_ble_eq_true rfl), (Nat.le_of_ble_eq_true rfl)⟩) (q0 + 8) 3 hq rfl rfl rfl hl.1 rfl (Nat.le_of_ble_eq_true rfl) dL_goesOn_456 ⟨(Nat.le_of_ble_eq_true rfl), (Nat.le_of_ble_eq_true rfl)⟩ (fun E ce q9 H locs hx => False.elim hx) (fun v u H locs hp hP hD hS => ?_)
    obtain rfl := hp
    have hP : va_P D vwCl (lw cI o (va_up F 0 (upd (F 0) (8 * j + 4) (nI 0))) ++ wk) H := hP
    have hD : va_D A (lw cI o (va_up F 0 (upd (F 0) (8 * j + 4) (nI 0))) ++ wk) := hD
    refine lv_iconst (v := (nI 3)) B.hx B.hb dL_goesOn_459 (by decide) ?_
    refine lv_icmp_ne (tgt := 485) B.hx B.hb dL_goesOn_460 (by decide) (fun c10 => False.elim (by exact absurd c10 (by decide))) (fun _ => ?_)
    refine lv_aload_n B.hx B.hb dL_goesOn_463 rfl (lv_at hl 7 rfl) ?_
    refine lv_bipush (v := (nI 7)) B.hx B.hb dL_goesOn_464 (by decide) ?_
    refine lv_iload_n B.hx B.hb dL_goesOn_466 rfl (lv_at hl 8 rfl) ?_
    refine lv_iload B.hx B.hb dL_goesOn_467 (lv_at hl 3 rfl) ?_
    refine lv_aload B.hx B.hb dL_goesOn_469 (lv_at hl 14 rfl) ?_
    refine lv_iconst (v := (nI 0)) B.hx B.hb dL_goesOn_471 (by decide) ?_
    refine q_iald (f := (F 4)) B hP 4 rfl (j := 0) rfl (by decide) (by decide) dL_goesOn_472 ?_
    refine q_top (v2 := .int (nI td)) (congrArg Value.int f40) ?_
    refine q_callSX (As := [.ref b, .int (nI 7), .int (nI j), .int (nI (xx % 6)), .int (nI td)]) (rest := []) B hP hD hS (ca2.fl (lw cI o (va_up F 0 (upd (F 0) (8 * j + 4) (nI 0))))) (vx_cwSW 5 B.hts gL_goesOn_L_asks rfl rfl rfl (by decide +kernel) ⟨(Nat.le_of_ble_eq_true rfl), (Nat.le_of_ble_eq_true rfl)⟩) rfl hl.1 rfl (Nat.le_of_ble_eq_true rfl) dL_goesOn_473 ⟨(Nat.le_of_ble_eq_true rfl), (Nat.le_of_ble_eq_true rfl)⟩ (fun E ce q9 H locs hx => False.elim hx) (fun v u H locs hp hP hD hS => ?_)
    obtain rfl := hp
    have hP : va_P D vwCl (lw cI o (va_up F 0 (upd (F 0) (8 * j + 4) (nI 0))) ++ wk) H := hP
    have hD : va_D A (lw cI o (va_up F 0 (upd (F 0) (8 * j + 4) (nI 0))) ++ wk) := hD
    refine lv_bipush (v := (-9)) B.hx B.hb dL_goesOn_476 (by decide) ?_
    refine lv_icmp_ne (tgt := 485) B.hx B.hb dL_goesOn_478 (by decide) (fun c11 => False.elim (by exact absurd c11 (by decide))) (fun _ => ?_)
    refine lv_iconst (v := (nI 1)) B.hx B.hb dL_goesOn_481 (by decide) ?_
    refine lv_goto (tgt := 486) B.hx B.hb dL_goesOn_482 (by decide) ?_
    exact q_zret B hr hP hD hS (by decide) (u := ()) rfl rfl (Nat.le_of_ble_eq_true rfl) (Nat.le_of_ble_eq_true rfl) dL_goesOn_486
  · refine lv_iload B.hx B.hb dL_goesOn_338 (lv_at hl 1 rfl) ?_
    refine lv_aload B.hx B.hb dL_goesOn_340 (lv_at hl 9 rfl) ?_
    refine lv_iload B.hx B.hb dL_goesOn_342 (lv_at hl 4 rfl) ?_
    refine lv_iconst (v := (nI 1)) B.hx B.hb dL_goesOn_344 (by decide) ?_
    refine lv_iadd B.hx B.hb dL_goesOn_345 ?_
    refine q_top (v2 := .int (nI (8 * j + 1))) (congrArg Value.int (nI_add _ _)) ?_
    refine q_iald (f := (F 0)) B hP 0 rfl (j := 8 * j + 1) rfl (by omega) (by decide) dL_goesOn_346 ?_
    refine lv_icmp_eq (tgt := 374) B.hx B.hb dL_goesOn_347 (by decide) (fun c12 => ?_) (fun c12 => ?_)
    · refine lv_iconst (v := (nI 0)) B.hx B.hb dL_goesOn_374 (by decide) ?_
      exact kJ4 _ _ hP hD hS
    · refine lv_aload B.hx B.hb dL_goesOn_350 (lv_at hl 10 rfl) ?_
      refine lv_aload B.hx B.hb dL_goesOn_352 (lv_at hl 11 rfl) ?_
      refine lv_iload B.hx B.hb dL_goesOn_354 (lv_at hl 1 rfl) ?_
      refine q_callS (As := [.ref (o 5), .ref (o 6), .int (nI (xx % 6))]) (rest := []) B hP hD hS ((cl_mayApprove l D cI cZ cP o F M (xx % 6) f51 hM (by omega)).fr wk) (cwS 3 B.hts gL_goesOn_L_mayApprove rfl rfl rfl (by decide +kernel) ⟨(Nat.le_of_ble_eq_true rfl), (Nat.le_of_ble_eq_true rfl)⟩) rfl hl.1 rfl (Nat.le_of_ble_eq_true rfl) dL_goesOn_356 ⟨(Nat.le_of_ble_eq_true rfl), (Nat.le_of_ble_eq_true rfl)⟩ (fun E ce q9 H locs hx => False.elim hx) (fun v u H locs hp hP hD hS => ?_)
      obtain rfl := hp
      have hP : va_P D vwCl (lw cI o F ++ wk) H := hP
      have hD : va_D A (lw cI o F ++ wk) := hD
      refine lv_if_eq (tgt := 374) B.hx B.hb dL_goesOn_359 (by decide) (fun c13 => ?_) (fun c13 => ?_)
      · replace c13 := bI_0.mp c13
        refine lv_iconst (v := (nI 0)) B.hx B.hb dL_goesOn_374 (by decide) ?_
        exact kJ4 _ _ hP hD hS
      · replace c13 := bI_t1 c13
        refine lv_iload B.hx B.hb dL_goesOn_362 (lv_at hl 0 rfl) ?_
        refine lv_sipush (v := (nI 1000)) B.hx B.hb dL_goesOn_364 (by decide) ?_
        refine lv_icmp_gt (tgt := 374) B.hx B.hb dL_goesOn_367 (by decide) (fun c14 => ?_) (fun c14 => ?_)
        · replace c14 := (nI_ltI (by omega) (by omega)).mp c14
          refine lv_iconst (v := (nI 0)) B.hx B.hb dL_goesOn_374 (by decide) ?_
          exact kJ4 _ _ hP hD hS
        · replace c14 := mt (nI_ltI (by omega) (by omega)).mpr c14
          refine lv_iconst (v := (nI 1)) B.hx B.hb dL_goesOn_370 (by decide) ?_
          refine lv_goto (tgt := 375) B.hx B.hb dL_goesOn_371 (by decide) ?_
          exact (hno c12 c13).elim

set_option maxHeartbeats 4000000 in
set_option maxRecDepth 100000 in
theorem lg3d (l : Launch) (D : va_G) (cI cZ cP : ClassId) (o : Nat → Nat) (F : Nat → Nat → Int32) (wk wk2 : va_W) {q0 b : Nat} {fs : List Value} (hq : wk[q0]? = some (b, .inr (3, fs))) {q2 : Nat} {fs2 : List Value} (hq2 : wk2[q2]? = some (b, .inr (3, fs2))) (j xx yy : Nat) (wt : Int32) (hj : j < 8) (hx : xx < 2 ^ 30) (hy : yy < 2 ^ 30) (td : Nat) (htd : td ≤ 1000) (M : Nat) (hM : M < 64) (f40 : F 4 0 = nI td) (f51 : F 5 1 = nI M) (hd : 1000 < td + 1 + yy % 9) (cs : q_C l yX3_step wsX3_step ({ frames := 2, cells := 0, slots := 0, locals := 42 }) D cI cZ cP [.ref b, .int (nI j)] wk (S := Unit) (fun v _ => v = some (.int (nI 3))) (fun _ => wk) (fun _ => False) 0 0) (cwt : q_C l yX3_waitsFor wsX3_waitsFor ({ frames := 3, cells := 0, slots := 0, locals := 62 }) D cI cZ cP [.ref b, .int (nI j)] wk (S := Unit) (fun v _ => v = some (.int wt)) (fun _ => wk) (fun _ => False) 0 0) (ca : q_C l yL_asks wsL_asks ({ frames := 10, cells := 4, slots := 24, locals := 172 }) D cI cZ cP [.ref b, .int (nI 7), .int (nI j), .int (nI (xx % 6)), .int (nI (td + 1 + (yy % 9)))] wk (S := Unit) (fun v _ => v = some (.int (-9))) (fun _ => wk) (fun _ => False) 4 24) (ca2 : q_C l yL_asks wsL_asks ({ frames := 10, cells := 4, slots := 24, locals := 172 }) D cI cZ cP [.ref b, .int (nI 7), .int (nI j), .int (nI (xx % 6)), .int (nI td)] wk (S := Unit) (fun v _ => v = some (.int (-9))) (fun _ => wk) (fun _ => False) 4 24) : q_C l yL_goesOn wsL_goesOn ({ frames := 11, cells := 18, slots := 108, locals := 197 }) D cI cZ cP [.ref b, .int (nI j), .int (nI xx), .int (nI yy), .ref (o 0), .ref (o 5), .ref (o 6), .ref (o 4)] (lw cI o F ++ wk) (S := Unit) (fun v _ => v = some (.int (nI 1))) (fun _ => (lw cI o (va_up F 0 (upd (F 0) (8 * j + 4) (nI 0))) ++ wk)) (fun _ => False) 18 108 := by
  refine q_of (cc := cL_goesOn) (maxL := 15) (ret := (some .boolean)) (by decide +kernel) rfl (Nat.le_of_ble_eq_true rfl) ?_
  intro p e s m below meth c A ls B hr htb hmn hP hD hS hl
  have hl : lv_has ls 15 [(0, .ref b), (1, .int (nI j)), (2, .int (nI xx)), (3, .int (nI yy)), (4, .ref (o 0)), (5, .ref (o 5)), (6, .ref (o 6)), (7, .ref (o 4))] := hl
  refine lv_bipush (v := (nI 8)) B.hx B.hb dL_goesOn_0 (by decide) ?_
  refine lv_iload_n B.hx B.hb dL_goesOn_2 rfl (lv_at hl 1 rfl) ?_
  refine lv_imul B.hx B.hb dL_goesOn_3 ?_
  refine q_top (v2 := .int (nI (8 * j))) (congrArg Value.int (pk_mul _ _)) ?_
  refine lv_istore (lv' := [(8, .int (nI (8 * j))), (0, .ref b), (1, .int (nI j)), (2, .int (nI xx)), (3, .int (nI yy)), (4, .ref (o 0)), (5, .ref (o 5)), (6, .ref (o 6)), (7, .ref (o 4))]) B.hx B.hb dL_goesOn_4 hl (by decide) rfl (fun ls hl => ?_)
  refine lv_aload_n B.hx B.hb dL_goesOn_6 rfl (lv_at hl 1 rfl) ?_
  refine lv_iload_n B.hx B.hb dL_goesOn_7 rfl (lv_at hl 2 rfl) ?_
  refine q_callV (As := [.int (nI j)]) (rest := []) B hP hD hS (cs.fl (lw cI o F)) (cwV 1 B.hts gL_goesOn_X3_step rfl rfl rfl (by decide +kernel) ⟨(Nat.le_of_ble_eq_true rfl), (Nat.le_of_ble_eq_true rfl)⟩) (q0 + 8) 3 hq rfl rfl rfl hl.1 rfl (Nat.le_of_ble_eq_true rfl) dL_goesOn_8 ⟨(Nat.le_of_ble_eq_true rfl), (Nat.le_of_ble_eq_true rfl)⟩ (fun E ce q9 H locs hx => False.elim hx) (fun v u H locs hp hP hD hS => ?_)
  obtain rfl := hp
  have hP : va_P D vwCl (lw cI o F ++ wk) H := hP
  have hD : va_D A (lw cI o F ++ wk) := hD
  refine lv_istore (lv' := [(9, .int (nI 3)), (8, .int (nI (8 * j))), (0, .ref b), (1, .int (nI j)), (2, .int (nI xx)), (3, .int (nI yy)), (4, .ref (o 0)), (5, .ref (o 5)), (6, .ref (o 6)), (7, .ref (o 4))]) B.hx B.hb dL_goesOn_11 hl (by decide) rfl (fun ls hl => ?_)
  refine lv_aload_n B.hx B.hb dL_goesOn_13 rfl (lv_at hl 2 rfl) ?_
  refine lv_iload_n B.hx B.hb dL_goesOn_14 rfl (lv_at hl 3 rfl) ?_
  refine q_callV (As := [.int (nI j)]) (rest := []) B hP hD hS (cwt.fl (lw cI o F)) (cwV 1 B.hts gL_goesOn_X3_waitsFor rfl rfl rfl (by decide +kernel) ⟨(Nat.le_of_ble_eq_true rfl), (Nat.le_of_ble_eq_true rfl)⟩) (q0 + 8) 3 hq rfl rfl rfl hl.1 rfl (Nat.le_of_ble_eq_true rfl) dL_goesOn_15 ⟨(Nat.le_of_ble_eq_true rfl), (Nat.le_of_ble_eq_true rfl)⟩ (fun E ce q9 H locs hx => False.elim hx) (fun v u H locs hp hP hD hS => ?_)
  obtain rfl := hp
  have hP : va_P D vwCl (lw cI o F ++ wk) H := hP
  have hD : va_D A (lw cI o F ++ wk) := hD
  refine lv_istore (lv' := [(10, .int wt), (9, .int (nI 3)), (8, .int (nI (8 * j))), (0, .ref b), (1, .int (nI j)), (2, .int (nI xx)), (3, .int (nI yy)), (4, .ref (o 0)), (5, .ref (o 5)), (6, .ref (o 6)), (7, .ref (o 4))]) B.hx B.hb dL_goesOn_18 hl (by decide) rfl (fun ls hl => ?_)
  refine lv_iload B.hx B.hb dL_goesOn_20 (lv_at hl 1 rfl) ?_
  refine lv_iconst (v := (nI 1)) B.hx B.hb dL_goesOn_22 (by decide) ?_
  refine lv_icmp_ne (tgt := 175) B.hx B.hb dL_goesOn_23 (by decide) (fun _ => ?_) (fun c1 => False.elim (by exact absurd c1 (by decide)))
  refine lv_iload B.hx B.hb dL_goesOn_175 (lv_at hl 1 rfl) ?_
  refine lv_iconst (v := (nI 2)) B.hx B.hb dL_goesOn_177 (by decide) ?_
  refine lv_icmp_ne (tgt := 313) B.hx B.hb dL_goesOn_178 (by decide) (fun _ => ?_) (fun c2 => False.elim (by exact absurd c2 (by decide)))
  refine lv_iload B.hx B.hb dL_goesOn_313 (lv_at hl 1 rfl) ?_
  refine lv_iconst (v := (nI 3)) B.hx B.hb dL_goesOn_315 (by decide) ?_
  refine lv_icmp_ne (tgt := 487) B.hx B.hb dL_goesOn_316 (by decide) (fun c3 => False.elim (by exact absurd c3 (by decide))) (fun _ => ?_)
  refine lv_iload_n B.hx B.hb dL_goesOn_319 rfl (lv_at hl 5 rfl) ?_
  refine lv_bipush (v := (nI 6)) B.hx B.hb dL_goesOn_320 (by decide) ?_
  refine lv_irem B.hx B.hb dL_goesOn_322 (by decide) ?_
  refine q_top (v2 := .int (nI (xx % 6))) (congrArg Value.int (pk_rem (by omega) (by omega) (by omega))) ?_
  refine lv_istore (lv' := [(11, .int (nI (xx % 6))), (10, .int wt), (9, .int (nI 3)), (8, .int (nI (8 * j))), (0, .ref b), (1, .int (nI j)), (2, .int (nI xx)), (3, .int (nI yy)), (4, .ref (o 0)), (5, .ref (o 5)), (6, .ref (o 6)), (7, .ref (o 4))]) B.hx B.hb dL_goesOn_323 hl (by decide) rfl (fun ls hl => ?_)
  refine lv_aload B.hx B.hb dL_goesOn_325 (lv_at hl 11 rfl) ?_
  refine lv_iconst (v := (nI 0)) B.hx B.hb dL_goesOn_327 (by decide) ?_
  refine q_iald (f := (F 4)) B hP 4 rfl (j := 0) rfl (by decide) (by decide) dL_goesOn_328 ?_
  refine q_top (v2 := .int (nI td)) (congrArg Value.int f40) ?_
  refine lv_iconst (v := (nI 1)) B.hx B.hb dL_goesOn_329 (by decide) ?_
  refine lv_iadd B.hx B.hb dL_goesOn_330 ?_
  refine q_top (v2 := .int (nI (td + 1))) (congrArg Value.int (nI_add _ _)) ?_
  refine lv_iload_n B.hx B.hb dL_goesOn_331 rfl (lv_at hl 7 rfl) ?_
  refine lv_bipush (v := (nI 9)) B.hx B.hb dL_goesOn_332 (by decide) ?_
  refine lv_irem B.hx B.hb dL_goesOn_334 (by decide) ?_
  refine q_top (v2 := .int (nI (yy % 9))) (congrArg Value.int (pk_rem (by omega) (by omega) (by omega))) ?_
  refine lv_iadd B.hx B.hb dL_goesOn_335 ?_
  refine q_top (v2 := .int (nI (td + 1 + (yy % 9)))) (congrArg Value.int (nI_add _ _)) ?_
  refine lv_istore (lv' := [(12, .int (nI (td + 1 + (yy % 9)))), (11, .int (nI (xx % 6))), (10, .int wt), (9, .int (nI 3)), (8, .int (nI (8 * j))), (0, .ref b), (1, .int (nI j)), (2, .int (nI xx)), (3, .int (nI yy)), (4, .ref (o 0)), (5, .ref (o 5)), (6, .ref (o 6)), (7, .ref (o 4))]) B.hx B.hb dL_goesOn_336 hl (by decide) rfl (fun ls hl => ?_)
  refine q_join (D := D) (A := A) (J := 375) (stk := [.int (nI 0)]) (w := (lw cI o F ++ wk)) (fun H locs hP hD hS => ?_) (fun kJ4 => ?_)
  · refine lv_istore (lv' := [(13, .int (nI 0)), (12, .int (nI (td + 1 + (yy % 9)))), (11, .int (nI (xx % 6))), (10, .int wt), (9, .int (nI 3)), (8, .int (nI (8 * j))), (0, .ref b), (1, .int (nI j)), (2, .int (nI xx)), (3, .int (nI yy)), (4, .ref (o 0)), (5, .ref (o 5)), (6, .ref (o 6)), (7, .ref (o 4))]) B.hx B.hb dL_goesOn_375 hl (by decide) rfl (fun ls hl => ?_)
    refine lv_aload_n B.hx B.hb dL_goesOn_377 rfl (lv_at hl 6 rfl) ?_
    refine lv_bipush (v := (nI 7)) B.hx B.hb dL_goesOn_378 (by decide) ?_
    refine lv_iload_n B.hx B.hb dL_goesOn_380 rfl (lv_at hl 7 rfl) ?_
    refine lv_iload B.hx B.hb dL_goesOn_381 (lv_at hl 2 rfl) ?_
    refine lv_iload B.hx B.hb dL_goesOn_383 (lv_at hl 1 rfl) ?_
    refine q_callSX (As := [.ref b, .int (nI 7), .int (nI j), .int (nI (xx % 6)), .int (nI (td + 1 + (yy % 9)))]) (rest := []) B hP hD hS (ca.fl (lw cI o F)) (vx_cwSW 5 B.hts gL_goesOn_L_asks rfl rfl rfl (by decide +kernel) ⟨(Nat.le_of_ble_eq_true rfl), (Nat.le_of_ble_eq_true rfl)⟩) rfl hl.1 rfl (Nat.le_of_ble_eq_true rfl) dL_goesOn_385 ⟨(Nat.le_of_ble_eq_true rfl), (Nat.le_of_ble_eq_true rfl)⟩ (fun E ce q9 H locs hx => False.elim hx) (fun v u H locs hp hP hD hS => ?_)
    obtain rfl := hp
    have hP : va_P D vwCl (lw cI o F ++ wk) H := hP
    have hD : va_D A (lw cI o F ++ wk) := hD
    refine lv_istore (lv' := [(14, .int (-9)), (13, .int (nI 0)), (12, .int (nI (td + 1 + (yy % 9)))), (11, .int (nI (xx % 6))), (10, .int wt), (9, .int (nI 3)), (8, .int (nI (8 * j))), (0, .ref b), (1, .int (nI j)), (2, .int (nI xx)), (3, .int (nI yy)), (4, .ref (o 0)), (5, .ref (o 5)), (6, .ref (o 6)), (7, .ref (o 4))]) B.hx B.hb dL_goesOn_388 hl (by decide) rfl (fun ls hl => ?_)
    refine lv_aload B.hx B.hb dL_goesOn_390 (lv_at hl 11 rfl) ?_
    refine lv_iload B.hx B.hb dL_goesOn_392 (lv_at hl 6 rfl) ?_
    refine lv_iconst (v := (nI 4)) B.hx B.hb dL_goesOn_394 (by decide) ?_
    refine lv_iadd B.hx B.hb dL_goesOn_395 ?_
    refine q_top (v2 := .int (nI (8 * j + 4))) (congrArg Value.int (nI_add _ _)) ?_
    refine lv_iload B.hx B.hb dL_goesOn_396 (lv_at hl 1 rfl) ?_
    refine lv_if_eq (tgt := 406) B.hx B.hb dL_goesOn_398 (by decide) (fun _ => ?_) (fun c5 => False.elim (by exact absurd c5 (by decide)))
    refine lv_iconst (v := (nI 0)) B.hx B.hb dL_goesOn_406 (by decide) ?_
    refine q_iast (f := (F 0)) B hP hD hS 0 rfl (j := 8 * j + 4) rfl (by omega) (by decide) dL_goesOn_407 (w' := (lw cI o (va_up F 0 (upd (F 0) (8 * j + 4) (nI 0))) ++ wk)) rfl (fun H locs hP hD hS => ?_)
    refine lv_iload B.hx B.hb dL_goesOn_408 (lv_at hl 0 rfl) ?_
    refine lv_iload B.hx B.hb dL_goesOn_410 (lv_at hl 1 rfl) ?_
    refine lv_if_eq (tgt := 419) B.hx B.hb dL_goesOn_412 (by decide) (fun _ => ?_) (fun c6 => False.elim (by exact absurd c6 (by decide)))
    refine lv_iload B.hx B.hb dL_goesOn_419 (lv_at hl 2 rfl) ?_
    refine lv_sipush (v := (nI 1000)) B.hx B.hb dL_goesOn_421 (by decide) ?_
    refine lv_icmp_le (tgt := 432) B.hx B.hb dL_goesOn_424 (by decide) (fun c7 => False.elim (by replace c7 := (nI_leI (by omega) (by omega)).mp c7; omega)) (fun _ => ?_)
    refine lv_bipush (v := (-9)) B.hx B.hb dL_goesOn_427 (by decide) ?_
    refine lv_goto (tgt := 434) B.hx B.hb dL_goesOn_429 (by decide) ?_
    refine lv_icmp_ne (tgt := 485) B.hx B.hb dL_goesOn_434 (by decide) (fun c8 => False.elim (by exact absurd c8 (by decide))) (fun _ => ?_)
    refine lv_iload B.hx B.hb dL_goesOn_437 (lv_at hl 1 rfl) ?_
    refine lv_if_eq (tgt := 454) B.hx B.hb dL_goesOn_439 (by decide) (fun _ => ?_) (fun c9 => False.elim (by exact absurd c9 (by decide)))
    refine lv_aload_n B.hx B.hb dL_goesOn_454 rfl (lv_at hl 7 rfl) ?_
    refine lv_iload_n B.hx B.hb dL_goesOn_455 rfl (lv_at hl 8 rfl) ?_
    refine q_callV (As := [.int (nI j)]) (rest := []) B hP hD hS (cs.fl (lw cI o (va_up F 0 (upd (F 0) (8 * j + 4) (nI 0))))) (cwV 1 B.hts gL_goesOn_X3_step rfl rfl rfl (by decide +kernel) ⟨(Nat.le_of_ble_eq_true rfl), (Nat.le_of_ble_eq_true rfl)⟩) (q0 + 8) 3 hq rfl rfl rfl hl.1 rfl (Nat.le_of_ble_eq_true rfl) dL_goesOn_456 ⟨(Nat.le_of_ble_eq_true rfl), (Nat.le_of_ble_eq_true rfl)⟩ (fun E ce q9 H locs hx => False.elim hx) (fun v u H locs hp hP hD hS => ?_)
    obtain rfl := hp
    have hP : va_P D vwCl (lw cI o (va_up F 0 (upd (F 0) (8 * j + 4) (nI 0))) ++ wk) H := hP
    have hD : va_D A (lw cI o (va_up F 0 (upd (F 0) (8 * j + 4) (nI 0))) ++ wk) := hD
    refine lv_iconst (v := (nI 3)) B.hx B.hb dL_goesOn_459 (by decide) ?_
    refine lv_icmp_ne (tgt := 485) B.hx B.hb dL_goesOn_460 (by decide) (fun c10 => False.elim (by exact absurd c10 (by decide))) (fun _ => ?_)
    refine lv_aload_n B.hx B.hb dL_goesOn_463 rfl (lv_at hl 7 rfl) ?_
    refine lv_bipush (v := (nI 7)) B.hx B.hb dL_goesOn_464 (by decide) ?_
    refine lv_iload_n B.hx B.hb dL_goesOn_466 rfl (lv_at hl 8 rfl) ?_
    refine lv_iload B.hx B.hb dL_goesOn_467 (lv_at hl 3 rfl) ?_
    refine lv_aload B.hx B.hb dL_goesOn_469 (lv_at hl 14 rfl) ?_
    refine lv_iconst (v := (nI 0)) B.hx B.hb dL_goesOn_471 (by decide) ?_
    refine q_iald (f := (F 4)) B hP 4 rfl (j := 0) rfl (by decide) (by decide) dL_goesOn_472 ?_
    refine q_top (v2 := .int (nI td)) (congrArg Value.int f40) ?_
    refine q_callSX (As := [.ref b, .int (nI 7), .int (nI j), .int (nI (xx % 6)), .int (nI td)]) (rest := []) B hP hD hS (ca2.fl (lw cI o (va_up F 0 (upd (F 0) (8 * j + 4) (nI 0))))) (vx_cwSW 5 B.hts gL_goesOn_L_asks rfl rfl rfl (by decide +kernel) ⟨(Nat.le_of_ble_eq_true rfl), (Nat.le_of_ble_eq_true rfl)⟩) rfl hl.1 rfl (Nat.le_of_ble_eq_true rfl) dL_goesOn_473 ⟨(Nat.le_of_ble_eq_true rfl), (Nat.le_of_ble_eq_true rfl)⟩ (fun E ce q9 H locs hx => False.elim hx) (fun v u H locs hp hP hD hS => ?_)
    obtain rfl := hp
    have hP : va_P D vwCl (lw cI o (va_up F 0 (upd (F 0) (8 * j + 4) (nI 0))) ++ wk) H := hP
    have hD : va_D A (lw cI o (va_up F 0 (upd (F 0) (8 * j + 4) (nI 0))) ++ wk) := hD
    refine lv_bipush (v := (-9)) B.hx B.hb dL_goesOn_476 (by decide) ?_
    refine lv_icmp_ne (tgt := 485) B.hx B.hb dL_goesOn_478 (by decide) (fun c11 => False.elim (by exact absurd c11 (by decide))) (fun _ => ?_)
    refine lv_iconst (v := (nI 1)) B.hx B.hb dL_goesOn_481 (by decide) ?_
    refine lv_goto (tgt := 486) B.hx B.hb dL_goesOn_482 (by decide) ?_
    exact q_zret B hr hP hD hS (by decide) (u := ()) rfl rfl (Nat.le_of_ble_eq_true rfl) (Nat.le_of_ble_eq_true rfl) dL_goesOn_486
  · refine lv_iload B.hx B.hb dL_goesOn_338 (lv_at hl 1 rfl) ?_
    refine lv_aload B.hx B.hb dL_goesOn_340 (lv_at hl 9 rfl) ?_
    refine lv_iload B.hx B.hb dL_goesOn_342 (lv_at hl 4 rfl) ?_
    refine lv_iconst (v := (nI 1)) B.hx B.hb dL_goesOn_344 (by decide) ?_
    refine lv_iadd B.hx B.hb dL_goesOn_345 ?_
    refine q_top (v2 := .int (nI (8 * j + 1))) (congrArg Value.int (nI_add _ _)) ?_
    refine q_iald (f := (F 0)) B hP 0 rfl (j := 8 * j + 1) rfl (by omega) (by decide) dL_goesOn_346 ?_
    refine lv_icmp_eq (tgt := 374) B.hx B.hb dL_goesOn_347 (by decide) (fun c12 => ?_) (fun c12 => ?_)
    · refine lv_iconst (v := (nI 0)) B.hx B.hb dL_goesOn_374 (by decide) ?_
      exact kJ4 _ _ hP hD hS
    · refine lv_aload B.hx B.hb dL_goesOn_350 (lv_at hl 10 rfl) ?_
      refine lv_aload B.hx B.hb dL_goesOn_352 (lv_at hl 11 rfl) ?_
      refine lv_iload B.hx B.hb dL_goesOn_354 (lv_at hl 1 rfl) ?_
      refine q_callS (As := [.ref (o 5), .ref (o 6), .int (nI (xx % 6))]) (rest := []) B hP hD hS ((cl_mayApprove l D cI cZ cP o F M (xx % 6) f51 hM (by omega)).fr wk) (cwS 3 B.hts gL_goesOn_L_mayApprove rfl rfl rfl (by decide +kernel) ⟨(Nat.le_of_ble_eq_true rfl), (Nat.le_of_ble_eq_true rfl)⟩) rfl hl.1 rfl (Nat.le_of_ble_eq_true rfl) dL_goesOn_356 ⟨(Nat.le_of_ble_eq_true rfl), (Nat.le_of_ble_eq_true rfl)⟩ (fun E ce q9 H locs hx => False.elim hx) (fun v u H locs hp hP hD hS => ?_)
      obtain rfl := hp
      have hP : va_P D vwCl (lw cI o F ++ wk) H := hP
      have hD : va_D A (lw cI o F ++ wk) := hD
      refine lv_if_eq (tgt := 374) B.hx B.hb dL_goesOn_359 (by decide) (fun c13 => ?_) (fun c13 => ?_)
      · replace c13 := bI_0.mp c13
        refine lv_iconst (v := (nI 0)) B.hx B.hb dL_goesOn_374 (by decide) ?_
        exact kJ4 _ _ hP hD hS
      · replace c13 := bI_t1 c13
        refine lv_iload B.hx B.hb dL_goesOn_362 (lv_at hl 0 rfl) ?_
        refine lv_sipush (v := (nI 1000)) B.hx B.hb dL_goesOn_364 (by decide) ?_
        refine lv_icmp_gt (tgt := 374) B.hx B.hb dL_goesOn_367 (by decide) (fun c14 => ?_) (fun c14 => ?_)
        · replace c14 := (nI_ltI (by omega) (by omega)).mp c14
          refine lv_iconst (v := (nI 0)) B.hx B.hb dL_goesOn_374 (by decide) ?_
          exact kJ4 _ _ hP hD hS
        · replace c14 := mt (nI_ltI (by omega) (by omega)).mpr c14
          refine lv_iconst (v := (nI 1)) B.hx B.hb dL_goesOn_370 (by decide) ?_
          refine lv_goto (tgt := 375) B.hx B.hb dL_goesOn_371 (by decide) ?_
          omega

set_option maxHeartbeats 4000000 in
set_option maxRecDepth 100000 in
theorem lg4a (l : Launch) (D : va_G) (cI cZ cP : ClassId) (o : Nat → Nat) (F : Nat → Nat → Int32) (wk wk2 : va_W) {q0 b : Nat} {fs : List Value} (hq : wk[q0]? = some (b, .inr (3, fs))) {q2 : Nat} {fs2 : List Value} (hq2 : wk2[q2]? = some (b, .inr (3, fs2))) (j xx yy : Nat) (hj : j < 8) (hx : xx < 2 ^ 30) (hy : yy < 2 ^ 30) (p9 t : Nat) (hp9 : p9 < 6) (cs : q_C l yX3_step wsX3_step ({ frames := 2, cells := 0, slots := 0, locals := 42 }) D cI cZ cP [.ref b, .int (nI j)] wk (S := Unit) (fun v _ => v = some (.int (nI 4))) (fun _ => wk) (fun _ => False) 0 0) (cwt : q_C l yX3_waitsFor wsX3_waitsFor ({ frames := 3, cells := 0, slots := 0, locals := 62 }) D cI cZ cP [.ref b, .int (nI j)] wk (S := Unit) (fun v _ => v = some (.int (nI p9))) (fun _ => wk) (fun _ => False) 0 0) (ca : q_C l yL_asks wsL_asks ({ frames := 9, cells := 3, slots := 18, locals := 148 }) D cI cZ cP [.ref b, .int (nI 8), .int (nI j), .int (nI p9), .int (nI 0)] wk (S := Unit) (fun v _ => v = some (.int (nI 0))) (fun _ => wk2) (fun _ => False) 3 18) (ca2 : q_C l yL_asks wsL_asks ({ frames := 9, cells := 3, slots := 18, locals := 148 }) D cI cZ cP [.ref b, .int (nI 8), .int (nI j), .int (nI p9), .int (nI 0)] wk2 (S := Unit) (fun v _ => v = some (.int (-8))) (fun _ => wk2) (fun _ => False) 3 18) (cs2 : q_C l yX3_step wsX3_step ({ frames := 2, cells := 0, slots := 0, locals := 42 }) D cI cZ cP [.ref b, .int (nI j)] wk2 (S := Unit) (fun v _ => v = some (.int (nI 5))) (fun _ => wk2) (fun _ => False) 0 0) : q_C l yL_goesOn wsL_goesOn ({ frames := 11, cells := 18, slots := 108, locals := 197 }) D cI cZ cP [.ref b, .int (nI j), .int (nI xx), .int (nI yy), .ref (o 0), .ref (o 5), .ref (o 6), .ref (o 4)] (lw cI o F ++ wk) (S := Unit) (fun v _ => v = some (.int (nI 1))) (fun _ => (lw cI o F ++ wk2)) (fun _ => False) 18 108 := by
  refine q_of (cc := cL_goesOn) (maxL := 15) (ret := (some .boolean)) (by decide +kernel) rfl (Nat.le_of_ble_eq_true rfl) ?_
  intro p e s m below meth c A ls B hr htb hmn hP hD hS hl
  have hl : lv_has ls 15 [(0, .ref b), (1, .int (nI j)), (2, .int (nI xx)), (3, .int (nI yy)), (4, .ref (o 0)), (5, .ref (o 5)), (6, .ref (o 6)), (7, .ref (o 4))] := hl
  refine lv_bipush (v := (nI 8)) B.hx B.hb dL_goesOn_0 (by decide) ?_
  refine lv_iload_n B.hx B.hb dL_goesOn_2 rfl (lv_at hl 1 rfl) ?_
  refine lv_imul B.hx B.hb dL_goesOn_3 ?_
  refine q_top (v2 := .int (nI (8 * j))) (congrArg Value.int (pk_mul _ _)) ?_
  refine lv_istore (lv' := [(8, .int (nI (8 * j))), (0, .ref b), (1, .int (nI j)), (2, .int (nI xx)), (3, .int (nI yy)), (4, .ref (o 0)), (5, .ref (o 5)), (6, .ref (o 6)), (7, .ref (o 4))]) B.hx B.hb dL_goesOn_4 hl (by decide) rfl (fun ls hl => ?_)
  refine lv_aload_n B.hx B.hb dL_goesOn_6 rfl (lv_at hl 1 rfl) ?_
  refine lv_iload_n B.hx B.hb dL_goesOn_7 rfl (lv_at hl 2 rfl) ?_
  refine q_callV (As := [.int (nI j)]) (rest := []) B hP hD hS (cs.fl (lw cI o F)) (cwV 1 B.hts gL_goesOn_X3_step rfl rfl rfl (by decide +kernel) ⟨(Nat.le_of_ble_eq_true rfl), (Nat.le_of_ble_eq_true rfl)⟩) (q0 + 8) 3 hq rfl rfl rfl hl.1 rfl (Nat.le_of_ble_eq_true rfl) dL_goesOn_8 ⟨(Nat.le_of_ble_eq_true rfl), (Nat.le_of_ble_eq_true rfl)⟩ (fun E ce q9 H locs hx => False.elim hx) (fun v u H locs hp hP hD hS => ?_)
  obtain rfl := hp
  have hP : va_P D vwCl (lw cI o F ++ wk) H := hP
  have hD : va_D A (lw cI o F ++ wk) := hD
  refine lv_istore (lv' := [(9, .int (nI 4)), (8, .int (nI (8 * j))), (0, .ref b), (1, .int (nI j)), (2, .int (nI xx)), (3, .int (nI yy)), (4, .ref (o 0)), (5, .ref (o 5)), (6, .ref (o 6)), (7, .ref (o 4))]) B.hx B.hb dL_goesOn_11 hl (by decide) rfl (fun ls hl => ?_)
  refine lv_aload_n B.hx B.hb dL_goesOn_13 rfl (lv_at hl 2 rfl) ?_
  refine lv_iload_n B.hx B.hb dL_goesOn_14 rfl (lv_at hl 3 rfl) ?_
  refine q_callV (As := [.int (nI j)]) (rest := []) B hP hD hS (cwt.fl (lw cI o F)) (cwV 1 B.hts gL_goesOn_X3_waitsFor rfl rfl rfl (by decide +kernel) ⟨(Nat.le_of_ble_eq_true rfl), (Nat.le_of_ble_eq_true rfl)⟩) (q0 + 8) 3 hq rfl rfl rfl hl.1 rfl (Nat.le_of_ble_eq_true rfl) dL_goesOn_15 ⟨(Nat.le_of_ble_eq_true rfl), (Nat.le_of_ble_eq_true rfl)⟩ (fun E ce q9 H locs hx => False.elim hx) (fun v u H locs hp hP hD hS => ?_)
  obtain rfl := hp
  have hP : va_P D vwCl (lw cI o F ++ wk) H := hP
  have hD : va_D A (lw cI o F ++ wk) := hD
  refine lv_istore (lv' := [(10, .int (nI p9)), (9, .int (nI 4)), (8, .int (nI (8 * j))), (0, .ref b), (1, .int (nI j)), (2, .int (nI xx)), (3, .int (nI yy)), (4, .ref (o 0)), (5, .ref (o 5)), (6, .ref (o 6)), (7, .ref (o 4))]) B.hx B.hb dL_goesOn_18 hl (by decide) rfl (fun ls hl => ?_)
  refine lv_iload B.hx B.hb dL_goesOn_20 (lv_at hl 1 rfl) ?_
  refine lv_iconst (v := (nI 1)) B.hx B.hb dL_goesOn_22 (by decide) ?_
  refine lv_icmp_ne (tgt := 175) B.hx B.hb dL_goesOn_23 (by decide) (fun _ => ?_) (fun c1 => False.elim (by exact absurd c1 (by decide)))
  refine lv_iload B.hx B.hb dL_goesOn_175 (lv_at hl 1 rfl) ?_
  refine lv_iconst (v := (nI 2)) B.hx B.hb dL_goesOn_177 (by decide) ?_
  refine lv_icmp_ne (tgt := 313) B.hx B.hb dL_goesOn_178 (by decide) (fun _ => ?_) (fun c2 => False.elim (by exact absurd c2 (by decide)))
  refine lv_iload B.hx B.hb dL_goesOn_313 (lv_at hl 1 rfl) ?_
  refine lv_iconst (v := (nI 3)) B.hx B.hb dL_goesOn_315 (by decide) ?_
  refine lv_icmp_ne (tgt := 487) B.hx B.hb dL_goesOn_316 (by decide) (fun _ => ?_) (fun c3 => False.elim (by exact absurd c3 (by decide)))
  refine lv_iload B.hx B.hb dL_goesOn_487 (lv_at hl 1 rfl) ?_
  refine lv_iconst (v := (nI 4)) B.hx B.hb dL_goesOn_489 (by decide) ?_
  refine lv_icmp_ne (tgt := 574) B.hx B.hb dL_goesOn_490 (by decide) (fun c4 => False.elim (by exact absurd c4 (by decide))) (fun _ => ?_)
  refine lv_aload_n B.hx B.hb dL_goesOn_493 rfl (lv_at hl 3 rfl) ?_
  refine lv_bipush (v := (nI 8)) B.hx B.hb dL_goesOn_494 (by decide) ?_
  refine lv_iload_n B.hx B.hb dL_goesOn_496 rfl (lv_at hl 4 rfl) ?_
  refine lv_iload B.hx B.hb dL_goesOn_497 (lv_at hl 0 rfl) ?_
  refine lv_iconst (v := (nI 0)) B.hx B.hb dL_goesOn_499 (by decide) ?_
  refine q_callSX (As := [.ref b, .int (nI 8), .int (nI j), .int (nI p9), .int (nI 0)]) (rest := []) B hP hD hS (ca.fl (lw cI o F)) (vx_cwSW 5 B.hts gL_goesOn_L_asks rfl rfl rfl (by decide +kernel) ⟨(Nat.le_of_ble_eq_true rfl), (Nat.le_of_ble_eq_true rfl)⟩) rfl hl.1 rfl (Nat.le_of_ble_eq_true rfl) dL_goesOn_500 ⟨(Nat.le_of_ble_eq_true rfl), (Nat.le_of_ble_eq_true rfl)⟩ (fun E ce q9 H locs hx => False.elim hx) (fun v u H locs hp hP hD hS => ?_)
  obtain rfl := hp
  have hP : va_P D vwCl (lw cI o F ++ wk2) H := hP
  have hD : va_D A (lw cI o F ++ wk2) := hD
  refine lv_istore (lv' := [(11, .int (nI 0)), (10, .int (nI p9)), (9, .int (nI 4)), (8, .int (nI (8 * j))), (0, .ref b), (1, .int (nI j)), (2, .int (nI xx)), (3, .int (nI yy)), (4, .ref (o 0)), (5, .ref (o 5)), (6, .ref (o 6)), (7, .ref (o 4))]) B.hx B.hb dL_goesOn_503 hl (by decide) rfl (fun ls hl => ?_)
  refine lv_iload B.hx B.hb dL_goesOn_505 (lv_at hl 0 rfl) ?_
  refine lv_if_lt (tgt := 572) B.hx B.hb dL_goesOn_507 (by decide) (fun c5 => False.elim (by exact absurd c5 (by decide))) (fun _ => ?_)
  refine lv_iload B.hx B.hb dL_goesOn_510 (lv_at hl 0 rfl) ?_
  refine lv_bipush (v := (nI 6)) B.hx B.hb dL_goesOn_512 (by decide) ?_
  refine lv_icmp_ge (tgt := 572) B.hx B.hb dL_goesOn_514 (by decide) (fun c6 => False.elim (by exact absurd c6 (by decide))) (fun _ => ?_)
  refine lv_iload B.hx B.hb dL_goesOn_517 (lv_at hl 0 rfl) ?_
  refine lv_if_ne (tgt := 534) B.hx B.hb dL_goesOn_519 (by decide) (fun c7 => False.elim (by exact absurd c7 (by decide))) (fun _ => ?_)
  refine lv_aload_n B.hx B.hb dL_goesOn_522 rfl (lv_at hl 4 rfl) ?_
  refine lv_iload_n B.hx B.hb dL_goesOn_523 rfl (lv_at hl 5 rfl) ?_
  refine q_callV (As := [.int (nI j)]) (rest := []) B hP hD hS (cs2.fl (lw cI o F)) (cwV 1 B.hts gL_goesOn_X3_step rfl rfl rfl (by decide +kernel) ⟨(Nat.le_of_ble_eq_true rfl), (Nat.le_of_ble_eq_true rfl)⟩) (q2 + 8) 3 hq2 rfl rfl rfl hl.1 rfl (Nat.le_of_ble_eq_true rfl) dL_goesOn_524 ⟨(Nat.le_of_ble_eq_true rfl), (Nat.le_of_ble_eq_true rfl)⟩ (fun E ce q9 H locs hx => False.elim hx) (fun v u H locs hp hP hD hS => ?_)
  obtain rfl := hp
  have hP : va_P D vwCl (lw cI o F ++ wk2) H := hP
  have hD : va_D A (lw cI o F ++ wk2) := hD
  refine lv_iconst (v := (nI 5)) B.hx B.hb dL_goesOn_527 (by decide) ?_
  refine lv_icmp_ne (tgt := 572) B.hx B.hb dL_goesOn_528 (by decide) (fun c8 => False.elim (by exact absurd c8 (by decide))) (fun _ => ?_)
  refine lv_goto (tgt := 553) B.hx B.hb dL_goesOn_531 (by decide) ?_
  refine lv_aload_n B.hx B.hb dL_goesOn_553 rfl (lv_at hl 4 rfl) ?_
  refine lv_bipush (v := (nI 8)) B.hx B.hb dL_goesOn_554 (by decide) ?_
  refine lv_iload_n B.hx B.hb dL_goesOn_556 rfl (lv_at hl 5 rfl) ?_
  refine lv_iload B.hx B.hb dL_goesOn_557 (lv_at hl 1 rfl) ?_
  refine lv_iconst (v := (nI 0)) B.hx B.hb dL_goesOn_559 (by decide) ?_
  refine q_callSX (As := [.ref b, .int (nI 8), .int (nI j), .int (nI p9), .int (nI 0)]) (rest := []) B hP hD hS (ca2.fl (lw cI o F)) (vx_cwSW 5 B.hts gL_goesOn_L_asks rfl rfl rfl (by decide +kernel) ⟨(Nat.le_of_ble_eq_true rfl), (Nat.le_of_ble_eq_true rfl)⟩) rfl hl.1 rfl (Nat.le_of_ble_eq_true rfl) dL_goesOn_560 ⟨(Nat.le_of_ble_eq_true rfl), (Nat.le_of_ble_eq_true rfl)⟩ (fun E ce q9 H locs hx => False.elim hx) (fun v u H locs hp hP hD hS => ?_)
  obtain rfl := hp
  have hP : va_P D vwCl (lw cI o F ++ wk2) H := hP
  have hD : va_D A (lw cI o F ++ wk2) := hD
  refine lv_bipush (v := (-8)) B.hx B.hb dL_goesOn_563 (by decide) ?_
  refine lv_icmp_ne (tgt := 572) B.hx B.hb dL_goesOn_565 (by decide) (fun c9 => False.elim (by exact absurd c9 (by decide))) (fun _ => ?_)
  refine lv_iconst (v := (nI 1)) B.hx B.hb dL_goesOn_568 (by decide) ?_
  refine lv_goto (tgt := 573) B.hx B.hb dL_goesOn_569 (by decide) ?_
  exact q_zret B hr hP hD hS (by decide) (u := ()) rfl rfl (Nat.le_of_ble_eq_true rfl) (Nat.le_of_ble_eq_true rfl) dL_goesOn_573

set_option maxHeartbeats 4000000 in
set_option maxRecDepth 100000 in
theorem lg4b (l : Launch) (D : va_G) (cI cZ cP : ClassId) (o : Nat → Nat) (F : Nat → Nat → Int32) (wk wk2 : va_W) {q0 b : Nat} {fs : List Value} (hq : wk[q0]? = some (b, .inr (3, fs))) {q2 : Nat} {fs2 : List Value} (hq2 : wk2[q2]? = some (b, .inr (3, fs2))) (j xx yy : Nat) (hj : j < 8) (hx : xx < 2 ^ 30) (hy : yy < 2 ^ 30) (p9 t : Nat) (hp9 : p9 < 6) (p8 : Nat) (hp8 : p9 < p8) (hp86 : p8 < 6) (ht0 : 0 < t) (ht6 : t < 6) (cs : q_C l yX3_step wsX3_step ({ frames := 2, cells := 0, slots := 0, locals := 42 }) D cI cZ cP [.ref b, .int (nI j)] wk (S := Unit) (fun v _ => v = some (.int (nI 4))) (fun _ => wk) (fun _ => False) 0 0) (cwt : q_C l yX3_waitsFor wsX3_waitsFor ({ frames := 3, cells := 0, slots := 0, locals := 62 }) D cI cZ cP [.ref b, .int (nI j)] wk (S := Unit) (fun v _ => v = some (.int (nI p9))) (fun _ => wk) (fun _ => False) 0 0) (ca : q_C l yL_asks wsL_asks ({ frames := 9, cells := 3, slots := 18, locals := 148 }) D cI cZ cP [.ref b, .int (nI 8), .int (nI j), .int (nI p9), .int (nI 0)] wk (S := Unit) (fun v _ => v = some (.int (nI t))) (fun _ => wk2) (fun _ => False) 3 18) (ca2 : q_C l yL_asks wsL_asks ({ frames := 9, cells := 3, slots := 18, locals := 148 }) D cI cZ cP [.ref b, .int (nI 8), .int (nI j), .int (nI p9), .int (nI 0)] wk2 (S := Unit) (fun v _ => v = some (.int (-8))) (fun _ => wk2) (fun _ => False) 3 18) (cs2 : q_C l yX3_step wsX3_step ({ frames := 2, cells := 0, slots := 0, locals := 42 }) D cI cZ cP [.ref b, .int (nI j)] wk2 (S := Unit) (fun v _ => v = some (.int (nI 4))) (fun _ => wk2) (fun _ => False) 0 0) (cw2 : q_C l yX3_waitsFor wsX3_waitsFor ({ frames := 3, cells := 0, slots := 0, locals := 62 }) D cI cZ cP [.ref b, .int (nI j)] wk2 (S := Unit) (fun v _ => v = some (.int (nI p8))) (fun _ => wk2) (fun _ => False) 0 0) : q_C l yL_goesOn wsL_goesOn ({ frames := 11, cells := 18, slots := 108, locals := 197 }) D cI cZ cP [.ref b, .int (nI j), .int (nI xx), .int (nI yy), .ref (o 0), .ref (o 5), .ref (o 6), .ref (o 4)] (lw cI o F ++ wk) (S := Unit) (fun v _ => v = some (.int (nI 1))) (fun _ => (lw cI o F ++ wk2)) (fun _ => False) 18 108 := by
  refine q_of (cc := cL_goesOn) (maxL := 15) (ret := (some .boolean)) (by decide +kernel) rfl (Nat.le_of_ble_eq_true rfl) ?_
  intro p e s m below meth c A ls B hr htb hmn hP hD hS hl
  have hl : lv_has ls 15 [(0, .ref b), (1, .int (nI j)), (2, .int (nI xx)), (3, .int (nI yy)), (4, .ref (o 0)), (5, .ref (o 5)), (6, .ref (o 6)), (7, .ref (o 4))] := hl
  refine lv_bipush (v := (nI 8)) B.hx B.hb dL_goesOn_0 (by decide) ?_
  refine lv_iload_n B.hx B.hb dL_goesOn_2 rfl (lv_at hl 1 rfl) ?_
  refine lv_imul B.hx B.hb dL_goesOn_3 ?_
  refine q_top (v2 := .int (nI (8 * j))) (congrArg Value.int (pk_mul _ _)) ?_
  refine lv_istore (lv' := [(8, .int (nI (8 * j))), (0, .ref b), (1, .int (nI j)), (2, .int (nI xx)), (3, .int (nI yy)), (4, .ref (o 0)), (5, .ref (o 5)), (6, .ref (o 6)), (7, .ref (o 4))]) B.hx B.hb dL_goesOn_4 hl (by decide) rfl (fun ls hl => ?_)
  refine lv_aload_n B.hx B.hb dL_goesOn_6 rfl (lv_at hl 1 rfl) ?_
  refine lv_iload_n B.hx B.hb dL_goesOn_7 rfl (lv_at hl 2 rfl) ?_
  refine q_callV (As := [.int (nI j)]) (rest := []) B hP hD hS (cs.fl (lw cI o F)) (cwV 1 B.hts gL_goesOn_X3_step rfl rfl rfl (by decide +kernel) ⟨(Nat.le_of_ble_eq_true rfl), (Nat.le_of_ble_eq_true rfl)⟩) (q0 + 8) 3 hq rfl rfl rfl hl.1 rfl (Nat.le_of_ble_eq_true rfl) dL_goesOn_8 ⟨(Nat.le_of_ble_eq_true rfl), (Nat.le_of_ble_eq_true rfl)⟩ (fun E ce q9 H locs hx => False.elim hx) (fun v u H locs hp hP hD hS => ?_)
  obtain rfl := hp
  have hP : va_P D vwCl (lw cI o F ++ wk) H := hP
  have hD : va_D A (lw cI o F ++ wk) := hD
  refine lv_istore (lv' := [(9, .int (nI 4)), (8, .int (nI (8 * j))), (0, .ref b), (1, .int (nI j)), (2, .int (nI xx)), (3, .int (nI yy)), (4, .ref (o 0)), (5, .ref (o 5)), (6, .ref (o 6)), (7, .ref (o 4))]) B.hx B.hb dL_goesOn_11 hl (by decide) rfl (fun ls hl => ?_)
  refine lv_aload_n B.hx B.hb dL_goesOn_13 rfl (lv_at hl 2 rfl) ?_
  refine lv_iload_n B.hx B.hb dL_goesOn_14 rfl (lv_at hl 3 rfl) ?_
  refine q_callV (As := [.int (nI j)]) (rest := []) B hP hD hS (cwt.fl (lw cI o F)) (cwV 1 B.hts gL_goesOn_X3_waitsFor rfl rfl rfl (by decide +kernel) ⟨(Nat.le_of_ble_eq_true rfl), (Nat.le_of_ble_eq_true rfl)⟩) (q0 + 8) 3 hq rfl rfl rfl hl.1 rfl (Nat.le_of_ble_eq_true rfl) dL_goesOn_15 ⟨(Nat.le_of_ble_eq_true rfl), (Nat.le_of_ble_eq_true rfl)⟩ (fun E ce q9 H locs hx => False.elim hx) (fun v u H locs hp hP hD hS => ?_)
  obtain rfl := hp
  have hP : va_P D vwCl (lw cI o F ++ wk) H := hP
  have hD : va_D A (lw cI o F ++ wk) := hD
  refine lv_istore (lv' := [(10, .int (nI p9)), (9, .int (nI 4)), (8, .int (nI (8 * j))), (0, .ref b), (1, .int (nI j)), (2, .int (nI xx)), (3, .int (nI yy)), (4, .ref (o 0)), (5, .ref (o 5)), (6, .ref (o 6)), (7, .ref (o 4))]) B.hx B.hb dL_goesOn_18 hl (by decide) rfl (fun ls hl => ?_)
  refine lv_iload B.hx B.hb dL_goesOn_20 (lv_at hl 1 rfl) ?_
  refine lv_iconst (v := (nI 1)) B.hx B.hb dL_goesOn_22 (by decide) ?_
  refine lv_icmp_ne (tgt := 175) B.hx B.hb dL_goesOn_23 (by decide) (fun _ => ?_) (fun c1 => False.elim (by exact absurd c1 (by decide)))
  refine lv_iload B.hx B.hb dL_goesOn_175 (lv_at hl 1 rfl) ?_
  refine lv_iconst (v := (nI 2)) B.hx B.hb dL_goesOn_177 (by decide) ?_
  refine lv_icmp_ne (tgt := 313) B.hx B.hb dL_goesOn_178 (by decide) (fun _ => ?_) (fun c2 => False.elim (by exact absurd c2 (by decide)))
  refine lv_iload B.hx B.hb dL_goesOn_313 (lv_at hl 1 rfl) ?_
  refine lv_iconst (v := (nI 3)) B.hx B.hb dL_goesOn_315 (by decide) ?_
  refine lv_icmp_ne (tgt := 487) B.hx B.hb dL_goesOn_316 (by decide) (fun _ => ?_) (fun c3 => False.elim (by exact absurd c3 (by decide)))
  refine lv_iload B.hx B.hb dL_goesOn_487 (lv_at hl 1 rfl) ?_
  refine lv_iconst (v := (nI 4)) B.hx B.hb dL_goesOn_489 (by decide) ?_
  refine lv_icmp_ne (tgt := 574) B.hx B.hb dL_goesOn_490 (by decide) (fun c4 => False.elim (by exact absurd c4 (by decide))) (fun _ => ?_)
  refine lv_aload_n B.hx B.hb dL_goesOn_493 rfl (lv_at hl 3 rfl) ?_
  refine lv_bipush (v := (nI 8)) B.hx B.hb dL_goesOn_494 (by decide) ?_
  refine lv_iload_n B.hx B.hb dL_goesOn_496 rfl (lv_at hl 4 rfl) ?_
  refine lv_iload B.hx B.hb dL_goesOn_497 (lv_at hl 0 rfl) ?_
  refine lv_iconst (v := (nI 0)) B.hx B.hb dL_goesOn_499 (by decide) ?_
  refine q_callSX (As := [.ref b, .int (nI 8), .int (nI j), .int (nI p9), .int (nI 0)]) (rest := []) B hP hD hS (ca.fl (lw cI o F)) (vx_cwSW 5 B.hts gL_goesOn_L_asks rfl rfl rfl (by decide +kernel) ⟨(Nat.le_of_ble_eq_true rfl), (Nat.le_of_ble_eq_true rfl)⟩) rfl hl.1 rfl (Nat.le_of_ble_eq_true rfl) dL_goesOn_500 ⟨(Nat.le_of_ble_eq_true rfl), (Nat.le_of_ble_eq_true rfl)⟩ (fun E ce q9 H locs hx => False.elim hx) (fun v u H locs hp hP hD hS => ?_)
  obtain rfl := hp
  have hP : va_P D vwCl (lw cI o F ++ wk2) H := hP
  have hD : va_D A (lw cI o F ++ wk2) := hD
  refine lv_istore (lv' := [(11, .int (nI t)), (10, .int (nI p9)), (9, .int (nI 4)), (8, .int (nI (8 * j))), (0, .ref b), (1, .int (nI j)), (2, .int (nI xx)), (3, .int (nI yy)), (4, .ref (o 0)), (5, .ref (o 5)), (6, .ref (o 6)), (7, .ref (o 4))]) B.hx B.hb dL_goesOn_503 hl (by decide) rfl (fun ls hl => ?_)
  refine lv_iload B.hx B.hb dL_goesOn_505 (lv_at hl 0 rfl) ?_
  refine lv_if_lt (tgt := 572) B.hx B.hb dL_goesOn_507 (by decide) (fun c5 => False.elim (by replace c5 := (nI_lt0 (by omega)).mp c5; exact c5)) (fun _ => ?_)
  refine lv_iload B.hx B.hb dL_goesOn_510 (lv_at hl 0 rfl) ?_
  refine lv_bipush (v := (nI 6)) B.hx B.hb dL_goesOn_512 (by decide) ?_
  refine lv_icmp_ge (tgt := 572) B.hx B.hb dL_goesOn_514 (by decide) (fun c6 => False.elim (by replace c6 := (nI_leI (by omega) (by omega)).mp c6; omega)) (fun _ => ?_)
  refine lv_iload B.hx B.hb dL_goesOn_517 (lv_at hl 0 rfl) ?_
  refine lv_if_ne (tgt := 534) B.hx B.hb dL_goesOn_519 (by decide) (fun _ => ?_) (fun c7 => False.elim (by replace c7 := (nI_eq0 (by omega)).mp c7; omega))
  refine lv_aload_n B.hx B.hb dL_goesOn_534 rfl (lv_at hl 4 rfl) ?_
  refine lv_iload_n B.hx B.hb dL_goesOn_535 rfl (lv_at hl 5 rfl) ?_
  refine q_callV (As := [.int (nI j)]) (rest := []) B hP hD hS (cs2.fl (lw cI o F)) (cwV 1 B.hts gL_goesOn_X3_step rfl rfl rfl (by decide +kernel) ⟨(Nat.le_of_ble_eq_true rfl), (Nat.le_of_ble_eq_true rfl)⟩) (q2 + 8) 3 hq2 rfl rfl rfl hl.1 rfl (Nat.le_of_ble_eq_true rfl) dL_goesOn_536 ⟨(Nat.le_of_ble_eq_true rfl), (Nat.le_of_ble_eq_true rfl)⟩ (fun E ce q9 H locs hx => False.elim hx) (fun v u H locs hp hP hD hS => ?_)
  obtain rfl := hp
  have hP : va_P D vwCl (lw cI o F ++ wk2) H := hP
  have hD : va_D A (lw cI o F ++ wk2) := hD
  refine lv_iconst (v := (nI 4)) B.hx B.hb dL_goesOn_539 (by decide) ?_
  refine lv_icmp_ne (tgt := 572) B.hx B.hb dL_goesOn_540 (by decide) (fun c8 => False.elim (by exact absurd c8 (by decide))) (fun _ => ?_)
  refine lv_aload_n B.hx B.hb dL_goesOn_543 rfl (lv_at hl 4 rfl) ?_
  refine lv_iload_n B.hx B.hb dL_goesOn_544 rfl (lv_at hl 5 rfl) ?_
  refine q_callV (As := [.int (nI j)]) (rest := []) B hP hD hS (cw2.fl (lw cI o F)) (cwV 1 B.hts gL_goesOn_X3_waitsFor rfl rfl rfl (by decide +kernel) ⟨(Nat.le_of_ble_eq_true rfl), (Nat.le_of_ble_eq_true rfl)⟩) (q2 + 8) 3 hq2 rfl rfl rfl hl.1 rfl (Nat.le_of_ble_eq_true rfl) dL_goesOn_545 ⟨(Nat.le_of_ble_eq_true rfl), (Nat.le_of_ble_eq_true rfl)⟩ (fun E ce q9 H locs hx => False.elim hx) (fun v u H locs hp hP hD hS => ?_)
  obtain rfl := hp
  have hP : va_P D vwCl (lw cI o F ++ wk2) H := hP
  have hD : va_D A (lw cI o F ++ wk2) := hD
  refine lv_iload B.hx B.hb dL_goesOn_548 (lv_at hl 1 rfl) ?_
  refine lv_icmp_le (tgt := 572) B.hx B.hb dL_goesOn_550 (by decide) (fun c9 => False.elim (by replace c9 := (nI_leI (by omega) (by omega)).mp c9; omega)) (fun _ => ?_)
  refine lv_aload_n B.hx B.hb dL_goesOn_553 rfl (lv_at hl 4 rfl) ?_
  refine lv_bipush (v := (nI 8)) B.hx B.hb dL_goesOn_554 (by decide) ?_
  refine lv_iload_n B.hx B.hb dL_goesOn_556 rfl (lv_at hl 5 rfl) ?_
  refine lv_iload B.hx B.hb dL_goesOn_557 (lv_at hl 1 rfl) ?_
  refine lv_iconst (v := (nI 0)) B.hx B.hb dL_goesOn_559 (by decide) ?_
  refine q_callSX (As := [.ref b, .int (nI 8), .int (nI j), .int (nI p9), .int (nI 0)]) (rest := []) B hP hD hS (ca2.fl (lw cI o F)) (vx_cwSW 5 B.hts gL_goesOn_L_asks rfl rfl rfl (by decide +kernel) ⟨(Nat.le_of_ble_eq_true rfl), (Nat.le_of_ble_eq_true rfl)⟩) rfl hl.1 rfl (Nat.le_of_ble_eq_true rfl) dL_goesOn_560 ⟨(Nat.le_of_ble_eq_true rfl), (Nat.le_of_ble_eq_true rfl)⟩ (fun E ce q9 H locs hx => False.elim hx) (fun v u H locs hp hP hD hS => ?_)
  obtain rfl := hp
  have hP : va_P D vwCl (lw cI o F ++ wk2) H := hP
  have hD : va_D A (lw cI o F ++ wk2) := hD
  refine lv_bipush (v := (-8)) B.hx B.hb dL_goesOn_563 (by decide) ?_
  refine lv_icmp_ne (tgt := 572) B.hx B.hb dL_goesOn_565 (by decide) (fun c10 => False.elim (by exact absurd c10 (by decide))) (fun _ => ?_)
  refine lv_iconst (v := (nI 1)) B.hx B.hb dL_goesOn_568 (by decide) ?_
  refine lv_goto (tgt := 573) B.hx B.hb dL_goesOn_569 (by decide) ?_
  exact q_zret B hr hP hD hS (by decide) (u := ()) rfl rfl (Nat.le_of_ble_eq_true rfl) (Nat.le_of_ble_eq_true rfl) dL_goesOn_573

set_option maxHeartbeats 4000000 in
set_option maxRecDepth 100000 in
theorem lg5a (l : Launch) (D : va_G) (cI cZ cP : ClassId) (o : Nat → Nat) (F : Nat → Nat → Int32) (wk wk2 : va_W) {q0 b : Nat} {fs : List Value} (hq : wk[q0]? = some (b, .inr (3, fs))) {q2 : Nat} {fs2 : List Value} (hq2 : wk2[q2]? = some (b, .inr (3, fs2))) (j xx yy : Nat) (wt : Int32) (hj : j < 8) (hx : xx < 2 ^ 30) (hy : yy < 2 ^ 30) (s0 : Nat) (hs0 : s0 = 0 ∨ s0 = 5) (td : Nat) (htd : td < 1000) (f40 : F 4 0 = nI td) (cs : q_C l yX3_step wsX3_step ({ frames := 2, cells := 0, slots := 0, locals := 42 }) D cI cZ cP [.ref b, .int (nI j)] wk (S := Unit) (fun v _ => v = some (.int (nI s0))) (fun _ => wk) (fun _ => False) 0 0) (cwt : q_C l yX3_waitsFor wsX3_waitsFor ({ frames := 3, cells := 0, slots := 0, locals := 62 }) D cI cZ cP [.ref b, .int (nI j)] wk (S := Unit) (fun v _ => v = some (.int wt)) (fun _ => wk) (fun _ => False) 0 0) (ca : q_C l yL_asks wsL_asks ({ frames := 9, cells := 4, slots := 24, locals := 149 }) D cI cZ cP [.ref b, .int (nI 5), .int (nI j), .int (nI (xx % 6)), .int (nI 0)] wk (S := Unit) (fun v _ => v = some (.int (-8))) (fun _ => wk) (fun _ => False) 4 24) (ca2 : q_C l yL_asks wsL_asks ({ frames := 10, cells := 4, slots := 24, locals := 172 }) D cI cZ cP [.ref b, .int (nI 7), .int (nI j), .int (nI (xx % 6)), .int (nI (td + 1))] wk (S := Unit) (fun v _ => v = some (.int (-8))) (fun _ => wk) (fun _ => False) 4 24) (ca3 : q_C l yL_asks wsL_asks ({ frames := 9, cells := 3, slots := 18, locals := 148 }) D cI cZ cP [.ref b, .int (nI 8), .int (nI j), .int (nI (xx % 6)), .int (nI 0)] wk (S := Unit) (fun v _ => v = some (.int (-8))) (fun _ => wk) (fun _ => False) 3 18) : q_C l yL_goesOn wsL_goesOn ({ frames := 11, cells := 18, slots := 108, locals := 197 }) D cI cZ cP [.ref b, .int (nI j), .int (nI xx), .int (nI yy), .ref (o 0), .ref (o 5), .ref (o 6), .ref (o 4)] (lw cI o F ++ wk) (S := Unit) (fun v _ => v = some (.int (nI 1))) (fun _ => (lw cI o F ++ wk)) (fun _ => False) 18 108 := by
  refine q_of (cc := cL_goesOn) (maxL := 15) (ret := (some .boolean)) (by decide +kernel) rfl (Nat.le_of_ble_eq_true rfl) ?_
  intro p e s m below meth c A ls B hr htb hmn hP hD hS hl
  have hl : lv_has ls 15 [(0, .ref b), (1, .int (nI j)), (2, .int (nI xx)), (3, .int (nI yy)), (4, .ref (o 0)), (5, .ref (o 5)), (6, .ref (o 6)), (7, .ref (o 4))] := hl
  refine lv_bipush (v := (nI 8)) B.hx B.hb dL_goesOn_0 (by decide) ?_
  refine lv_iload_n B.hx B.hb dL_goesOn_2 rfl (lv_at hl 1 rfl) ?_
  refine lv_imul B.hx B.hb dL_goesOn_3 ?_
  refine q_top (v2 := .int (nI (8 * j))) (congrArg Value.int (pk_mul _ _)) ?_
  refine lv_istore (lv' := [(8, .int (nI (8 * j))), (0, .ref b), (1, .int (nI j)), (2, .int (nI xx)), (3, .int (nI yy)), (4, .ref (o 0)), (5, .ref (o 5)), (6, .ref (o 6)), (7, .ref (o 4))]) B.hx B.hb dL_goesOn_4 hl (by decide) rfl (fun ls hl => ?_)
  refine lv_aload_n B.hx B.hb dL_goesOn_6 rfl (lv_at hl 1 rfl) ?_
  refine lv_iload_n B.hx B.hb dL_goesOn_7 rfl (lv_at hl 2 rfl) ?_
  refine q_callV (As := [.int (nI j)]) (rest := []) B hP hD hS (cs.fl (lw cI o F)) (cwV 1 B.hts gL_goesOn_X3_step rfl rfl rfl (by decide +kernel) ⟨(Nat.le_of_ble_eq_true rfl), (Nat.le_of_ble_eq_true rfl)⟩) (q0 + 8) 3 hq rfl rfl rfl hl.1 rfl (Nat.le_of_ble_eq_true rfl) dL_goesOn_8 ⟨(Nat.le_of_ble_eq_true rfl), (Nat.le_of_ble_eq_true rfl)⟩ (fun E ce q9 H locs hx => False.elim hx) (fun v u H locs hp hP hD hS => ?_)
  obtain rfl := hp
  have hP : va_P D vwCl (lw cI o F ++ wk) H := hP
  have hD : va_D A (lw cI o F ++ wk) := hD
  refine lv_istore (lv' := [(9, .int (nI s0)), (8, .int (nI (8 * j))), (0, .ref b), (1, .int (nI j)), (2, .int (nI xx)), (3, .int (nI yy)), (4, .ref (o 0)), (5, .ref (o 5)), (6, .ref (o 6)), (7, .ref (o 4))]) B.hx B.hb dL_goesOn_11 hl (by decide) rfl (fun ls hl => ?_)
  refine lv_aload_n B.hx B.hb dL_goesOn_13 rfl (lv_at hl 2 rfl) ?_
  refine lv_iload_n B.hx B.hb dL_goesOn_14 rfl (lv_at hl 3 rfl) ?_
  refine q_callV (As := [.int (nI j)]) (rest := []) B hP hD hS (cwt.fl (lw cI o F)) (cwV 1 B.hts gL_goesOn_X3_waitsFor rfl rfl rfl (by decide +kernel) ⟨(Nat.le_of_ble_eq_true rfl), (Nat.le_of_ble_eq_true rfl)⟩) (q0 + 8) 3 hq rfl rfl rfl hl.1 rfl (Nat.le_of_ble_eq_true rfl) dL_goesOn_15 ⟨(Nat.le_of_ble_eq_true rfl), (Nat.le_of_ble_eq_true rfl)⟩ (fun E ce q9 H locs hx => False.elim hx) (fun v u H locs hp hP hD hS => ?_)
  obtain rfl := hp
  have hP : va_P D vwCl (lw cI o F ++ wk) H := hP
  have hD : va_D A (lw cI o F ++ wk) := hD
  refine lv_istore (lv' := [(10, .int wt), (9, .int (nI s0)), (8, .int (nI (8 * j))), (0, .ref b), (1, .int (nI j)), (2, .int (nI xx)), (3, .int (nI yy)), (4, .ref (o 0)), (5, .ref (o 5)), (6, .ref (o 6)), (7, .ref (o 4))]) B.hx B.hb dL_goesOn_18 hl (by decide) rfl (fun ls hl => ?_)
  refine lv_iload B.hx B.hb dL_goesOn_20 (lv_at hl 1 rfl) ?_
  refine lv_iconst (v := (nI 1)) B.hx B.hb dL_goesOn_22 (by decide) ?_
  refine lv_icmp_ne (tgt := 175) B.hx B.hb dL_goesOn_23 (by decide) (fun _ => ?_) (fun c1 => False.elim (by replace c1 := (nI_eq (by omega) (by omega)).mp c1; omega))
  refine lv_iload B.hx B.hb dL_goesOn_175 (lv_at hl 1 rfl) ?_
  refine lv_iconst (v := (nI 2)) B.hx B.hb dL_goesOn_177 (by decide) ?_
  refine lv_icmp_ne (tgt := 313) B.hx B.hb dL_goesOn_178 (by decide) (fun _ => ?_) (fun c2 => False.elim (by replace c2 := (nI_eq (by omega) (by omega)).mp c2; omega))
  refine lv_iload B.hx B.hb dL_goesOn_313 (lv_at hl 1 rfl) ?_
  refine lv_iconst (v := (nI 3)) B.hx B.hb dL_goesOn_315 (by decide) ?_
  refine lv_icmp_ne (tgt := 487) B.hx B.hb dL_goesOn_316 (by decide) (fun _ => ?_) (fun c3 => False.elim (by replace c3 := (nI_eq (by omega) (by omega)).mp c3; omega))
  refine lv_iload B.hx B.hb dL_goesOn_487 (lv_at hl 1 rfl) ?_
  refine lv_iconst (v := (nI 4)) B.hx B.hb dL_goesOn_489 (by decide) ?_
  refine lv_icmp_ne (tgt := 574) B.hx B.hb dL_goesOn_490 (by decide) (fun _ => ?_) (fun c4 => False.elim (by replace c4 := (nI_eq (by omega) (by omega)).mp c4; omega))
  refine lv_aload_n B.hx B.hb dL_goesOn_574 rfl (lv_at hl 3 rfl) ?_
  refine lv_iconst (v := (nI 5)) B.hx B.hb dL_goesOn_575 (by decide) ?_
  refine lv_iload_n B.hx B.hb dL_goesOn_576 rfl (lv_at hl 4 rfl) ?_
  refine lv_iload_n B.hx B.hb dL_goesOn_577 rfl (lv_at hl 5 rfl) ?_
  refine lv_bipush (v := (nI 6)) B.hx B.hb dL_goesOn_578 (by decide) ?_
  refine lv_irem B.hx B.hb dL_goesOn_580 (by decide) ?_
  refine q_top (v2 := .int (nI (xx % 6))) (congrArg Value.int (pk_rem (by omega) (by omega) (by omega))) ?_
  refine lv_iconst (v := (nI 0)) B.hx B.hb dL_goesOn_581 (by decide) ?_
  refine q_callSX (As := [.ref b, .int (nI 5), .int (nI j), .int (nI (xx % 6)), .int (nI 0)]) (rest := []) B hP hD hS (ca.fl (lw cI o F)) (vx_cwSW 5 B.hts gL_goesOn_L_asks rfl rfl rfl (by decide +kernel) ⟨(Nat.le_of_ble_eq_true rfl), (Nat.le_of_ble_eq_true rfl)⟩) rfl hl.1 rfl (Nat.le_of_ble_eq_true rfl) dL_goesOn_582 ⟨(Nat.le_of_ble_eq_true rfl), (Nat.le_of_ble_eq_true rfl)⟩ (fun E ce q9 H locs hx => False.elim hx) (fun v u H locs hp hP hD hS => ?_)
  obtain rfl := hp
  have hP : va_P D vwCl (lw cI o F ++ wk) H := hP
  have hD : va_D A (lw cI o F ++ wk) := hD
  refine lv_bipush (v := (-8)) B.hx B.hb dL_goesOn_585 (by decide) ?_
  refine lv_icmp_ne (tgt := 676) B.hx B.hb dL_goesOn_587 (by decide) (fun c5 => False.elim (by exact absurd c5 (by decide))) (fun _ => ?_)
  refine lv_aload_n B.hx B.hb dL_goesOn_590 rfl (lv_at hl 3 rfl) ?_
  refine lv_bipush (v := (nI 7)) B.hx B.hb dL_goesOn_591 (by decide) ?_
  refine lv_iload_n B.hx B.hb dL_goesOn_593 rfl (lv_at hl 4 rfl) ?_
  refine lv_iload_n B.hx B.hb dL_goesOn_594 rfl (lv_at hl 5 rfl) ?_
  refine lv_bipush (v := (nI 6)) B.hx B.hb dL_goesOn_595 (by decide) ?_
  refine lv_irem B.hx B.hb dL_goesOn_597 (by decide) ?_
  refine q_top (v2 := .int (nI (xx % 6))) (congrArg Value.int (pk_rem (by omega) (by omega) (by omega))) ?_
  refine lv_aload B.hx B.hb dL_goesOn_598 (lv_at hl 10 rfl) ?_
  refine lv_iconst (v := (nI 0)) B.hx B.hb dL_goesOn_600 (by decide) ?_
  refine q_iald (f := (F 4)) B hP 4 rfl (j := 0) rfl (by decide) (by decide) dL_goesOn_601 ?_
  refine q_top (v2 := .int (nI td)) (congrArg Value.int f40) ?_
  refine lv_iconst (v := (nI 1)) B.hx B.hb dL_goesOn_602 (by decide) ?_
  refine lv_iadd B.hx B.hb dL_goesOn_603 ?_
  refine q_top (v2 := .int (nI (td + 1))) (congrArg Value.int (nI_add _ _)) ?_
  refine lv_sipush (v := (nI 1000)) B.hx B.hb dL_goesOn_604 (by decide) ?_
  refine lv_icmp_le (tgt := 616) B.hx B.hb dL_goesOn_607 (by decide) (fun _ => ?_) (fun c6 => False.elim (by replace c6 := mt (nI_leI (by omega) (by omega)).mpr c6; omega))
  refine lv_aload B.hx B.hb dL_goesOn_616 (lv_at hl 10 rfl) ?_
  refine lv_iconst (v := (nI 0)) B.hx B.hb dL_goesOn_618 (by decide) ?_
  refine q_iald (f := (F 4)) B hP 4 rfl (j := 0) rfl (by decide) (by decide) dL_goesOn_619 ?_
  refine q_top (v2 := .int (nI td)) (congrArg Value.int f40) ?_
  refine lv_iconst (v := (nI 1)) B.hx B.hb dL_goesOn_620 (by decide) ?_
  refine lv_iadd B.hx B.hb dL_goesOn_621 ?_
  refine q_top (v2 := .int (nI (td + 1))) (congrArg Value.int (nI_add _ _)) ?_
  refine q_callSX (As := [.ref b, .int (nI 7), .int (nI j), .int (nI (xx % 6)), .int (nI (td + 1))]) (rest := []) B hP hD hS (ca2.fl (lw cI o F)) (vx_cwSW 5 B.hts gL_goesOn_L_asks rfl rfl rfl (by decide +kernel) ⟨(Nat.le_of_ble_eq_true rfl), (Nat.le_of_ble_eq_true rfl)⟩) rfl hl.1 rfl (Nat.le_of_ble_eq_true rfl) dL_goesOn_622 ⟨(Nat.le_of_ble_eq_true rfl), (Nat.le_of_ble_eq_true rfl)⟩ (fun E ce q9 H locs hx => False.elim hx) (fun v u H locs hp hP hD hS => ?_)
  obtain rfl := hp
  have hP : va_P D vwCl (lw cI o F ++ wk) H := hP
  have hD : va_D A (lw cI o F ++ wk) := hD
  refine lv_aload B.hx B.hb dL_goesOn_625 (lv_at hl 10 rfl) ?_
  refine lv_iconst (v := (nI 0)) B.hx B.hb dL_goesOn_627 (by decide) ?_
  refine q_iald (f := (F 4)) B hP 4 rfl (j := 0) rfl (by decide) (by decide) dL_goesOn_628 ?_
  refine q_top (v2 := .int (nI td)) (congrArg Value.int f40) ?_
  refine lv_sipush (v := (nI 1000)) B.hx B.hb dL_goesOn_629 (by decide) ?_
  refine lv_icmp_ne (tgt := 640) B.hx B.hb dL_goesOn_632 (by decide) (fun _ => ?_) (fun c7 => False.elim (by replace c7 := (nI_eq (by omega) (by omega)).mp c7; omega))
  refine lv_bipush (v := (-8)) B.hx B.hb dL_goesOn_640 (by decide) ?_
  refine lv_icmp_ne (tgt := 676) B.hx B.hb dL_goesOn_642 (by decide) (fun c8 => False.elim (by exact absurd c8 (by decide))) (fun _ => ?_)
  refine lv_aload_n B.hx B.hb dL_goesOn_645 rfl (lv_at hl 3 rfl) ?_
  refine lv_bipush (v := (nI 8)) B.hx B.hb dL_goesOn_646 (by decide) ?_
  refine lv_iload_n B.hx B.hb dL_goesOn_648 rfl (lv_at hl 4 rfl) ?_
  refine lv_iload_n B.hx B.hb dL_goesOn_649 rfl (lv_at hl 5 rfl) ?_
  refine lv_bipush (v := (nI 6)) B.hx B.hb dL_goesOn_650 (by decide) ?_
  refine lv_irem B.hx B.hb dL_goesOn_652 (by decide) ?_
  refine q_top (v2 := .int (nI (xx % 6))) (congrArg Value.int (pk_rem (by omega) (by omega) (by omega))) ?_
  refine lv_iconst (v := (nI 0)) B.hx B.hb dL_goesOn_653 (by decide) ?_
  refine q_callSX (As := [.ref b, .int (nI 8), .int (nI j), .int (nI (xx % 6)), .int (nI 0)]) (rest := []) B hP hD hS (ca3.fl (lw cI o F)) (vx_cwSW 5 B.hts gL_goesOn_L_asks rfl rfl rfl (by decide +kernel) ⟨(Nat.le_of_ble_eq_true rfl), (Nat.le_of_ble_eq_true rfl)⟩) rfl hl.1 rfl (Nat.le_of_ble_eq_true rfl) dL_goesOn_654 ⟨(Nat.le_of_ble_eq_true rfl), (Nat.le_of_ble_eq_true rfl)⟩ (fun E ce q9 H locs hx => False.elim hx) (fun v u H locs hp hP hD hS => ?_)
  obtain rfl := hp
  have hP : va_P D vwCl (lw cI o F ++ wk) H := hP
  have hD : va_D A (lw cI o F ++ wk) := hD
  refine lv_bipush (v := (-8)) B.hx B.hb dL_goesOn_657 (by decide) ?_
  refine lv_icmp_ne (tgt := 676) B.hx B.hb dL_goesOn_659 (by decide) (fun c9 => False.elim (by exact absurd c9 (by decide))) (fun _ => ?_)
  refine lv_aload_n B.hx B.hb dL_goesOn_662 rfl (lv_at hl 3 rfl) ?_
  refine lv_iload_n B.hx B.hb dL_goesOn_663 rfl (lv_at hl 4 rfl) ?_
  refine q_callV (As := [.int (nI j)]) (rest := []) B hP hD hS (cs.fl (lw cI o F)) (cwV 1 B.hts gL_goesOn_X3_step rfl rfl rfl (by decide +kernel) ⟨(Nat.le_of_ble_eq_true rfl), (Nat.le_of_ble_eq_true rfl)⟩) (q0 + 8) 3 hq rfl rfl rfl hl.1 rfl (Nat.le_of_ble_eq_true rfl) dL_goesOn_664 ⟨(Nat.le_of_ble_eq_true rfl), (Nat.le_of_ble_eq_true rfl)⟩ (fun E ce q9 H locs hx => False.elim hx) (fun v u H locs hp hP hD hS => ?_)
  obtain rfl := hp
  have hP : va_P D vwCl (lw cI o F ++ wk) H := hP
  have hD : va_D A (lw cI o F ++ wk) := hD
  refine lv_iload B.hx B.hb dL_goesOn_667 (lv_at hl 1 rfl) ?_
  refine lv_icmp_ne (tgt := 676) B.hx B.hb dL_goesOn_669 (by decide) (fun c10 => False.elim (by replace c10 := mt (nI_eq (by omega) (by omega)).mpr c10; omega)) (fun _ => ?_)
  refine lv_iconst (v := (nI 1)) B.hx B.hb dL_goesOn_672 (by decide) ?_
  refine lv_goto (tgt := 677) B.hx B.hb dL_goesOn_673 (by decide) ?_
  exact q_zret B hr hP hD hS (by decide) (u := ()) rfl rfl (Nat.le_of_ble_eq_true rfl) (Nat.le_of_ble_eq_true rfl) dL_goesOn_677

set_option maxHeartbeats 4000000 in
set_option maxRecDepth 100000 in
theorem lg5b (l : Launch) (D : va_G) (cI cZ cP : ClassId) (o : Nat → Nat) (F : Nat → Nat → Int32) (wk wk2 : va_W) {q0 b : Nat} {fs : List Value} (hq : wk[q0]? = some (b, .inr (3, fs))) {q2 : Nat} {fs2 : List Value} (hq2 : wk2[q2]? = some (b, .inr (3, fs2))) (j xx yy : Nat) (wt : Int32) (hj : j < 8) (hx : xx < 2 ^ 30) (hy : yy < 2 ^ 30) (s0 : Nat) (hs0 : s0 = 0 ∨ s0 = 5) (f40 : F 4 0 = nI 1000) (cs : q_C l yX3_step wsX3_step ({ frames := 2, cells := 0, slots := 0, locals := 42 }) D cI cZ cP [.ref b, .int (nI j)] wk (S := Unit) (fun v _ => v = some (.int (nI s0))) (fun _ => wk) (fun _ => False) 0 0) (cwt : q_C l yX3_waitsFor wsX3_waitsFor ({ frames := 3, cells := 0, slots := 0, locals := 62 }) D cI cZ cP [.ref b, .int (nI j)] wk (S := Unit) (fun v _ => v = some (.int wt)) (fun _ => wk) (fun _ => False) 0 0) (ca : q_C l yL_asks wsL_asks ({ frames := 9, cells := 4, slots := 24, locals := 149 }) D cI cZ cP [.ref b, .int (nI 5), .int (nI j), .int (nI (xx % 6)), .int (nI 0)] wk (S := Unit) (fun v _ => v = some (.int (-8))) (fun _ => wk) (fun _ => False) 4 24) (ca2 : q_C l yL_asks wsL_asks ({ frames := 10, cells := 4, slots := 24, locals := 172 }) D cI cZ cP [.ref b, .int (nI 7), .int (nI j), .int (nI (xx % 6)), .int (nI 1000)] wk (S := Unit) (fun v _ => v = some (.int (-9))) (fun _ => wk) (fun _ => False) 4 24) (ca3 : q_C l yL_asks wsL_asks ({ frames := 9, cells := 3, slots := 18, locals := 148 }) D cI cZ cP [.ref b, .int (nI 8), .int (nI j), .int (nI (xx % 6)), .int (nI 0)] wk (S := Unit) (fun v _ => v = some (.int (-8))) (fun _ => wk) (fun _ => False) 3 18) : q_C l yL_goesOn wsL_goesOn ({ frames := 11, cells := 18, slots := 108, locals := 197 }) D cI cZ cP [.ref b, .int (nI j), .int (nI xx), .int (nI yy), .ref (o 0), .ref (o 5), .ref (o 6), .ref (o 4)] (lw cI o F ++ wk) (S := Unit) (fun v _ => v = some (.int (nI 1))) (fun _ => (lw cI o F ++ wk)) (fun _ => False) 18 108 := by
  refine q_of (cc := cL_goesOn) (maxL := 15) (ret := (some .boolean)) (by decide +kernel) rfl (Nat.le_of_ble_eq_true rfl) ?_
  intro p e s m below meth c A ls B hr htb hmn hP hD hS hl
  have hl : lv_has ls 15 [(0, .ref b), (1, .int (nI j)), (2, .int (nI xx)), (3, .int (nI yy)), (4, .ref (o 0)), (5, .ref (o 5)), (6, .ref (o 6)), (7, .ref (o 4))] := hl
  refine lv_bipush (v := (nI 8)) B.hx B.hb dL_goesOn_0 (by decide) ?_
  refine lv_iload_n B.hx B.hb dL_goesOn_2 rfl (lv_at hl 1 rfl) ?_
  refine lv_imul B.hx B.hb dL_goesOn_3 ?_
  refine q_top (v2 := .int (nI (8 * j))) (congrArg Value.int (pk_mul _ _)) ?_
  refine lv_istore (lv' := [(8, .int (nI (8 * j))), (0, .ref b), (1, .int (nI j)), (2, .int (nI xx)), (3, .int (nI yy)), (4, .ref (o 0)), (5, .ref (o 5)), (6, .ref (o 6)), (7, .ref (o 4))]) B.hx B.hb dL_goesOn_4 hl (by decide) rfl (fun ls hl => ?_)
  refine lv_aload_n B.hx B.hb dL_goesOn_6 rfl (lv_at hl 1 rfl) ?_
  refine lv_iload_n B.hx B.hb dL_goesOn_7 rfl (lv_at hl 2 rfl) ?_
  refine q_callV (As := [.int (nI j)]) (rest := []) B hP hD hS (cs.fl (lw cI o F)) (cwV 1 B.hts gL_goesOn_X3_step rfl rfl rfl (by decide +kernel) ⟨(Nat.le_of_ble_eq_true rfl), (Nat.le_of_ble_eq_true rfl)⟩) (q0 + 8) 3 hq rfl rfl rfl hl.1 rfl (Nat.le_of_ble_eq_true rfl) dL_goesOn_8 ⟨(Nat.le_of_ble_eq_true rfl), (Nat.le_of_ble_eq_true rfl)⟩ (fun E ce q9 H locs hx => False.elim hx) (fun v u H locs hp hP hD hS => ?_)
  obtain rfl := hp
  have hP : va_P D vwCl (lw cI o F ++ wk) H := hP
  have hD : va_D A (lw cI o F ++ wk) := hD
  refine lv_istore (lv' := [(9, .int (nI s0)), (8, .int (nI (8 * j))), (0, .ref b), (1, .int (nI j)), (2, .int (nI xx)), (3, .int (nI yy)), (4, .ref (o 0)), (5, .ref (o 5)), (6, .ref (o 6)), (7, .ref (o 4))]) B.hx B.hb dL_goesOn_11 hl (by decide) rfl (fun ls hl => ?_)
  refine lv_aload_n B.hx B.hb dL_goesOn_13 rfl (lv_at hl 2 rfl) ?_
  refine lv_iload_n B.hx B.hb dL_goesOn_14 rfl (lv_at hl 3 rfl) ?_
  refine q_callV (As := [.int (nI j)]) (rest := []) B hP hD hS (cwt.fl (lw cI o F)) (cwV 1 B.hts gL_goesOn_X3_waitsFor rfl rfl rfl (by decide +kernel) ⟨(Nat.le_of_ble_eq_true rfl), (Nat.le_of_ble_eq_true rfl)⟩) (q0 + 8) 3 hq rfl rfl rfl hl.1 rfl (Nat.le_of_ble_eq_true rfl) dL_goesOn_15 ⟨(Nat.le_of_ble_eq_true rfl), (Nat.le_of_ble_eq_true rfl)⟩ (fun E ce q9 H locs hx => False.elim hx) (fun v u H locs hp hP hD hS => ?_)
  obtain rfl := hp
  have hP : va_P D vwCl (lw cI o F ++ wk) H := hP
  have hD : va_D A (lw cI o F ++ wk) := hD
  refine lv_istore (lv' := [(10, .int wt), (9, .int (nI s0)), (8, .int (nI (8 * j))), (0, .ref b), (1, .int (nI j)), (2, .int (nI xx)), (3, .int (nI yy)), (4, .ref (o 0)), (5, .ref (o 5)), (6, .ref (o 6)), (7, .ref (o 4))]) B.hx B.hb dL_goesOn_18 hl (by decide) rfl (fun ls hl => ?_)
  refine lv_iload B.hx B.hb dL_goesOn_20 (lv_at hl 1 rfl) ?_
  refine lv_iconst (v := (nI 1)) B.hx B.hb dL_goesOn_22 (by decide) ?_
  refine lv_icmp_ne (tgt := 175) B.hx B.hb dL_goesOn_23 (by decide) (fun _ => ?_) (fun c1 => False.elim (by replace c1 := (nI_eq (by omega) (by omega)).mp c1; omega))
  refine lv_iload B.hx B.hb dL_goesOn_175 (lv_at hl 1 rfl) ?_
  refine lv_iconst (v := (nI 2)) B.hx B.hb dL_goesOn_177 (by decide) ?_
  refine lv_icmp_ne (tgt := 313) B.hx B.hb dL_goesOn_178 (by decide) (fun _ => ?_) (fun c2 => False.elim (by replace c2 := (nI_eq (by omega) (by omega)).mp c2; omega))
  refine lv_iload B.hx B.hb dL_goesOn_313 (lv_at hl 1 rfl) ?_
  refine lv_iconst (v := (nI 3)) B.hx B.hb dL_goesOn_315 (by decide) ?_
  refine lv_icmp_ne (tgt := 487) B.hx B.hb dL_goesOn_316 (by decide) (fun _ => ?_) (fun c3 => False.elim (by replace c3 := (nI_eq (by omega) (by omega)).mp c3; omega))
  refine lv_iload B.hx B.hb dL_goesOn_487 (lv_at hl 1 rfl) ?_
  refine lv_iconst (v := (nI 4)) B.hx B.hb dL_goesOn_489 (by decide) ?_
  refine lv_icmp_ne (tgt := 574) B.hx B.hb dL_goesOn_490 (by decide) (fun _ => ?_) (fun c4 => False.elim (by replace c4 := (nI_eq (by omega) (by omega)).mp c4; omega))
  refine lv_aload_n B.hx B.hb dL_goesOn_574 rfl (lv_at hl 3 rfl) ?_
  refine lv_iconst (v := (nI 5)) B.hx B.hb dL_goesOn_575 (by decide) ?_
  refine lv_iload_n B.hx B.hb dL_goesOn_576 rfl (lv_at hl 4 rfl) ?_
  refine lv_iload_n B.hx B.hb dL_goesOn_577 rfl (lv_at hl 5 rfl) ?_
  refine lv_bipush (v := (nI 6)) B.hx B.hb dL_goesOn_578 (by decide) ?_
  refine lv_irem B.hx B.hb dL_goesOn_580 (by decide) ?_
  refine q_top (v2 := .int (nI (xx % 6))) (congrArg Value.int (pk_rem (by omega) (by omega) (by omega))) ?_
  refine lv_iconst (v := (nI 0)) B.hx B.hb dL_goesOn_581 (by decide) ?_
  refine q_callSX (As := [.ref b, .int (nI 5), .int (nI j), .int (nI (xx % 6)), .int (nI 0)]) (rest := []) B hP hD hS (ca.fl (lw cI o F)) (vx_cwSW 5 B.hts gL_goesOn_L_asks rfl rfl rfl (by decide +kernel) ⟨(Nat.le_of_ble_eq_true rfl), (Nat.le_of_ble_eq_true rfl)⟩) rfl hl.1 rfl (Nat.le_of_ble_eq_true rfl) dL_goesOn_582 ⟨(Nat.le_of_ble_eq_true rfl), (Nat.le_of_ble_eq_true rfl)⟩ (fun E ce q9 H locs hx => False.elim hx) (fun v u H locs hp hP hD hS => ?_)
  obtain rfl := hp
  have hP : va_P D vwCl (lw cI o F ++ wk) H := hP
  have hD : va_D A (lw cI o F ++ wk) := hD
  refine lv_bipush (v := (-8)) B.hx B.hb dL_goesOn_585 (by decide) ?_
  refine lv_icmp_ne (tgt := 676) B.hx B.hb dL_goesOn_587 (by decide) (fun c5 => False.elim (by exact absurd c5 (by decide))) (fun _ => ?_)
  refine lv_aload_n B.hx B.hb dL_goesOn_590 rfl (lv_at hl 3 rfl) ?_
  refine lv_bipush (v := (nI 7)) B.hx B.hb dL_goesOn_591 (by decide) ?_
  refine lv_iload_n B.hx B.hb dL_goesOn_593 rfl (lv_at hl 4 rfl) ?_
  refine lv_iload_n B.hx B.hb dL_goesOn_594 rfl (lv_at hl 5 rfl) ?_
  refine lv_bipush (v := (nI 6)) B.hx B.hb dL_goesOn_595 (by decide) ?_
  refine lv_irem B.hx B.hb dL_goesOn_597 (by decide) ?_
  refine q_top (v2 := .int (nI (xx % 6))) (congrArg Value.int (pk_rem (by omega) (by omega) (by omega))) ?_
  refine lv_aload B.hx B.hb dL_goesOn_598 (lv_at hl 10 rfl) ?_
  refine lv_iconst (v := (nI 0)) B.hx B.hb dL_goesOn_600 (by decide) ?_
  refine q_iald (f := (F 4)) B hP 4 rfl (j := 0) rfl (by decide) (by decide) dL_goesOn_601 ?_
  refine q_top (v2 := .int (nI 1000)) (congrArg Value.int f40) ?_
  refine lv_iconst (v := (nI 1)) B.hx B.hb dL_goesOn_602 (by decide) ?_
  refine lv_iadd B.hx B.hb dL_goesOn_603 ?_
  refine q_top (v2 := .int (nI 1001)) (congrArg Value.int (nI_add _ _)) ?_
  refine lv_sipush (v := (nI 1000)) B.hx B.hb dL_goesOn_604 (by decide) ?_
  refine lv_icmp_le (tgt := 616) B.hx B.hb dL_goesOn_607 (by decide) (fun c6 => False.elim (by exact absurd c6 (by decide))) (fun _ => ?_)
  refine lv_sipush (v := (nI 1000)) B.hx B.hb dL_goesOn_610 (by decide) ?_
  refine lv_goto (tgt := 622) B.hx B.hb dL_goesOn_613 (by decide) ?_
  refine q_callSX (As := [.ref b, .int (nI 7), .int (nI j), .int (nI (xx % 6)), .int (nI 1000)]) (rest := []) B hP hD hS (ca2.fl (lw cI o F)) (vx_cwSW 5 B.hts gL_goesOn_L_asks rfl rfl rfl (by decide +kernel) ⟨(Nat.le_of_ble_eq_true rfl), (Nat.le_of_ble_eq_true rfl)⟩) rfl hl.1 rfl (Nat.le_of_ble_eq_true rfl) dL_goesOn_622 ⟨(Nat.le_of_ble_eq_true rfl), (Nat.le_of_ble_eq_true rfl)⟩ (fun E ce q9 H locs hx => False.elim hx) (fun v u H locs hp hP hD hS => ?_)
  obtain rfl := hp
  have hP : va_P D vwCl (lw cI o F ++ wk) H := hP
  have hD : va_D A (lw cI o F ++ wk) := hD
  refine lv_aload B.hx B.hb dL_goesOn_625 (lv_at hl 10 rfl) ?_
  refine lv_iconst (v := (nI 0)) B.hx B.hb dL_goesOn_627 (by decide) ?_
  refine q_iald (f := (F 4)) B hP 4 rfl (j := 0) rfl (by decide) (by decide) dL_goesOn_628 ?_
  refine q_top (v2 := .int (nI 1000)) (congrArg Value.int f40) ?_
  refine lv_sipush (v := (nI 1000)) B.hx B.hb dL_goesOn_629 (by decide) ?_
  refine lv_icmp_ne (tgt := 640) B.hx B.hb dL_goesOn_632 (by decide) (fun c7 => False.elim (by exact absurd c7 (by decide))) (fun _ => ?_)
  refine lv_bipush (v := (-9)) B.hx B.hb dL_goesOn_635 (by decide) ?_
  refine lv_goto (tgt := 642) B.hx B.hb dL_goesOn_637 (by decide) ?_
  refine lv_icmp_ne (tgt := 676) B.hx B.hb dL_goesOn_642 (by decide) (fun c8 => False.elim (by exact absurd c8 (by decide))) (fun _ => ?_)
  refine lv_aload_n B.hx B.hb dL_goesOn_645 rfl (lv_at hl 3 rfl) ?_
  refine lv_bipush (v := (nI 8)) B.hx B.hb dL_goesOn_646 (by decide) ?_
  refine lv_iload_n B.hx B.hb dL_goesOn_648 rfl (lv_at hl 4 rfl) ?_
  refine lv_iload_n B.hx B.hb dL_goesOn_649 rfl (lv_at hl 5 rfl) ?_
  refine lv_bipush (v := (nI 6)) B.hx B.hb dL_goesOn_650 (by decide) ?_
  refine lv_irem B.hx B.hb dL_goesOn_652 (by decide) ?_
  refine q_top (v2 := .int (nI (xx % 6))) (congrArg Value.int (pk_rem (by omega) (by omega) (by omega))) ?_
  refine lv_iconst (v := (nI 0)) B.hx B.hb dL_goesOn_653 (by decide) ?_
  refine q_callSX (As := [.ref b, .int (nI 8), .int (nI j), .int (nI (xx % 6)), .int (nI 0)]) (rest := []) B hP hD hS (ca3.fl (lw cI o F)) (vx_cwSW 5 B.hts gL_goesOn_L_asks rfl rfl rfl (by decide +kernel) ⟨(Nat.le_of_ble_eq_true rfl), (Nat.le_of_ble_eq_true rfl)⟩) rfl hl.1 rfl (Nat.le_of_ble_eq_true rfl) dL_goesOn_654 ⟨(Nat.le_of_ble_eq_true rfl), (Nat.le_of_ble_eq_true rfl)⟩ (fun E ce q9 H locs hx => False.elim hx) (fun v u H locs hp hP hD hS => ?_)
  obtain rfl := hp
  have hP : va_P D vwCl (lw cI o F ++ wk) H := hP
  have hD : va_D A (lw cI o F ++ wk) := hD
  refine lv_bipush (v := (-8)) B.hx B.hb dL_goesOn_657 (by decide) ?_
  refine lv_icmp_ne (tgt := 676) B.hx B.hb dL_goesOn_659 (by decide) (fun c9 => False.elim (by exact absurd c9 (by decide))) (fun _ => ?_)
  refine lv_aload_n B.hx B.hb dL_goesOn_662 rfl (lv_at hl 3 rfl) ?_
  refine lv_iload_n B.hx B.hb dL_goesOn_663 rfl (lv_at hl 4 rfl) ?_
  refine q_callV (As := [.int (nI j)]) (rest := []) B hP hD hS (cs.fl (lw cI o F)) (cwV 1 B.hts gL_goesOn_X3_step rfl rfl rfl (by decide +kernel) ⟨(Nat.le_of_ble_eq_true rfl), (Nat.le_of_ble_eq_true rfl)⟩) (q0 + 8) 3 hq rfl rfl rfl hl.1 rfl (Nat.le_of_ble_eq_true rfl) dL_goesOn_664 ⟨(Nat.le_of_ble_eq_true rfl), (Nat.le_of_ble_eq_true rfl)⟩ (fun E ce q9 H locs hx => False.elim hx) (fun v u H locs hp hP hD hS => ?_)
  obtain rfl := hp
  have hP : va_P D vwCl (lw cI o F ++ wk) H := hP
  have hD : va_D A (lw cI o F ++ wk) := hD
  refine lv_iload B.hx B.hb dL_goesOn_667 (lv_at hl 1 rfl) ?_
  refine lv_icmp_ne (tgt := 676) B.hx B.hb dL_goesOn_669 (by decide) (fun c10 => False.elim (by replace c10 := mt (nI_eq (by omega) (by omega)).mpr c10; omega)) (fun _ => ?_)
  refine lv_iconst (v := (nI 1)) B.hx B.hb dL_goesOn_672 (by decide) ?_
  refine lv_goto (tgt := 677) B.hx B.hb dL_goesOn_673 (by decide) ?_
  exact q_zret B hr hP hD hS (by decide) (u := ()) rfl rfl (Nat.le_of_ble_eq_true rfl) (Nat.le_of_ble_eq_true rfl) dL_goesOn_677
