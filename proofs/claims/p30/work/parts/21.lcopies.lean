/-! copies, case by case: over the answers of the class. -/
set_option maxHeartbeats 4000000 in
set_option maxRecDepth 100000 in
theorem lc0f (l : Launch) (D : va_G) (cI cZ cP : ClassId) (o : Nat → Nat) (F : Nat → Nat → Int32) (wk wk2 : va_W) {q0 b : Nat} {fs : List Value} (hq : wk[q0]? = some (b, .inr (3, fs))) {q2 : Nat} {fs2 : List Value} (hq2 : wk2[q2]? = some (b, .inr (3, fs2))) (j xx : Nat) (hj : j < 8) (hx : xx < 2 ^ 30) (vn0 : Nat) (hv : vn0 ≤ 128) (f5 : F 0 (8 * j + 5) = nI vn0) (f43 : F 4 3 = nI 20) : q_C l yL_copies wsL_copies ({ frames := 9, cells := 3, slots := 18, locals := 152 }) D cI cZ cP [.ref b, .int (nI 0), .int (nI j), .int (nI xx), .ref (o 0), .ref (o 4), .ref (o 3)] (lw cI o F ++ wk) (S := Unit) (fun v _ => v = some (.int (nI 1))) (fun _ => (lw cI o F ++ wk)) (fun _ => False) 3 18 := by
  refine q_of (cc := cL_copies) (maxL := 10) (ret := (some .boolean)) (by decide +kernel) rfl (Nat.le_of_ble_eq_true rfl) ?_
  intro p e s m below meth c A ls B hr htb hmn hP hD hS hl
  have hl : lv_has ls 10 [(0, .ref b), (1, .int (nI 0)), (2, .int (nI j)), (3, .int (nI xx)), (4, .ref (o 0)), (5, .ref (o 4)), (6, .ref (o 3))] := hl
  refine lv_iload_n B.hx B.hb dL_copies_0 rfl (lv_at hl 1 rfl) ?_
  refine lv_if_ne (tgt := 146) B.hx B.hb dL_copies_1 (by decide) (fun c1 => False.elim (by exact absurd c1 (by decide))) (fun _ => ?_)
  refine q_join (D := D) (A := A) (J := 30) (stk := [.int (nI 0)]) (w := (lw cI o F ++ wk)) (fun H locs hP hD hS => ?_) (fun kJ2 => ?_)
  · refine lv_istore (lv' := [(7, .int (nI 0)), (0, .ref b), (1, .int (nI 0)), (2, .int (nI j)), (3, .int (nI xx)), (4, .ref (o 0)), (5, .ref (o 4)), (6, .ref (o 3))]) B.hx B.hb dL_copies_30 hl (by decide) rfl (fun ls hl => ?_)
    refine lv_aload B.hx B.hb dL_copies_32 (lv_at hl 6 rfl) ?_
    refine lv_iconst (v := (nI 3)) B.hx B.hb dL_copies_34 (by decide) ?_
    refine q_iald (f := (F 4)) B hP 4 rfl (j := 3) rfl (by decide) (by decide) dL_copies_35 ?_
    refine q_top (v2 := .int (nI 20)) (congrArg Value.int f43) ?_
    refine lv_bipush (v := (nI 20)) B.hx B.hb dL_copies_36 (by decide) ?_
    refine lv_icmp_ne (tgt := 43) B.hx B.hb dL_copies_38 (by decide) (fun c3 => False.elim (by exact absurd c3 (by decide))) (fun _ => ?_)
    refine lv_iconst (v := (nI 1)) B.hx B.hb dL_copies_41 (by decide) ?_
    exact q_zret B hr hP hD hS (by decide) (u := ()) rfl rfl (Nat.le_of_ble_eq_true rfl) (Nat.le_of_ble_eq_true rfl) dL_copies_42
  · refine lv_aload B.hx B.hb dL_copies_4 (lv_at hl 4 rfl) ?_
    refine lv_bipush (v := (nI 8)) B.hx B.hb dL_copies_6 (by decide) ?_
    refine lv_iload_n B.hx B.hb dL_copies_8 rfl (lv_at hl 2 rfl) ?_
    refine lv_imul B.hx B.hb dL_copies_9 ?_
    refine q_top (v2 := .int (nI (8 * j))) (congrArg Value.int (pk_mul _ _)) ?_
    refine lv_iconst (v := (nI 5)) B.hx B.hb dL_copies_10 (by decide) ?_
    refine lv_iadd B.hx B.hb dL_copies_11 ?_
    refine q_top (v2 := .int (nI (8 * j + 5))) (congrArg Value.int (nI_add _ _)) ?_
    refine q_iald (f := (F 0)) B hP 0 rfl (j := 8 * j + 5) rfl (by omega) (by decide) dL_copies_12 ?_
    refine q_top (v2 := .int (nI vn0)) (congrArg Value.int f5) ?_
    refine lv_if_le (tgt := 29) B.hx B.hb dL_copies_13 (by decide) (fun c4 => ?_) (fun c4 => ?_)
    · replace c4 := (nI_le0 (by omega)).mp c4
      refine lv_iconst (v := (nI 0)) B.hx B.hb dL_copies_29 (by decide) ?_
      exact kJ2 _ _ hP hD hS
    · replace c4 := mt (nI_le0 (by omega)).mpr c4
      refine lv_aload B.hx B.hb dL_copies_16 (lv_at hl 5 rfl) ?_
      refine lv_iconst (v := (nI 3)) B.hx B.hb dL_copies_18 (by decide) ?_
      refine q_iald (f := (F 4)) B hP 4 rfl (j := 3) rfl (by decide) (by decide) dL_copies_19 ?_
      refine q_top (v2 := .int (nI 20)) (congrArg Value.int f43) ?_
      refine lv_bipush (v := (nI 20)) B.hx B.hb dL_copies_20 (by decide) ?_
      refine lv_icmp_ge (tgt := 29) B.hx B.hb dL_copies_22 (by decide) (fun _ => ?_) (fun c5 => False.elim (by exact absurd c5 (by decide)))
      refine lv_iconst (v := (nI 0)) B.hx B.hb dL_copies_29 (by decide) ?_
      exact kJ2 _ _ hP hD hS

set_option maxHeartbeats 4000000 in
set_option maxRecDepth 100000 in
theorem lc0n (l : Launch) (D : va_G) (cI cZ cP : ClassId) (o : Nat → Nat) (F : Nat → Nat → Int32) (wk wk2 : va_W) {q0 b : Nat} {fs : List Value} (hq : wk[q0]? = some (b, .inr (3, fs))) {q2 : Nat} {fs2 : List Value} (hq2 : wk2[q2]? = some (b, .inr (3, fs2))) (j xx : Nat) (hj : j < 8) (hx : xx < 2 ^ 30) (qn : Nat) (hqn : qn < 20) (f43 : F 4 3 = nI qn) (f5 : F 0 (8 * j + 5) = nI 0) (ca : q_C l yL_asks wsL_asks ({ frames := 8, cells := 3, slots := 18, locals := 127 }) D cI cZ cP [.ref b, .int (nI 10), .int (nI j), .int (nI (xx % 10)), .int (nI 0)] wk (S := Unit) (fun v _ => v = some (.int (-8))) (fun _ => wk) (fun _ => False) 3 18) : q_C l yL_copies wsL_copies ({ frames := 9, cells := 3, slots := 18, locals := 152 }) D cI cZ cP [.ref b, .int (nI 0), .int (nI j), .int (nI xx), .ref (o 0), .ref (o 4), .ref (o 3)] (lw cI o F ++ wk) (S := Unit) (fun v _ => v = some (.int (nI 1))) (fun _ => (lw cI o F ++ wk)) (fun _ => False) 3 18 := by
  refine q_of (cc := cL_copies) (maxL := 10) (ret := (some .boolean)) (by decide +kernel) rfl (Nat.le_of_ble_eq_true rfl) ?_
  intro p e s m below meth c A ls B hr htb hmn hP hD hS hl
  have hl : lv_has ls 10 [(0, .ref b), (1, .int (nI 0)), (2, .int (nI j)), (3, .int (nI xx)), (4, .ref (o 0)), (5, .ref (o 4)), (6, .ref (o 3))] := hl
  refine lv_iload_n B.hx B.hb dL_copies_0 rfl (lv_at hl 1 rfl) ?_
  refine lv_if_ne (tgt := 146) B.hx B.hb dL_copies_1 (by decide) (fun c1 => False.elim (by exact absurd c1 (by decide))) (fun _ => ?_)
  refine lv_aload B.hx B.hb dL_copies_4 (lv_at hl 4 rfl) ?_
  refine lv_bipush (v := (nI 8)) B.hx B.hb dL_copies_6 (by decide) ?_
  refine lv_iload_n B.hx B.hb dL_copies_8 rfl (lv_at hl 2 rfl) ?_
  refine lv_imul B.hx B.hb dL_copies_9 ?_
  refine q_top (v2 := .int (nI (8 * j))) (congrArg Value.int (pk_mul _ _)) ?_
  refine lv_iconst (v := (nI 5)) B.hx B.hb dL_copies_10 (by decide) ?_
  refine lv_iadd B.hx B.hb dL_copies_11 ?_
  refine q_top (v2 := .int (nI (8 * j + 5))) (congrArg Value.int (nI_add _ _)) ?_
  refine q_iald (f := (F 0)) B hP 0 rfl (j := 8 * j + 5) rfl (by omega) (by decide) dL_copies_12 ?_
  refine q_top (v2 := .int (nI 0)) (congrArg Value.int f5) ?_
  refine lv_if_le (tgt := 29) B.hx B.hb dL_copies_13 (by decide) (fun _ => ?_) (fun c2 => False.elim (by exact absurd c2 (by decide)))
  refine lv_iconst (v := (nI 0)) B.hx B.hb dL_copies_29 (by decide) ?_
  refine lv_istore (lv' := [(7, .int (nI 0)), (0, .ref b), (1, .int (nI 0)), (2, .int (nI j)), (3, .int (nI xx)), (4, .ref (o 0)), (5, .ref (o 4)), (6, .ref (o 3))]) B.hx B.hb dL_copies_30 hl (by decide) rfl (fun ls hl => ?_)
  refine lv_aload B.hx B.hb dL_copies_32 (lv_at hl 6 rfl) ?_
  refine lv_iconst (v := (nI 3)) B.hx B.hb dL_copies_34 (by decide) ?_
  refine q_iald (f := (F 4)) B hP 4 rfl (j := 3) rfl (by decide) (by decide) dL_copies_35 ?_
  refine q_top (v2 := .int (nI qn)) (congrArg Value.int f43) ?_
  refine lv_bipush (v := (nI 20)) B.hx B.hb dL_copies_36 (by decide) ?_
  refine lv_icmp_ne (tgt := 43) B.hx B.hb dL_copies_38 (by decide) (fun _ => ?_) (fun c3 => False.elim (by replace c3 := (nI_eq (by omega) (by omega)).mp c3; omega))
  refine lv_aload_n B.hx B.hb dL_copies_43 rfl (lv_at hl 1 rfl) ?_
  refine lv_bipush (v := (nI 10)) B.hx B.hb dL_copies_44 (by decide) ?_
  refine lv_iload_n B.hx B.hb dL_copies_46 rfl (lv_at hl 3 rfl) ?_
  refine lv_iload_n B.hx B.hb dL_copies_47 rfl (lv_at hl 4 rfl) ?_
  refine lv_bipush (v := (nI 10)) B.hx B.hb dL_copies_48 (by decide) ?_
  refine lv_irem B.hx B.hb dL_copies_50 (by decide) ?_
  refine q_top (v2 := .int (nI (xx % 10))) (congrArg Value.int (pk_rem (by omega) (by omega) (by omega))) ?_
  refine lv_iconst (v := (nI 0)) B.hx B.hb dL_copies_51 (by decide) ?_
  refine q_callSX (As := [.ref b, .int (nI 10), .int (nI j), .int (nI (xx % 10)), .int (nI 0)]) (rest := []) B hP hD hS (ca.fl (lw cI o F)) (vx_cwSW 5 B.hts gL_copies_L_asks rfl rfl rfl (by decide +kernel) ⟨(Nat.le_of_ble_eq_true rfl), (Nat.le_of_ble_eq_true rfl)⟩) rfl hl.1 rfl (Nat.le_of_ble_eq_true rfl) dL_copies_52 ⟨(Nat.le_of_ble_eq_true rfl), (Nat.le_of_ble_eq_true rfl)⟩ (fun E ce q9 H locs hx => False.elim hx) (fun v u H locs hp hP hD hS => ?_)
  obtain rfl := hp
  have hP : va_P D vwCl (lw cI o F ++ wk) H := hP
  have hD : va_D A (lw cI o F ++ wk) := hD
  refine lv_istore (lv' := [(8, .int (-8)), (7, .int (nI 0)), (0, .ref b), (1, .int (nI 0)), (2, .int (nI j)), (3, .int (nI xx)), (4, .ref (o 0)), (5, .ref (o 4)), (6, .ref (o 3))]) B.hx B.hb dL_copies_55 hl (by decide) rfl (fun ls hl => ?_)
  refine lv_iload B.hx B.hb dL_copies_57 (lv_at hl 1 rfl) ?_
  refine lv_if_eq (tgt := 119) B.hx B.hb dL_copies_59 (by decide) (fun _ => ?_) (fun c4 => False.elim (by exact absurd c4 (by decide)))
  refine lv_iload B.hx B.hb dL_copies_119 (lv_at hl 0 rfl) ?_
  refine lv_iload B.hx B.hb dL_copies_121 (lv_at hl 1 rfl) ?_
  refine lv_if_eq (tgt := 135) B.hx B.hb dL_copies_123 (by decide) (fun _ => ?_) (fun c5 => False.elim (by exact absurd c5 (by decide)))
  refine lv_bipush (v := (-8)) B.hx B.hb dL_copies_135 (by decide) ?_
  refine lv_icmp_ne (tgt := 144) B.hx B.hb dL_copies_137 (by decide) (fun c6 => False.elim (by exact absurd c6 (by decide))) (fun _ => ?_)
  refine lv_iconst (v := (nI 1)) B.hx B.hb dL_copies_140 (by decide) ?_
  refine lv_goto (tgt := 145) B.hx B.hb dL_copies_141 (by decide) ?_
  exact q_zret B hr hP hD hS (by decide) (u := ()) rfl rfl (Nat.le_of_ble_eq_true rfl) (Nat.le_of_ble_eq_true rfl) dL_copies_145

set_option maxHeartbeats 4000000 in
set_option maxRecDepth 100000 in
theorem lc0y (l : Launch) (D : va_G) (cI cZ cP : ClassId) (o : Nat → Nat) (F : Nat → Nat → Int32) (wk wk2 : va_W) {q0 b : Nat} {fs : List Value} (hq : wk[q0]? = some (b, .inr (3, fs))) {q2 : Nat} {fs2 : List Value} (hq2 : wk2[q2]? = some (b, .inr (3, fs2))) (j xx : Nat) (hj : j < 8) (hx : xx < 2 ^ 30) (qn w0 : Nat) (hqn : qn < 20) (hw0 : w0 < 128) (f43 : F 4 3 = nI qn) (f5 : F 0 (8 * j + 5) = nI (w0 + 1)) (ca : q_C l yL_asks wsL_asks ({ frames := 8, cells := 3, slots := 18, locals := 127 }) D cI cZ cP [.ref b, .int (nI 10), .int (nI j), .int (nI (xx % 10)), .int (nI 0)] wk (S := Unit) (fun v _ => v = some (.int (nI qn))) (fun _ => wk2) (fun _ => False) 3 18) : q_C l yL_copies wsL_copies ({ frames := 9, cells := 3, slots := 18, locals := 152 }) D cI cZ cP [.ref b, .int (nI 0), .int (nI j), .int (nI xx), .ref (o 0), .ref (o 4), .ref (o 3)] (lw cI o F ++ wk) (S := Unit) (fun v _ => v = some (.int (nI 1))) (fun _ => (lw cI o (va_up (va_up F 3 (upd (upd (upd (F 3) (3 * qn) (nI j)) (3 * qn + 1) (nI w0)) (3 * qn + 2) (nI ((xx % 10) + 1)))) 4 (upd (F 4) 3 (nI (qn + 1)))) ++ wk2)) (fun _ => False) 3 18 := by
  refine q_of (cc := cL_copies) (maxL := 10) (ret := (some .boolean)) (by decide +kernel) rfl (Nat.le_of_ble_eq_true rfl) ?_
  intro p e s m below meth c A ls B hr htb hmn hP hD hS hl
  have hl : lv_has ls 10 [(0, .ref b), (1, .int (nI 0)), (2, .int (nI j)), (3, .int (nI xx)), (4, .ref (o 0)), (5, .ref (o 4)), (6, .ref (o 3))] := hl
  refine lv_iload_n B.hx B.hb dL_copies_0 rfl (lv_at hl 1 rfl) ?_
  refine lv_if_ne (tgt := 146) B.hx B.hb dL_copies_1 (by decide) (fun c1 => False.elim (by exact absurd c1 (by decide))) (fun _ => ?_)
  refine lv_aload B.hx B.hb dL_copies_4 (lv_at hl 4 rfl) ?_
  refine lv_bipush (v := (nI 8)) B.hx B.hb dL_copies_6 (by decide) ?_
  refine lv_iload_n B.hx B.hb dL_copies_8 rfl (lv_at hl 2 rfl) ?_
  refine lv_imul B.hx B.hb dL_copies_9 ?_
  refine q_top (v2 := .int (nI (8 * j))) (congrArg Value.int (pk_mul _ _)) ?_
  refine lv_iconst (v := (nI 5)) B.hx B.hb dL_copies_10 (by decide) ?_
  refine lv_iadd B.hx B.hb dL_copies_11 ?_
  refine q_top (v2 := .int (nI (8 * j + 5))) (congrArg Value.int (nI_add _ _)) ?_
  refine q_iald (f := (F 0)) B hP 0 rfl (j := 8 * j + 5) rfl (by omega) (by decide) dL_copies_12 ?_
  refine q_top (v2 := .int (nI (w0 + 1))) (congrArg Value.int f5) ?_
  refine lv_if_le (tgt := 29) B.hx B.hb dL_copies_13 (by decide) (fun c2 => False.elim (by replace c2 := (nI_le0 (by omega)).mp c2; omega)) (fun _ => ?_)
  refine lv_aload B.hx B.hb dL_copies_16 (lv_at hl 5 rfl) ?_
  refine lv_iconst (v := (nI 3)) B.hx B.hb dL_copies_18 (by decide) ?_
  refine q_iald (f := (F 4)) B hP 4 rfl (j := 3) rfl (by decide) (by decide) dL_copies_19 ?_
  refine q_top (v2 := .int (nI qn)) (congrArg Value.int f43) ?_
  refine lv_bipush (v := (nI 20)) B.hx B.hb dL_copies_20 (by decide) ?_
  refine lv_icmp_ge (tgt := 29) B.hx B.hb dL_copies_22 (by decide) (fun c3 => False.elim (by replace c3 := (nI_leI (by omega) (by omega)).mp c3; omega)) (fun _ => ?_)
  refine lv_iconst (v := (nI 1)) B.hx B.hb dL_copies_25 (by decide) ?_
  refine lv_goto (tgt := 30) B.hx B.hb dL_copies_26 (by decide) ?_
  refine lv_istore (lv' := [(7, .int (nI 1)), (0, .ref b), (1, .int (nI 0)), (2, .int (nI j)), (3, .int (nI xx)), (4, .ref (o 0)), (5, .ref (o 4)), (6, .ref (o 3))]) B.hx B.hb dL_copies_30 hl (by decide) rfl (fun ls hl => ?_)
  refine lv_aload B.hx B.hb dL_copies_32 (lv_at hl 6 rfl) ?_
  refine lv_iconst (v := (nI 3)) B.hx B.hb dL_copies_34 (by decide) ?_
  refine q_iald (f := (F 4)) B hP 4 rfl (j := 3) rfl (by decide) (by decide) dL_copies_35 ?_
  refine q_top (v2 := .int (nI qn)) (congrArg Value.int f43) ?_
  refine lv_bipush (v := (nI 20)) B.hx B.hb dL_copies_36 (by decide) ?_
  refine lv_icmp_ne (tgt := 43) B.hx B.hb dL_copies_38 (by decide) (fun _ => ?_) (fun c4 => False.elim (by replace c4 := (nI_eq (by omega) (by omega)).mp c4; omega))
  refine lv_aload_n B.hx B.hb dL_copies_43 rfl (lv_at hl 1 rfl) ?_
  refine lv_bipush (v := (nI 10)) B.hx B.hb dL_copies_44 (by decide) ?_
  refine lv_iload_n B.hx B.hb dL_copies_46 rfl (lv_at hl 3 rfl) ?_
  refine lv_iload_n B.hx B.hb dL_copies_47 rfl (lv_at hl 4 rfl) ?_
  refine lv_bipush (v := (nI 10)) B.hx B.hb dL_copies_48 (by decide) ?_
  refine lv_irem B.hx B.hb dL_copies_50 (by decide) ?_
  refine q_top (v2 := .int (nI (xx % 10))) (congrArg Value.int (pk_rem (by omega) (by omega) (by omega))) ?_
  refine lv_iconst (v := (nI 0)) B.hx B.hb dL_copies_51 (by decide) ?_
  refine q_callSX (As := [.ref b, .int (nI 10), .int (nI j), .int (nI (xx % 10)), .int (nI 0)]) (rest := []) B hP hD hS (ca.fl (lw cI o F)) (vx_cwSW 5 B.hts gL_copies_L_asks rfl rfl rfl (by decide +kernel) ⟨(Nat.le_of_ble_eq_true rfl), (Nat.le_of_ble_eq_true rfl)⟩) rfl hl.1 rfl (Nat.le_of_ble_eq_true rfl) dL_copies_52 ⟨(Nat.le_of_ble_eq_true rfl), (Nat.le_of_ble_eq_true rfl)⟩ (fun E ce q9 H locs hx => False.elim hx) (fun v u H locs hp hP hD hS => ?_)
  obtain rfl := hp
  have hP : va_P D vwCl (lw cI o F ++ wk2) H := hP
  have hD : va_D A (lw cI o F ++ wk2) := hD
  refine lv_istore (lv' := [(8, .int (nI qn)), (7, .int (nI 1)), (0, .ref b), (1, .int (nI 0)), (2, .int (nI j)), (3, .int (nI xx)), (4, .ref (o 0)), (5, .ref (o 4)), (6, .ref (o 3))]) B.hx B.hb dL_copies_55 hl (by decide) rfl (fun ls hl => ?_)
  refine lv_iload B.hx B.hb dL_copies_57 (lv_at hl 1 rfl) ?_
  refine lv_if_eq (tgt := 119) B.hx B.hb dL_copies_59 (by decide) (fun c5 => False.elim (by exact absurd c5 (by decide))) (fun _ => ?_)
  refine lv_aload B.hx B.hb dL_copies_62 (lv_at hl 8 rfl) ?_
  refine lv_iconst (v := (nI 3)) B.hx B.hb dL_copies_64 (by decide) ?_
  refine lv_aload B.hx B.hb dL_copies_65 (lv_at hl 7 rfl) ?_
  refine lv_iconst (v := (nI 3)) B.hx B.hb dL_copies_67 (by decide) ?_
  refine q_iald (f := (F 4)) B hP 4 rfl (j := 3) rfl (by decide) (by decide) dL_copies_68 ?_
  refine q_top (v2 := .int (nI qn)) (congrArg Value.int f43) ?_
  refine lv_imul B.hx B.hb dL_copies_69 ?_
  refine q_top (v2 := .int (nI (3 * qn))) (congrArg Value.int (pk_mul _ _)) ?_
  refine lv_iload_n B.hx B.hb dL_copies_70 rfl (lv_at hl 4 rfl) ?_
  refine q_iast (f := (F 3)) B hP hD hS 3 rfl (j := 3 * qn) rfl (by omega) (by decide) dL_copies_71 (w' := (lw cI o (va_up F 3 (upd (F 3) (3 * qn) (nI j))) ++ wk2)) rfl (fun H locs hP hD hS => ?_)
  refine lv_aload B.hx B.hb dL_copies_72 (lv_at hl 8 rfl) ?_
  refine lv_iconst (v := (nI 3)) B.hx B.hb dL_copies_74 (by decide) ?_
  refine lv_aload B.hx B.hb dL_copies_75 (lv_at hl 7 rfl) ?_
  refine lv_iconst (v := (nI 3)) B.hx B.hb dL_copies_77 (by decide) ?_
  refine q_iald (f := (F 4)) B hP 4 rfl (j := 3) rfl (by decide) (by decide) dL_copies_78 ?_
  refine q_top (v2 := .int (nI qn)) (congrArg Value.int f43) ?_
  refine lv_imul B.hx B.hb dL_copies_79 ?_
  refine q_top (v2 := .int (nI (3 * qn))) (congrArg Value.int (pk_mul _ _)) ?_
  refine lv_iconst (v := (nI 1)) B.hx B.hb dL_copies_80 (by decide) ?_
  refine lv_iadd B.hx B.hb dL_copies_81 ?_
  refine q_top (v2 := .int (nI (3 * qn + 1))) (congrArg Value.int (nI_add _ _)) ?_
  refine lv_aload B.hx B.hb dL_copies_82 (lv_at hl 6 rfl) ?_
  refine lv_bipush (v := (nI 8)) B.hx B.hb dL_copies_84 (by decide) ?_
  refine lv_iload_n B.hx B.hb dL_copies_86 rfl (lv_at hl 4 rfl) ?_
  refine lv_imul B.hx B.hb dL_copies_87 ?_
  refine q_top (v2 := .int (nI (8 * j))) (congrArg Value.int (pk_mul _ _)) ?_
  refine lv_iconst (v := (nI 5)) B.hx B.hb dL_copies_88 (by decide) ?_
  refine lv_iadd B.hx B.hb dL_copies_89 ?_
  refine q_top (v2 := .int (nI (8 * j + 5))) (congrArg Value.int (nI_add _ _)) ?_
  refine q_iald (f := (F 0)) B hP 0 rfl (j := 8 * j + 5) rfl (by omega) (by decide) dL_copies_90 ?_
  refine q_top (v2 := .int (nI (w0 + 1))) (congrArg Value.int f5) ?_
  refine lv_iconst (v := (nI 1)) B.hx B.hb dL_copies_91 (by decide) ?_
  refine lv_isub B.hx B.hb dL_copies_92 ?_
  refine q_top (v2 := .int (nI w0)) (congrArg Value.int (nI_pred1 _)) ?_
  refine q_iast (f := (upd (F 3) (3 * qn) (nI j))) B hP hD hS 3 rfl (j := 3 * qn + 1) rfl (by omega) (by decide) dL_copies_93 (w' := (lw cI o (va_up F 3 (upd (upd (F 3) (3 * qn) (nI j)) (3 * qn + 1) (nI w0))) ++ wk2)) rfl (fun H locs hP hD hS => ?_)
  refine lv_aload B.hx B.hb dL_copies_94 (lv_at hl 8 rfl) ?_
  refine lv_iconst (v := (nI 3)) B.hx B.hb dL_copies_96 (by decide) ?_
  refine lv_aload B.hx B.hb dL_copies_97 (lv_at hl 7 rfl) ?_
  refine lv_iconst (v := (nI 3)) B.hx B.hb dL_copies_99 (by decide) ?_
  refine q_iald (f := (F 4)) B hP 4 rfl (j := 3) rfl (by decide) (by decide) dL_copies_100 ?_
  refine q_top (v2 := .int (nI qn)) (congrArg Value.int f43) ?_
  refine lv_imul B.hx B.hb dL_copies_101 ?_
  refine q_top (v2 := .int (nI (3 * qn))) (congrArg Value.int (pk_mul _ _)) ?_
  refine lv_iconst (v := (nI 2)) B.hx B.hb dL_copies_102 (by decide) ?_
  refine lv_iadd B.hx B.hb dL_copies_103 ?_
  refine q_top (v2 := .int (nI (3 * qn + 2))) (congrArg Value.int (nI_add _ _)) ?_
  refine lv_iload_n B.hx B.hb dL_copies_104 rfl (lv_at hl 5 rfl) ?_
  refine lv_bipush (v := (nI 10)) B.hx B.hb dL_copies_105 (by decide) ?_
  refine lv_irem B.hx B.hb dL_copies_107 (by decide) ?_
  refine q_top (v2 := .int (nI (xx % 10))) (congrArg Value.int (pk_rem (by omega) (by omega) (by omega))) ?_
  refine lv_iconst (v := (nI 1)) B.hx B.hb dL_copies_108 (by decide) ?_
  refine lv_iadd B.hx B.hb dL_copies_109 ?_
  refine q_top (v2 := .int (nI ((xx % 10) + 1))) (congrArg Value.int (nI_add _ _)) ?_
  refine q_iast (f := (upd (upd (F 3) (3 * qn) (nI j)) (3 * qn + 1) (nI w0))) B hP hD hS 3 rfl (j := 3 * qn + 2) rfl (by omega) (by decide) dL_copies_110 (w' := (lw cI o (va_up F 3 (upd (upd (upd (F 3) (3 * qn) (nI j)) (3 * qn + 1) (nI w0)) (3 * qn + 2) (nI ((xx % 10) + 1)))) ++ wk2)) rfl (fun H locs hP hD hS => ?_)
  refine lv_aload B.hx B.hb dL_copies_111 (lv_at hl 7 rfl) ?_
  refine lv_iconst (v := (nI 3)) B.hx B.hb dL_copies_113 (by decide) ?_
  refine lv_dup2_11 B.hx B.hb dL_copies_114 rfl rfl ?_
  refine q_iald (f := (F 4)) B hP 4 rfl (j := 3) rfl (by decide) (by decide) dL_copies_115 ?_
  refine q_top (v2 := .int (nI qn)) (congrArg Value.int f43) ?_
  refine lv_iconst (v := (nI 1)) B.hx B.hb dL_copies_116 (by decide) ?_
  refine lv_iadd B.hx B.hb dL_copies_117 ?_
  refine q_top (v2 := .int (nI (qn + 1))) (congrArg Value.int (nI_add _ _)) ?_
  refine q_iast (f := (F 4)) B hP hD hS 4 rfl (j := 3) rfl (by decide) (by decide) dL_copies_118 (w' := (lw cI o (va_up (va_up F 3 (upd (upd (upd (F 3) (3 * qn) (nI j)) (3 * qn + 1) (nI w0)) (3 * qn + 2) (nI ((xx % 10) + 1)))) 4 (upd (F 4) 3 (nI (qn + 1)))) ++ wk2)) rfl (fun H locs hP hD hS => ?_)
  refine lv_iload B.hx B.hb dL_copies_119 (lv_at hl 0 rfl) ?_
  refine lv_iload B.hx B.hb dL_copies_121 (lv_at hl 1 rfl) ?_
  refine lv_if_eq (tgt := 135) B.hx B.hb dL_copies_123 (by decide) (fun c6 => False.elim (by exact absurd c6 (by decide))) (fun _ => ?_)
  refine lv_aload B.hx B.hb dL_copies_126 (lv_at hl 7 rfl) ?_
  refine lv_iconst (v := (nI 3)) B.hx B.hb dL_copies_128 (by decide) ?_
  refine q_iald (f := (upd (F 4) 3 (nI (qn + 1)))) B hP 4 rfl (j := 3) rfl (by decide) (by decide) dL_copies_129 ?_
  refine q_top (v2 := .int (nI (qn + 1))) (congrArg Value.int pk_us) ?_
  refine lv_iconst (v := (nI 1)) B.hx B.hb dL_copies_130 (by decide) ?_
  refine lv_isub B.hx B.hb dL_copies_131 ?_
  refine q_top (v2 := .int (nI qn)) (congrArg Value.int (nI_pred1 _)) ?_
  refine lv_goto (tgt := 137) B.hx B.hb dL_copies_132 (by decide) ?_
  refine lv_icmp_ne (tgt := 144) B.hx B.hb dL_copies_137 (by decide) (fun c7 => False.elim (by replace c7 := mt (nI_eq (by omega) (by omega)).mpr c7; omega)) (fun _ => ?_)
  refine lv_iconst (v := (nI 1)) B.hx B.hb dL_copies_140 (by decide) ?_
  refine lv_goto (tgt := 145) B.hx B.hb dL_copies_141 (by decide) ?_
  exact q_zret B hr hP hD hS (by decide) (u := ()) rfl rfl (Nat.le_of_ble_eq_true rfl) (Nat.le_of_ble_eq_true rfl) dL_copies_145

set_option maxHeartbeats 4000000 in
set_option maxRecDepth 100000 in
theorem lc1a (l : Launch) (D : va_G) (cI cZ cP : ClassId) (o : Nat → Nat) (F : Nat → Nat → Int32) (wk wk2 : va_W) {q0 b : Nat} {fs : List Value} (hq : wk[q0]? = some (b, .inr (3, fs))) {q2 : Nat} {fs2 : List Value} (hq2 : wk2[q2]? = some (b, .inr (3, fs2))) (j xx : Nat) (hj : j < 8) (hx : xx < 2 ^ 30)  (cp : Nat) (ec : xx % 20 = cp) (hcp : cp < 20) (qn : Nat) (hqn : qn ≤ 20) (hc : cp < qn) (f43 : F 4 3 = nI qn) (f3 : F 3 (3 * (cp) + 2) = nI 0) (ca : q_C l yL_asks wsL_asks ({ frames := 7, cells := 1, slots := 6, locals := 104 }) D cI cZ cP [.ref b, .int (nI 11), .int (nI (cp)), .int (nI 0), .int (nI 0)] wk (S := Unit) (fun v _ => v = some (.int (-7))) (fun _ => wk) (fun _ => False) 1 6) : q_C l yL_copies wsL_copies ({ frames := 9, cells := 3, slots := 18, locals := 152 }) D cI cZ cP [.ref b, .int (nI 1), .int (nI j), .int (nI xx), .ref (o 0), .ref (o 4), .ref (o 3)] (lw cI o F ++ wk) (S := Unit) (fun v _ => v = some (.int (nI 1))) (fun _ => (lw cI o (va_up F 3 (upd (F 3) (3 * cp + 2) (nI 0))) ++ wk)) (fun _ => False) 3 18 := by
  refine q_of (cc := cL_copies) (maxL := 10) (ret := (some .boolean)) (by decide +kernel) rfl (Nat.le_of_ble_eq_true rfl) ?_
  intro p e s m below meth c A ls B hr htb hmn hP hD hS hl
  have hl : lv_has ls 10 [(0, .ref b), (1, .int (nI 1)), (2, .int (nI j)), (3, .int (nI xx)), (4, .ref (o 0)), (5, .ref (o 4)), (6, .ref (o 3))] := hl
  refine lv_iload_n B.hx B.hb dL_copies_0 rfl (lv_at hl 1 rfl) ?_
  refine lv_if_ne (tgt := 146) B.hx B.hb dL_copies_1 (by decide) (fun _ => ?_) (fun c1 => False.elim (by exact absurd c1 (by decide)))
  refine lv_iload_n B.hx B.hb dL_copies_146 rfl (lv_at hl 1 rfl) ?_
  refine lv_iconst (v := (nI 1)) B.hx B.hb dL_copies_147 (by decide) ?_
  refine lv_icmp_ne (tgt := 249) B.hx B.hb dL_copies_148 (by decide) (fun c2 => False.elim (by exact absurd c2 (by decide))) (fun _ => ?_)
  refine lv_iload_n B.hx B.hb dL_copies_151 rfl (lv_at hl 3 rfl) ?_
  refine lv_bipush (v := (nI 20)) B.hx B.hb dL_copies_152 (by decide) ?_
  refine lv_irem B.hx B.hb dL_copies_154 (by decide) ?_
  refine q_top (v2 := .int (nI (xx % 20))) (congrArg Value.int (pk_rem (by omega) (by omega) (by omega))) ?_
  refine q_top (v2 := .int (nI cp)) (congrArg Value.int (congrArg nI ec)) ?_
  refine lv_istore (lv' := [(7, .int (nI cp)), (0, .ref b), (1, .int (nI 1)), (2, .int (nI j)), (3, .int (nI xx)), (4, .ref (o 0)), (5, .ref (o 4)), (6, .ref (o 3))]) B.hx B.hb dL_copies_155 hl (by decide) rfl (fun ls hl => ?_)
  refine lv_aload_n B.hx B.hb dL_copies_157 rfl (lv_at hl 1 rfl) ?_
  refine lv_bipush (v := (nI 11)) B.hx B.hb dL_copies_158 (by decide) ?_
  refine lv_iload B.hx B.hb dL_copies_160 (lv_at hl 0 rfl) ?_
  refine lv_iconst (v := (nI 0)) B.hx B.hb dL_copies_162 (by decide) ?_
  refine lv_iconst (v := (nI 0)) B.hx B.hb dL_copies_163 (by decide) ?_
  refine q_callSX (As := [.ref b, .int (nI 11), .int (nI cp), .int (nI 0), .int (nI 0)]) (rest := []) B hP hD hS (ca.fl (lw cI o F)) (vx_cwSW 5 B.hts gL_copies_L_asks rfl rfl rfl (by decide +kernel) ⟨(Nat.le_of_ble_eq_true rfl), (Nat.le_of_ble_eq_true rfl)⟩) rfl hl.1 rfl (Nat.le_of_ble_eq_true rfl) dL_copies_164 ⟨(Nat.le_of_ble_eq_true rfl), (Nat.le_of_ble_eq_true rfl)⟩ (fun E ce q9 H locs hx => False.elim hx) (fun v u H locs hp hP hD hS => ?_)
  obtain rfl := hp
  have hP : va_P D vwCl (lw cI o F ++ wk) H := hP
  have hD : va_D A (lw cI o F ++ wk) := hD
  refine lv_istore (lv' := [(8, .int (-7)), (7, .int (nI cp)), (0, .ref b), (1, .int (nI 1)), (2, .int (nI j)), (3, .int (nI xx)), (4, .ref (o 0)), (5, .ref (o 4)), (6, .ref (o 3))]) B.hx B.hb dL_copies_167 hl (by decide) rfl (fun ls hl => ?_)
  refine lv_iload B.hx B.hb dL_copies_169 (lv_at hl 1 rfl) ?_
  refine lv_aload B.hx B.hb dL_copies_171 (lv_at hl 7 rfl) ?_
  refine lv_iconst (v := (nI 3)) B.hx B.hb dL_copies_173 (by decide) ?_
  refine q_iald (f := (F 4)) B hP 4 rfl (j := 3) rfl (by decide) (by decide) dL_copies_174 ?_
  refine q_top (v2 := .int (nI qn)) (congrArg Value.int f43) ?_
  refine lv_icmp_ge (tgt := 192) B.hx B.hb dL_copies_175 (by decide) (fun c3 => False.elim (by replace c3 := (nI_leI (by omega) (by omega)).mp c3; omega)) (fun _ => ?_)
  refine lv_aload B.hx B.hb dL_copies_178 (lv_at hl 8 rfl) ?_
  refine lv_iconst (v := (nI 3)) B.hx B.hb dL_copies_180 (by decide) ?_
  refine lv_iload B.hx B.hb dL_copies_181 (lv_at hl 1 rfl) ?_
  refine lv_imul B.hx B.hb dL_copies_183 ?_
  refine q_top (v2 := .int (nI (3 * cp))) (congrArg Value.int (pk_mul _ _)) ?_
  refine lv_iconst (v := (nI 2)) B.hx B.hb dL_copies_184 (by decide) ?_
  refine lv_iadd B.hx B.hb dL_copies_185 ?_
  refine q_top (v2 := .int (nI (3 * cp + 2))) (congrArg Value.int (nI_add _ _)) ?_
  refine q_iald (f := (F 3)) B hP 3 rfl (j := 3 * cp + 2) rfl (by omega) (by decide) dL_copies_186 ?_
  refine q_top (v2 := .int (nI 0)) (congrArg Value.int f3) ?_
  refine lv_iconst (v := (nI 1)) B.hx B.hb dL_copies_187 (by decide) ?_
  refine lv_isub B.hx B.hb dL_copies_188 ?_
  refine q_top (v2 := .int (-1)) (by decide) ?_
  refine lv_goto (tgt := 193) B.hx B.hb dL_copies_189 (by decide) ?_
  refine lv_istore (lv' := [(9, .int (-1)), (8, .int (-7)), (7, .int (nI cp)), (0, .ref b), (1, .int (nI 1)), (2, .int (nI j)), (3, .int (nI xx)), (4, .ref (o 0)), (5, .ref (o 4)), (6, .ref (o 3))]) B.hx B.hb dL_copies_193 hl (by decide) rfl (fun ls hl => ?_)
  refine lv_aload B.hx B.hb dL_copies_195 (lv_at hl 9 rfl) ?_
  refine lv_iconst (v := (nI 3)) B.hx B.hb dL_copies_197 (by decide) ?_
  refine lv_iload B.hx B.hb dL_copies_198 (lv_at hl 2 rfl) ?_
  refine lv_imul B.hx B.hb dL_copies_200 ?_
  refine q_top (v2 := .int (nI (3 * cp))) (congrArg Value.int (pk_mul _ _)) ?_
  refine lv_iconst (v := (nI 2)) B.hx B.hb dL_copies_201 (by decide) ?_
  refine lv_iadd B.hx B.hb dL_copies_202 ?_
  refine q_top (v2 := .int (nI (3 * cp + 2))) (congrArg Value.int (nI_add _ _)) ?_
  refine lv_iload B.hx B.hb dL_copies_203 (lv_at hl 2 rfl) ?_
  refine lv_aload B.hx B.hb dL_copies_205 (lv_at hl 8 rfl) ?_
  refine lv_iconst (v := (nI 3)) B.hx B.hb dL_copies_207 (by decide) ?_
  refine q_iald (f := (F 4)) B hP 4 rfl (j := 3) rfl (by decide) (by decide) dL_copies_208 ?_
  refine q_top (v2 := .int (nI qn)) (congrArg Value.int f43) ?_
  refine lv_icmp_ge (tgt := 216) B.hx B.hb dL_copies_209 (by decide) (fun c4 => False.elim (by replace c4 := (nI_leI (by omega) (by omega)).mp c4; omega)) (fun _ => ?_)
  refine lv_iconst (v := (nI 0)) B.hx B.hb dL_copies_212 (by decide) ?_
  refine lv_goto (tgt := 225) B.hx B.hb dL_copies_213 (by decide) ?_
  refine q_iast (f := (F 3)) B hP hD hS 3 rfl (j := 3 * cp + 2) rfl (by omega) (by decide) dL_copies_225 (w' := (lw cI o (va_up F 3 (upd (F 3) (3 * cp + 2) (nI 0))) ++ wk)) rfl (fun H locs hP hD hS => ?_)
  refine lv_iload B.hx B.hb dL_copies_226 (lv_at hl 1 rfl) ?_
  refine lv_iload B.hx B.hb dL_copies_228 (lv_at hl 0 rfl) ?_
  refine lv_if_ge (tgt := 238) B.hx B.hb dL_copies_230 (by decide) (fun c5 => False.elim (by exact absurd c5 (by decide))) (fun _ => ?_)
  refine lv_bipush (v := (-7)) B.hx B.hb dL_copies_233 (by decide) ?_
  refine lv_goto (tgt := 240) B.hx B.hb dL_copies_235 (by decide) ?_
  refine lv_icmp_ne (tgt := 247) B.hx B.hb dL_copies_240 (by decide) (fun c6 => False.elim (by exact absurd c6 (by decide))) (fun _ => ?_)
  refine lv_iconst (v := (nI 1)) B.hx B.hb dL_copies_243 (by decide) ?_
  refine lv_goto (tgt := 248) B.hx B.hb dL_copies_244 (by decide) ?_
  exact q_zret B hr hP hD hS (by decide) (u := ()) rfl rfl (Nat.le_of_ble_eq_true rfl) (Nat.le_of_ble_eq_true rfl) dL_copies_248

set_option maxHeartbeats 4000000 in
set_option maxRecDepth 100000 in
theorem lc1b (l : Launch) (D : va_G) (cI cZ cP : ClassId) (o : Nat → Nat) (F : Nat → Nat → Int32) (wk wk2 : va_W) {q0 b : Nat} {fs : List Value} (hq : wk[q0]? = some (b, .inr (3, fs))) {q2 : Nat} {fs2 : List Value} (hq2 : wk2[q2]? = some (b, .inr (3, fs2))) (j xx : Nat) (hj : j < 8) (hx : xx < 2 ^ 30)  (cp : Nat) (ec : xx % 20 = cp) (hcp : cp < 20) (qn wl : Nat) (hqn : qn ≤ 20) (hwl : wl < 10) (hc : cp < qn) (f43 : F 4 3 = nI qn) (f3 : F 3 (3 * (cp) + 2) = nI (wl + 1)) (ca : q_C l yL_asks wsL_asks ({ frames := 7, cells := 1, slots := 6, locals := 104 }) D cI cZ cP [.ref b, .int (nI 11), .int (nI (cp)), .int (nI 0), .int (nI 0)] wk (S := Unit) (fun v _ => v = some (.int (nI wl))) (fun _ => wk2) (fun _ => False) 1 6) : q_C l yL_copies wsL_copies ({ frames := 9, cells := 3, slots := 18, locals := 152 }) D cI cZ cP [.ref b, .int (nI 1), .int (nI j), .int (nI xx), .ref (o 0), .ref (o 4), .ref (o 3)] (lw cI o F ++ wk) (S := Unit) (fun v _ => v = some (.int (nI 1))) (fun _ => (lw cI o (va_up F 3 (upd (F 3) (3 * cp + 2) (nI 0))) ++ wk2)) (fun _ => False) 3 18 := by
  refine q_of (cc := cL_copies) (maxL := 10) (ret := (some .boolean)) (by decide +kernel) rfl (Nat.le_of_ble_eq_true rfl) ?_
  intro p e s m below meth c A ls B hr htb hmn hP hD hS hl
  have hl : lv_has ls 10 [(0, .ref b), (1, .int (nI 1)), (2, .int (nI j)), (3, .int (nI xx)), (4, .ref (o 0)), (5, .ref (o 4)), (6, .ref (o 3))] := hl
  refine lv_iload_n B.hx B.hb dL_copies_0 rfl (lv_at hl 1 rfl) ?_
  refine lv_if_ne (tgt := 146) B.hx B.hb dL_copies_1 (by decide) (fun _ => ?_) (fun c1 => False.elim (by exact absurd c1 (by decide)))
  refine lv_iload_n B.hx B.hb dL_copies_146 rfl (lv_at hl 1 rfl) ?_
  refine lv_iconst (v := (nI 1)) B.hx B.hb dL_copies_147 (by decide) ?_
  refine lv_icmp_ne (tgt := 249) B.hx B.hb dL_copies_148 (by decide) (fun c2 => False.elim (by exact absurd c2 (by decide))) (fun _ => ?_)
  refine lv_iload_n B.hx B.hb dL_copies_151 rfl (lv_at hl 3 rfl) ?_
  refine lv_bipush (v := (nI 20)) B.hx B.hb dL_copies_152 (by decide) ?_
  refine lv_irem B.hx B.hb dL_copies_154 (by decide) ?_
  refine q_top (v2 := .int (nI (xx % 20))) (congrArg Value.int (pk_rem (by omega) (by omega) (by omega))) ?_
  refine q_top (v2 := .int (nI cp)) (congrArg Value.int (congrArg nI ec)) ?_
  refine lv_istore (lv' := [(7, .int (nI cp)), (0, .ref b), (1, .int (nI 1)), (2, .int (nI j)), (3, .int (nI xx)), (4, .ref (o 0)), (5, .ref (o 4)), (6, .ref (o 3))]) B.hx B.hb dL_copies_155 hl (by decide) rfl (fun ls hl => ?_)
  refine lv_aload_n B.hx B.hb dL_copies_157 rfl (lv_at hl 1 rfl) ?_
  refine lv_bipush (v := (nI 11)) B.hx B.hb dL_copies_158 (by decide) ?_
  refine lv_iload B.hx B.hb dL_copies_160 (lv_at hl 0 rfl) ?_
  refine lv_iconst (v := (nI 0)) B.hx B.hb dL_copies_162 (by decide) ?_
  refine lv_iconst (v := (nI 0)) B.hx B.hb dL_copies_163 (by decide) ?_
  refine q_callSX (As := [.ref b, .int (nI 11), .int (nI cp), .int (nI 0), .int (nI 0)]) (rest := []) B hP hD hS (ca.fl (lw cI o F)) (vx_cwSW 5 B.hts gL_copies_L_asks rfl rfl rfl (by decide +kernel) ⟨(Nat.le_of_ble_eq_true rfl), (Nat.le_of_ble_eq_true rfl)⟩) rfl hl.1 rfl (Nat.le_of_ble_eq_true rfl) dL_copies_164 ⟨(Nat.le_of_ble_eq_true rfl), (Nat.le_of_ble_eq_true rfl)⟩ (fun E ce q9 H locs hx => False.elim hx) (fun v u H locs hp hP hD hS => ?_)
  obtain rfl := hp
  have hP : va_P D vwCl (lw cI o F ++ wk2) H := hP
  have hD : va_D A (lw cI o F ++ wk2) := hD
  refine lv_istore (lv' := [(8, .int (nI wl)), (7, .int (nI cp)), (0, .ref b), (1, .int (nI 1)), (2, .int (nI j)), (3, .int (nI xx)), (4, .ref (o 0)), (5, .ref (o 4)), (6, .ref (o 3))]) B.hx B.hb dL_copies_167 hl (by decide) rfl (fun ls hl => ?_)
  refine lv_iload B.hx B.hb dL_copies_169 (lv_at hl 1 rfl) ?_
  refine lv_aload B.hx B.hb dL_copies_171 (lv_at hl 7 rfl) ?_
  refine lv_iconst (v := (nI 3)) B.hx B.hb dL_copies_173 (by decide) ?_
  refine q_iald (f := (F 4)) B hP 4 rfl (j := 3) rfl (by decide) (by decide) dL_copies_174 ?_
  refine q_top (v2 := .int (nI qn)) (congrArg Value.int f43) ?_
  refine lv_icmp_ge (tgt := 192) B.hx B.hb dL_copies_175 (by decide) (fun c3 => False.elim (by replace c3 := (nI_leI (by omega) (by omega)).mp c3; omega)) (fun _ => ?_)
  refine lv_aload B.hx B.hb dL_copies_178 (lv_at hl 8 rfl) ?_
  refine lv_iconst (v := (nI 3)) B.hx B.hb dL_copies_180 (by decide) ?_
  refine lv_iload B.hx B.hb dL_copies_181 (lv_at hl 1 rfl) ?_
  refine lv_imul B.hx B.hb dL_copies_183 ?_
  refine q_top (v2 := .int (nI (3 * cp))) (congrArg Value.int (pk_mul _ _)) ?_
  refine lv_iconst (v := (nI 2)) B.hx B.hb dL_copies_184 (by decide) ?_
  refine lv_iadd B.hx B.hb dL_copies_185 ?_
  refine q_top (v2 := .int (nI (3 * cp + 2))) (congrArg Value.int (nI_add _ _)) ?_
  refine q_iald (f := (F 3)) B hP 3 rfl (j := 3 * cp + 2) rfl (by omega) (by decide) dL_copies_186 ?_
  refine q_top (v2 := .int (nI (wl + 1))) (congrArg Value.int f3) ?_
  refine lv_iconst (v := (nI 1)) B.hx B.hb dL_copies_187 (by decide) ?_
  refine lv_isub B.hx B.hb dL_copies_188 ?_
  refine q_top (v2 := .int (nI wl)) (congrArg Value.int (nI_pred1 _)) ?_
  refine lv_goto (tgt := 193) B.hx B.hb dL_copies_189 (by decide) ?_
  refine lv_istore (lv' := [(9, .int (nI wl)), (8, .int (nI wl)), (7, .int (nI cp)), (0, .ref b), (1, .int (nI 1)), (2, .int (nI j)), (3, .int (nI xx)), (4, .ref (o 0)), (5, .ref (o 4)), (6, .ref (o 3))]) B.hx B.hb dL_copies_193 hl (by decide) rfl (fun ls hl => ?_)
  refine lv_aload B.hx B.hb dL_copies_195 (lv_at hl 9 rfl) ?_
  refine lv_iconst (v := (nI 3)) B.hx B.hb dL_copies_197 (by decide) ?_
  refine lv_iload B.hx B.hb dL_copies_198 (lv_at hl 2 rfl) ?_
  refine lv_imul B.hx B.hb dL_copies_200 ?_
  refine q_top (v2 := .int (nI (3 * cp))) (congrArg Value.int (pk_mul _ _)) ?_
  refine lv_iconst (v := (nI 2)) B.hx B.hb dL_copies_201 (by decide) ?_
  refine lv_iadd B.hx B.hb dL_copies_202 ?_
  refine q_top (v2 := .int (nI (3 * cp + 2))) (congrArg Value.int (nI_add _ _)) ?_
  refine lv_iload B.hx B.hb dL_copies_203 (lv_at hl 2 rfl) ?_
  refine lv_aload B.hx B.hb dL_copies_205 (lv_at hl 8 rfl) ?_
  refine lv_iconst (v := (nI 3)) B.hx B.hb dL_copies_207 (by decide) ?_
  refine q_iald (f := (F 4)) B hP 4 rfl (j := 3) rfl (by decide) (by decide) dL_copies_208 ?_
  refine q_top (v2 := .int (nI qn)) (congrArg Value.int f43) ?_
  refine lv_icmp_ge (tgt := 216) B.hx B.hb dL_copies_209 (by decide) (fun c4 => False.elim (by replace c4 := (nI_leI (by omega) (by omega)).mp c4; omega)) (fun _ => ?_)
  refine lv_iconst (v := (nI 0)) B.hx B.hb dL_copies_212 (by decide) ?_
  refine lv_goto (tgt := 225) B.hx B.hb dL_copies_213 (by decide) ?_
  refine q_iast (f := (F 3)) B hP hD hS 3 rfl (j := 3 * cp + 2) rfl (by omega) (by decide) dL_copies_225 (w' := (lw cI o (va_up F 3 (upd (F 3) (3 * cp + 2) (nI 0))) ++ wk2)) rfl (fun H locs hP hD hS => ?_)
  refine lv_iload B.hx B.hb dL_copies_226 (lv_at hl 1 rfl) ?_
  refine lv_iload B.hx B.hb dL_copies_228 (lv_at hl 0 rfl) ?_
  refine lv_if_ge (tgt := 238) B.hx B.hb dL_copies_230 (by decide) (fun _ => ?_) (fun c5 => False.elim (by replace c5 := mt (nI_ge0 (by omega)).mpr c5; exact c5 trivial))
  refine lv_iload B.hx B.hb dL_copies_238 (lv_at hl 0 rfl) ?_
  refine lv_icmp_ne (tgt := 247) B.hx B.hb dL_copies_240 (by decide) (fun c6 => False.elim (by replace c6 := mt (nI_eq (by omega) (by omega)).mpr c6; omega)) (fun _ => ?_)
  refine lv_iconst (v := (nI 1)) B.hx B.hb dL_copies_243 (by decide) ?_
  refine lv_goto (tgt := 248) B.hx B.hb dL_copies_244 (by decide) ?_
  exact q_zret B hr hP hD hS (by decide) (u := ()) rfl rfl (Nat.le_of_ble_eq_true rfl) (Nat.le_of_ble_eq_true rfl) dL_copies_248

set_option maxHeartbeats 4000000 in
set_option maxRecDepth 100000 in
theorem lc1c (l : Launch) (D : va_G) (cI cZ cP : ClassId) (o : Nat → Nat) (F : Nat → Nat → Int32) (wk wk2 : va_W) {q0 b : Nat} {fs : List Value} (hq : wk[q0]? = some (b, .inr (3, fs))) {q2 : Nat} {fs2 : List Value} (hq2 : wk2[q2]? = some (b, .inr (3, fs2))) (j xx : Nat) (hj : j < 8) (hx : xx < 2 ^ 30)  (cp : Nat) (ec : xx % 20 = cp) (hcp : cp < 20) (qn : Nat) (hqn : qn ≤ 20) (hc : qn ≤ cp) (f43 : F 4 3 = nI qn) (ca : q_C l yL_asks wsL_asks ({ frames := 7, cells := 1, slots := 6, locals := 104 }) D cI cZ cP [.ref b, .int (nI 11), .int (nI (cp)), .int (nI 0), .int (nI 0)] wk (S := Unit) (fun v _ => v = some (.int (-7))) (fun _ => wk) (fun _ => False) 1 6) : q_C l yL_copies wsL_copies ({ frames := 9, cells := 3, slots := 18, locals := 152 }) D cI cZ cP [.ref b, .int (nI 1), .int (nI j), .int (nI xx), .ref (o 0), .ref (o 4), .ref (o 3)] (lw cI o F ++ wk) (S := Unit) (fun v _ => v = some (.int (nI 1))) (fun _ => (lw cI o (va_up F 3 (upd (F 3) (3 * cp + 2) ((F 3) (3 * cp + 2)))) ++ wk)) (fun _ => False) 3 18 := by
  refine q_of (cc := cL_copies) (maxL := 10) (ret := (some .boolean)) (by decide +kernel) rfl (Nat.le_of_ble_eq_true rfl) ?_
  intro p e s m below meth c A ls B hr htb hmn hP hD hS hl
  have hl : lv_has ls 10 [(0, .ref b), (1, .int (nI 1)), (2, .int (nI j)), (3, .int (nI xx)), (4, .ref (o 0)), (5, .ref (o 4)), (6, .ref (o 3))] := hl
  refine lv_iload_n B.hx B.hb dL_copies_0 rfl (lv_at hl 1 rfl) ?_
  refine lv_if_ne (tgt := 146) B.hx B.hb dL_copies_1 (by decide) (fun _ => ?_) (fun c1 => False.elim (by exact absurd c1 (by decide)))
  refine lv_iload_n B.hx B.hb dL_copies_146 rfl (lv_at hl 1 rfl) ?_
  refine lv_iconst (v := (nI 1)) B.hx B.hb dL_copies_147 (by decide) ?_
  refine lv_icmp_ne (tgt := 249) B.hx B.hb dL_copies_148 (by decide) (fun c2 => False.elim (by exact absurd c2 (by decide))) (fun _ => ?_)
  refine lv_iload_n B.hx B.hb dL_copies_151 rfl (lv_at hl 3 rfl) ?_
  refine lv_bipush (v := (nI 20)) B.hx B.hb dL_copies_152 (by decide) ?_
  refine lv_irem B.hx B.hb dL_copies_154 (by decide) ?_
  refine q_top (v2 := .int (nI (xx % 20))) (congrArg Value.int (pk_rem (by omega) (by omega) (by omega))) ?_
  refine q_top (v2 := .int (nI cp)) (congrArg Value.int (congrArg nI ec)) ?_
  refine lv_istore (lv' := [(7, .int (nI cp)), (0, .ref b), (1, .int (nI 1)), (2, .int (nI j)), (3, .int (nI xx)), (4, .ref (o 0)), (5, .ref (o 4)), (6, .ref (o 3))]) B.hx B.hb dL_copies_155 hl (by decide) rfl (fun ls hl => ?_)
  refine lv_aload_n B.hx B.hb dL_copies_157 rfl (lv_at hl 1 rfl) ?_
  refine lv_bipush (v := (nI 11)) B.hx B.hb dL_copies_158 (by decide) ?_
  refine lv_iload B.hx B.hb dL_copies_160 (lv_at hl 0 rfl) ?_
  refine lv_iconst (v := (nI 0)) B.hx B.hb dL_copies_162 (by decide) ?_
  refine lv_iconst (v := (nI 0)) B.hx B.hb dL_copies_163 (by decide) ?_
  refine q_callSX (As := [.ref b, .int (nI 11), .int (nI cp), .int (nI 0), .int (nI 0)]) (rest := []) B hP hD hS (ca.fl (lw cI o F)) (vx_cwSW 5 B.hts gL_copies_L_asks rfl rfl rfl (by decide +kernel) ⟨(Nat.le_of_ble_eq_true rfl), (Nat.le_of_ble_eq_true rfl)⟩) rfl hl.1 rfl (Nat.le_of_ble_eq_true rfl) dL_copies_164 ⟨(Nat.le_of_ble_eq_true rfl), (Nat.le_of_ble_eq_true rfl)⟩ (fun E ce q9 H locs hx => False.elim hx) (fun v u H locs hp hP hD hS => ?_)
  obtain rfl := hp
  have hP : va_P D vwCl (lw cI o F ++ wk) H := hP
  have hD : va_D A (lw cI o F ++ wk) := hD
  refine lv_istore (lv' := [(8, .int (-7)), (7, .int (nI cp)), (0, .ref b), (1, .int (nI 1)), (2, .int (nI j)), (3, .int (nI xx)), (4, .ref (o 0)), (5, .ref (o 4)), (6, .ref (o 3))]) B.hx B.hb dL_copies_167 hl (by decide) rfl (fun ls hl => ?_)
  refine lv_iload B.hx B.hb dL_copies_169 (lv_at hl 1 rfl) ?_
  refine lv_aload B.hx B.hb dL_copies_171 (lv_at hl 7 rfl) ?_
  refine lv_iconst (v := (nI 3)) B.hx B.hb dL_copies_173 (by decide) ?_
  refine q_iald (f := (F 4)) B hP 4 rfl (j := 3) rfl (by decide) (by decide) dL_copies_174 ?_
  refine q_top (v2 := .int (nI qn)) (congrArg Value.int f43) ?_
  refine lv_icmp_ge (tgt := 192) B.hx B.hb dL_copies_175 (by decide) (fun _ => ?_) (fun c3 => False.elim (by replace c3 := mt (nI_leI (by omega) (by omega)).mpr c3; omega))
  refine lv_iconst (v := (-1)) B.hx B.hb dL_copies_192 (by decide) ?_
  refine lv_istore (lv' := [(9, .int (-1)), (8, .int (-7)), (7, .int (nI cp)), (0, .ref b), (1, .int (nI 1)), (2, .int (nI j)), (3, .int (nI xx)), (4, .ref (o 0)), (5, .ref (o 4)), (6, .ref (o 3))]) B.hx B.hb dL_copies_193 hl (by decide) rfl (fun ls hl => ?_)
  refine lv_aload B.hx B.hb dL_copies_195 (lv_at hl 9 rfl) ?_
  refine lv_iconst (v := (nI 3)) B.hx B.hb dL_copies_197 (by decide) ?_
  refine lv_iload B.hx B.hb dL_copies_198 (lv_at hl 2 rfl) ?_
  refine lv_imul B.hx B.hb dL_copies_200 ?_
  refine q_top (v2 := .int (nI (3 * cp))) (congrArg Value.int (pk_mul _ _)) ?_
  refine lv_iconst (v := (nI 2)) B.hx B.hb dL_copies_201 (by decide) ?_
  refine lv_iadd B.hx B.hb dL_copies_202 ?_
  refine q_top (v2 := .int (nI (3 * cp + 2))) (congrArg Value.int (nI_add _ _)) ?_
  refine lv_iload B.hx B.hb dL_copies_203 (lv_at hl 2 rfl) ?_
  refine lv_aload B.hx B.hb dL_copies_205 (lv_at hl 8 rfl) ?_
  refine lv_iconst (v := (nI 3)) B.hx B.hb dL_copies_207 (by decide) ?_
  refine q_iald (f := (F 4)) B hP 4 rfl (j := 3) rfl (by decide) (by decide) dL_copies_208 ?_
  refine q_top (v2 := .int (nI qn)) (congrArg Value.int f43) ?_
  refine lv_icmp_ge (tgt := 216) B.hx B.hb dL_copies_209 (by decide) (fun _ => ?_) (fun c4 => False.elim (by replace c4 := mt (nI_leI (by omega) (by omega)).mpr c4; omega))
  refine lv_aload B.hx B.hb dL_copies_216 (lv_at hl 9 rfl) ?_
  refine lv_iconst (v := (nI 3)) B.hx B.hb dL_copies_218 (by decide) ?_
  refine lv_iload B.hx B.hb dL_copies_219 (lv_at hl 2 rfl) ?_
  refine lv_imul B.hx B.hb dL_copies_221 ?_
  refine q_top (v2 := .int (nI (3 * cp))) (congrArg Value.int (pk_mul _ _)) ?_
  refine lv_iconst (v := (nI 2)) B.hx B.hb dL_copies_222 (by decide) ?_
  refine lv_iadd B.hx B.hb dL_copies_223 ?_
  refine q_top (v2 := .int (nI (3 * cp + 2))) (congrArg Value.int (nI_add _ _)) ?_
  refine q_iald (f := (F 3)) B hP 3 rfl (j := 3 * cp + 2) rfl (by omega) (by decide) dL_copies_224 ?_
  refine q_iast (f := (F 3)) B hP hD hS 3 rfl (j := 3 * cp + 2) rfl (by omega) (by decide) dL_copies_225 (w' := (lw cI o (va_up F 3 (upd (F 3) (3 * cp + 2) ((F 3) (3 * cp + 2)))) ++ wk)) rfl (fun H locs hP hD hS => ?_)
  refine lv_iload B.hx B.hb dL_copies_226 (lv_at hl 1 rfl) ?_
  refine lv_iload B.hx B.hb dL_copies_228 (lv_at hl 0 rfl) ?_
  refine lv_if_ge (tgt := 238) B.hx B.hb dL_copies_230 (by decide) (fun c5 => False.elim (by exact absurd c5 (by decide))) (fun _ => ?_)
  refine lv_bipush (v := (-7)) B.hx B.hb dL_copies_233 (by decide) ?_
  refine lv_goto (tgt := 240) B.hx B.hb dL_copies_235 (by decide) ?_
  refine lv_icmp_ne (tgt := 247) B.hx B.hb dL_copies_240 (by decide) (fun c6 => False.elim (by exact absurd c6 (by decide))) (fun _ => ?_)
  refine lv_iconst (v := (nI 1)) B.hx B.hb dL_copies_243 (by decide) ?_
  refine lv_goto (tgt := 248) B.hx B.hb dL_copies_244 (by decide) ?_
  exact q_zret B hr hP hD hS (by decide) (u := ()) rfl rfl (Nat.le_of_ble_eq_true rfl) (Nat.le_of_ble_eq_true rfl) dL_copies_248

set_option maxHeartbeats 4000000 in
set_option maxRecDepth 100000 in
theorem lc2yt (l : Launch) (D : va_G) (cI cZ cP : ClassId) (o : Nat → Nat) (F : Nat → Nat → Int32) (wk wk2 : va_W) {q0 b : Nat} {fs : List Value} (hq : wk[q0]? = some (b, .inr (3, fs))) {q2 : Nat} {fs2 : List Value} (hq2 : wk2[q2]? = some (b, .inr (3, fs2))) (j xx : Nat) (hj : j < 8) (hx : xx < 2 ^ 30) (w0 : Nat) (hw0 : w0 < 128) (f5 : F 0 (8 * j + 5) = nI (w0 + 1)) (cd : q_C l yX3_isDue wsX3_isDue ({ frames := 1, cells := 0, slots := 0, locals := 22 }) D cI cZ cP [.ref b, .int (nI j)] wk (S := Unit) (fun v _ => v = some (.int (nI 1))) (fun _ => wk) (fun _ => False) 0 0) (ca : q_C l yL_asks wsL_asks ({ frames := 8, cells := 1, slots := 6, locals := 125 }) D cI cZ cP [.ref b, .int (nI 9), .int (nI j), .int (nI 0), .int (nI 0)] wk (S := Unit) (fun v _ => v = some (.int (nI 1))) (fun _ => wk2) (fun _ => False) 1 6) (cd2 : q_C l yX3_isDue wsX3_isDue ({ frames := 1, cells := 0, slots := 0, locals := 22 }) D cI cZ cP [.ref b, .int (nI j)] wk2 (S := Unit) (fun v _ => v = some (.int (nI 0))) (fun _ => wk2) (fun _ => False) 0 0) : q_C l yL_copies wsL_copies ({ frames := 9, cells := 3, slots := 18, locals := 152 }) D cI cZ cP [.ref b, .int (nI 2), .int (nI j), .int (nI xx), .ref (o 0), .ref (o 4), .ref (o 3)] (lw cI o F ++ wk) (S := Unit) (fun v _ => v = some (.int (nI 1))) (fun _ => (lw cI o (va_up F 0 (upd (upd (F 0) (8 * j + 6) ((F 4) 0)) (8 * j + 7) (nI 0))) ++ wk2)) (fun _ => False) 3 18 := by
  refine q_of (cc := cL_copies) (maxL := 10) (ret := (some .boolean)) (by decide +kernel) rfl (Nat.le_of_ble_eq_true rfl) ?_
  intro p e s m below meth c A ls B hr htb hmn hP hD hS hl
  have hl : lv_has ls 10 [(0, .ref b), (1, .int (nI 2)), (2, .int (nI j)), (3, .int (nI xx)), (4, .ref (o 0)), (5, .ref (o 4)), (6, .ref (o 3))] := hl
  refine lv_iload_n B.hx B.hb dL_copies_0 rfl (lv_at hl 1 rfl) ?_
  refine lv_if_ne (tgt := 146) B.hx B.hb dL_copies_1 (by decide) (fun _ => ?_) (fun c1 => False.elim (by exact absurd c1 (by decide)))
  refine lv_iload_n B.hx B.hb dL_copies_146 rfl (lv_at hl 1 rfl) ?_
  refine lv_iconst (v := (nI 1)) B.hx B.hb dL_copies_147 (by decide) ?_
  refine lv_icmp_ne (tgt := 249) B.hx B.hb dL_copies_148 (by decide) (fun _ => ?_) (fun c2 => False.elim (by exact absurd c2 (by decide)))
  refine lv_aload_n B.hx B.hb dL_copies_249 rfl (lv_at hl 0 rfl) ?_
  refine lv_iload_n B.hx B.hb dL_copies_250 rfl (lv_at hl 2 rfl) ?_
  refine q_callV (As := [.int (nI j)]) (rest := []) B hP hD hS (cd.fl (lw cI o F)) (cwV 1 B.hts gL_copies_X3_isDue rfl rfl rfl (by decide +kernel) ⟨(Nat.le_of_ble_eq_true rfl), (Nat.le_of_ble_eq_true rfl)⟩) (q0 + 8) 3 hq rfl rfl rfl hl.1 rfl (Nat.le_of_ble_eq_true rfl) dL_copies_251 ⟨(Nat.le_of_ble_eq_true rfl), (Nat.le_of_ble_eq_true rfl)⟩ (fun E ce q9 H locs hx => False.elim hx) (fun v u H locs hp hP hD hS => ?_)
  obtain rfl := hp
  have hP : va_P D vwCl (lw cI o F ++ wk) H := hP
  have hD : va_D A (lw cI o F ++ wk) := hD
  refine lv_istore (lv' := [(7, .int (nI 1)), (0, .ref b), (1, .int (nI 2)), (2, .int (nI j)), (3, .int (nI xx)), (4, .ref (o 0)), (5, .ref (o 4)), (6, .ref (o 3))]) B.hx B.hb dL_copies_254 hl (by decide) rfl (fun ls hl => ?_)
  refine lv_aload_n B.hx B.hb dL_copies_256 rfl (lv_at hl 1 rfl) ?_
  refine lv_bipush (v := (nI 9)) B.hx B.hb dL_copies_257 (by decide) ?_
  refine lv_iload_n B.hx B.hb dL_copies_259 rfl (lv_at hl 3 rfl) ?_
  refine lv_iconst (v := (nI 0)) B.hx B.hb dL_copies_260 (by decide) ?_
  refine lv_iconst (v := (nI 0)) B.hx B.hb dL_copies_261 (by decide) ?_
  refine q_callSX (As := [.ref b, .int (nI 9), .int (nI j), .int (nI 0), .int (nI 0)]) (rest := []) B hP hD hS (ca.fl (lw cI o F)) (vx_cwSW 5 B.hts gL_copies_L_asks rfl rfl rfl (by decide +kernel) ⟨(Nat.le_of_ble_eq_true rfl), (Nat.le_of_ble_eq_true rfl)⟩) rfl hl.1 rfl (Nat.le_of_ble_eq_true rfl) dL_copies_262 ⟨(Nat.le_of_ble_eq_true rfl), (Nat.le_of_ble_eq_true rfl)⟩ (fun E ce q9 H locs hx => False.elim hx) (fun v u H locs hp hP hD hS => ?_)
  obtain rfl := hp
  have hP : va_P D vwCl (lw cI o F ++ wk2) H := hP
  have hD : va_D A (lw cI o F ++ wk2) := hD
  refine lv_istore (lv' := [(8, .int (nI 1)), (7, .int (nI 1)), (0, .ref b), (1, .int (nI 2)), (2, .int (nI j)), (3, .int (nI xx)), (4, .ref (o 0)), (5, .ref (o 4)), (6, .ref (o 3))]) B.hx B.hb dL_copies_265 hl (by decide) rfl (fun ls hl => ?_)
  refine lv_aload B.hx B.hb dL_copies_267 (lv_at hl 6 rfl) ?_
  refine lv_bipush (v := (nI 8)) B.hx B.hb dL_copies_269 (by decide) ?_
  refine lv_iload_n B.hx B.hb dL_copies_271 rfl (lv_at hl 4 rfl) ?_
  refine lv_imul B.hx B.hb dL_copies_272 ?_
  refine q_top (v2 := .int (nI (8 * j))) (congrArg Value.int (pk_mul _ _)) ?_
  refine lv_bipush (v := (nI 6)) B.hx B.hb dL_copies_273 (by decide) ?_
  refine lv_iadd B.hx B.hb dL_copies_275 ?_
  refine q_top (v2 := .int (nI (8 * j + 6))) (congrArg Value.int (nI_add _ _)) ?_
  refine lv_aload B.hx B.hb dL_copies_276 (lv_at hl 6 rfl) ?_
  refine lv_bipush (v := (nI 8)) B.hx B.hb dL_copies_278 (by decide) ?_
  refine lv_iload_n B.hx B.hb dL_copies_280 rfl (lv_at hl 4 rfl) ?_
  refine lv_imul B.hx B.hb dL_copies_281 ?_
  refine q_top (v2 := .int (nI (8 * j))) (congrArg Value.int (pk_mul _ _)) ?_
  refine lv_iconst (v := (nI 5)) B.hx B.hb dL_copies_282 (by decide) ?_
  refine lv_iadd B.hx B.hb dL_copies_283 ?_
  refine q_top (v2 := .int (nI (8 * j + 5))) (congrArg Value.int (nI_add _ _)) ?_
  refine q_iald (f := (F 0)) B hP 0 rfl (j := 8 * j + 5) rfl (by omega) (by decide) dL_copies_284 ?_
  refine q_top (v2 := .int (nI (w0 + 1))) (congrArg Value.int f5) ?_
  refine lv_if_le (tgt := 295) B.hx B.hb dL_copies_285 (by decide) (fun c3 => False.elim (by replace c3 := (nI_le0 (by omega)).mp c3; omega)) (fun _ => ?_)
  refine lv_aload B.hx B.hb dL_copies_288 (lv_at hl 7 rfl) ?_
  refine lv_iconst (v := (nI 0)) B.hx B.hb dL_copies_290 (by decide) ?_
  refine q_iald (f := (F 4)) B hP 4 rfl (j := 0) rfl (by decide) (by decide) dL_copies_291 ?_
  refine lv_goto (tgt := 305) B.hx B.hb dL_copies_292 (by decide) ?_
  refine q_iast (f := (F 0)) B hP hD hS 0 rfl (j := 8 * j + 6) rfl (by omega) (by decide) dL_copies_305 (w' := (lw cI o (va_up F 0 (upd (F 0) (8 * j + 6) ((F 4) 0))) ++ wk2)) rfl (fun H locs hP hD hS => ?_)
  refine lv_aload B.hx B.hb dL_copies_306 (lv_at hl 6 rfl) ?_
  refine lv_bipush (v := (nI 8)) B.hx B.hb dL_copies_308 (by decide) ?_
  refine lv_iload_n B.hx B.hb dL_copies_310 rfl (lv_at hl 4 rfl) ?_
  refine lv_imul B.hx B.hb dL_copies_311 ?_
  refine q_top (v2 := .int (nI (8 * j))) (congrArg Value.int (pk_mul _ _)) ?_
  refine lv_bipush (v := (nI 7)) B.hx B.hb dL_copies_312 (by decide) ?_
  refine lv_iadd B.hx B.hb dL_copies_314 ?_
  refine q_top (v2 := .int (nI (8 * j + 7))) (congrArg Value.int (nI_add _ _)) ?_
  refine lv_iconst (v := (nI 0)) B.hx B.hb dL_copies_315 (by decide) ?_
  refine q_iast (f := (upd (F 0) (8 * j + 6) ((F 4) 0))) B hP hD hS 0 rfl (j := 8 * j + 7) rfl (by omega) (by decide) dL_copies_316 (w' := (lw cI o (va_up F 0 (upd (upd (F 0) (8 * j + 6) ((F 4) 0)) (8 * j + 7) (nI 0))) ++ wk2)) rfl (fun H locs hP hD hS => ?_)
  refine lv_iload B.hx B.hb dL_copies_317 (lv_at hl 0 rfl) ?_
  refine lv_aload B.hx B.hb dL_copies_319 (lv_at hl 6 rfl) ?_
  refine lv_bipush (v := (nI 8)) B.hx B.hb dL_copies_321 (by decide) ?_
  refine lv_iload_n B.hx B.hb dL_copies_323 rfl (lv_at hl 4 rfl) ?_
  refine lv_imul B.hx B.hb dL_copies_324 ?_
  refine q_top (v2 := .int (nI (8 * j))) (congrArg Value.int (pk_mul _ _)) ?_
  refine lv_iconst (v := (nI 5)) B.hx B.hb dL_copies_325 (by decide) ?_
  refine lv_iadd B.hx B.hb dL_copies_326 ?_
  refine q_top (v2 := .int (nI (8 * j + 5))) (congrArg Value.int (nI_add _ _)) ?_
  refine q_iald (f := (upd (upd (F 0) (8 * j + 6) ((F 4) 0)) (8 * j + 7) (nI 0))) B hP 0 rfl (j := 8 * j + 5) rfl (by omega) (by decide) dL_copies_327 ?_
  refine q_top (v2 := .int (nI (w0 + 1))) (congrArg Value.int ((pk_un (by omega)).trans ((pk_un (by omega)).trans f5))) ?_
  refine lv_if_ne (tgt := 336) B.hx B.hb dL_copies_328 (by decide) (fun _ => ?_) (fun c4 => False.elim (by replace c4 := (nI_eq0 (by omega)).mp c4; omega))
  refine lv_iload B.hx B.hb dL_copies_336 (lv_at hl 1 rfl) ?_
  refine lv_if_eq (tgt := 345) B.hx B.hb dL_copies_338 (by decide) (fun c5 => False.elim (by exact absurd c5 (by decide))) (fun _ => ?_)
  refine lv_iconst (v := (nI 1)) B.hx B.hb dL_copies_341 (by decide) ?_
  refine lv_goto (tgt := 346) B.hx B.hb dL_copies_342 (by decide) ?_
  refine lv_icmp_ne (tgt := 361) B.hx B.hb dL_copies_346 (by decide) (fun c6 => False.elim (by exact absurd c6 (by decide))) (fun _ => ?_)
  refine lv_aload_n B.hx B.hb dL_copies_349 rfl (lv_at hl 2 rfl) ?_
  refine lv_iload_n B.hx B.hb dL_copies_350 rfl (lv_at hl 4 rfl) ?_
  refine q_callV (As := [.int (nI j)]) (rest := []) B hP hD hS (cd2.fl (lw cI o (va_up F 0 (upd (upd (F 0) (8 * j + 6) ((F 4) 0)) (8 * j + 7) (nI 0))))) (cwV 1 B.hts gL_copies_X3_isDue rfl rfl rfl (by decide +kernel) ⟨(Nat.le_of_ble_eq_true rfl), (Nat.le_of_ble_eq_true rfl)⟩) (q2 + 8) 3 hq2 rfl rfl rfl hl.1 rfl (Nat.le_of_ble_eq_true rfl) dL_copies_351 ⟨(Nat.le_of_ble_eq_true rfl), (Nat.le_of_ble_eq_true rfl)⟩ (fun E ce q9 H locs hx => False.elim hx) (fun v u H locs hp hP hD hS => ?_)
  obtain rfl := hp
  have hP : va_P D vwCl (lw cI o (va_up F 0 (upd (upd (F 0) (8 * j + 6) ((F 4) 0)) (8 * j + 7) (nI 0))) ++ wk2) H := hP
  have hD : va_D A (lw cI o (va_up F 0 (upd (upd (F 0) (8 * j + 6) ((F 4) 0)) (8 * j + 7) (nI 0))) ++ wk2) := hD
  refine lv_if_ne (tgt := 361) B.hx B.hb dL_copies_354 (by decide) (fun c7 => False.elim (by exact absurd c7 (by decide))) (fun _ => ?_)
  refine lv_iconst (v := (nI 1)) B.hx B.hb dL_copies_357 (by decide) ?_
  refine lv_goto (tgt := 362) B.hx B.hb dL_copies_358 (by decide) ?_
  exact q_zret B hr hP hD hS (by decide) (u := ()) rfl rfl (Nat.le_of_ble_eq_true rfl) (Nat.le_of_ble_eq_true rfl) dL_copies_362

set_option maxHeartbeats 4000000 in
set_option maxRecDepth 100000 in
theorem lc2yf (l : Launch) (D : va_G) (cI cZ cP : ClassId) (o : Nat → Nat) (F : Nat → Nat → Int32) (wk wk2 : va_W) {q0 b : Nat} {fs : List Value} (hq : wk[q0]? = some (b, .inr (3, fs))) {q2 : Nat} {fs2 : List Value} (hq2 : wk2[q2]? = some (b, .inr (3, fs2))) (j xx : Nat) (hj : j < 8) (hx : xx < 2 ^ 30) (w0 : Nat) (hw0 : w0 < 128) (f5 : F 0 (8 * j + 5) = nI (w0 + 1)) (cd : q_C l yX3_isDue wsX3_isDue ({ frames := 1, cells := 0, slots := 0, locals := 22 }) D cI cZ cP [.ref b, .int (nI j)] wk (S := Unit) (fun v _ => v = some (.int (nI 0))) (fun _ => wk) (fun _ => False) 0 0) (ca : q_C l yL_asks wsL_asks ({ frames := 8, cells := 1, slots := 6, locals := 125 }) D cI cZ cP [.ref b, .int (nI 9), .int (nI j), .int (nI 0), .int (nI 0)] wk (S := Unit) (fun v _ => v = some (.int (nI 0))) (fun _ => wk2) (fun _ => False) 1 6) (cd2 : q_C l yX3_isDue wsX3_isDue ({ frames := 1, cells := 0, slots := 0, locals := 22 }) D cI cZ cP [.ref b, .int (nI j)] wk2 (S := Unit) (fun v _ => v = some (.int (nI 0))) (fun _ => wk2) (fun _ => False) 0 0) : q_C l yL_copies wsL_copies ({ frames := 9, cells := 3, slots := 18, locals := 152 }) D cI cZ cP [.ref b, .int (nI 2), .int (nI j), .int (nI xx), .ref (o 0), .ref (o 4), .ref (o 3)] (lw cI o F ++ wk) (S := Unit) (fun v _ => v = some (.int (nI 1))) (fun _ => (lw cI o (va_up F 0 (upd (upd (F 0) (8 * j + 6) ((F 4) 0)) (8 * j + 7) (nI 0))) ++ wk2)) (fun _ => False) 3 18 := by
  refine q_of (cc := cL_copies) (maxL := 10) (ret := (some .boolean)) (by decide +kernel) rfl (Nat.le_of_ble_eq_true rfl) ?_
  intro p e s m below meth c A ls B hr htb hmn hP hD hS hl
  have hl : lv_has ls 10 [(0, .ref b), (1, .int (nI 2)), (2, .int (nI j)), (3, .int (nI xx)), (4, .ref (o 0)), (5, .ref (o 4)), (6, .ref (o 3))] := hl
  refine lv_iload_n B.hx B.hb dL_copies_0 rfl (lv_at hl 1 rfl) ?_
  refine lv_if_ne (tgt := 146) B.hx B.hb dL_copies_1 (by decide) (fun _ => ?_) (fun c1 => False.elim (by exact absurd c1 (by decide)))
  refine lv_iload_n B.hx B.hb dL_copies_146 rfl (lv_at hl 1 rfl) ?_
  refine lv_iconst (v := (nI 1)) B.hx B.hb dL_copies_147 (by decide) ?_
  refine lv_icmp_ne (tgt := 249) B.hx B.hb dL_copies_148 (by decide) (fun _ => ?_) (fun c2 => False.elim (by exact absurd c2 (by decide)))
  refine lv_aload_n B.hx B.hb dL_copies_249 rfl (lv_at hl 0 rfl) ?_
  refine lv_iload_n B.hx B.hb dL_copies_250 rfl (lv_at hl 2 rfl) ?_
  refine q_callV (As := [.int (nI j)]) (rest := []) B hP hD hS (cd.fl (lw cI o F)) (cwV 1 B.hts gL_copies_X3_isDue rfl rfl rfl (by decide +kernel) ⟨(Nat.le_of_ble_eq_true rfl), (Nat.le_of_ble_eq_true rfl)⟩) (q0 + 8) 3 hq rfl rfl rfl hl.1 rfl (Nat.le_of_ble_eq_true rfl) dL_copies_251 ⟨(Nat.le_of_ble_eq_true rfl), (Nat.le_of_ble_eq_true rfl)⟩ (fun E ce q9 H locs hx => False.elim hx) (fun v u H locs hp hP hD hS => ?_)
  obtain rfl := hp
  have hP : va_P D vwCl (lw cI o F ++ wk) H := hP
  have hD : va_D A (lw cI o F ++ wk) := hD
  refine lv_istore (lv' := [(7, .int (nI 0)), (0, .ref b), (1, .int (nI 2)), (2, .int (nI j)), (3, .int (nI xx)), (4, .ref (o 0)), (5, .ref (o 4)), (6, .ref (o 3))]) B.hx B.hb dL_copies_254 hl (by decide) rfl (fun ls hl => ?_)
  refine lv_aload_n B.hx B.hb dL_copies_256 rfl (lv_at hl 1 rfl) ?_
  refine lv_bipush (v := (nI 9)) B.hx B.hb dL_copies_257 (by decide) ?_
  refine lv_iload_n B.hx B.hb dL_copies_259 rfl (lv_at hl 3 rfl) ?_
  refine lv_iconst (v := (nI 0)) B.hx B.hb dL_copies_260 (by decide) ?_
  refine lv_iconst (v := (nI 0)) B.hx B.hb dL_copies_261 (by decide) ?_
  refine q_callSX (As := [.ref b, .int (nI 9), .int (nI j), .int (nI 0), .int (nI 0)]) (rest := []) B hP hD hS (ca.fl (lw cI o F)) (vx_cwSW 5 B.hts gL_copies_L_asks rfl rfl rfl (by decide +kernel) ⟨(Nat.le_of_ble_eq_true rfl), (Nat.le_of_ble_eq_true rfl)⟩) rfl hl.1 rfl (Nat.le_of_ble_eq_true rfl) dL_copies_262 ⟨(Nat.le_of_ble_eq_true rfl), (Nat.le_of_ble_eq_true rfl)⟩ (fun E ce q9 H locs hx => False.elim hx) (fun v u H locs hp hP hD hS => ?_)
  obtain rfl := hp
  have hP : va_P D vwCl (lw cI o F ++ wk2) H := hP
  have hD : va_D A (lw cI o F ++ wk2) := hD
  refine lv_istore (lv' := [(8, .int (nI 0)), (7, .int (nI 0)), (0, .ref b), (1, .int (nI 2)), (2, .int (nI j)), (3, .int (nI xx)), (4, .ref (o 0)), (5, .ref (o 4)), (6, .ref (o 3))]) B.hx B.hb dL_copies_265 hl (by decide) rfl (fun ls hl => ?_)
  refine lv_aload B.hx B.hb dL_copies_267 (lv_at hl 6 rfl) ?_
  refine lv_bipush (v := (nI 8)) B.hx B.hb dL_copies_269 (by decide) ?_
  refine lv_iload_n B.hx B.hb dL_copies_271 rfl (lv_at hl 4 rfl) ?_
  refine lv_imul B.hx B.hb dL_copies_272 ?_
  refine q_top (v2 := .int (nI (8 * j))) (congrArg Value.int (pk_mul _ _)) ?_
  refine lv_bipush (v := (nI 6)) B.hx B.hb dL_copies_273 (by decide) ?_
  refine lv_iadd B.hx B.hb dL_copies_275 ?_
  refine q_top (v2 := .int (nI (8 * j + 6))) (congrArg Value.int (nI_add _ _)) ?_
  refine lv_aload B.hx B.hb dL_copies_276 (lv_at hl 6 rfl) ?_
  refine lv_bipush (v := (nI 8)) B.hx B.hb dL_copies_278 (by decide) ?_
  refine lv_iload_n B.hx B.hb dL_copies_280 rfl (lv_at hl 4 rfl) ?_
  refine lv_imul B.hx B.hb dL_copies_281 ?_
  refine q_top (v2 := .int (nI (8 * j))) (congrArg Value.int (pk_mul _ _)) ?_
  refine lv_iconst (v := (nI 5)) B.hx B.hb dL_copies_282 (by decide) ?_
  refine lv_iadd B.hx B.hb dL_copies_283 ?_
  refine q_top (v2 := .int (nI (8 * j + 5))) (congrArg Value.int (nI_add _ _)) ?_
  refine q_iald (f := (F 0)) B hP 0 rfl (j := 8 * j + 5) rfl (by omega) (by decide) dL_copies_284 ?_
  refine q_top (v2 := .int (nI (w0 + 1))) (congrArg Value.int f5) ?_
  refine lv_if_le (tgt := 295) B.hx B.hb dL_copies_285 (by decide) (fun c3 => False.elim (by replace c3 := (nI_le0 (by omega)).mp c3; omega)) (fun _ => ?_)
  refine lv_aload B.hx B.hb dL_copies_288 (lv_at hl 7 rfl) ?_
  refine lv_iconst (v := (nI 0)) B.hx B.hb dL_copies_290 (by decide) ?_
  refine q_iald (f := (F 4)) B hP 4 rfl (j := 0) rfl (by decide) (by decide) dL_copies_291 ?_
  refine lv_goto (tgt := 305) B.hx B.hb dL_copies_292 (by decide) ?_
  refine q_iast (f := (F 0)) B hP hD hS 0 rfl (j := 8 * j + 6) rfl (by omega) (by decide) dL_copies_305 (w' := (lw cI o (va_up F 0 (upd (F 0) (8 * j + 6) ((F 4) 0))) ++ wk2)) rfl (fun H locs hP hD hS => ?_)
  refine lv_aload B.hx B.hb dL_copies_306 (lv_at hl 6 rfl) ?_
  refine lv_bipush (v := (nI 8)) B.hx B.hb dL_copies_308 (by decide) ?_
  refine lv_iload_n B.hx B.hb dL_copies_310 rfl (lv_at hl 4 rfl) ?_
  refine lv_imul B.hx B.hb dL_copies_311 ?_
  refine q_top (v2 := .int (nI (8 * j))) (congrArg Value.int (pk_mul _ _)) ?_
  refine lv_bipush (v := (nI 7)) B.hx B.hb dL_copies_312 (by decide) ?_
  refine lv_iadd B.hx B.hb dL_copies_314 ?_
  refine q_top (v2 := .int (nI (8 * j + 7))) (congrArg Value.int (nI_add _ _)) ?_
  refine lv_iconst (v := (nI 0)) B.hx B.hb dL_copies_315 (by decide) ?_
  refine q_iast (f := (upd (F 0) (8 * j + 6) ((F 4) 0))) B hP hD hS 0 rfl (j := 8 * j + 7) rfl (by omega) (by decide) dL_copies_316 (w' := (lw cI o (va_up F 0 (upd (upd (F 0) (8 * j + 6) ((F 4) 0)) (8 * j + 7) (nI 0))) ++ wk2)) rfl (fun H locs hP hD hS => ?_)
  refine lv_iload B.hx B.hb dL_copies_317 (lv_at hl 0 rfl) ?_
  refine lv_aload B.hx B.hb dL_copies_319 (lv_at hl 6 rfl) ?_
  refine lv_bipush (v := (nI 8)) B.hx B.hb dL_copies_321 (by decide) ?_
  refine lv_iload_n B.hx B.hb dL_copies_323 rfl (lv_at hl 4 rfl) ?_
  refine lv_imul B.hx B.hb dL_copies_324 ?_
  refine q_top (v2 := .int (nI (8 * j))) (congrArg Value.int (pk_mul _ _)) ?_
  refine lv_iconst (v := (nI 5)) B.hx B.hb dL_copies_325 (by decide) ?_
  refine lv_iadd B.hx B.hb dL_copies_326 ?_
  refine q_top (v2 := .int (nI (8 * j + 5))) (congrArg Value.int (nI_add _ _)) ?_
  refine q_iald (f := (upd (upd (F 0) (8 * j + 6) ((F 4) 0)) (8 * j + 7) (nI 0))) B hP 0 rfl (j := 8 * j + 5) rfl (by omega) (by decide) dL_copies_327 ?_
  refine q_top (v2 := .int (nI (w0 + 1))) (congrArg Value.int ((pk_un (by omega)).trans ((pk_un (by omega)).trans f5))) ?_
  refine lv_if_ne (tgt := 336) B.hx B.hb dL_copies_328 (by decide) (fun _ => ?_) (fun c4 => False.elim (by replace c4 := (nI_eq0 (by omega)).mp c4; omega))
  refine lv_iload B.hx B.hb dL_copies_336 (lv_at hl 1 rfl) ?_
  refine lv_if_eq (tgt := 345) B.hx B.hb dL_copies_338 (by decide) (fun _ => ?_) (fun c5 => False.elim (by exact absurd c5 (by decide)))
  refine lv_iconst (v := (nI 0)) B.hx B.hb dL_copies_345 (by decide) ?_
  refine lv_icmp_ne (tgt := 361) B.hx B.hb dL_copies_346 (by decide) (fun c6 => False.elim (by exact absurd c6 (by decide))) (fun _ => ?_)
  refine lv_aload_n B.hx B.hb dL_copies_349 rfl (lv_at hl 2 rfl) ?_
  refine lv_iload_n B.hx B.hb dL_copies_350 rfl (lv_at hl 4 rfl) ?_
  refine q_callV (As := [.int (nI j)]) (rest := []) B hP hD hS (cd2.fl (lw cI o (va_up F 0 (upd (upd (F 0) (8 * j + 6) ((F 4) 0)) (8 * j + 7) (nI 0))))) (cwV 1 B.hts gL_copies_X3_isDue rfl rfl rfl (by decide +kernel) ⟨(Nat.le_of_ble_eq_true rfl), (Nat.le_of_ble_eq_true rfl)⟩) (q2 + 8) 3 hq2 rfl rfl rfl hl.1 rfl (Nat.le_of_ble_eq_true rfl) dL_copies_351 ⟨(Nat.le_of_ble_eq_true rfl), (Nat.le_of_ble_eq_true rfl)⟩ (fun E ce q9 H locs hx => False.elim hx) (fun v u H locs hp hP hD hS => ?_)
  obtain rfl := hp
  have hP : va_P D vwCl (lw cI o (va_up F 0 (upd (upd (F 0) (8 * j + 6) ((F 4) 0)) (8 * j + 7) (nI 0))) ++ wk2) H := hP
  have hD : va_D A (lw cI o (va_up F 0 (upd (upd (F 0) (8 * j + 6) ((F 4) 0)) (8 * j + 7) (nI 0))) ++ wk2) := hD
  refine lv_if_ne (tgt := 361) B.hx B.hb dL_copies_354 (by decide) (fun c7 => False.elim (by exact absurd c7 (by decide))) (fun _ => ?_)
  refine lv_iconst (v := (nI 1)) B.hx B.hb dL_copies_357 (by decide) ?_
  refine lv_goto (tgt := 362) B.hx B.hb dL_copies_358 (by decide) ?_
  exact q_zret B hr hP hD hS (by decide) (u := ()) rfl rfl (Nat.le_of_ble_eq_true rfl) (Nat.le_of_ble_eq_true rfl) dL_copies_362

set_option maxHeartbeats 4000000 in
set_option maxRecDepth 100000 in
theorem lc2n (l : Launch) (D : va_G) (cI cZ cP : ClassId) (o : Nat → Nat) (F : Nat → Nat → Int32) (wk wk2 : va_W) {q0 b : Nat} {fs : List Value} (hq : wk[q0]? = some (b, .inr (3, fs))) {q2 : Nat} {fs2 : List Value} (hq2 : wk2[q2]? = some (b, .inr (3, fs2))) (j xx : Nat) (hj : j < 8) (hx : xx < 2 ^ 30) (f5 : F 0 (8 * j + 5) = nI 0) (cd : q_C l yX3_isDue wsX3_isDue ({ frames := 1, cells := 0, slots := 0, locals := 22 }) D cI cZ cP [.ref b, .int (nI j)] wk (S := Unit) (fun v _ => v = some (.int (nI 0))) (fun _ => wk) (fun _ => False) 0 0) (ca : q_C l yL_asks wsL_asks ({ frames := 8, cells := 1, slots := 6, locals := 125 }) D cI cZ cP [.ref b, .int (nI 9), .int (nI j), .int (nI 0), .int (nI 0)] wk (S := Unit) (fun v _ => v = some (.int (-8))) (fun _ => wk) (fun _ => False) 1 6) : q_C l yL_copies wsL_copies ({ frames := 9, cells := 3, slots := 18, locals := 152 }) D cI cZ cP [.ref b, .int (nI 2), .int (nI j), .int (nI xx), .ref (o 0), .ref (o 4), .ref (o 3)] (lw cI o F ++ wk) (S := Unit) (fun v _ => v = some (.int (nI 1))) (fun _ => (lw cI o (va_up F 0 (upd (upd (F 0) (8 * j + 6) ((F 0) (8 * j + 6))) (8 * j + 7) (nI 0))) ++ wk)) (fun _ => False) 3 18 := by
  refine q_of (cc := cL_copies) (maxL := 10) (ret := (some .boolean)) (by decide +kernel) rfl (Nat.le_of_ble_eq_true rfl) ?_
  intro p e s m below meth c A ls B hr htb hmn hP hD hS hl
  have hl : lv_has ls 10 [(0, .ref b), (1, .int (nI 2)), (2, .int (nI j)), (3, .int (nI xx)), (4, .ref (o 0)), (5, .ref (o 4)), (6, .ref (o 3))] := hl
  refine lv_iload_n B.hx B.hb dL_copies_0 rfl (lv_at hl 1 rfl) ?_
  refine lv_if_ne (tgt := 146) B.hx B.hb dL_copies_1 (by decide) (fun _ => ?_) (fun c1 => False.elim (by exact absurd c1 (by decide)))
  refine lv_iload_n B.hx B.hb dL_copies_146 rfl (lv_at hl 1 rfl) ?_
  refine lv_iconst (v := (nI 1)) B.hx B.hb dL_copies_147 (by decide) ?_
  refine lv_icmp_ne (tgt := 249) B.hx B.hb dL_copies_148 (by decide) (fun _ => ?_) (fun c2 => False.elim (by exact absurd c2 (by decide)))
  refine lv_aload_n B.hx B.hb dL_copies_249 rfl (lv_at hl 0 rfl) ?_
  refine lv_iload_n B.hx B.hb dL_copies_250 rfl (lv_at hl 2 rfl) ?_
  refine q_callV (As := [.int (nI j)]) (rest := []) B hP hD hS (cd.fl (lw cI o F)) (cwV 1 B.hts gL_copies_X3_isDue rfl rfl rfl (by decide +kernel) ⟨(Nat.le_of_ble_eq_true rfl), (Nat.le_of_ble_eq_true rfl)⟩) (q0 + 8) 3 hq rfl rfl rfl hl.1 rfl (Nat.le_of_ble_eq_true rfl) dL_copies_251 ⟨(Nat.le_of_ble_eq_true rfl), (Nat.le_of_ble_eq_true rfl)⟩ (fun E ce q9 H locs hx => False.elim hx) (fun v u H locs hp hP hD hS => ?_)
  obtain rfl := hp
  have hP : va_P D vwCl (lw cI o F ++ wk) H := hP
  have hD : va_D A (lw cI o F ++ wk) := hD
  refine lv_istore (lv' := [(7, .int (nI 0)), (0, .ref b), (1, .int (nI 2)), (2, .int (nI j)), (3, .int (nI xx)), (4, .ref (o 0)), (5, .ref (o 4)), (6, .ref (o 3))]) B.hx B.hb dL_copies_254 hl (by decide) rfl (fun ls hl => ?_)
  refine lv_aload_n B.hx B.hb dL_copies_256 rfl (lv_at hl 1 rfl) ?_
  refine lv_bipush (v := (nI 9)) B.hx B.hb dL_copies_257 (by decide) ?_
  refine lv_iload_n B.hx B.hb dL_copies_259 rfl (lv_at hl 3 rfl) ?_
  refine lv_iconst (v := (nI 0)) B.hx B.hb dL_copies_260 (by decide) ?_
  refine lv_iconst (v := (nI 0)) B.hx B.hb dL_copies_261 (by decide) ?_
  refine q_callSX (As := [.ref b, .int (nI 9), .int (nI j), .int (nI 0), .int (nI 0)]) (rest := []) B hP hD hS (ca.fl (lw cI o F)) (vx_cwSW 5 B.hts gL_copies_L_asks rfl rfl rfl (by decide +kernel) ⟨(Nat.le_of_ble_eq_true rfl), (Nat.le_of_ble_eq_true rfl)⟩) rfl hl.1 rfl (Nat.le_of_ble_eq_true rfl) dL_copies_262 ⟨(Nat.le_of_ble_eq_true rfl), (Nat.le_of_ble_eq_true rfl)⟩ (fun E ce q9 H locs hx => False.elim hx) (fun v u H locs hp hP hD hS => ?_)
  obtain rfl := hp
  have hP : va_P D vwCl (lw cI o F ++ wk) H := hP
  have hD : va_D A (lw cI o F ++ wk) := hD
  refine lv_istore (lv' := [(8, .int (-8)), (7, .int (nI 0)), (0, .ref b), (1, .int (nI 2)), (2, .int (nI j)), (3, .int (nI xx)), (4, .ref (o 0)), (5, .ref (o 4)), (6, .ref (o 3))]) B.hx B.hb dL_copies_265 hl (by decide) rfl (fun ls hl => ?_)
  refine lv_aload B.hx B.hb dL_copies_267 (lv_at hl 6 rfl) ?_
  refine lv_bipush (v := (nI 8)) B.hx B.hb dL_copies_269 (by decide) ?_
  refine lv_iload_n B.hx B.hb dL_copies_271 rfl (lv_at hl 4 rfl) ?_
  refine lv_imul B.hx B.hb dL_copies_272 ?_
  refine q_top (v2 := .int (nI (8 * j))) (congrArg Value.int (pk_mul _ _)) ?_
  refine lv_bipush (v := (nI 6)) B.hx B.hb dL_copies_273 (by decide) ?_
  refine lv_iadd B.hx B.hb dL_copies_275 ?_
  refine q_top (v2 := .int (nI (8 * j + 6))) (congrArg Value.int (nI_add _ _)) ?_
  refine lv_aload B.hx B.hb dL_copies_276 (lv_at hl 6 rfl) ?_
  refine lv_bipush (v := (nI 8)) B.hx B.hb dL_copies_278 (by decide) ?_
  refine lv_iload_n B.hx B.hb dL_copies_280 rfl (lv_at hl 4 rfl) ?_
  refine lv_imul B.hx B.hb dL_copies_281 ?_
  refine q_top (v2 := .int (nI (8 * j))) (congrArg Value.int (pk_mul _ _)) ?_
  refine lv_iconst (v := (nI 5)) B.hx B.hb dL_copies_282 (by decide) ?_
  refine lv_iadd B.hx B.hb dL_copies_283 ?_
  refine q_top (v2 := .int (nI (8 * j + 5))) (congrArg Value.int (nI_add _ _)) ?_
  refine q_iald (f := (F 0)) B hP 0 rfl (j := 8 * j + 5) rfl (by omega) (by decide) dL_copies_284 ?_
  refine q_top (v2 := .int (nI 0)) (congrArg Value.int f5) ?_
  refine lv_if_le (tgt := 295) B.hx B.hb dL_copies_285 (by decide) (fun _ => ?_) (fun c3 => False.elim (by exact absurd c3 (by decide)))
  refine lv_aload B.hx B.hb dL_copies_295 (lv_at hl 6 rfl) ?_
  refine lv_bipush (v := (nI 8)) B.hx B.hb dL_copies_297 (by decide) ?_
  refine lv_iload_n B.hx B.hb dL_copies_299 rfl (lv_at hl 4 rfl) ?_
  refine lv_imul B.hx B.hb dL_copies_300 ?_
  refine q_top (v2 := .int (nI (8 * j))) (congrArg Value.int (pk_mul _ _)) ?_
  refine lv_bipush (v := (nI 6)) B.hx B.hb dL_copies_301 (by decide) ?_
  refine lv_iadd B.hx B.hb dL_copies_303 ?_
  refine q_top (v2 := .int (nI (8 * j + 6))) (congrArg Value.int (nI_add _ _)) ?_
  refine q_iald (f := (F 0)) B hP 0 rfl (j := 8 * j + 6) rfl (by omega) (by decide) dL_copies_304 ?_
  refine q_iast (f := (F 0)) B hP hD hS 0 rfl (j := 8 * j + 6) rfl (by omega) (by decide) dL_copies_305 (w' := (lw cI o (va_up F 0 (upd (F 0) (8 * j + 6) ((F 0) (8 * j + 6)))) ++ wk)) rfl (fun H locs hP hD hS => ?_)
  refine lv_aload B.hx B.hb dL_copies_306 (lv_at hl 6 rfl) ?_
  refine lv_bipush (v := (nI 8)) B.hx B.hb dL_copies_308 (by decide) ?_
  refine lv_iload_n B.hx B.hb dL_copies_310 rfl (lv_at hl 4 rfl) ?_
  refine lv_imul B.hx B.hb dL_copies_311 ?_
  refine q_top (v2 := .int (nI (8 * j))) (congrArg Value.int (pk_mul _ _)) ?_
  refine lv_bipush (v := (nI 7)) B.hx B.hb dL_copies_312 (by decide) ?_
  refine lv_iadd B.hx B.hb dL_copies_314 ?_
  refine q_top (v2 := .int (nI (8 * j + 7))) (congrArg Value.int (nI_add _ _)) ?_
  refine lv_iconst (v := (nI 0)) B.hx B.hb dL_copies_315 (by decide) ?_
  refine q_iast (f := (upd (F 0) (8 * j + 6) ((F 0) (8 * j + 6)))) B hP hD hS 0 rfl (j := 8 * j + 7) rfl (by omega) (by decide) dL_copies_316 (w' := (lw cI o (va_up F 0 (upd (upd (F 0) (8 * j + 6) ((F 0) (8 * j + 6))) (8 * j + 7) (nI 0))) ++ wk)) rfl (fun H locs hP hD hS => ?_)
  refine lv_iload B.hx B.hb dL_copies_317 (lv_at hl 0 rfl) ?_
  refine lv_aload B.hx B.hb dL_copies_319 (lv_at hl 6 rfl) ?_
  refine lv_bipush (v := (nI 8)) B.hx B.hb dL_copies_321 (by decide) ?_
  refine lv_iload_n B.hx B.hb dL_copies_323 rfl (lv_at hl 4 rfl) ?_
  refine lv_imul B.hx B.hb dL_copies_324 ?_
  refine q_top (v2 := .int (nI (8 * j))) (congrArg Value.int (pk_mul _ _)) ?_
  refine lv_iconst (v := (nI 5)) B.hx B.hb dL_copies_325 (by decide) ?_
  refine lv_iadd B.hx B.hb dL_copies_326 ?_
  refine q_top (v2 := .int (nI (8 * j + 5))) (congrArg Value.int (nI_add _ _)) ?_
  refine q_iald (f := (upd (upd (F 0) (8 * j + 6) ((F 0) (8 * j + 6))) (8 * j + 7) (nI 0))) B hP 0 rfl (j := 8 * j + 5) rfl (by omega) (by decide) dL_copies_327 ?_
  refine q_top (v2 := .int (nI 0)) (congrArg Value.int ((pk_un (by omega)).trans ((pk_un (by omega)).trans f5))) ?_
  refine lv_if_ne (tgt := 336) B.hx B.hb dL_copies_328 (by decide) (fun c4 => False.elim (by exact absurd c4 (by decide))) (fun _ => ?_)
  refine lv_bipush (v := (-8)) B.hx B.hb dL_copies_331 (by decide) ?_
  refine lv_goto (tgt := 346) B.hx B.hb dL_copies_333 (by decide) ?_
  refine lv_icmp_ne (tgt := 361) B.hx B.hb dL_copies_346 (by decide) (fun c5 => False.elim (by exact absurd c5 (by decide))) (fun _ => ?_)
  refine lv_aload_n B.hx B.hb dL_copies_349 rfl (lv_at hl 2 rfl) ?_
  refine lv_iload_n B.hx B.hb dL_copies_350 rfl (lv_at hl 4 rfl) ?_
  refine q_callV (As := [.int (nI j)]) (rest := []) B hP hD hS (cd.fl (lw cI o (va_up F 0 (upd (upd (F 0) (8 * j + 6) ((F 0) (8 * j + 6))) (8 * j + 7) (nI 0))))) (cwV 1 B.hts gL_copies_X3_isDue rfl rfl rfl (by decide +kernel) ⟨(Nat.le_of_ble_eq_true rfl), (Nat.le_of_ble_eq_true rfl)⟩) (q0 + 8) 3 hq rfl rfl rfl hl.1 rfl (Nat.le_of_ble_eq_true rfl) dL_copies_351 ⟨(Nat.le_of_ble_eq_true rfl), (Nat.le_of_ble_eq_true rfl)⟩ (fun E ce q9 H locs hx => False.elim hx) (fun v u H locs hp hP hD hS => ?_)
  obtain rfl := hp
  have hP : va_P D vwCl (lw cI o (va_up F 0 (upd (upd (F 0) (8 * j + 6) ((F 0) (8 * j + 6))) (8 * j + 7) (nI 0))) ++ wk) H := hP
  have hD : va_D A (lw cI o (va_up F 0 (upd (upd (F 0) (8 * j + 6) ((F 0) (8 * j + 6))) (8 * j + 7) (nI 0))) ++ wk) := hD
  refine lv_if_ne (tgt := 361) B.hx B.hb dL_copies_354 (by decide) (fun c6 => False.elim (by exact absurd c6 (by decide))) (fun _ => ?_)
  refine lv_iconst (v := (nI 1)) B.hx B.hb dL_copies_357 (by decide) ?_
  refine lv_goto (tgt := 362) B.hx B.hb dL_copies_358 (by decide) ?_
  exact q_zret B hr hP hD hS (by decide) (u := ()) rfl rfl (Nat.le_of_ble_eq_true rfl) (Nat.le_of_ble_eq_true rfl) dL_copies_362
