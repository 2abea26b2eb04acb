/-! The reference: its calls. -/
set_option maxHeartbeats 4000000 in
set_option maxRecDepth 100000 in
theorem c4_setRoles (l : Launch) (D : va_G) (cI cZ cP cJ : ClassId) (o : Nat → Nat) (J : Nat → Int32) (Z : Nat → Nat → Int32) (n : Nat) (hn : J 5 = nI n) (hn8 : n ≤ 8) (x r1 r2 : Int32) (hr1 : r1 = 0 ∨ r1 = 1) (hr2 : r2 = 0 ∨ r2 = 1) : q_C l yX4_setRoles wsX4_setRoles ({ frames := 2, cells := 0, slots := 0, locals := 42 }) D cI cZ cP cJ [.ref (o 0), .int x, .int r1, .int r2] (mw cI cZ o J Z) (S := Unit) (fun v _ => v = none) (fun _ => mw cI cZ o (va_up J 30 (nI (kSetRoles x))) (if kSetRoles x = 0 then (va_up (va_up Z 2 (upd (Z 2) (ix x) r1)) 3 (upd (Z 3) (ix x) r2)) else Z)) (fun _ => False) 0 0 := by
  refine q_of (cc := cX4_setRoles) (maxL := 4) (ret := none) (by decide +kernel) rfl (Nat.le_of_ble_eq_true rfl) ?_
  intro p e s m below meth c A ls B hr htb hmn hP hD hS hl
  have hl : lv_has ls 4 [(0, .ref (o 0)), (1, .int x), (2, .int r1), (3, .int r2)] := hl
  have hi4 : ∀ w ∈ u_ws RX4 TX4 31, w ∈ wsX4_setRoles := by decide +kernel
  refine lv_aload_n B.hx B.hb dX4_setRoles_0 rfl (lv_at hl 0 rfl) ?_
  refine lv_iload_n B.hx B.hb dX4_setRoles_1 rfl (lv_at hl 1 rfl) ?_
  refine q_callS (As := [.int x]) (rest := [.ref (o 0)]) B hP hD hS ((c4_isPerson l D cI cZ cP cJ x).fr0 (mw cI cZ o J Z)) (cwS 1 B.hts gX4_setRoles_X4_isPerson rfl rfl rfl (by decide +kernel) ⟨(Nat.le_of_ble_eq_true rfl), (Nat.le_of_ble_eq_true rfl)⟩) rfl hl.1 rfl (Nat.le_of_ble_eq_true rfl) dX4_setRoles_2 ⟨(Nat.le_of_ble_eq_true rfl), (Nat.le_of_ble_eq_true rfl)⟩ (fun E ce q9 H locs hx => False.elim hx) (fun v u H locs hp hP hD hS => ?_)
  replace hp := bI2 hp
  rcases hp with ⟨rfl, hrg0⟩ | ⟨rfl, hrg0⟩
  · have hP : va_P D vwCl (mw cI cZ o J Z) H := hP
    have hD : va_D A (mw cI cZ o J Z) := hD
    obtain ⟨j2, hjj2, rfl⟩ := rg_j (by decide) hrg0
    have hixj2 : ix (nI j2) = j2 := ix_nI (by omega)
    have hnmj2 : ¬ nI j2 = -1 := nI_nm1 (by omega)
    refine lv_if_eq (tgt := 12) B.hx B.hb dX4_setRoles_5 (by decide) (fun c1 => absurd c1 (by decide)) (fun _ => ?_)
    refine lv_iconst (v := (nI 0)) B.hx B.hb dX4_setRoles_8 (by decide) ?_
    refine lv_goto (tgt := 13) B.hx B.hb dX4_setRoles_9 (by decide) ?_
    refine q_callV (As := [.int (nI 0)]) (rest := []) B hP hD hS (c4_can l D cI cZ cP cJ o J Z (nI 0)) (cwV 1 B.hts gX4_setRoles_X4_can rfl rfl rfl (by decide +kernel) ⟨(Nat.le_of_ble_eq_true rfl), (Nat.le_of_ble_eq_true rfl)⟩) 0 4 rfl rfl rfl rfl hl.1 rfl (Nat.le_of_ble_eq_true rfl) dX4_setRoles_13 ⟨(Nat.le_of_ble_eq_true rfl), (Nat.le_of_ble_eq_true rfl)⟩ (fun E ce q9 H locs hx => False.elim hx) (fun v u H locs hp hP hD hS => ?_)
    obtain rfl := hp
    have hP : va_P D vwCl (mw cI cZ o (va_up J 30 (nI 0)) Z) H := hP
    have hD : va_D A (mw cI cZ o (va_up J 30 (nI 0)) Z) := hD
    refine q_top (v2 := .int (nI 1)) rfl ?_
    refine lv_if_eq (tgt := 33) B.hx B.hb dX4_setRoles_16 (by decide) (fun c2 => absurd c2 (by decide)) (fun _ => ?_)
    refine lv_aload_n B.hx B.hb dX4_setRoles_19 rfl (lv_at hl 0 rfl) ?_
    refine q_get B hP (C := RX4) (ref := "PaperKeeperModel") (T := TX4) (N := 31) (ci := 4) hi4 rfl 0 rfl 2 (by decide) (by decide +kernel) rfl (v := .ref (o 2)) rfl dX4_setRoles_20 ?_
    refine lv_iload_n B.hx B.hb dX4_setRoles_23 rfl (lv_at hl 1 rfl) ?_
    refine lv_iload_n B.hx B.hb dX4_setRoles_24 rfl (lv_at hl 2 rfl) ?_
    refine q_zast B hP hD hS 1 rfl (j := j2) rfl (by omega) (by decide) (nar_b hr1) dX4_setRoles_25 (w' := mw cI cZ o (va_up J 30 (nI 0)) (va_up Z 2 (upd (Z 2) j2 r1))) rfl (fun H locs hP hD hS => ?_)
    refine lv_aload_n B.hx B.hb dX4_setRoles_26 rfl (lv_at hl 0 rfl) ?_
    refine q_get B hP (C := RX4) (ref := "PaperKeeperModel") (T := TX4) (N := 31) (ci := 4) hi4 rfl 0 rfl 3 (by decide) (by decide +kernel) rfl (v := .ref (o 3)) rfl dX4_setRoles_27 ?_
    refine lv_iload_n B.hx B.hb dX4_setRoles_30 rfl (lv_at hl 1 rfl) ?_
    refine lv_iload_n B.hx B.hb dX4_setRoles_31 rfl (lv_at hl 3 rfl) ?_
    refine q_zast B hP hD hS 2 rfl (j := j2) rfl (by omega) (by decide) (nar_b hr2) dX4_setRoles_32 (w' := mw cI cZ o (va_up J 30 (nI 0)) (va_up (va_up Z 2 (upd (Z 2) j2 r1)) 3 (upd (Z 3) j2 r2))) rfl (fun H locs hP hD hS => ?_)
    have hK : kSetRoles (nI j2) = 0 := by simp [kSetRoles, hrg0, hixj2, hnmj2]
    exact q_vret B hr hP hD hS (u := ()) (by rw [hK] <;> first | rfl | (simp only [if_true, hixj2] <;> rfl)) rfl (Nat.le_of_ble_eq_true rfl) (Nat.le_of_ble_eq_true rfl) dX4_setRoles_33
  · have hP : va_P D vwCl (mw cI cZ o J Z) H := hP
    have hD : va_D A (mw cI cZ o J Z) := hD
    refine lv_if_eq (tgt := 12) B.hx B.hb dX4_setRoles_5 (by decide) (fun _ => ?_) (fun c3 => absurd c3 (by decide))
    refine lv_iconst (v := (nI 1)) B.hx B.hb dX4_setRoles_12 (by decide) ?_
    refine q_callV (As := [.int (nI 1)]) (rest := []) B hP hD hS (c4_can l D cI cZ cP cJ o J Z (nI 1)) (cwV 1 B.hts gX4_setRoles_X4_can rfl rfl rfl (by decide +kernel) ⟨(Nat.le_of_ble_eq_true rfl), (Nat.le_of_ble_eq_true rfl)⟩) 0 4 rfl rfl rfl rfl hl.1 rfl (Nat.le_of_ble_eq_true rfl) dX4_setRoles_13 ⟨(Nat.le_of_ble_eq_true rfl), (Nat.le_of_ble_eq_true rfl)⟩ (fun E ce q9 H locs hx => False.elim hx) (fun v u H locs hp hP hD hS => ?_)
    obtain rfl := hp
    have hP : va_P D vwCl (mw cI cZ o (va_up J 30 (nI 1)) Z) H := hP
    have hD : va_D A (mw cI cZ o (va_up J 30 (nI 1)) Z) := hD
    refine q_top (v2 := .int (nI 0)) rfl ?_
    refine lv_if_eq (tgt := 33) B.hx B.hb dX4_setRoles_16 (by decide) (fun _ => ?_) (fun c4 => absurd c4 (by decide))
    have hK : kSetRoles x = 1 := by simp [kSetRoles, hrg0]
    exact q_vret B hr hP hD hS (u := ()) (by rw [hK] <;> first | rfl | (simp only [if_true] <;> rfl)) rfl (Nat.le_of_ble_eq_true rfl) (Nat.le_of_ble_eq_true rfl) dX4_setRoles_33
set_option maxHeartbeats 4000000 in
set_option maxRecDepth 100000 in
theorem c4_setDeputy (l : Launch) (D : va_G) (cI cZ cP cJ : ClassId) (o : Nat → Nat) (J : Nat → Int32) (Z : Nat → Nat → Int32) (n : Nat) (hn : J 5 = nI n) (hn8 : n ≤ 8) (x y : Int32) : q_C l yX4_setDeputy wsX4_setDeputy ({ frames := 2, cells := 0, slots := 0, locals := 42 }) D cI cZ cP cJ [.ref (o 0), .int x, .int y] (mw cI cZ o J Z) (S := Unit) (fun v _ => v = some (.int (if kSetDeputy x y = 0 then Z 4 (ix x) else nI 0))) (fun _ => mw cI cZ o (va_up J 30 (nI (kSetDeputy x y))) (if kSetDeputy x y = 0 then (va_up Z 4 (upd (Z 4) (ix x) y)) else Z)) (fun _ => False) 0 0 := by
  refine q_of (cc := cX4_setDeputy) (maxL := 4) (ret := (some .int)) (by decide +kernel) rfl (Nat.le_of_ble_eq_true rfl) ?_
  intro p e s m below meth c A ls B hr htb hmn hP hD hS hl
  have hl : lv_has ls 4 [(0, .ref (o 0)), (1, .int x), (2, .int y)] := hl
  have hi4 : ∀ w ∈ u_ws RX4 TX4 31, w ∈ wsX4_setDeputy := by decide +kernel
  refine lv_aload_n B.hx B.hb dX4_setDeputy_0 rfl (lv_at hl 0 rfl) ?_
  refine lv_iload_n B.hx B.hb dX4_setDeputy_1 rfl (lv_at hl 1 rfl) ?_
  refine q_callS (As := [.int x]) (rest := [.ref (o 0)]) B hP hD hS ((c4_isPerson l D cI cZ cP cJ x).fr0 (mw cI cZ o J Z)) (cwS 1 B.hts gX4_setDeputy_X4_isPerson rfl rfl rfl (by decide +kernel) ⟨(Nat.le_of_ble_eq_true rfl), (Nat.le_of_ble_eq_true rfl)⟩) rfl hl.1 rfl (Nat.le_of_ble_eq_true rfl) dX4_setDeputy_2 ⟨(Nat.le_of_ble_eq_true rfl), (Nat.le_of_ble_eq_true rfl)⟩ (fun E ce q9 H locs hx => False.elim hx) (fun v u H locs hp hP hD hS => ?_)
  replace hp := bI2 hp
  rcases hp with ⟨rfl, hrg0⟩ | ⟨rfl, hrg0⟩
  · have hP : va_P D vwCl (mw cI cZ o J Z) H := hP
    have hD : va_D A (mw cI cZ o J Z) := hD
    obtain ⟨j2, hjj2, rfl⟩ := rg_j (by decide) hrg0
    have hixj2 : ix (nI j2) = j2 := ix_nI (by omega)
    have hnmj2 : ¬ nI j2 = -1 := nI_nm1 (by omega)
    refine lv_if_eq (tgt := 26) B.hx B.hb dX4_setDeputy_5 (by decide) (fun c1 => absurd c1 (by decide)) (fun _ => ?_)
    refine lv_iload_n B.hx B.hb dX4_setDeputy_8 rfl (lv_at hl 2 rfl) ?_
    refine lv_iconst (v := (-1)) B.hx B.hb dX4_setDeputy_9 (by decide) ?_
    refine lv_iconst (v := (nI 5)) B.hx B.hb dX4_setDeputy_10 (by decide) ?_
    refine q_callS (As := [.int y, .int (-1), .int (nI 5)]) (rest := [.ref (o 0)]) B hP hD hS ((c4_isIn l D cI cZ cP cJ y (-1) (nI 5)).fr0 (mw cI cZ o J Z)) (cwS 3 B.hts gX4_setDeputy_X4_isIn rfl rfl rfl (by decide +kernel) ⟨(Nat.le_of_ble_eq_true rfl), (Nat.le_of_ble_eq_true rfl)⟩) rfl hl.1 rfl (Nat.le_of_ble_eq_true rfl) dX4_setDeputy_11 ⟨(Nat.le_of_ble_eq_true rfl), (Nat.le_of_ble_eq_true rfl)⟩ (fun E ce q9 H locs hx => False.elim hx) (fun v u H locs hp hP hD hS => ?_)
    replace hp := bI2 hp
    rcases hp with ⟨rfl, hrg1⟩ | ⟨rfl, hrg1⟩
    · have hP : va_P D vwCl (mw cI cZ o J Z) H := hP
      have hD : va_D A (mw cI cZ o J Z) := hD
      replace hrg1 := rgm_t hrg1
      refine lv_if_eq (tgt := 26) B.hx B.hb dX4_setDeputy_14 (by decide) (fun c2 => absurd c2 (by decide)) (fun _ => ?_)
      refine lv_iload_n B.hx B.hb dX4_setDeputy_17 rfl (lv_at hl 1 rfl) ?_
      refine lv_iload_n B.hx B.hb dX4_setDeputy_18 rfl (lv_at hl 2 rfl) ?_
      refine lv_icmp_eq (tgt := 26) B.hx B.hb dX4_setDeputy_19 (by decide) (fun c3 => ?_) (fun c3 => ?_)
      · refine lv_iconst (v := (nI 1)) B.hx B.hb dX4_setDeputy_26 (by decide) ?_
        refine q_callV (As := [.int (nI 1)]) (rest := []) B hP hD hS (c4_can l D cI cZ cP cJ o J Z (nI 1)) (cwV 1 B.hts gX4_setDeputy_X4_can rfl rfl rfl (by decide +kernel) ⟨(Nat.le_of_ble_eq_true rfl), (Nat.le_of_ble_eq_true rfl)⟩) 0 4 rfl rfl rfl rfl hl.1 rfl (Nat.le_of_ble_eq_true rfl) dX4_setDeputy_27 ⟨(Nat.le_of_ble_eq_true rfl), (Nat.le_of_ble_eq_true rfl)⟩ (fun E ce q9 H locs hx => False.elim hx) (fun v u H locs hp hP hD hS => ?_)
        obtain rfl := hp
        have hP : va_P D vwCl (mw cI cZ o (va_up J 30 (nI 1)) Z) H := hP
        have hD : va_D A (mw cI cZ o (va_up J 30 (nI 1)) Z) := hD
        refine q_top (v2 := .int (nI 0)) rfl ?_
        refine lv_if_ne (tgt := 35) B.hx B.hb dX4_setDeputy_30 (by decide) (fun c4 => absurd c4 (by decide)) (fun _ => ?_)
        refine lv_iconst (v := (nI 0)) B.hx B.hb dX4_setDeputy_33 (by decide) ?_
        have hK : kSetDeputy (nI j2) y = 1 := by simp [kSetDeputy, hrg0, hrg1, c3, hixj2, hnmj2]
        exact q_iret B hr hP hD hS (u := ()) (by rw [hK] <;> first | rfl | (simp only [if_true, hixj2] <;> rfl)) (by rw [hK] <;> first | rfl | (simp only [if_true, hixj2] <;> rfl)) (Nat.le_of_ble_eq_true rfl) (Nat.le_of_ble_eq_true rfl) dX4_setDeputy_34
      · refine lv_iconst (v := (nI 0)) B.hx B.hb dX4_setDeputy_22 (by decide) ?_
        refine lv_goto (tgt := 27) B.hx B.hb dX4_setDeputy_23 (by decide) ?_
        refine q_callV (As := [.int (nI 0)]) (rest := []) B hP hD hS (c4_can l D cI cZ cP cJ o J Z (nI 0)) (cwV 1 B.hts gX4_setDeputy_X4_can rfl rfl rfl (by decide +kernel) ⟨(Nat.le_of_ble_eq_true rfl), (Nat.le_of_ble_eq_true rfl)⟩) 0 4 rfl rfl rfl rfl hl.1 rfl (Nat.le_of_ble_eq_true rfl) dX4_setDeputy_27 ⟨(Nat.le_of_ble_eq_true rfl), (Nat.le_of_ble_eq_true rfl)⟩ (fun E ce q9 H locs hx => False.elim hx) (fun v u H locs hp hP hD hS => ?_)
        obtain rfl := hp
        have hP : va_P D vwCl (mw cI cZ o (va_up J 30 (nI 0)) Z) H := hP
        have hD : va_D A (mw cI cZ o (va_up J 30 (nI 0)) Z) := hD
        refine q_top (v2 := .int (nI 1)) rfl ?_
        refine lv_if_ne (tgt := 35) B.hx B.hb dX4_setDeputy_30 (by decide) (fun _ => ?_) (fun c5 => absurd c5 (by decide))
        refine lv_aload_n B.hx B.hb dX4_setDeputy_35 rfl (lv_at hl 0 rfl) ?_
        refine q_get B hP (C := RX4) (ref := "PaperKeeperModel") (T := TX4) (N := 31) (ci := 4) hi4 rfl 0 rfl 4 (by decide) (by decide +kernel) rfl (v := .ref (o 4)) rfl dX4_setDeputy_36 ?_
        refine lv_iload_n B.hx B.hb dX4_setDeputy_39 rfl (lv_at hl 1 rfl) ?_
        refine q_iald (f := (Z 4)) B hP 3 rfl (j := j2) rfl (by omega) (by decide) dX4_setDeputy_40 ?_
        refine lv_istore_n (lv' := [(3, .int ((Z 4) j2)), (0, .ref (o 0)), (1, .int (nI j2)), (2, .int y)]) B.hx B.hb dX4_setDeputy_41 rfl hl (by decide) rfl (fun ls hl => ?_)
        refine lv_aload_n B.hx B.hb dX4_setDeputy_42 rfl (lv_at hl 1 rfl) ?_
        refine q_get B hP (C := RX4) (ref := "PaperKeeperModel") (T := TX4) (N := 31) (ci := 4) hi4 rfl 0 rfl 4 (by decide) (by decide +kernel) rfl (v := .ref (o 4)) rfl dX4_setDeputy_43 ?_
        refine lv_iload_n B.hx B.hb dX4_setDeputy_46 rfl (lv_at hl 2 rfl) ?_
        refine lv_iload_n B.hx B.hb dX4_setDeputy_47 rfl (lv_at hl 3 rfl) ?_
        refine q_iast B hP hD hS 3 rfl (j := j2) rfl (by omega) (by decide) dX4_setDeputy_48 (w' := mw cI cZ o (va_up J 30 (nI 0)) (va_up Z 4 (upd (Z 4) j2 y))) rfl (fun H locs hP hD hS => ?_)
        refine lv_iload_n B.hx B.hb dX4_setDeputy_49 rfl (lv_at hl 0 rfl) ?_
        have hK : kSetDeputy (nI j2) y = 0 := by simp [kSetDeputy, hrg0, hrg1, c3, hixj2, hnmj2]
        exact q_iret B hr hP hD hS (u := ()) (by rw [hK] <;> first | rfl | (simp only [if_true, hixj2] <;> rfl)) (by rw [hK] <;> first | rfl | (simp only [if_true, hixj2] <;> rfl)) (Nat.le_of_ble_eq_true rfl) (Nat.le_of_ble_eq_true rfl) dX4_setDeputy_50
    · have hP : va_P D vwCl (mw cI cZ o J Z) H := hP
      have hD : va_D A (mw cI cZ o J Z) := hD
      replace hrg1 := rgm_f hrg1
      refine lv_if_eq (tgt := 26) B.hx B.hb dX4_setDeputy_14 (by decide) (fun _ => ?_) (fun c6 => absurd c6 (by decide))
      refine lv_iconst (v := (nI 1)) B.hx B.hb dX4_setDeputy_26 (by decide) ?_
      refine q_callV (As := [.int (nI 1)]) (rest := []) B hP hD hS (c4_can l D cI cZ cP cJ o J Z (nI 1)) (cwV 1 B.hts gX4_setDeputy_X4_can rfl rfl rfl (by decide +kernel) ⟨(Nat.le_of_ble_eq_true rfl), (Nat.le_of_ble_eq_true rfl)⟩) 0 4 rfl rfl rfl rfl hl.1 rfl (Nat.le_of_ble_eq_true rfl) dX4_setDeputy_27 ⟨(Nat.le_of_ble_eq_true rfl), (Nat.le_of_ble_eq_true rfl)⟩ (fun E ce q9 H locs hx => False.elim hx) (fun v u H locs hp hP hD hS => ?_)
      obtain rfl := hp
      have hP : va_P D vwCl (mw cI cZ o (va_up J 30 (nI 1)) Z) H := hP
      have hD : va_D A (mw cI cZ o (va_up J 30 (nI 1)) Z) := hD
      refine q_top (v2 := .int (nI 0)) rfl ?_
      refine lv_if_ne (tgt := 35) B.hx B.hb dX4_setDeputy_30 (by decide) (fun c7 => absurd c7 (by decide)) (fun _ => ?_)
      refine lv_iconst (v := (nI 0)) B.hx B.hb dX4_setDeputy_33 (by decide) ?_
      have hK : kSetDeputy (nI j2) y = 1 := by simp [kSetDeputy, hrg0, hrg1, hixj2, hnmj2]
      exact q_iret B hr hP hD hS (u := ()) (by rw [hK] <;> first | rfl | (simp only [if_true, hixj2] <;> rfl)) (by rw [hK] <;> first | rfl | (simp only [if_true, hixj2] <;> rfl)) (Nat.le_of_ble_eq_true rfl) (Nat.le_of_ble_eq_true rfl) dX4_setDeputy_34
  · have hP : va_P D vwCl (mw cI cZ o J Z) H := hP
    have hD : va_D A (mw cI cZ o J Z) := hD
    refine lv_if_eq (tgt := 26) B.hx B.hb dX4_setDeputy_5 (by decide) (fun _ => ?_) (fun c8 => absurd c8 (by decide))
    refine lv_iconst (v := (nI 1)) B.hx B.hb dX4_setDeputy_26 (by decide) ?_
    refine q_callV (As := [.int (nI 1)]) (rest := []) B hP hD hS (c4_can l D cI cZ cP cJ o J Z (nI 1)) (cwV 1 B.hts gX4_setDeputy_X4_can rfl rfl rfl (by decide +kernel) ⟨(Nat.le_of_ble_eq_true rfl), (Nat.le_of_ble_eq_true rfl)⟩) 0 4 rfl rfl rfl rfl hl.1 rfl (Nat.le_of_ble_eq_true rfl) dX4_setDeputy_27 ⟨(Nat.le_of_ble_eq_true rfl), (Nat.le_of_ble_eq_true rfl)⟩ (fun E ce q9 H locs hx => False.elim hx) (fun v u H locs hp hP hD hS => ?_)
    obtain rfl := hp
    have hP : va_P D vwCl (mw cI cZ o (va_up J 30 (nI 1)) Z) H := hP
    have hD : va_D A (mw cI cZ o (va_up J 30 (nI 1)) Z) := hD
    refine q_top (v2 := .int (nI 0)) rfl ?_
    refine lv_if_ne (tgt := 35) B.hx B.hb dX4_setDeputy_30 (by decide) (fun c9 => absurd c9 (by decide)) (fun _ => ?_)
    refine lv_iconst (v := (nI 0)) B.hx B.hb dX4_setDeputy_33 (by decide) ?_
    have hK : kSetDeputy x y = 1 := by simp [kSetDeputy, hrg0]
    exact q_iret B hr hP hD hS (u := ()) (by rw [hK] <;> first | rfl | (simp only [if_true] <;> rfl)) (by rw [hK] <;> first | rfl | (simp only [if_true] <;> rfl)) (Nat.le_of_ble_eq_true rfl) (Nat.le_of_ble_eq_true rfl) dX4_setDeputy_34
set_option maxHeartbeats 4000000 in
set_option maxRecDepth 100000 in
theorem c4_open (l : Launch) (D : va_G) (cI cZ cP cJ : ClassId) (o : Nat → Nat) (J : Nat → Int32) (Z : Nat → Nat → Int32) (n : Nat) (hn : J 5 = nI n) (hn8 : n ≤ 8) (x : Int32) (hx : x = 0 ∨ x = 1) : q_C l yX4_open wsX4_open ({ frames := 1, cells := 0, slots := 0, locals := 21 }) D cI cZ cP cJ [.ref (o 0), .int x] (mw cI cZ o J Z) (S := Unit) (fun v _ => v = some (.int (if kOpen n = 0 then nI n else nI 0))) (fun _ => mw cI cZ o (va_up (if kOpen n = 0 then (va_up J 5 (nI (n + 1))) else J) 30 (nI (kOpen n))) (if kOpen n = 0 then (va_up Z 6 (upd (Z 6) n x)) else Z)) (fun _ => False) 0 0 := by
  refine q_of (cc := cX4_open) (maxL := 2) (ret := (some .int)) (by decide +kernel) rfl (Nat.le_of_ble_eq_true rfl) ?_
  intro p e s m below meth c A ls B hr htb hmn hP hD hS hl
  have hl : lv_has ls 2 [(0, .ref (o 0)), (1, .int x)] := hl
  have hi4 : ∀ w ∈ u_ws RX4 TX4 31, w ∈ wsX4_open := by decide +kernel
  refine lv_aload_n B.hx B.hb dX4_open_0 rfl (lv_at hl 0 rfl) ?_
  refine lv_aload_n B.hx B.hb dX4_open_1 rfl (lv_at hl 0 rfl) ?_
  refine q_get B hP (C := RX4) (ref := "PaperKeeperModel") (T := TX4) (N := 31) (ci := 4) hi4 rfl 0 rfl 5 (by decide) (by decide +kernel) rfl (v := .int (J 5)) rfl dX4_open_2 ?_
  refine q_top (v2 := .int (nI n)) (congrArg Value.int hn) ?_
  refine lv_bipush (v := (nI 8)) B.hx B.hb dX4_open_5 (by decide) ?_
  refine lv_icmp_ne (tgt := 14) B.hx B.hb dX4_open_7 (by decide) (fun c1 => ?_) (fun c1 => ?_)
  · replace c1 := mt (nI_eq (by omega) (by omega)).mpr c1
    refine lv_iconst (v := (nI 0)) B.hx B.hb dX4_open_14 (by decide) ?_
    refine q_callV (As := [.int (nI 0)]) (rest := []) B hP hD hS (c4_can l D cI cZ cP cJ o J Z (nI 0)) (cwV 1 B.hts gX4_open_X4_can rfl rfl rfl (by decide +kernel) ⟨(Nat.le_of_ble_eq_true rfl), (Nat.le_of_ble_eq_true rfl)⟩) 0 4 rfl rfl rfl rfl hl.1 rfl (Nat.le_of_ble_eq_true rfl) dX4_open_15 ⟨(Nat.le_of_ble_eq_true rfl), (Nat.le_of_ble_eq_true rfl)⟩ (fun E ce q9 H locs hx => False.elim hx) (fun v u H locs hp hP hD hS => ?_)
    obtain rfl := hp
    have hP : va_P D vwCl (mw cI cZ o (va_up J 30 (nI 0)) Z) H := hP
    have hD : va_D A (mw cI cZ o (va_up J 30 (nI 0)) Z) := hD
    refine q_top (v2 := .int (nI 1)) rfl ?_
    refine lv_if_ne (tgt := 23) B.hx B.hb dX4_open_18 (by decide) (fun _ => ?_) (fun c2 => absurd c2 (by decide))
    refine lv_aload_n B.hx B.hb dX4_open_23 rfl (lv_at hl 0 rfl) ?_
    refine q_get B hP (C := RX4) (ref := "PaperKeeperModel") (T := TX4) (N := 31) (ci := 4) hi4 rfl 0 rfl 6 (by decide) (by decide +kernel) rfl (v := .ref (o 6)) rfl dX4_open_24 ?_
    refine lv_aload_n B.hx B.hb dX4_open_27 rfl (lv_at hl 0 rfl) ?_
    refine q_get B hP (C := RX4) (ref := "PaperKeeperModel") (T := TX4) (N := 31) (ci := 4) hi4 rfl 0 rfl 5 (by decide) (by decide +kernel) rfl (v := .int (J 5)) rfl dX4_open_28 ?_
    refine q_top (v2 := .int (nI n)) (congrArg Value.int hn) ?_
    refine lv_iload_n B.hx B.hb dX4_open_31 rfl (lv_at hl 1 rfl) ?_
    refine q_zast B hP hD hS 4 rfl (j := n) rfl (by omega) (by decide) (nar_b hx) dX4_open_32 (w' := mw cI cZ o (va_up J 30 (nI 0)) (va_up Z 6 (upd (Z 6) n x))) rfl (fun H locs hP hD hS => ?_)
    refine lv_aload_n B.hx B.hb dX4_open_33 rfl (lv_at hl 0 rfl) ?_
    refine lv_dup B.hx B.hb dX4_open_34 rfl ?_
    refine q_get B hP (C := RX4) (ref := "PaperKeeperModel") (T := TX4) (N := 31) (ci := 4) hi4 rfl 0 rfl 5 (by decide) (by decide +kernel) rfl (v := .int (J 5)) rfl dX4_open_35 ?_
    refine q_top (v2 := .int (nI n)) (congrArg Value.int hn) ?_
    refine lv_iconst (v := (nI 1)) B.hx B.hb dX4_open_38 (by decide) ?_
    refine lv_iadd B.hx B.hb dX4_open_39 ?_
    refine q_top (v2 := .int (nI ((n + 1)))) (congrArg Value.int (nI_add _ _)) ?_
    refine q_put B hP hD hS (C := RX4) (ref := "PaperKeeperModel") (T := TX4) (N := 31) (ci := 4) hi4 rfl tyX4 tyX4_ok nmX4 0 rfl 5 (by decide) (by decide +kernel) rfl rfl rfl (by rfl) (Nat.le_of_ble_eq_true rfl) dX4_open_40 (w' := mw cI cZ o (va_up (va_up J 5 (nI ((n + 1)))) 30 (nI 0)) (va_up Z 6 (upd (Z 6) n x))) rfl (fun H locs hP hD hS => ?_)
    refine lv_aload_n B.hx B.hb dX4_open_43 rfl (lv_at hl 0 rfl) ?_
    refine q_get B hP (C := RX4) (ref := "PaperKeeperModel") (T := TX4) (N := 31) (ci := 4) hi4 rfl 0 rfl 5 (by decide) (by decide +kernel) rfl (v := .int (nI ((n + 1)))) rfl dX4_open_44 ?_
    refine lv_iconst (v := (nI 1)) B.hx B.hb dX4_open_47 (by decide) ?_
    refine lv_isub B.hx B.hb dX4_open_48 ?_
    refine q_top (v2 := .int (nI n)) (congrArg Value.int (nI_pred _)) ?_
    have hK : kOpen n = 0 := by simp [kOpen, c1] <;> omega
    exact q_iret B hr hP hD hS (u := ()) (by rw [hK] <;> first | rfl | (simp only [if_true] <;> rfl)) (by rw [hK] <;> first | rfl | (simp only [if_true] <;> rfl)) (Nat.le_of_ble_eq_true rfl) (Nat.le_of_ble_eq_true rfl) dX4_open_49
  · replace c1 := (nI_eq (by omega) (by omega)).mp c1
    refine lv_iconst (v := (nI 1)) B.hx B.hb dX4_open_10 (by decide) ?_
    refine lv_goto (tgt := 15) B.hx B.hb dX4_open_11 (by decide) ?_
    refine q_callV (As := [.int (nI 1)]) (rest := []) B hP hD hS (c4_can l D cI cZ cP cJ o J Z (nI 1)) (cwV 1 B.hts gX4_open_X4_can rfl rfl rfl (by decide +kernel) ⟨(Nat.le_of_ble_eq_true rfl), (Nat.le_of_ble_eq_true rfl)⟩) 0 4 rfl rfl rfl rfl hl.1 rfl (Nat.le_of_ble_eq_true rfl) dX4_open_15 ⟨(Nat.le_of_ble_eq_true rfl), (Nat.le_of_ble_eq_true rfl)⟩ (fun E ce q9 H locs hx => False.elim hx) (fun v u H locs hp hP hD hS => ?_)
    obtain rfl := hp
    have hP : va_P D vwCl (mw cI cZ o (va_up J 30 (nI 1)) Z) H := hP
    have hD : va_D A (mw cI cZ o (va_up J 30 (nI 1)) Z) := hD
    refine q_top (v2 := .int (nI 0)) rfl ?_
    refine lv_if_ne (tgt := 23) B.hx B.hb dX4_open_18 (by decide) (fun c3 => absurd c3 (by decide)) (fun _ => ?_)
    refine lv_iconst (v := (nI 0)) B.hx B.hb dX4_open_21 (by decide) ?_
    have hK : kOpen n = 1 := by simp [kOpen, c1] <;> omega
    exact q_iret B hr hP hD hS (u := ()) (by rw [hK] <;> first | rfl | (simp only [if_true] <;> rfl)) (by rw [hK] <;> first | rfl | (simp only [if_true] <;> rfl)) (Nat.le_of_ble_eq_true rfl) (Nat.le_of_ble_eq_true rfl) dX4_open_22
set_option maxHeartbeats 4000000 in
set_option maxRecDepth 100000 in
theorem c4_setInterval (l : Launch) (D : va_G) (cI cZ cP cJ : ClassId) (o : Nat → Nat) (J : Nat → Int32) (Z : Nat → Nat → Int32) (n : Nat) (hn : J 5 = nI n) (hn8 : n ≤ 8) (x : Int32) : q_C l yX4_setInterval wsX4_setInterval ({ frames := 1, cells := 0, slots := 0, locals := 22 }) D cI cZ cP cJ [.ref (o 0), .int x] (mw cI cZ o J Z) (S := Unit) (fun v _ => v = some (.int (if kSetInterval x = 0 then J 1 else nI 0))) (fun _ => mw cI cZ o (va_up (if kSetInterval x = 0 then (va_up J 1 x) else J) 30 (nI (kSetInterval x))) Z) (fun _ => False) 0 0 := by
  refine q_of (cc := cX4_setInterval) (maxL := 3) (ret := (some .int)) (by decide +kernel) rfl (Nat.le_of_ble_eq_true rfl) ?_
  intro p e s m below meth c A ls B hr htb hmn hP hD hS hl
  have hl : lv_has ls 3 [(0, .ref (o 0)), (1, .int x)] := hl
  have hi4 : ∀ w ∈ u_ws RX4 TX4 31, w ∈ wsX4_setInterval := by decide +kernel
  refine lv_aload_n B.hx B.hb dX4_setInterval_0 rfl (lv_at hl 0 rfl) ?_
  refine lv_iload_n B.hx B.hb dX4_setInterval_1 rfl (lv_at hl 1 rfl) ?_
  refine lv_iconst (v := (nI 1)) B.hx B.hb dX4_setInterval_2 (by decide) ?_
  refine lv_bipush (v := (nI 100)) B.hx B.hb dX4_setInterval_3 (by decide) ?_
  refine q_callS (As := [.int x, .int (nI 1), .int (nI 100)]) (rest := [.ref (o 0)]) B hP hD hS ((c4_isIn l D cI cZ cP cJ x (nI 1) (nI 100)).fr0 (mw cI cZ o J Z)) (cwS 3 B.hts gX4_setInterval_X4_isIn rfl rfl rfl (by decide +kernel) ⟨(Nat.le_of_ble_eq_true rfl), (Nat.le_of_ble_eq_true rfl)⟩) rfl hl.1 rfl (Nat.le_of_ble_eq_true rfl) dX4_setInterval_5 ⟨(Nat.le_of_ble_eq_true rfl), (Nat.le_of_ble_eq_true rfl)⟩ (fun E ce q9 H locs hx => False.elim hx) (fun v u H locs hp hP hD hS => ?_)
  replace hp := bI2 hp
  rcases hp with ⟨rfl, hrg0⟩ | ⟨rfl, hrg0⟩
  · have hP : va_P D vwCl (mw cI cZ o J Z) H := hP
    have hD : va_D A (mw cI cZ o J Z) := hD
    refine lv_if_eq (tgt := 15) B.hx B.hb dX4_setInterval_8 (by decide) (fun c1 => absurd c1 (by decide)) (fun _ => ?_)
    refine lv_iconst (v := (nI 0)) B.hx B.hb dX4_setInterval_11 (by decide) ?_
    refine lv_goto (tgt := 16) B.hx B.hb dX4_setInterval_12 (by decide) ?_
    refine q_callV (As := [.int (nI 0)]) (rest := []) B hP hD hS (c4_can l D cI cZ cP cJ o J Z (nI 0)) (cwV 1 B.hts gX4_setInterval_X4_can rfl rfl rfl (by decide +kernel) ⟨(Nat.le_of_ble_eq_true rfl), (Nat.le_of_ble_eq_true rfl)⟩) 0 4 rfl rfl rfl rfl hl.1 rfl (Nat.le_of_ble_eq_true rfl) dX4_setInterval_16 ⟨(Nat.le_of_ble_eq_true rfl), (Nat.le_of_ble_eq_true rfl)⟩ (fun E ce q9 H locs hx => False.elim hx) (fun v u H locs hp hP hD hS => ?_)
    obtain rfl := hp
    have hP : va_P D vwCl (mw cI cZ o (va_up J 30 (nI 0)) Z) H := hP
    have hD : va_D A (mw cI cZ o (va_up J 30 (nI 0)) Z) := hD
    refine q_top (v2 := .int (nI 1)) rfl ?_
    refine lv_if_ne (tgt := 24) B.hx B.hb dX4_setInterval_19 (by decide) (fun _ => ?_) (fun c2 => absurd c2 (by decide))
    refine lv_aload_n B.hx B.hb dX4_setInterval_24 rfl (lv_at hl 0 rfl) ?_
    refine q_get B hP (C := RX4) (ref := "PaperKeeperModel") (T := TX4) (N := 31) (ci := 4) hi4 rfl 0 rfl 1 (by decide) (by decide +kernel) rfl (v := .int (J 1)) rfl dX4_setInterval_25 ?_
    refine lv_istore_n (lv' := [(2, .int (J 1)), (0, .ref (o 0)), (1, .int x)]) B.hx B.hb dX4_setInterval_28 rfl hl (by decide) rfl (fun ls hl => ?_)
    refine lv_aload_n B.hx B.hb dX4_setInterval_29 rfl (lv_at hl 1 rfl) ?_
    refine lv_iload_n B.hx B.hb dX4_setInterval_30 rfl (lv_at hl 2 rfl) ?_
    refine q_put B hP hD hS (C := RX4) (ref := "PaperKeeperModel") (T := TX4) (N := 31) (ci := 4) hi4 rfl tyX4 tyX4_ok nmX4 0 rfl 1 (by decide) (by decide +kernel) rfl rfl rfl (by rfl) (Nat.le_of_ble_eq_true rfl) dX4_setInterval_31 (w' := mw cI cZ o (va_up (va_up J 1 x) 30 (nI 0)) Z) rfl (fun H locs hP hD hS => ?_)
    refine lv_iload_n B.hx B.hb dX4_setInterval_34 rfl (lv_at hl 0 rfl) ?_
    have hK : kSetInterval x = 0 := by simp [kSetInterval, hrg0]
    exact q_iret B hr hP hD hS (u := ()) (by rw [hK] <;> first | rfl | (simp only [if_true] <;> rfl)) (by rw [hK] <;> first | rfl | (simp only [if_true] <;> rfl)) (Nat.le_of_ble_eq_true rfl) (Nat.le_of_ble_eq_true rfl) dX4_setInterval_35
  · have hP : va_P D vwCl (mw cI cZ o J Z) H := hP
    have hD : va_D A (mw cI cZ o J Z) := hD
    refine lv_if_eq (tgt := 15) B.hx B.hb dX4_setInterval_8 (by decide) (fun _ => ?_) (fun c3 => absurd c3 (by decide))
    refine lv_iconst (v := (nI 1)) B.hx B.hb dX4_setInterval_15 (by decide) ?_
    refine q_callV (As := [.int (nI 1)]) (rest := []) B hP hD hS (c4_can l D cI cZ cP cJ o J Z (nI 1)) (cwV 1 B.hts gX4_setInterval_X4_can rfl rfl rfl (by decide +kernel) ⟨(Nat.le_of_ble_eq_true rfl), (Nat.le_of_ble_eq_true rfl)⟩) 0 4 rfl rfl rfl rfl hl.1 rfl (Nat.le_of_ble_eq_true rfl) dX4_setInterval_16 ⟨(Nat.le_of_ble_eq_true rfl), (Nat.le_of_ble_eq_true rfl)⟩ (fun E ce q9 H locs hx => False.elim hx) (fun v u H locs hp hP hD hS => ?_)
    obtain rfl := hp
    have hP : va_P D vwCl (mw cI cZ o (va_up J 30 (nI 1)) Z) H := hP
    have hD : va_D A (mw cI cZ o (va_up J 30 (nI 1)) Z) := hD
    refine q_top (v2 := .int (nI 0)) rfl ?_
    refine lv_if_ne (tgt := 24) B.hx B.hb dX4_setInterval_19 (by decide) (fun c4 => absurd c4 (by decide)) (fun _ => ?_)
    refine lv_iconst (v := (nI 0)) B.hx B.hb dX4_setInterval_22 (by decide) ?_
    have hK : kSetInterval x = 1 := by simp [kSetInterval, hrg0]
    exact q_iret B hr hP hD hS (u := ()) (by rw [hK] <;> first | rfl | (simp only [if_true] <;> rfl)) (by rw [hK] <;> first | rfl | (simp only [if_true] <;> rfl)) (Nat.le_of_ble_eq_true rfl) (Nat.le_of_ble_eq_true rfl) dX4_setInterval_23
set_option maxHeartbeats 4000000 in
set_option maxRecDepth 100000 in
theorem c4_hang (l : Launch) (D : va_G) (cI cZ cP cJ : ClassId) (o : Nat → Nat) (J : Nat → Int32) (Z : Nat → Nat → Int32) (n : Nat) (hn : J 5 = nI n) (hn8 : n ≤ 8) (j : Nat) (hj : j < n) (y : Nat) (hy : y < n) : q_C l yX4_hang wsX4_hang ({ frames := 2, cells := 0, slots := 0, locals := 43 }) D cI cZ cP cJ [.ref (o 0), .int (nI j), .int (nI y)] (mw cI cZ o J Z) (S := Unit) (fun v _ => v = some (.int (if kHang (nI j) (nI y) = 0 then nI (pN (fun i => decide (¬ (upd (Z 7) (8 * j + y) (nI 1)) (8 * j + i) = 0)) n) else nI 0))) (fun _ => mw cI cZ o (va_up J 30 (nI (kHang (nI j) (nI y)))) (if kHang (nI j) (nI y) = 0 then (va_up Z 7 (upd (Z 7) (8 * j + y) (nI 1))) else Z)) (fun _ => False) 0 0 := by
  refine q_of (cc := cX4_hang) (maxL := 5) (ret := (some .int)) (by decide +kernel) rfl (Nat.le_of_ble_eq_true rfl) ?_
  intro p e s m below meth c A ls B hr htb hmn hP hD hS hl
  have hl : lv_has ls 5 [(0, .ref (o 0)), (1, .int (nI j)), (2, .int (nI y))] := hl
  have hi4 : ∀ w ∈ u_ws RX4 TX4 31, w ∈ wsX4_hang := by decide +kernel
  have hj8 : j < 8 := by omega
  refine lv_aload_n B.hx B.hb dX4_hang_0 rfl (lv_at hl 0 rfl) ?_
  refine lv_aload_n B.hx B.hb dX4_hang_1 rfl (lv_at hl 0 rfl) ?_
  refine lv_iload_n B.hx B.hb dX4_hang_2 rfl (lv_at hl 1 rfl) ?_
  refine q_callV (As := [.int (nI j)]) (rest := [.ref (o 0)]) B hP hD hS (c4_isPaper l D cI cZ cP cJ o J Z n hn hn8 (nI j)) (cwV 1 B.hts gX4_hang_X4_isPaper rfl rfl rfl (by decide +kernel) ⟨(Nat.le_of_ble_eq_true rfl), (Nat.le_of_ble_eq_true rfl)⟩) 0 4 rfl rfl rfl rfl hl.1 rfl (Nat.le_of_ble_eq_true rfl) dX4_hang_3 ⟨(Nat.le_of_ble_eq_true rfl), (Nat.le_of_ble_eq_true rfl)⟩ (fun E ce q9 H locs hx => False.elim hx) (fun v u H locs hp hP hD hS => ?_)
  obtain rfl := hp
  have hP : va_P D vwCl (mw cI cZ o J Z) H := hP
  have hD : va_D A (mw cI cZ o J Z) := hD
  refine q_top (v2 := .int (nI 1)) (by rw [inr_nI (by omega) (by omega)]; rfl) ?_
  refine lv_if_eq (tgt := 17) B.hx B.hb dX4_hang_6 (by decide) (fun c1 => absurd c1 (by decide)) (fun _ => ?_)
  refine lv_aload_n B.hx B.hb dX4_hang_9 rfl (lv_at hl 0 rfl) ?_
  refine lv_iload_n B.hx B.hb dX4_hang_10 rfl (lv_at hl 2 rfl) ?_
  refine q_callV (As := [.int (nI y)]) (rest := [.ref (o 0)]) B hP hD hS (c4_isPaper l D cI cZ cP cJ o J Z n hn hn8 (nI y)) (cwV 1 B.hts gX4_hang_X4_isPaper rfl rfl rfl (by decide +kernel) ⟨(Nat.le_of_ble_eq_true rfl), (Nat.le_of_ble_eq_true rfl)⟩) 0 4 rfl rfl rfl rfl hl.1 rfl (Nat.le_of_ble_eq_true rfl) dX4_hang_11 ⟨(Nat.le_of_ble_eq_true rfl), (Nat.le_of_ble_eq_true rfl)⟩ (fun E ce q9 H locs hx => False.elim hx) (fun v u H locs hp hP hD hS => ?_)
  obtain rfl := hp
  have hP : va_P D vwCl (mw cI cZ o J Z) H := hP
  have hD : va_D A (mw cI cZ o J Z) := hD
  refine q_top (v2 := .int (nI 1)) (by rw [inr_nI (by omega) (by omega)]; rfl) ?_
  refine lv_if_ne (tgt := 21) B.hx B.hb dX4_hang_14 (by decide) (fun _ => ?_) (fun c2 => absurd c2 (by decide))
  refine lv_iload_n B.hx B.hb dX4_hang_21 rfl (lv_at hl 1 rfl) ?_
  refine lv_iload_n B.hx B.hb dX4_hang_22 rfl (lv_at hl 2 rfl) ?_
  refine lv_icmp_ne (tgt := 30) B.hx B.hb dX4_hang_23 (by decide) (fun c3 => ?_) (fun c3 => ?_)
  · replace c3 := mt (nI_eq (by omega) (by omega)).mpr c3
    have hne : ¬ nI j = nI y := mt (nI_eq (by omega) (by omega)).mp c3
    refine lv_iconst (v := (nI 0)) B.hx B.hb dX4_hang_30 (by decide) ?_
    refine q_callV (As := [.int (nI 0)]) (rest := []) B hP hD hS (c4_can l D cI cZ cP cJ o J Z (nI 0)) (cwV 1 B.hts gX4_hang_X4_can rfl rfl rfl (by decide +kernel) ⟨(Nat.le_of_ble_eq_true rfl), (Nat.le_of_ble_eq_true rfl)⟩) 0 4 rfl rfl rfl rfl hl.1 rfl (Nat.le_of_ble_eq_true rfl) dX4_hang_31 ⟨(Nat.le_of_ble_eq_true rfl), (Nat.le_of_ble_eq_true rfl)⟩ (fun E ce q9 H locs hx => False.elim hx) (fun v u H locs hp hP hD hS => ?_)
    obtain rfl := hp
    have hP : va_P D vwCl (mw cI cZ o (va_up J 30 (nI 0)) Z) H := hP
    have hD : va_D A (mw cI cZ o (va_up J 30 (nI 0)) Z) := hD
    refine q_top (v2 := .int (nI 1)) rfl ?_
    refine lv_if_ne (tgt := 39) B.hx B.hb dX4_hang_34 (by decide) (fun _ => ?_) (fun c4 => absurd c4 (by decide))
    refine lv_aload_n B.hx B.hb dX4_hang_39 rfl (lv_at hl 0 rfl) ?_
    refine q_get B hP (C := RX4) (ref := "PaperKeeperModel") (T := TX4) (N := 31) (ci := 4) hi4 rfl 0 rfl 7 (by decide) (by decide +kernel) rfl (v := .ref (o 7)) rfl dX4_hang_40 ?_
    refine lv_bipush (v := (nI 8)) B.hx B.hb dX4_hang_43 (by decide) ?_
    refine lv_iload_n B.hx B.hb dX4_hang_45 rfl (lv_at hl 1 rfl) ?_
    refine lv_imul B.hx B.hb dX4_hang_46 ?_
    refine q_top (v2 := .int (nI ((8 * j)))) (congrArg Value.int (pk_mul _ _)) ?_
    refine lv_iload_n B.hx B.hb dX4_hang_47 rfl (lv_at hl 2 rfl) ?_
    refine lv_iadd B.hx B.hb dX4_hang_48 ?_
    refine q_top (v2 := .int (nI (((8 * j) + y)))) (congrArg Value.int (nI_add _ _)) ?_
    refine lv_iconst (v := (nI 1)) B.hx B.hb dX4_hang_49 (by decide) ?_
    refine q_zast B hP hD hS 5 rfl (j := ((8 * j) + y)) rfl (by omega) (by decide) (by decide) dX4_hang_50 (w' := mw cI cZ o (va_up J 30 (nI 0)) (va_up Z 7 (upd (Z 7) ((8 * j) + y) (nI 1)))) rfl (fun H locs hP hD hS => ?_)
    refine lv_iconst (v := (nI 0)) B.hx B.hb dX4_hang_51 (by decide) ?_
    refine lv_istore_n (lv' := [(3, .int (nI 0)), (0, .ref (o 0)), (1, .int (nI j)), (2, .int (nI y))]) B.hx B.hb dX4_hang_52 rfl hl (by decide) rfl (fun ls hl => ?_)
    refine lv_iconst (v := (nI 0)) B.hx B.hb dX4_hang_53 (by decide) ?_
    refine lv_istore (lv' := [(4, .int (nI 0)), (3, .int (nI 0)), (0, .ref (o 0)), (1, .int (nI j)), (2, .int (nI y))]) B.hx B.hb dX4_hang_54 hl (by decide) rfl (fun ls hl => ?_)
    refine q_loop (nL := 5) (fun i : Nat => i ≤ n) (fun i : Nat => n - i) (fun i : Nat => [(4, .int (nI i)), (3, .int (nI (pN (fun i => decide (¬ (upd (Z 7) (8 * j + y) (nI 1)) (8 * j + i) = 0)) i))), (0, .ref (o 0)), (1, .int (nI j)), (2, .int (nI y))]) (0) (Nat.zero_le _) (lv_sub hl [0, 1, 2, 3, 4] rfl) ?_
    intro i5 hI6 ih7 ls hl
    have hI6 : i5 ≤ n := hI6
    have hl : lv_has ls 5 [(4, .int (nI i5)), (3, .int (nI (pN (fun i => decide (¬ (upd (Z 7) (8 * j + y) (nI 1)) (8 * j + i) = 0)) i5))), (0, .ref (o 0)), (1, .int (nI j)), (2, .int (nI y))] := hl
    refine lv_iload B.hx B.hb dX4_hang_56 (lv_at hl 0 rfl) ?_
    refine lv_aload_n B.hx B.hb dX4_hang_58 rfl (lv_at hl 2 rfl) ?_
    refine q_get B hP (C := RX4) (ref := "PaperKeeperModel") (T := TX4) (N := 31) (ci := 4) hi4 rfl 0 rfl 5 (by decide) (by decide +kernel) rfl (v := .int (J 5)) rfl dX4_hang_59 ?_
    refine q_top (v2 := .int (nI n)) (congrArg Value.int hn) ?_
    refine lv_icmp_ge (tgt := 94) B.hx B.hb dX4_hang_62 (by decide) (fun c8 => ?_) (fun c8 => ?_)
    · replace c8 := (nI_leI (by omega) (by omega)).mp c8
      obtain rfl : i5 = n := by omega
      refine lv_iload_n B.hx B.hb dX4_hang_94 rfl (lv_at hl 1 rfl) ?_
      have hK : kHang (nI j) (nI y) = 0 := by simp [kHang, c3, c8, hne]
      exact q_iret B hr hP hD hS (u := ()) (by rw [hK] <;> first | rfl | (simp only [if_true] <;> rfl)) (by rw [hK] <;> first | rfl | (simp only [if_true] <;> rfl)) (Nat.le_of_ble_eq_true rfl) (Nat.le_of_ble_eq_true rfl) dX4_hang_95
    · replace c8 := mt (nI_leI (by omega) (by omega)).mpr c8
      refine lv_iload_n B.hx B.hb dX4_hang_65 rfl (lv_at hl 1 rfl) ?_
      refine lv_aload_n B.hx B.hb dX4_hang_66 rfl (lv_at hl 2 rfl) ?_
      refine q_get B hP (C := RX4) (ref := "PaperKeeperModel") (T := TX4) (N := 31) (ci := 4) hi4 rfl 0 rfl 7 (by decide) (by decide +kernel) rfl (v := .ref (o 7)) rfl dX4_hang_67 ?_
      refine lv_bipush (v := (nI 8)) B.hx B.hb dX4_hang_70 (by decide) ?_
      refine lv_iload_n B.hx B.hb dX4_hang_72 rfl (lv_at hl 3 rfl) ?_
      refine lv_imul B.hx B.hb dX4_hang_73 ?_
      refine q_top (v2 := .int (nI ((8 * j)))) (congrArg Value.int (pk_mul _ _)) ?_
      refine lv_iload B.hx B.hb dX4_hang_74 (lv_at hl 0 rfl) ?_
      refine lv_iadd B.hx B.hb dX4_hang_76 ?_
      refine q_top (v2 := .int (nI (((8 * j) + i5)))) (congrArg Value.int (nI_add _ _)) ?_
      refine q_zald (f := (upd (Z 7) ((8 * j) + y) (nI 1))) B hP 5 rfl (j := ((8 * j) + i5)) rfl (by omega) (by decide) dX4_hang_77 ?_
      refine lv_if_eq (tgt := 85) B.hx B.hb dX4_hang_78 (by decide) (fun c9 => ?_) (fun c9 => ?_)
      · refine lv_iconst (v := (nI 0)) B.hx B.hb dX4_hang_85 (by decide) ?_
        refine lv_iadd B.hx B.hb dX4_hang_86 ?_
        refine q_top (v2 := .int (nI ((pN (fun i => decide (¬ (upd (Z 7) (8 * j + y) (nI 1)) (8 * j + i) = 0)) i5 + 0)))) (congrArg Value.int (nI_add _ _)) ?_
        refine q_top (v2 := .int (nI (pN (fun i => decide (¬ (upd (Z 7) (8 * j + y) (nI 1)) (8 * j + i) = 0)) (i5 + 1)))) (by rw [pN_no (ok := (fun i => decide (¬ (upd (Z 7) (8 * j + y) (nI 1)) (8 * j + i) = 0))) (i := i5) (by simp [c9])]; rfl) ?_
        refine lv_istore_n (lv' := [(3, .int (nI (pN (fun i => decide (¬ (upd (Z 7) (8 * j + y) (nI 1)) (8 * j + i) = 0)) (i5 + 1)))), (4, .int (nI i5)), (0, .ref (o 0)), (1, .int (nI j)), (2, .int (nI y))]) B.hx B.hb dX4_hang_87 rfl hl (by decide) rfl (fun ls hl => ?_)
        refine lv_iinc (v := (nI ((i5 + 1)))) (lv' := [(4, .int (nI ((i5 + 1)))), (3, .int (nI (pN (fun i => decide (¬ (upd (Z 7) (8 * j + y) (nI 1)) (8 * j + i) = 0)) (i5 + 1)))), (0, .ref (o 0)), (1, .int (nI j)), (2, .int (nI y))]) B.hx B.hb dX4_hang_88 hl (k := 1) rfl (nI_1 _) (by decide) rfl (fun ls hl => ?_)
        refine lv_goto (tgt := 56) B.hx B.hb dX4_hang_91 (by decide) ?_
        exact ih7 (i5 + 1) (by omega) (by omega) ls (lv_sub hl [0, 1, 2, 3, 4] rfl)
      · refine lv_iconst (v := (nI 1)) B.hx B.hb dX4_hang_81 (by decide) ?_
        refine lv_goto (tgt := 86) B.hx B.hb dX4_hang_82 (by decide) ?_
        refine lv_iadd B.hx B.hb dX4_hang_86 ?_
        refine q_top (v2 := .int (nI ((pN (fun i => decide (¬ (upd (Z 7) (8 * j + y) (nI 1)) (8 * j + i) = 0)) i5 + 1)))) (congrArg Value.int (nI_add _ _)) ?_
        refine q_top (v2 := .int (nI (pN (fun i => decide (¬ (upd (Z 7) (8 * j + y) (nI 1)) (8 * j + i) = 0)) (i5 + 1)))) (by rw [pN_yes (ok := (fun i => decide (¬ (upd (Z 7) (8 * j + y) (nI 1)) (8 * j + i) = 0))) (i := i5) (by simp [c9])]) ?_
        refine lv_istore_n (lv' := [(3, .int (nI (pN (fun i => decide (¬ (upd (Z 7) (8 * j + y) (nI 1)) (8 * j + i) = 0)) (i5 + 1)))), (4, .int (nI i5)), (0, .ref (o 0)), (1, .int (nI j)), (2, .int (nI y))]) B.hx B.hb dX4_hang_87 rfl hl (by decide) rfl (fun ls hl => ?_)
        refine lv_iinc (v := (nI ((i5 + 1)))) (lv' := [(4, .int (nI ((i5 + 1)))), (3, .int (nI (pN (fun i => decide (¬ (upd (Z 7) (8 * j + y) (nI 1)) (8 * j + i) = 0)) (i5 + 1)))), (0, .ref (o 0)), (1, .int (nI j)), (2, .int (nI y))]) B.hx B.hb dX4_hang_88 hl (k := 1) rfl (nI_1 _) (by decide) rfl (fun ls hl => ?_)
        refine lv_goto (tgt := 56) B.hx B.hb dX4_hang_91 (by decide) ?_
        exact ih7 (i5 + 1) (by omega) (by omega) ls (lv_sub hl [0, 1, 2, 3, 4] rfl)
  · replace c3 := (nI_eq (by omega) (by omega)).mp c3
    refine lv_iconst (v := (nI 2)) B.hx B.hb dX4_hang_26 (by decide) ?_
    refine lv_goto (tgt := 31) B.hx B.hb dX4_hang_27 (by decide) ?_
    refine q_callV (As := [.int (nI 2)]) (rest := []) B hP hD hS (c4_can l D cI cZ cP cJ o J Z (nI 2)) (cwV 1 B.hts gX4_hang_X4_can rfl rfl rfl (by decide +kernel) ⟨(Nat.le_of_ble_eq_true rfl), (Nat.le_of_ble_eq_true rfl)⟩) 0 4 rfl rfl rfl rfl hl.1 rfl (Nat.le_of_ble_eq_true rfl) dX4_hang_31 ⟨(Nat.le_of_ble_eq_true rfl), (Nat.le_of_ble_eq_true rfl)⟩ (fun E ce q9 H locs hx => False.elim hx) (fun v u H locs hp hP hD hS => ?_)
    obtain rfl := hp
    have hP : va_P D vwCl (mw cI cZ o (va_up J 30 (nI 2)) Z) H := hP
    have hD : va_D A (mw cI cZ o (va_up J 30 (nI 2)) Z) := hD
    refine q_top (v2 := .int (nI 0)) rfl ?_
    refine lv_if_ne (tgt := 39) B.hx B.hb dX4_hang_34 (by decide) (fun c10 => absurd c10 (by decide)) (fun _ => ?_)
    refine lv_iconst (v := (nI 0)) B.hx B.hb dX4_hang_37 (by decide) ?_
    have hK : kHang (nI j) (nI y) = 2 := by simp [kHang, c3]
    exact q_iret B hr hP hD hS (u := ()) (by rw [hK] <;> first | rfl | (simp only [if_true] <;> rfl)) (by rw [hK] <;> first | rfl | (simp only [if_true] <;> rfl)) (Nat.le_of_ble_eq_true rfl) (Nat.le_of_ble_eq_true rfl) dX4_hang_38
set_option maxHeartbeats 4000000 in
set_option maxRecDepth 100000 in
theorem c4_draft (l : Launch) (D : va_G) (cI cZ cP cJ : ClassId) (o : Nat → Nat) (J : Nat → Int32) (Z : Nat → Nat → Int32) (n : Nat) (hn : J 5 = nI n) (hn8 : n ≤ 8) (j : Nat) (hj : j < n) (x y : Int32) : q_C l yX4_draft wsX4_draft ({ frames := 2, cells := 0, slots := 0, locals := 43 }) D cI cZ cP cJ [.ref (o 0), .int (nI j), .int x, .int y] (mw cI cZ o J Z) (S := Unit) (fun v _ => v = none) (fun _ => mw cI cZ o (va_up J 30 (nI (kDraft x y (Z 8 j)))) (if kDraft x y (Z 8 j) = 0 then (va_up (va_up (va_up (va_up (va_up (va_up (va_up (va_up (va_up (va_up (va_up Z 8 (upd (Z 8) j (nI 1))) 9 (upd (Z 9) j x)) 10 (upd (Z 10) j y)) 11 (upd (Z 11) j (nI 1))) 12 (upd (Z 12) j (nI 0))) 14 (zr (Z 14) (4 * j) 4)) 15 (upd (Z 15) j (nI 0))) 16 (zr (Z 16) (4 * j) 4)) 17 (upd (Z 17) j (nI 0))) 19 (zr (Z 19) (6 * j) 6)) 20 (zr (Z 20) (6 * j) 6)) else Z)) (fun _ => False) 0 0 := by
  refine q_of (cc := cX4_draft) (maxL := 6) (ret := none) (by decide +kernel) rfl (Nat.le_of_ble_eq_true rfl) ?_
  intro p e s m below meth c A ls B hr htb hmn hP hD hS hl
  have hl : lv_has ls 6 [(0, .ref (o 0)), (1, .int (nI j)), (2, .int x), (3, .int y)] := hl
  have hi4 : ∀ w ∈ u_ws RX4 TX4 31, w ∈ wsX4_draft := by decide +kernel
  have hj8 : j < 8 := by omega
  refine lv_iload_n B.hx B.hb dX4_draft_0 rfl (lv_at hl 2 rfl) ?_
  refine q_callS (As := [.int x]) (rest := []) B hP hD hS ((c4_isPerson l D cI cZ cP cJ x).fr0 (mw cI cZ o J Z)) (cwS 1 B.hts gX4_draft_X4_isPerson rfl rfl rfl (by decide +kernel) ⟨(Nat.le_of_ble_eq_true rfl), (Nat.le_of_ble_eq_true rfl)⟩) rfl hl.1 rfl (Nat.le_of_ble_eq_true rfl) dX4_draft_1 ⟨(Nat.le_of_ble_eq_true rfl), (Nat.le_of_ble_eq_true rfl)⟩ (fun E ce q9 H locs hx => False.elim hx) (fun v u H locs hp hP hD hS => ?_)
  replace hp := bI2 hp
  rcases hp with ⟨rfl, hrg0⟩ | ⟨rfl, hrg0⟩
  · have hP : va_P D vwCl (mw cI cZ o J Z) H := hP
    have hD : va_D A (mw cI cZ o J Z) := hD
    refine lv_if_eq (tgt := 22) B.hx B.hb dX4_draft_4 (by decide) (fun c1 => absurd c1 (by decide)) (fun _ => ?_)
    refine lv_iload_n B.hx B.hb dX4_draft_7 rfl (lv_at hl 3 rfl) ?_
    refine lv_iconst (v := (nI 0)) B.hx B.hb dX4_draft_8 (by decide) ?_
    refine lv_sipush (v := (nI 9999)) B.hx B.hb dX4_draft_9 (by decide) ?_
    refine q_callS (As := [.int y, .int (nI 0), .int (nI 9999)]) (rest := []) B hP hD hS ((c4_isIn l D cI cZ cP cJ y (nI 0) (nI 9999)).fr0 (mw cI cZ o J Z)) (cwS 3 B.hts gX4_draft_X4_isIn rfl rfl rfl (by decide +kernel) ⟨(Nat.le_of_ble_eq_true rfl), (Nat.le_of_ble_eq_true rfl)⟩) rfl hl.1 rfl (Nat.le_of_ble_eq_true rfl) dX4_draft_12 ⟨(Nat.le_of_ble_eq_true rfl), (Nat.le_of_ble_eq_true rfl)⟩ (fun E ce q9 H locs hx => False.elim hx) (fun v u H locs hp hP hD hS => ?_)
    replace hp := bI2 hp
    rcases hp with ⟨rfl, hrg1⟩ | ⟨rfl, hrg1⟩
    · have hP : va_P D vwCl (mw cI cZ o J Z) H := hP
      have hD : va_D A (mw cI cZ o J Z) := hD
      refine lv_if_eq (tgt := 22) B.hx B.hb dX4_draft_15 (by decide) (fun c2 => absurd c2 (by decide)) (fun _ => ?_)
      refine lv_iconst (v := (nI 1)) B.hx B.hb dX4_draft_18 (by decide) ?_
      refine lv_goto (tgt := 23) B.hx B.hb dX4_draft_19 (by decide) ?_
      refine lv_istore (lv' := [(4, .int (nI 1)), (0, .ref (o 0)), (1, .int (nI j)), (2, .int x), (3, .int y)]) B.hx B.hb dX4_draft_23 hl (by decide) rfl (fun ls hl => ?_)
      refine lv_aload_n B.hx B.hb dX4_draft_25 rfl (lv_at hl 1 rfl) ?_
      refine lv_aload_n B.hx B.hb dX4_draft_26 rfl (lv_at hl 1 rfl) ?_
      refine lv_iload_n B.hx B.hb dX4_draft_27 rfl (lv_at hl 2 rfl) ?_
      refine q_callV (As := [.int (nI j)]) (rest := [.ref (o 0)]) B hP hD hS (c4_isPaper l D cI cZ cP cJ o J Z n hn hn8 (nI j)) (cwV 1 B.hts gX4_draft_X4_isPaper rfl rfl rfl (by decide +kernel) ⟨(Nat.le_of_ble_eq_true rfl), (Nat.le_of_ble_eq_true rfl)⟩) 0 4 rfl rfl rfl rfl hl.1 rfl (Nat.le_of_ble_eq_true rfl) dX4_draft_28 ⟨(Nat.le_of_ble_eq_true rfl), (Nat.le_of_ble_eq_true rfl)⟩ (fun E ce q9 H locs hx => False.elim hx) (fun v u H locs hp hP hD hS => ?_)
      obtain rfl := hp
      have hP : va_P D vwCl (mw cI cZ o J Z) H := hP
      have hD : va_D A (mw cI cZ o J Z) := hD
      refine q_top (v2 := .int (nI 1)) (by rw [inr_nI (by omega) (by omega)]; rfl) ?_
      refine lv_if_ne (tgt := 38) B.hx B.hb dX4_draft_31 (by decide) (fun _ => ?_) (fun c3 => absurd c3 (by decide))
      refine lv_iload B.hx B.hb dX4_draft_38 (lv_at hl 0 rfl) ?_
      refine lv_if_ne (tgt := 47) B.hx B.hb dX4_draft_40 (by decide) (fun _ => ?_) (fun c4 => absurd c4 (by decide))
      refine lv_aload_n B.hx B.hb dX4_draft_47 rfl (lv_at hl 1 rfl) ?_
      refine q_get B hP (C := RX4) (ref := "PaperKeeperModel") (T := TX4) (N := 31) (ci := 4) hi4 rfl 0 rfl 8 (by decide) (by decide +kernel) rfl (v := .ref (o 8)) rfl dX4_draft_48 ?_
      refine lv_iload_n B.hx B.hb dX4_draft_51 rfl (lv_at hl 2 rfl) ?_
      refine q_zald (f := (Z 8)) B hP 6 rfl (j := j) rfl (by omega) (by decide) dX4_draft_52 ?_
      refine lv_if_eq (tgt := 60) B.hx B.hb dX4_draft_53 (by decide) (fun c5 => ?_) (fun c5 => ?_)
      · refine lv_iconst (v := (nI 0)) B.hx B.hb dX4_draft_60 (by decide) ?_
        refine q_callV (As := [.int (nI 0)]) (rest := []) B hP hD hS (c4_can l D cI cZ cP cJ o J Z (nI 0)) (cwV 1 B.hts gX4_draft_X4_can rfl rfl rfl (by decide +kernel) ⟨(Nat.le_of_ble_eq_true rfl), (Nat.le_of_ble_eq_true rfl)⟩) 0 4 rfl rfl rfl rfl hl.1 rfl (Nat.le_of_ble_eq_true rfl) dX4_draft_61 ⟨(Nat.le_of_ble_eq_true rfl), (Nat.le_of_ble_eq_true rfl)⟩ (fun E ce q9 H locs hx => False.elim hx) (fun v u H locs hp hP hD hS => ?_)
        obtain rfl := hp
        have hP : va_P D vwCl (mw cI cZ o (va_up J 30 (nI 0)) Z) H := hP
        have hD : va_D A (mw cI cZ o (va_up J 30 (nI 0)) Z) := hD
        refine q_top (v2 := .int (nI 1)) rfl ?_
        refine lv_if_eq (tgt := 139) B.hx B.hb dX4_draft_64 (by decide) (fun c6 => absurd c6 (by decide)) (fun _ => ?_)
        refine lv_aload_n B.hx B.hb dX4_draft_67 rfl (lv_at hl 1 rfl) ?_
        refine q_get B hP (C := RX4) (ref := "PaperKeeperModel") (T := TX4) (N := 31) (ci := 4) hi4 rfl 0 rfl 8 (by decide) (by decide +kernel) rfl (v := .ref (o 8)) rfl dX4_draft_68 ?_
        refine lv_iload_n B.hx B.hb dX4_draft_71 rfl (lv_at hl 2 rfl) ?_
        refine lv_iconst (v := (nI 1)) B.hx B.hb dX4_draft_72 (by decide) ?_
        refine q_zast B hP hD hS 6 rfl (j := j) rfl (by omega) (by decide) (by decide) dX4_draft_73 (w' := mw cI cZ o (va_up J 30 (nI 0)) (va_up Z 8 (upd (Z 8) j (nI 1)))) rfl (fun H locs hP hD hS => ?_)
        refine lv_aload_n B.hx B.hb dX4_draft_74 rfl (lv_at hl 1 rfl) ?_
        refine q_get B hP (C := RX4) (ref := "PaperKeeperModel") (T := TX4) (N := 31) (ci := 4) hi4 rfl 0 rfl 9 (by decide) (by decide +kernel) rfl (v := .ref (o 9)) rfl dX4_draft_75 ?_
        refine lv_iload_n B.hx B.hb dX4_draft_78 rfl (lv_at hl 2 rfl) ?_
        refine lv_iload_n B.hx B.hb dX4_draft_79 rfl (lv_at hl 3 rfl) ?_
        refine q_iast B hP hD hS 7 rfl (j := j) rfl (by omega) (by decide) dX4_draft_80 (w' := mw cI cZ o (va_up J 30 (nI 0)) (va_up (va_up Z 8 (upd (Z 8) j (nI 1))) 9 (upd (Z 9) j x))) rfl (fun H locs hP hD hS => ?_)
        refine lv_aload_n B.hx B.hb dX4_draft_81 rfl (lv_at hl 1 rfl) ?_
        refine q_get B hP (C := RX4) (ref := "PaperKeeperModel") (T := TX4) (N := 31) (ci := 4) hi4 rfl 0 rfl 10 (by decide) (by decide +kernel) rfl (v := .ref (o 10)) rfl dX4_draft_82 ?_
        refine lv_iload_n B.hx B.hb dX4_draft_85 rfl (lv_at hl 2 rfl) ?_
        refine lv_iload_n B.hx B.hb dX4_draft_86 rfl (lv_at hl 4 rfl) ?_
        refine q_iast B hP hD hS 8 rfl (j := j) rfl (by omega) (by decide) dX4_draft_87 (w' := mw cI cZ o (va_up J 30 (nI 0)) (va_up (va_up (va_up Z 8 (upd (Z 8) j (nI 1))) 9 (upd (Z 9) j x)) 10 (upd (Z 10) j y))) rfl (fun H locs hP hD hS => ?_)
        refine lv_aload_n B.hx B.hb dX4_draft_88 rfl (lv_at hl 1 rfl) ?_
        refine q_get B hP (C := RX4) (ref := "PaperKeeperModel") (T := TX4) (N := 31) (ci := 4) hi4 rfl 0 rfl 11 (by decide) (by decide +kernel) rfl (v := .ref (o 11)) rfl dX4_draft_89 ?_
        refine lv_iload_n B.hx B.hb dX4_draft_92 rfl (lv_at hl 2 rfl) ?_
        refine lv_iconst (v := (nI 1)) B.hx B.hb dX4_draft_93 (by decide) ?_
        refine q_iast B hP hD hS 9 rfl (j := j) rfl (by omega) (by decide) dX4_draft_94 (w' := mw cI cZ o (va_up J 30 (nI 0)) (va_up (va_up (va_up (va_up Z 8 (upd (Z 8) j (nI 1))) 9 (upd (Z 9) j x)) 10 (upd (Z 10) j y)) 11 (upd (Z 11) j (nI 1)))) rfl (fun H locs hP hD hS => ?_)
        refine lv_aload_n B.hx B.hb dX4_draft_95 rfl (lv_at hl 1 rfl) ?_
        refine q_get B hP (C := RX4) (ref := "PaperKeeperModel") (T := TX4) (N := 31) (ci := 4) hi4 rfl 0 rfl 12 (by decide) (by decide +kernel) rfl (v := .ref (o 12)) rfl dX4_draft_96 ?_
        refine lv_iload_n B.hx B.hb dX4_draft_99 rfl (lv_at hl 2 rfl) ?_
        refine lv_iconst (v := (nI 0)) B.hx B.hb dX4_draft_100 (by decide) ?_
        refine q_iast B hP hD hS 10 rfl (j := j) rfl (by omega) (by decide) dX4_draft_101 (w' := mw cI cZ o (va_up J 30 (nI 0)) (va_up (va_up (va_up (va_up (va_up Z 8 (upd (Z 8) j (nI 1))) 9 (upd (Z 9) j x)) 10 (upd (Z 10) j y)) 11 (upd (Z 11) j (nI 1))) 12 (upd (Z 12) j (nI 0)))) rfl (fun H locs hP hD hS => ?_)
        refine lv_bipush (v := (nI 6)) B.hx B.hb dX4_draft_102 (by decide) ?_
        refine lv_iload_n B.hx B.hb dX4_draft_104 rfl (lv_at hl 2 rfl) ?_
        refine lv_imul B.hx B.hb dX4_draft_105 ?_
        refine q_top (v2 := .int (nI ((6 * j)))) (congrArg Value.int (pk_mul _ _)) ?_
        refine lv_istore (lv' := [(5, .int (nI ((6 * j)))), (4, .int (nI 1)), (0, .ref (o 0)), (1, .int (nI j)), (2, .int x), (3, .int y)]) B.hx B.hb dX4_draft_106 hl (by decide) rfl (fun ls hl => ?_)
        refine q_loopW (nL := 6) (fun i : Nat => i ≤ 6) (fun i : Nat => 6 - i) (fun i : Nat => [(5, .int (nI ((6 * j + i)))), (0, .ref (o 0)), (1, .int (nI j)), (2, .int x), (3, .int y)]) (fun i : Nat => mw cI cZ o (va_up J 30 (nI 0)) (va_up (va_up (va_up (va_up (va_up (va_up Z 8 (upd (Z 8) j (nI 1))) 9 (upd (Z 9) j x)) 10 (upd (Z 10) j y)) 11 (upd (Z 11) j (nI 1))) 12 (upd (Z 12) j (nI 0))) 19 (zr (Z 19) (6 * j) i))) (0) (Nat.zero_le _) (lv_sub hl [0, 2, 3, 4, 5] rfl) (show va_P D vwCl (mw cI cZ o (va_up J 30 (nI 0)) (va_up (va_up (va_up (va_up (va_up (va_up Z 8 (upd (Z 8) j (nI 1))) 9 (upd (Z 9) j x)) 10 (upd (Z 10) j y)) 11 (upd (Z 11) j (nI 1))) 12 (upd (Z 12) j (nI 0))) 19 (zr (Z 19) (6 * j) 0))) _ by rw [zr_0]; exact hP) (show va_D A (mw cI cZ o (va_up J 30 (nI 0)) (va_up (va_up (va_up (va_up (va_up (va_up Z 8 (upd (Z 8) j (nI 1))) 9 (upd (Z 9) j x)) 10 (upd (Z 10) j y)) 11 (upd (Z 11) j (nI 1))) 12 (upd (Z 12) j (nI 0))) 19 (zr (Z 19) (6 * j) 0))) by rw [zr_0]; exact hD) hS ?_
        intro i7 hI8 ih9 ls H locs hl hP hD hS
        have hI8 : i7 ≤ 6 := hI8
        have hl : lv_has ls 6 [(5, .int (nI ((6 * j + i7)))), (0, .ref (o 0)), (1, .int (nI j)), (2, .int x), (3, .int y)] := hl
        have hP : va_P D vwCl (mw cI cZ o (va_up J 30 (nI 0)) (va_up (va_up (va_up (va_up (va_up (va_up Z 8 (upd (Z 8) j (nI 1))) 9 (upd (Z 9) j x)) 10 (upd (Z 10) j y)) 11 (upd (Z 11) j (nI 1))) 12 (upd (Z 12) j (nI 0))) 19 (zr (Z 19) (6 * j) i7))) H := hP
        have hD : va_D A (mw cI cZ o (va_up J 30 (nI 0)) (va_up (va_up (va_up (va_up (va_up (va_up Z 8 (upd (Z 8) j (nI 1))) 9 (upd (Z 9) j x)) 10 (upd (Z 10) j y)) 11 (upd (Z 11) j (nI 1))) 12 (upd (Z 12) j (nI 0))) 19 (zr (Z 19) (6 * j) i7))) := hD
        refine lv_iload B.hx B.hb dX4_draft_108 (lv_at hl 0 rfl) ?_
        refine lv_bipush (v := (nI 6)) B.hx B.hb dX4_draft_110 (by decide) ?_
        refine lv_iload_n B.hx B.hb dX4_draft_112 rfl (lv_at hl 2 rfl) ?_
        refine lv_imul B.hx B.hb dX4_draft_113 ?_
        refine q_top (v2 := .int (nI ((6 * j)))) (congrArg Value.int (pk_mul _ _)) ?_
        refine lv_bipush (v := (nI 6)) B.hx B.hb dX4_draft_114 (by decide) ?_
        refine lv_iadd B.hx B.hb dX4_draft_116 ?_
        refine q_top (v2 := .int (nI (((6 * j) + 6)))) (congrArg Value.int (nI_add _ _)) ?_
        refine lv_icmp_ge (tgt := 134) B.hx B.hb dX4_draft_117 (by decide) (fun c10 => ?_) (fun c10 => ?_)
        · replace c10 := (nI_leI (by omega) (by omega)).mp c10
          obtain rfl : i7 = 6 := by omega
          refine lv_aload_n B.hx B.hb dX4_draft_134 rfl (lv_at hl 1 rfl) ?_
          refine lv_iload_n B.hx B.hb dX4_draft_135 rfl (lv_at hl 2 rfl) ?_
          refine q_callV (As := [.int (nI j)]) (rest := []) B hP hD hS (c4_beginsRound l D cI cZ cP cJ o (va_up J 30 (nI 0)) (va_up (va_up (va_up (va_up (va_up (va_up Z 8 (upd (Z 8) j (nI 1))) 9 (upd (Z 9) j x)) 10 (upd (Z 10) j y)) 11 (upd (Z 11) j (nI 1))) 12 (upd (Z 12) j (nI 0))) 19 (zr (Z 19) (6 * j) 6)) j hj8) (cwV 1 B.hts gX4_draft_X4_beginsRound rfl rfl rfl (by decide +kernel) ⟨(Nat.le_of_ble_eq_true rfl), (Nat.le_of_ble_eq_true rfl)⟩) 0 4 rfl rfl rfl rfl hl.1 rfl (Nat.le_of_ble_eq_true rfl) dX4_draft_136 ⟨(Nat.le_of_ble_eq_true rfl), (Nat.le_of_ble_eq_true rfl)⟩ (fun E ce q9 H locs hx => False.elim hx) (fun v u H locs hp hP hD hS => ?_)
          obtain rfl := hp
          have hP : va_P D vwCl (mw cI cZ o (va_up J 30 (nI 0)) (va_up (va_up (va_up (va_up (va_up (va_up (va_up (va_up (va_up (va_up (va_up Z 8 (upd (Z 8) j (nI 1))) 9 (upd (Z 9) j x)) 10 (upd (Z 10) j y)) 11 (upd (Z 11) j (nI 1))) 12 (upd (Z 12) j (nI 0))) 14 (zr (Z 14) (4 * j) 4)) 15 (upd (Z 15) j (nI 0))) 16 (zr (Z 16) (4 * j) 4)) 17 (upd (Z 17) j (nI 0))) 19 (zr (Z 19) (6 * j) 6)) 20 (zr (Z 20) (6 * j) 6))) H := hP
          have hD : va_D A (mw cI cZ o (va_up J 30 (nI 0)) (va_up (va_up (va_up (va_up (va_up (va_up (va_up (va_up (va_up (va_up (va_up Z 8 (upd (Z 8) j (nI 1))) 9 (upd (Z 9) j x)) 10 (upd (Z 10) j y)) 11 (upd (Z 11) j (nI 1))) 12 (upd (Z 12) j (nI 0))) 14 (zr (Z 14) (4 * j) 4)) 15 (upd (Z 15) j (nI 0))) 16 (zr (Z 16) (4 * j) 4)) 17 (upd (Z 17) j (nI 0))) 19 (zr (Z 19) (6 * j) 6)) 20 (zr (Z 20) (6 * j) 6))) := hD
          have hK : kDraft x y (Z 8 j) = 0 := by simp [kDraft, hrg0, hrg1, c5, c10]
          exact q_vret B hr hP hD hS (u := ()) (by rw [hK] <;> first | rfl | (simp only [if_true] <;> rfl)) rfl (Nat.le_of_ble_eq_true rfl) (Nat.le_of_ble_eq_true rfl) dX4_draft_139
        · replace c10 := mt (nI_leI (by omega) (by omega)).mpr c10
          refine lv_aload_n B.hx B.hb dX4_draft_120 rfl (lv_at hl 1 rfl) ?_
          refine q_get B hP (C := RX4) (ref := "PaperKeeperModel") (T := TX4) (N := 31) (ci := 4) hi4 rfl 0 rfl 19 (by decide) (by decide +kernel) rfl (v := .ref (o 19)) rfl dX4_draft_121 ?_
          refine lv_iload B.hx B.hb dX4_draft_124 (lv_at hl 0 rfl) ?_
          refine lv_iconst (v := (nI 0)) B.hx B.hb dX4_draft_126 (by decide) ?_
          refine q_zast B hP hD hS 17 rfl (j := (6 * j + i7)) rfl (by omega) (by decide) (by decide) dX4_draft_127 (w' := mw cI cZ o (va_up J 30 (nI 0)) (va_up (va_up (va_up (va_up (va_up (va_up Z 8 (upd (Z 8) j (nI 1))) 9 (upd (Z 9) j x)) 10 (upd (Z 10) j y)) 11 (upd (Z 11) j (nI 1))) 12 (upd (Z 12) j (nI 0))) 19 (upd (zr (Z 19) (6 * j) i7) (6 * j + i7) (nI 0)))) rfl (fun H locs hP hD hS => ?_)
          refine lv_iinc (v := (nI (((6 * j + i7) + 1)))) (lv' := [(5, .int (nI (((6 * j + i7) + 1)))), (0, .ref (o 0)), (1, .int (nI j)), (2, .int x), (3, .int y)]) B.hx B.hb dX4_draft_128 hl (k := 0) rfl (nI_1 _) (by decide) rfl (fun ls hl => ?_)
          refine lv_goto (tgt := 108) B.hx B.hb dX4_draft_131 (by decide) ?_
          exact ih9 (i7 + 1) (by omega) (by omega) ls H locs (lv_sub hl [0, 1, 2, 3, 4] rfl) (show va_P D vwCl (mw cI cZ o (va_up J 30 (nI 0)) (va_up (va_up (va_up (va_up (va_up (va_up Z 8 (upd (Z 8) j (nI 1))) 9 (upd (Z 9) j x)) 10 (upd (Z 10) j y)) 11 (upd (Z 11) j (nI 1))) 12 (upd (Z 12) j (nI 0))) 19 (zr (Z 19) (6 * j) (i7 + 1)))) H by rw [← zr_s (Z 19) (6 * j) i7]; exact hP) (show va_D A (mw cI cZ o (va_up J 30 (nI 0)) (va_up (va_up (va_up (va_up (va_up (va_up Z 8 (upd (Z 8) j (nI 1))) 9 (upd (Z 9) j x)) 10 (upd (Z 10) j y)) 11 (upd (Z 11) j (nI 1))) 12 (upd (Z 12) j (nI 0))) 19 (zr (Z 19) (6 * j) (i7 + 1)))) by rw [← zr_s (Z 19) (6 * j) i7]; exact hD) hS
      · refine lv_iconst (v := (nI 3)) B.hx B.hb dX4_draft_56 (by decide) ?_
        refine lv_goto (tgt := 61) B.hx B.hb dX4_draft_57 (by decide) ?_
        refine q_callV (As := [.int (nI 3)]) (rest := []) B hP hD hS (c4_can l D cI cZ cP cJ o J Z (nI 3)) (cwV 1 B.hts gX4_draft_X4_can rfl rfl rfl (by decide +kernel) ⟨(Nat.le_of_ble_eq_true rfl), (Nat.le_of_ble_eq_true rfl)⟩) 0 4 rfl rfl rfl rfl hl.1 rfl (Nat.le_of_ble_eq_true rfl) dX4_draft_61 ⟨(Nat.le_of_ble_eq_true rfl), (Nat.le_of_ble_eq_true rfl)⟩ (fun E ce q9 H locs hx => False.elim hx) (fun v u H locs hp hP hD hS => ?_)
        obtain rfl := hp
        have hP : va_P D vwCl (mw cI cZ o (va_up J 30 (nI 3)) Z) H := hP
        have hD : va_D A (mw cI cZ o (va_up J 30 (nI 3)) Z) := hD
        refine q_top (v2 := .int (nI 0)) rfl ?_
        refine lv_if_eq (tgt := 139) B.hx B.hb dX4_draft_64 (by decide) (fun _ => ?_) (fun c11 => absurd c11 (by decide))
        have hK : kDraft x y (Z 8 j) = 3 := by simp [kDraft, hrg0, hrg1, c5]
        exact q_vret B hr hP hD hS (u := ()) (by rw [hK] <;> first | rfl | (simp only [if_true] <;> rfl)) rfl (Nat.le_of_ble_eq_true rfl) (Nat.le_of_ble_eq_true rfl) dX4_draft_139
    · have hP : va_P D vwCl (mw cI cZ o J Z) H := hP
      have hD : va_D A (mw cI cZ o J Z) := hD
      refine lv_if_eq (tgt := 22) B.hx B.hb dX4_draft_15 (by decide) (fun _ => ?_) (fun c12 => absurd c12 (by decide))
      refine lv_iconst (v := (nI 0)) B.hx B.hb dX4_draft_22 (by decide) ?_
      refine lv_istore (lv' := [(4, .int (nI 0)), (0, .ref (o 0)), (1, .int (nI j)), (2, .int x), (3, .int y)]) B.hx B.hb dX4_draft_23 hl (by decide) rfl (fun ls hl => ?_)
      refine lv_aload_n B.hx B.hb dX4_draft_25 rfl (lv_at hl 1 rfl) ?_
      refine lv_aload_n B.hx B.hb dX4_draft_26 rfl (lv_at hl 1 rfl) ?_
      refine lv_iload_n B.hx B.hb dX4_draft_27 rfl (lv_at hl 2 rfl) ?_
      refine q_callV (As := [.int (nI j)]) (rest := [.ref (o 0)]) B hP hD hS (c4_isPaper l D cI cZ cP cJ o J Z n hn hn8 (nI j)) (cwV 1 B.hts gX4_draft_X4_isPaper rfl rfl rfl (by decide +kernel) ⟨(Nat.le_of_ble_eq_true rfl), (Nat.le_of_ble_eq_true rfl)⟩) 0 4 rfl rfl rfl rfl hl.1 rfl (Nat.le_of_ble_eq_true rfl) dX4_draft_28 ⟨(Nat.le_of_ble_eq_true rfl), (Nat.le_of_ble_eq_true rfl)⟩ (fun E ce q9 H locs hx => False.elim hx) (fun v u H locs hp hP hD hS => ?_)
      obtain rfl := hp
      have hP : va_P D vwCl (mw cI cZ o J Z) H := hP
      have hD : va_D A (mw cI cZ o J Z) := hD
      refine q_top (v2 := .int (nI 1)) (by rw [inr_nI (by omega) (by omega)]; rfl) ?_
      refine lv_if_ne (tgt := 38) B.hx B.hb dX4_draft_31 (by decide) (fun _ => ?_) (fun c13 => absurd c13 (by decide))
      refine lv_iload B.hx B.hb dX4_draft_38 (lv_at hl 0 rfl) ?_
      refine lv_if_ne (tgt := 47) B.hx B.hb dX4_draft_40 (by decide) (fun c14 => absurd c14 (by decide)) (fun _ => ?_)
      refine lv_iconst (v := (nI 2)) B.hx B.hb dX4_draft_43 (by decide) ?_
      refine lv_goto (tgt := 61) B.hx B.hb dX4_draft_44 (by decide) ?_
      refine q_callV (As := [.int (nI 2)]) (rest := []) B hP hD hS (c4_can l D cI cZ cP cJ o J Z (nI 2)) (cwV 1 B.hts gX4_draft_X4_can rfl rfl rfl (by decide +kernel) ⟨(Nat.le_of_ble_eq_true rfl), (Nat.le_of_ble_eq_true rfl)⟩) 0 4 rfl rfl rfl rfl hl.1 rfl (Nat.le_of_ble_eq_true rfl) dX4_draft_61 ⟨(Nat.le_of_ble_eq_true rfl), (Nat.le_of_ble_eq_true rfl)⟩ (fun E ce q9 H locs hx => False.elim hx) (fun v u H locs hp hP hD hS => ?_)
      obtain rfl := hp
      have hP : va_P D vwCl (mw cI cZ o (va_up J 30 (nI 2)) Z) H := hP
      have hD : va_D A (mw cI cZ o (va_up J 30 (nI 2)) Z) := hD
      refine q_top (v2 := .int (nI 0)) rfl ?_
      refine lv_if_eq (tgt := 139) B.hx B.hb dX4_draft_64 (by decide) (fun _ => ?_) (fun c15 => absurd c15 (by decide))
      have hK : kDraft x y (Z 8 j) = 2 := by simp [kDraft, hrg0, hrg1]
      exact q_vret B hr hP hD hS (u := ()) (by rw [hK] <;> first | rfl | (simp only [if_true] <;> rfl)) rfl (Nat.le_of_ble_eq_true rfl) (Nat.le_of_ble_eq_true rfl) dX4_draft_139
  · have hP : va_P D vwCl (mw cI cZ o J Z) H := hP
    have hD : va_D A (mw cI cZ o J Z) := hD
    refine lv_if_eq (tgt := 22) B.hx B.hb dX4_draft_4 (by decide) (fun _ => ?_) (fun c16 => absurd c16 (by decide))
    refine lv_iconst (v := (nI 0)) B.hx B.hb dX4_draft_22 (by decide) ?_
    refine lv_istore (lv' := [(4, .int (nI 0)), (0, .ref (o 0)), (1, .int (nI j)), (2, .int x), (3, .int y)]) B.hx B.hb dX4_draft_23 hl (by decide) rfl (fun ls hl => ?_)
    refine lv_aload_n B.hx B.hb dX4_draft_25 rfl (lv_at hl 1 rfl) ?_
    refine lv_aload_n B.hx B.hb dX4_draft_26 rfl (lv_at hl 1 rfl) ?_
    refine lv_iload_n B.hx B.hb dX4_draft_27 rfl (lv_at hl 2 rfl) ?_
    refine q_callV (As := [.int (nI j)]) (rest := [.ref (o 0)]) B hP hD hS (c4_isPaper l D cI cZ cP cJ o J Z n hn hn8 (nI j)) (cwV 1 B.hts gX4_draft_X4_isPaper rfl rfl rfl (by decide +kernel) ⟨(Nat.le_of_ble_eq_true rfl), (Nat.le_of_ble_eq_true rfl)⟩) 0 4 rfl rfl rfl rfl hl.1 rfl (Nat.le_of_ble_eq_true rfl) dX4_draft_28 ⟨(Nat.le_of_ble_eq_true rfl), (Nat.le_of_ble_eq_true rfl)⟩ (fun E ce q9 H locs hx => False.elim hx) (fun v u H locs hp hP hD hS => ?_)
    obtain rfl := hp
    have hP : va_P D vwCl (mw cI cZ o J Z) H := hP
    have hD : va_D A (mw cI cZ o J Z) := hD
    refine q_top (v2 := .int (nI 1)) (by rw [inr_nI (by omega) (by omega)]; rfl) ?_
    refine lv_if_ne (tgt := 38) B.hx B.hb dX4_draft_31 (by decide) (fun _ => ?_) (fun c17 => absurd c17 (by decide))
    refine lv_iload B.hx B.hb dX4_draft_38 (lv_at hl 0 rfl) ?_
    refine lv_if_ne (tgt := 47) B.hx B.hb dX4_draft_40 (by decide) (fun c18 => absurd c18 (by decide)) (fun _ => ?_)
    refine lv_iconst (v := (nI 2)) B.hx B.hb dX4_draft_43 (by decide) ?_
    refine lv_goto (tgt := 61) B.hx B.hb dX4_draft_44 (by decide) ?_
    refine q_callV (As := [.int (nI 2)]) (rest := []) B hP hD hS (c4_can l D cI cZ cP cJ o J Z (nI 2)) (cwV 1 B.hts gX4_draft_X4_can rfl rfl rfl (by decide +kernel) ⟨(Nat.le_of_ble_eq_true rfl), (Nat.le_of_ble_eq_true rfl)⟩) 0 4 rfl rfl rfl rfl hl.1 rfl (Nat.le_of_ble_eq_true rfl) dX4_draft_61 ⟨(Nat.le_of_ble_eq_true rfl), (Nat.le_of_ble_eq_true rfl)⟩ (fun E ce q9 H locs hx => False.elim hx) (fun v u H locs hp hP hD hS => ?_)
    obtain rfl := hp
    have hP : va_P D vwCl (mw cI cZ o (va_up J 30 (nI 2)) Z) H := hP
    have hD : va_D A (mw cI cZ o (va_up J 30 (nI 2)) Z) := hD
    refine q_top (v2 := .int (nI 0)) rfl ?_
    refine lv_if_eq (tgt := 139) B.hx B.hb dX4_draft_64 (by decide) (fun _ => ?_) (fun c19 => absurd c19 (by decide))
    have hK : kDraft x y (Z 8 j) = 2 := by simp [kDraft, hrg0]
    exact q_vret B hr hP hD hS (u := ()) (by rw [hK] <;> first | rfl | (simp only [if_true] <;> rfl)) rfl (Nat.le_of_ble_eq_true rfl) (Nat.le_of_ble_eq_true rfl) dX4_draft_139
set_option maxHeartbeats 4000000 in
set_option maxRecDepth 100000 in
theorem c4_change (l : Launch) (D : va_G) (cI cZ cP cJ : ClassId) (o : Nat → Nat) (J : Nat → Int32) (Z : Nat → Nat → Int32) (n : Nat) (hn : J 5 = nI n) (hn8 : n ≤ 8) (j : Nat) (hj : j < n) (y : Int32) : q_C l yX4_change wsX4_change ({ frames := 2, cells := 0, slots := 0, locals := 43 }) D cI cZ cP cJ [.ref (o 0), .int (nI j), .int y] (mw cI cZ o J Z) (S := Unit) (fun v _ => v = some (.int (if kChange y (Z 8 j) (Z 10 j) = 0 then Z 11 j + nI 1 else nI 0))) (fun _ => mw cI cZ o (va_up J 30 (nI (kChange y (Z 8 j) (Z 10 j)))) (if kChange y (Z 8 j) (Z 10 j) = 0 then (va_up (va_up (va_up (va_up (va_up (va_up (va_up Z 10 (upd (Z 10) j y)) 11 (upd (Z 11) j (Z 11 j + nI 1))) 14 (zr (Z 14) (4 * j) 4)) 15 (upd (Z 15) j (nI 0))) 16 (zr (Z 16) (4 * j) 4)) 17 (upd (Z 17) j (nI 0))) 20 (zr (Z 20) (6 * j) 6)) else Z)) (fun _ => False) 0 0 := by
  refine q_of (cc := cX4_change) (maxL := 3) (ret := (some .int)) (by decide +kernel) rfl (Nat.le_of_ble_eq_true rfl) ?_
  intro p e s m below meth c A ls B hr htb hmn hP hD hS hl
  have hl : lv_has ls 3 [(0, .ref (o 0)), (1, .int (nI j)), (2, .int y)] := hl
  have hi4 : ∀ w ∈ u_ws RX4 TX4 31, w ∈ wsX4_change := by decide +kernel
  have hj8 : j < 8 := by omega
  refine lv_aload_n B.hx B.hb dX4_change_0 rfl (lv_at hl 0 rfl) ?_
  refine lv_aload_n B.hx B.hb dX4_change_1 rfl (lv_at hl 0 rfl) ?_
  refine lv_iload_n B.hx B.hb dX4_change_2 rfl (lv_at hl 1 rfl) ?_
  refine q_callV (As := [.int (nI j)]) (rest := [.ref (o 0)]) B hP hD hS (c4_isPaper l D cI cZ cP cJ o J Z n hn hn8 (nI j)) (cwV 1 B.hts gX4_change_X4_isPaper rfl rfl rfl (by decide +kernel) ⟨(Nat.le_of_ble_eq_true rfl), (Nat.le_of_ble_eq_true rfl)⟩) 0 4 rfl rfl rfl rfl hl.1 rfl (Nat.le_of_ble_eq_true rfl) dX4_change_3 ⟨(Nat.le_of_ble_eq_true rfl), (Nat.le_of_ble_eq_true rfl)⟩ (fun E ce q9 H locs hx => False.elim hx) (fun v u H locs hp hP hD hS => ?_)
  obtain rfl := hp
  have hP : va_P D vwCl (mw cI cZ o J Z) H := hP
  have hD : va_D A (mw cI cZ o J Z) := hD
  refine q_top (v2 := .int (nI 1)) (by rw [inr_nI (by omega) (by omega)]; rfl) ?_
  refine lv_if_ne (tgt := 13) B.hx B.hb dX4_change_6 (by decide) (fun _ => ?_) (fun c1 => absurd c1 (by decide))
  refine lv_iload_n B.hx B.hb dX4_change_13 rfl (lv_at hl 2 rfl) ?_
  refine lv_iconst (v := (nI 0)) B.hx B.hb dX4_change_14 (by decide) ?_
  refine lv_sipush (v := (nI 9999)) B.hx B.hb dX4_change_15 (by decide) ?_
  refine q_callS (As := [.int y, .int (nI 0), .int (nI 9999)]) (rest := [.ref (o 0)]) B hP hD hS ((c4_isIn l D cI cZ cP cJ y (nI 0) (nI 9999)).fr0 (mw cI cZ o J Z)) (cwS 3 B.hts gX4_change_X4_isIn rfl rfl rfl (by decide +kernel) ⟨(Nat.le_of_ble_eq_true rfl), (Nat.le_of_ble_eq_true rfl)⟩) rfl hl.1 rfl (Nat.le_of_ble_eq_true rfl) dX4_change_18 ⟨(Nat.le_of_ble_eq_true rfl), (Nat.le_of_ble_eq_true rfl)⟩ (fun E ce q9 H locs hx => False.elim hx) (fun v u H locs hp hP hD hS => ?_)
  replace hp := bI2 hp
  rcases hp with ⟨rfl, hrg0⟩ | ⟨rfl, hrg0⟩
  · have hP : va_P D vwCl (mw cI cZ o J Z) H := hP
    have hD : va_D A (mw cI cZ o J Z) := hD
    refine lv_if_ne (tgt := 28) B.hx B.hb dX4_change_21 (by decide) (fun _ => ?_) (fun c2 => absurd c2 (by decide))
    refine lv_aload_n B.hx B.hb dX4_change_28 rfl (lv_at hl 0 rfl) ?_
    refine q_get B hP (C := RX4) (ref := "PaperKeeperModel") (T := TX4) (N := 31) (ci := 4) hi4 rfl 0 rfl 8 (by decide) (by decide +kernel) rfl (v := .ref (o 8)) rfl dX4_change_29 ?_
    refine lv_iload_n B.hx B.hb dX4_change_32 rfl (lv_at hl 1 rfl) ?_
    refine q_zald (f := (Z 8)) B hP 6 rfl (j := j) rfl (by omega) (by decide) dX4_change_33 ?_
    refine lv_if_eq (tgt := 47) B.hx B.hb dX4_change_34 (by decide) (fun c3 => ?_) (fun c3 => ?_)
    · refine lv_iconst (v := (nI 3)) B.hx B.hb dX4_change_47 (by decide) ?_
      refine lv_goto (tgt := 52) B.hx B.hb dX4_change_48 (by decide) ?_
      refine q_callV (As := [.int (nI 3)]) (rest := []) B hP hD hS (c4_can l D cI cZ cP cJ o J Z (nI 3)) (cwV 1 B.hts gX4_change_X4_can rfl rfl rfl (by decide +kernel) ⟨(Nat.le_of_ble_eq_true rfl), (Nat.le_of_ble_eq_true rfl)⟩) 0 4 rfl rfl rfl rfl hl.1 rfl (Nat.le_of_ble_eq_true rfl) dX4_change_52 ⟨(Nat.le_of_ble_eq_true rfl), (Nat.le_of_ble_eq_true rfl)⟩ (fun E ce q9 H locs hx => False.elim hx) (fun v u H locs hp hP hD hS => ?_)
      obtain rfl := hp
      have hP : va_P D vwCl (mw cI cZ o (va_up J 30 (nI 3)) Z) H := hP
      have hD : va_D A (mw cI cZ o (va_up J 30 (nI 3)) Z) := hD
      refine q_top (v2 := .int (nI 0)) rfl ?_
      refine lv_if_ne (tgt := 60) B.hx B.hb dX4_change_55 (by decide) (fun c4 => absurd c4 (by decide)) (fun _ => ?_)
      refine lv_iconst (v := (nI 0)) B.hx B.hb dX4_change_58 (by decide) ?_
      have hK : kChange y (Z 8 j) (Z 10 j) = 3 := by simp [kChange, hrg0, c3]
      exact q_iret B hr hP hD hS (u := ()) (by rw [hK] <;> first | rfl | (simp only [if_true] <;> rfl)) (by rw [hK] <;> first | rfl | (simp only [if_true] <;> rfl)) (Nat.le_of_ble_eq_true rfl) (Nat.le_of_ble_eq_true rfl) dX4_change_59
    · refine lv_aload_n B.hx B.hb dX4_change_37 rfl (lv_at hl 0 rfl) ?_
      refine q_get B hP (C := RX4) (ref := "PaperKeeperModel") (T := TX4) (N := 31) (ci := 4) hi4 rfl 0 rfl 10 (by decide) (by decide +kernel) rfl (v := .ref (o 10)) rfl dX4_change_38 ?_
      refine lv_iload_n B.hx B.hb dX4_change_41 rfl (lv_at hl 1 rfl) ?_
      refine q_iald (f := (Z 10)) B hP 8 rfl (j := j) rfl (by omega) (by decide) dX4_change_42 ?_
      refine lv_iload_n B.hx B.hb dX4_change_43 rfl (lv_at hl 2 rfl) ?_
      refine lv_icmp_ne (tgt := 51) B.hx B.hb dX4_change_44 (by decide) (fun c5 => ?_) (fun c5 => ?_)
      · refine lv_iconst (v := (nI 0)) B.hx B.hb dX4_change_51 (by decide) ?_
        refine q_callV (As := [.int (nI 0)]) (rest := []) B hP hD hS (c4_can l D cI cZ cP cJ o J Z (nI 0)) (cwV 1 B.hts gX4_change_X4_can rfl rfl rfl (by decide +kernel) ⟨(Nat.le_of_ble_eq_true rfl), (Nat.le_of_ble_eq_true rfl)⟩) 0 4 rfl rfl rfl rfl hl.1 rfl (Nat.le_of_ble_eq_true rfl) dX4_change_52 ⟨(Nat.le_of_ble_eq_true rfl), (Nat.le_of_ble_eq_true rfl)⟩ (fun E ce q9 H locs hx => False.elim hx) (fun v u H locs hp hP hD hS => ?_)
        obtain rfl := hp
        have hP : va_P D vwCl (mw cI cZ o (va_up J 30 (nI 0)) Z) H := hP
        have hD : va_D A (mw cI cZ o (va_up J 30 (nI 0)) Z) := hD
        refine q_top (v2 := .int (nI 1)) rfl ?_
        refine lv_if_ne (tgt := 60) B.hx B.hb dX4_change_55 (by decide) (fun _ => ?_) (fun c6 => absurd c6 (by decide))
        refine lv_aload_n B.hx B.hb dX4_change_60 rfl (lv_at hl 0 rfl) ?_
        refine q_get B hP (C := RX4) (ref := "PaperKeeperModel") (T := TX4) (N := 31) (ci := 4) hi4 rfl 0 rfl 10 (by decide) (by decide +kernel) rfl (v := .ref (o 10)) rfl dX4_change_61 ?_
        refine lv_iload_n B.hx B.hb dX4_change_64 rfl (lv_at hl 1 rfl) ?_
        refine lv_iload_n B.hx B.hb dX4_change_65 rfl (lv_at hl 2 rfl) ?_
        refine q_iast B hP hD hS 8 rfl (j := j) rfl (by omega) (by decide) dX4_change_66 (w' := mw cI cZ o (va_up J 30 (nI 0)) (va_up Z 10 (upd (Z 10) j y))) rfl (fun H locs hP hD hS => ?_)
        refine lv_aload_n B.hx B.hb dX4_change_67 rfl (lv_at hl 0 rfl) ?_
        refine q_get B hP (C := RX4) (ref := "PaperKeeperModel") (T := TX4) (N := 31) (ci := 4) hi4 rfl 0 rfl 11 (by decide) (by decide +kernel) rfl (v := .ref (o 11)) rfl dX4_change_68 ?_
        refine lv_iload_n B.hx B.hb dX4_change_71 rfl (lv_at hl 1 rfl) ?_
        refine lv_dup2_11 B.hx B.hb dX4_change_72 rfl rfl ?_
        refine q_iald (f := (Z 11)) B hP 9 rfl (j := j) rfl (by omega) (by decide) dX4_change_73 ?_
        refine lv_iconst (v := (nI 1)) B.hx B.hb dX4_change_74 (by decide) ?_
        refine lv_iadd B.hx B.hb dX4_change_75 ?_
        refine q_iast B hP hD hS 9 rfl (j := j) rfl (by omega) (by decide) dX4_change_76 (w' := mw cI cZ o (va_up J 30 (nI 0)) (va_up (va_up Z 10 (upd (Z 10) j y)) 11 (upd (Z 11) j (((Z 11) j) + (nI 1))))) rfl (fun H locs hP hD hS => ?_)
        refine lv_aload_n B.hx B.hb dX4_change_77 rfl (lv_at hl 0 rfl) ?_
        refine lv_iload_n B.hx B.hb dX4_change_78 rfl (lv_at hl 1 rfl) ?_
        refine q_callV (As := [.int (nI j)]) (rest := []) B hP hD hS (c4_beginsRound l D cI cZ cP cJ o (va_up J 30 (nI 0)) (va_up (va_up Z 10 (upd (Z 10) j y)) 11 (upd (Z 11) j (((Z 11) j) + (nI 1)))) j hj8) (cwV 1 B.hts gX4_change_X4_beginsRound rfl rfl rfl (by decide +kernel) ⟨(Nat.le_of_ble_eq_true rfl), (Nat.le_of_ble_eq_true rfl)⟩) 0 4 rfl rfl rfl rfl hl.1 rfl (Nat.le_of_ble_eq_true rfl) dX4_change_79 ⟨(Nat.le_of_ble_eq_true rfl), (Nat.le_of_ble_eq_true rfl)⟩ (fun E ce q9 H locs hx => False.elim hx) (fun v u H locs hp hP hD hS => ?_)
        obtain rfl := hp
        have hP : va_P D vwCl (mw cI cZ o (va_up J 30 (nI 0)) (va_up (va_up (va_up (va_up (va_up (va_up (va_up Z 10 (upd (Z 10) j y)) 11 (upd (Z 11) j (((Z 11) j) + (nI 1)))) 14 (zr (Z 14) (4 * j) 4)) 15 (upd (Z 15) j (nI 0))) 16 (zr (Z 16) (4 * j) 4)) 17 (upd (Z 17) j (nI 0))) 20 (zr (Z 20) (6 * j) 6))) H := hP
        have hD : va_D A (mw cI cZ o (va_up J 30 (nI 0)) (va_up (va_up (va_up (va_up (va_up (va_up (va_up Z 10 (upd (Z 10) j y)) 11 (upd (Z 11) j (((Z 11) j) + (nI 1)))) 14 (zr (Z 14) (4 * j) 4)) 15 (upd (Z 15) j (nI 0))) 16 (zr (Z 16) (4 * j) 4)) 17 (upd (Z 17) j (nI 0))) 20 (zr (Z 20) (6 * j) 6))) := hD
        refine lv_aload_n B.hx B.hb dX4_change_82 rfl (lv_at hl 0 rfl) ?_
        refine q_get B hP (C := RX4) (ref := "PaperKeeperModel") (T := TX4) (N := 31) (ci := 4) hi4 rfl 0 rfl 11 (by decide) (by decide +kernel) rfl (v := .ref (o 11)) rfl dX4_change_83 ?_
        refine lv_iload_n B.hx B.hb dX4_change_86 rfl (lv_at hl 1 rfl) ?_
        refine q_iald (f := (upd (Z 11) j (((Z 11) j) + (nI 1)))) B hP 9 rfl (j := j) rfl (by omega) (by decide) dX4_change_87 ?_
        refine q_top (v2 := .int (((Z 11) j) + (nI 1))) (congrArg Value.int pk_us) ?_
        have hK : kChange y (Z 8 j) (Z 10 j) = 0 := by simp [kChange, hrg0, c3, c5]
        exact q_iret B hr hP hD hS (u := ()) (by rw [hK] <;> first | rfl | (simp only [if_true] <;> rfl)) (by rw [hK] <;> first | rfl | (simp only [if_true] <;> rfl)) (Nat.le_of_ble_eq_true rfl) (Nat.le_of_ble_eq_true rfl) dX4_change_88
      · refine lv_iconst (v := (nI 3)) B.hx B.hb dX4_change_47 (by decide) ?_
        refine lv_goto (tgt := 52) B.hx B.hb dX4_change_48 (by decide) ?_
        refine q_callV (As := [.int (nI 3)]) (rest := []) B hP hD hS (c4_can l D cI cZ cP cJ o J Z (nI 3)) (cwV 1 B.hts gX4_change_X4_can rfl rfl rfl (by decide +kernel) ⟨(Nat.le_of_ble_eq_true rfl), (Nat.le_of_ble_eq_true rfl)⟩) 0 4 rfl rfl rfl rfl hl.1 rfl (Nat.le_of_ble_eq_true rfl) dX4_change_52 ⟨(Nat.le_of_ble_eq_true rfl), (Nat.le_of_ble_eq_true rfl)⟩ (fun E ce q9 H locs hx => False.elim hx) (fun v u H locs hp hP hD hS => ?_)
        obtain rfl := hp
        have hP : va_P D vwCl (mw cI cZ o (va_up J 30 (nI 3)) Z) H := hP
        have hD : va_D A (mw cI cZ o (va_up J 30 (nI 3)) Z) := hD
        refine q_top (v2 := .int (nI 0)) rfl ?_
        refine lv_if_ne (tgt := 60) B.hx B.hb dX4_change_55 (by decide) (fun c7 => absurd c7 (by decide)) (fun _ => ?_)
        refine lv_iconst (v := (nI 0)) B.hx B.hb dX4_change_58 (by decide) ?_
        have hK : kChange y (Z 8 j) (Z 10 j) = 3 := by simp [kChange, hrg0, c3, c5]
        exact q_iret B hr hP hD hS (u := ()) (by rw [hK] <;> first | rfl | (simp only [if_true] <;> rfl)) (by rw [hK] <;> first | rfl | (simp only [if_true] <;> rfl)) (Nat.le_of_ble_eq_true rfl) (Nat.le_of_ble_eq_true rfl) dX4_change_59
  · have hP : va_P D vwCl (mw cI cZ o J Z) H := hP
    have hD : va_D A (mw cI cZ o J Z) := hD
    refine lv_if_ne (tgt := 28) B.hx B.hb dX4_change_21 (by decide) (fun c8 => absurd c8 (by decide)) (fun _ => ?_)
    refine lv_iconst (v := (nI 2)) B.hx B.hb dX4_change_24 (by decide) ?_
    refine lv_goto (tgt := 52) B.hx B.hb dX4_change_25 (by decide) ?_
    refine q_callV (As := [.int (nI 2)]) (rest := []) B hP hD hS (c4_can l D cI cZ cP cJ o J Z (nI 2)) (cwV 1 B.hts gX4_change_X4_can rfl rfl rfl (by decide +kernel) ⟨(Nat.le_of_ble_eq_true rfl), (Nat.le_of_ble_eq_true rfl)⟩) 0 4 rfl rfl rfl rfl hl.1 rfl (Nat.le_of_ble_eq_true rfl) dX4_change_52 ⟨(Nat.le_of_ble_eq_true rfl), (Nat.le_of_ble_eq_true rfl)⟩ (fun E ce q9 H locs hx => False.elim hx) (fun v u H locs hp hP hD hS => ?_)
    obtain rfl := hp
    have hP : va_P D vwCl (mw cI cZ o (va_up J 30 (nI 2)) Z) H := hP
    have hD : va_D A (mw cI cZ o (va_up J 30 (nI 2)) Z) := hD
    refine q_top (v2 := .int (nI 0)) rfl ?_
    refine lv_if_ne (tgt := 60) B.hx B.hb dX4_change_55 (by decide) (fun c9 => absurd c9 (by decide)) (fun _ => ?_)
    refine lv_iconst (v := (nI 0)) B.hx B.hb dX4_change_58 (by decide) ?_
    have hK : kChange y (Z 8 j) (Z 10 j) = 2 := by simp [kChange, hrg0]
    exact q_iret B hr hP hD hS (u := ()) (by rw [hK] <;> first | rfl | (simp only [if_true] <;> rfl)) (by rw [hK] <;> first | rfl | (simp only [if_true] <;> rfl)) (Nat.le_of_ble_eq_true rfl) (Nat.le_of_ble_eq_true rfl) dX4_change_59
set_option maxHeartbeats 4000000 in
set_option maxRecDepth 100000 in
theorem c4_drop (l : Launch) (D : va_G) (cI cZ cP cJ : ClassId) (o : Nat → Nat) (J : Nat → Int32) (Z : Nat → Nat → Int32) (n : Nat) (hn : J 5 = nI n) (hn8 : n ≤ 8) (j : Nat) (hj : j < n) : q_C l yX4_drop wsX4_drop ({ frames := 2, cells := 0, slots := 0, locals := 43 }) D cI cZ cP cJ [.ref (o 0), .int (nI j)] (mw cI cZ o J Z) (S := Unit) (fun v _ => v = some (.int (if kDrop (Z 8 j) = 0 then Z 10 j else nI 0))) (fun _ => mw cI cZ o (va_up J 30 (nI (kDrop (Z 8 j)))) (if kDrop (Z 8 j) = 0 then (va_up Z 8 (upd (Z 8) j (nI 0))) else Z)) (fun _ => False) 0 0 := by
  refine q_of (cc := cX4_drop) (maxL := 2) (ret := (some .int)) (by decide +kernel) rfl (Nat.le_of_ble_eq_true rfl) ?_
  intro p e s m below meth c A ls B hr htb hmn hP hD hS hl
  have hl : lv_has ls 2 [(0, .ref (o 0)), (1, .int (nI j))] := hl
  have hi4 : ∀ w ∈ u_ws RX4 TX4 31, w ∈ wsX4_drop := by decide +kernel
  have hj8 : j < 8 := by omega
  refine lv_aload_n B.hx B.hb dX4_drop_0 rfl (lv_at hl 0 rfl) ?_
  refine lv_aload_n B.hx B.hb dX4_drop_1 rfl (lv_at hl 0 rfl) ?_
  refine lv_iload_n B.hx B.hb dX4_drop_2 rfl (lv_at hl 1 rfl) ?_
  refine q_callV (As := [.int (nI j)]) (rest := [.ref (o 0)]) B hP hD hS (c4_isPaper l D cI cZ cP cJ o J Z n hn hn8 (nI j)) (cwV 1 B.hts gX4_drop_X4_isPaper rfl rfl rfl (by decide +kernel) ⟨(Nat.le_of_ble_eq_true rfl), (Nat.le_of_ble_eq_true rfl)⟩) 0 4 rfl rfl rfl rfl hl.1 rfl (Nat.le_of_ble_eq_true rfl) dX4_drop_3 ⟨(Nat.le_of_ble_eq_true rfl), (Nat.le_of_ble_eq_true rfl)⟩ (fun E ce q9 H locs hx => False.elim hx) (fun v u H locs hp hP hD hS => ?_)
  obtain rfl := hp
  have hP : va_P D vwCl (mw cI cZ o J Z) H := hP
  have hD : va_D A (mw cI cZ o J Z) := hD
  refine q_top (v2 := .int (nI 1)) (by rw [inr_nI (by omega) (by omega)]; rfl) ?_
  refine lv_if_ne (tgt := 13) B.hx B.hb dX4_drop_6 (by decide) (fun _ => ?_) (fun c1 => absurd c1 (by decide))
  refine lv_aload_n B.hx B.hb dX4_drop_13 rfl (lv_at hl 0 rfl) ?_
  refine q_get B hP (C := RX4) (ref := "PaperKeeperModel") (T := TX4) (N := 31) (ci := 4) hi4 rfl 0 rfl 8 (by decide) (by decide +kernel) rfl (v := .ref (o 8)) rfl dX4_drop_14 ?_
  refine lv_iload_n B.hx B.hb dX4_drop_17 rfl (lv_at hl 1 rfl) ?_
  refine q_zald (f := (Z 8)) B hP 6 rfl (j := j) rfl (by omega) (by decide) dX4_drop_18 ?_
  refine lv_if_eq (tgt := 26) B.hx B.hb dX4_drop_19 (by decide) (fun c2 => ?_) (fun c2 => ?_)
  · refine lv_iconst (v := (nI 2)) B.hx B.hb dX4_drop_26 (by decide) ?_
    refine q_callV (As := [.int (nI 2)]) (rest := []) B hP hD hS (c4_can l D cI cZ cP cJ o J Z (nI 2)) (cwV 1 B.hts gX4_drop_X4_can rfl rfl rfl (by decide +kernel) ⟨(Nat.le_of_ble_eq_true rfl), (Nat.le_of_ble_eq_true rfl)⟩) 0 4 rfl rfl rfl rfl hl.1 rfl (Nat.le_of_ble_eq_true rfl) dX4_drop_27 ⟨(Nat.le_of_ble_eq_true rfl), (Nat.le_of_ble_eq_true rfl)⟩ (fun E ce q9 H locs hx => False.elim hx) (fun v u H locs hp hP hD hS => ?_)
    obtain rfl := hp
    have hP : va_P D vwCl (mw cI cZ o (va_up J 30 (nI 2)) Z) H := hP
    have hD : va_D A (mw cI cZ o (va_up J 30 (nI 2)) Z) := hD
    refine q_top (v2 := .int (nI 0)) rfl ?_
    refine lv_if_ne (tgt := 35) B.hx B.hb dX4_drop_30 (by decide) (fun c3 => absurd c3 (by decide)) (fun _ => ?_)
    refine lv_iconst (v := (nI 0)) B.hx B.hb dX4_drop_33 (by decide) ?_
    have hK : kDrop (Z 8 j) = 2 := by simp [kDrop, c2]
    exact q_iret B hr hP hD hS (u := ()) (by rw [hK] <;> first | rfl | (simp only [if_true] <;> rfl)) (by rw [hK] <;> first | rfl | (simp only [if_true] <;> rfl)) (Nat.le_of_ble_eq_true rfl) (Nat.le_of_ble_eq_true rfl) dX4_drop_34
  · refine lv_iconst (v := (nI 0)) B.hx B.hb dX4_drop_22 (by decide) ?_
    refine lv_goto (tgt := 27) B.hx B.hb dX4_drop_23 (by decide) ?_
    refine q_callV (As := [.int (nI 0)]) (rest := []) B hP hD hS (c4_can l D cI cZ cP cJ o J Z (nI 0)) (cwV 1 B.hts gX4_drop_X4_can rfl rfl rfl (by decide +kernel) ⟨(Nat.le_of_ble_eq_true rfl), (Nat.le_of_ble_eq_true rfl)⟩) 0 4 rfl rfl rfl rfl hl.1 rfl (Nat.le_of_ble_eq_true rfl) dX4_drop_27 ⟨(Nat.le_of_ble_eq_true rfl), (Nat.le_of_ble_eq_true rfl)⟩ (fun E ce q9 H locs hx => False.elim hx) (fun v u H locs hp hP hD hS => ?_)
    obtain rfl := hp
    have hP : va_P D vwCl (mw cI cZ o (va_up J 30 (nI 0)) Z) H := hP
    have hD : va_D A (mw cI cZ o (va_up J 30 (nI 0)) Z) := hD
    refine q_top (v2 := .int (nI 1)) rfl ?_
    refine lv_if_ne (tgt := 35) B.hx B.hb dX4_drop_30 (by decide) (fun _ => ?_) (fun c4 => absurd c4 (by decide))
    refine lv_aload_n B.hx B.hb dX4_drop_35 rfl (lv_at hl 0 rfl) ?_
    refine q_get B hP (C := RX4) (ref := "PaperKeeperModel") (T := TX4) (N := 31) (ci := 4) hi4 rfl 0 rfl 8 (by decide) (by decide +kernel) rfl (v := .ref (o 8)) rfl dX4_drop_36 ?_
    refine lv_iload_n B.hx B.hb dX4_drop_39 rfl (lv_at hl 1 rfl) ?_
    refine lv_iconst (v := (nI 0)) B.hx B.hb dX4_drop_40 (by decide) ?_
    refine q_zast B hP hD hS 6 rfl (j := j) rfl (by omega) (by decide) (by decide) dX4_drop_41 (w' := mw cI cZ o (va_up J 30 (nI 0)) (va_up Z 8 (upd (Z 8) j (nI 0)))) rfl (fun H locs hP hD hS => ?_)
    refine lv_aload_n B.hx B.hb dX4_drop_42 rfl (lv_at hl 0 rfl) ?_
    refine q_get B hP (C := RX4) (ref := "PaperKeeperModel") (T := TX4) (N := 31) (ci := 4) hi4 rfl 0 rfl 10 (by decide) (by decide +kernel) rfl (v := .ref (o 10)) rfl dX4_drop_43 ?_
    refine lv_iload_n B.hx B.hb dX4_drop_46 rfl (lv_at hl 1 rfl) ?_
    refine q_iald (f := (Z 10)) B hP 8 rfl (j := j) rfl (by omega) (by decide) dX4_drop_47 ?_
    have hK : kDrop (Z 8 j) = 0 := by simp [kDrop, c2]
    exact q_iret B hr hP hD hS (u := ()) (by rw [hK] <;> first | rfl | (simp only [if_true] <;> rfl)) (by rw [hK] <;> first | rfl | (simp only [if_true] <;> rfl)) (Nat.le_of_ble_eq_true rfl) (Nat.le_of_ble_eq_true rfl) dX4_drop_48
set_option maxHeartbeats 4000000 in
set_option maxRecDepth 100000 in
theorem c4_reviewer (l : Launch) (D : va_G) (cI cZ cP cJ : ClassId) (o : Nat → Nat) (J : Nat → Int32) (Z : Nat → Nat → Int32) (n : Nat) (hn : J 5 = nI n) (hn8 : n ≤ 8) (j : Nat) (hj : j < n) (mm : Nat) (hm : Z 12 j = nI mm) (hm4 : mm ≤ 4) (x : Int32) : q_C l yX4_reviewer wsX4_reviewer ({ frames := 2, cells := 0, slots := 0, locals := 43 }) D cI cZ cP cJ [.ref (o 0), .int (nI j), .int x] (mw cI cZ o J Z) (S := Unit) (fun v _ => v = some (.int (if kReviewer x (Z 8 j) (Z 17 j) (Z 9 j) (Z 2 (ix x)) (decide (¬ mPL Z j mm x = -1)) mm = 0 then nI (mm + 1) else nI 0))) (fun _ => mw cI cZ o (va_up J 30 (nI (kReviewer x (Z 8 j) (Z 17 j) (Z 9 j) (Z 2 (ix x)) (decide (¬ mPL Z j mm x = -1)) mm))) (if kReviewer x (Z 8 j) (Z 17 j) (Z 9 j) (Z 2 (ix x)) (decide (¬ mPL Z j mm x = -1)) mm = 0 then (va_up (va_up (va_up Z 12 (upd (Z 12) j (nI (mm + 1)))) 13 (upd (Z 13) (4 * j + mm) x)) 14 (upd (Z 14) (4 * j + mm) (nI 0))) else Z)) (fun _ => False) 0 0 := by
  refine q_of (cc := cX4_reviewer) (maxL := 6) (ret := (some .int)) (by decide +kernel) rfl (Nat.le_of_ble_eq_true rfl) ?_
  intro p e s m below meth c A ls B hr htb hmn hP hD hS hl
  have hl : lv_has ls 6 [(0, .ref (o 0)), (1, .int (nI j)), (2, .int x)] := hl
  have hi4 : ∀ w ∈ u_ws RX4 TX4 31, w ∈ wsX4_reviewer := by decide +kernel
  have hj8 : j < 8 := by omega
  refine lv_aload_n B.hx B.hb dX4_reviewer_0 rfl (lv_at hl 0 rfl) ?_
  refine lv_iload_n B.hx B.hb dX4_reviewer_1 rfl (lv_at hl 1 rfl) ?_
  refine q_callV (As := [.int (nI j)]) (rest := []) B hP hD hS (c4_isPaper l D cI cZ cP cJ o J Z n hn hn8 (nI j)) (cwV 1 B.hts gX4_reviewer_X4_isPaper rfl rfl rfl (by decide +kernel) ⟨(Nat.le_of_ble_eq_true rfl), (Nat.le_of_ble_eq_true rfl)⟩) 0 4 rfl rfl rfl rfl hl.1 rfl (Nat.le_of_ble_eq_true rfl) dX4_reviewer_2 ⟨(Nat.le_of_ble_eq_true rfl), (Nat.le_of_ble_eq_true rfl)⟩ (fun E ce q9 H locs hx => False.elim hx) (fun v u H locs hp hP hD hS => ?_)
  obtain rfl := hp
  have hP : va_P D vwCl (mw cI cZ o J Z) H := hP
  have hD : va_D A (mw cI cZ o J Z) := hD
  refine q_top (v2 := .int (nI 1)) (by rw [inr_nI (by omega) (by omega)]; rfl) ?_
  refine lv_istore_n (lv' := [(3, .int (nI 1)), (0, .ref (o 0)), (1, .int (nI j)), (2, .int x)]) B.hx B.hb dX4_reviewer_5 rfl hl (by decide) rfl (fun ls hl => ?_)
  refine lv_iload_n B.hx B.hb dX4_reviewer_6 rfl (lv_at hl 3 rfl) ?_
  refine q_callS (As := [.int x]) (rest := []) B hP hD hS ((c4_isPerson l D cI cZ cP cJ x).fr0 (mw cI cZ o J Z)) (cwS 1 B.hts gX4_reviewer_X4_isPerson rfl rfl rfl (by decide +kernel) ⟨(Nat.le_of_ble_eq_true rfl), (Nat.le_of_ble_eq_true rfl)⟩) rfl hl.1 rfl (Nat.le_of_ble_eq_true rfl) dX4_reviewer_7 ⟨(Nat.le_of_ble_eq_true rfl), (Nat.le_of_ble_eq_true rfl)⟩ (fun E ce q9 H locs hx => False.elim hx) (fun v u H locs hp hP hD hS => ?_)
  replace hp := bI2 hp
  rcases hp with ⟨rfl, hrg0⟩ | ⟨rfl, hrg0⟩
  · have hP : va_P D vwCl (mw cI cZ o J Z) H := hP
    have hD : va_D A (mw cI cZ o J Z) := hD
    obtain ⟨j2, hjj2, rfl⟩ := rg_j (by decide) hrg0
    have hixj2 : ix (nI j2) = j2 := ix_nI (by omega)
    have hnmj2 : ¬ nI j2 = -1 := nI_nm1 (by omega)
    refine lv_istore (lv' := [(4, .int (nI 1)), (3, .int (nI 1)), (0, .ref (o 0)), (1, .int (nI j)), (2, .int (nI j2))]) B.hx B.hb dX4_reviewer_10 hl (by decide) rfl (fun ls hl => ?_)
    refine lv_iload_n B.hx B.hb dX4_reviewer_12 rfl (lv_at hl 1 rfl) ?_
    refine lv_if_eq (tgt := 82) B.hx B.hb dX4_reviewer_13 (by decide) (fun c1 => absurd c1 (by decide)) (fun _ => ?_)
    refine lv_iload B.hx B.hb dX4_reviewer_16 (lv_at hl 0 rfl) ?_
    refine lv_if_eq (tgt := 82) B.hx B.hb dX4_reviewer_18 (by decide) (fun c2 => absurd c2 (by decide)) (fun _ => ?_)
    refine lv_aload_n B.hx B.hb dX4_reviewer_21 rfl (lv_at hl 2 rfl) ?_
    refine q_get B hP (C := RX4) (ref := "PaperKeeperModel") (T := TX4) (N := 31) (ci := 4) hi4 rfl 0 rfl 8 (by decide) (by decide +kernel) rfl (v := .ref (o 8)) rfl dX4_reviewer_22 ?_
    refine lv_iload_n B.hx B.hb dX4_reviewer_25 rfl (lv_at hl 3 rfl) ?_
    refine q_zald (f := (Z 8)) B hP 6 rfl (j := j) rfl (by omega) (by decide) dX4_reviewer_26 ?_
    refine lv_if_eq (tgt := 82) B.hx B.hb dX4_reviewer_27 (by decide) (fun c3 => ?_) (fun c3 => ?_)
    · refine lv_iconst (v := (nI 0)) B.hx B.hb dX4_reviewer_82 (by decide) ?_
      refine lv_istore (lv' := [(5, .int (nI 0)), (4, .int (nI 1)), (3, .int (nI 1)), (0, .ref (o 0)), (1, .int (nI j)), (2, .int (nI j2))]) B.hx B.hb dX4_reviewer_83 hl (by decide) rfl (fun ls hl => ?_)
      refine lv_aload_n B.hx B.hb dX4_reviewer_85 rfl (lv_at hl 3 rfl) ?_
      refine lv_iload_n B.hx B.hb dX4_reviewer_86 rfl (lv_at hl 2 rfl) ?_
      refine lv_if_ne (tgt := 94) B.hx B.hb dX4_reviewer_87 (by decide) (fun _ => ?_) (fun c4 => absurd c4 (by decide))
      refine lv_iload B.hx B.hb dX4_reviewer_94 (lv_at hl 1 rfl) ?_
      refine lv_if_ne (tgt := 103) B.hx B.hb dX4_reviewer_96 (by decide) (fun _ => ?_) (fun c5 => absurd c5 (by decide))
      refine lv_iload B.hx B.hb dX4_reviewer_103 (lv_at hl 0 rfl) ?_
      refine lv_if_eq (tgt := 112) B.hx B.hb dX4_reviewer_105 (by decide) (fun _ => ?_) (fun c6 => absurd c6 (by decide))
      refine lv_iconst (v := (nI 3)) B.hx B.hb dX4_reviewer_112 (by decide) ?_
      refine q_callV (As := [.int (nI 3)]) (rest := []) B hP hD hS (c4_can l D cI cZ cP cJ o J Z (nI 3)) (cwV 1 B.hts gX4_reviewer_X4_can rfl rfl rfl (by decide +kernel) ⟨(Nat.le_of_ble_eq_true rfl), (Nat.le_of_ble_eq_true rfl)⟩) 0 4 rfl rfl rfl rfl hl.1 rfl (Nat.le_of_ble_eq_true rfl) dX4_reviewer_113 ⟨(Nat.le_of_ble_eq_true rfl), (Nat.le_of_ble_eq_true rfl)⟩ (fun E ce q9 H locs hx => False.elim hx) (fun v u H locs hp hP hD hS => ?_)
      obtain rfl := hp
      have hP : va_P D vwCl (mw cI cZ o (va_up J 30 (nI 3)) Z) H := hP
      have hD : va_D A (mw cI cZ o (va_up J 30 (nI 3)) Z) := hD
      refine q_top (v2 := .int (nI 0)) rfl ?_
      refine lv_if_ne (tgt := 121) B.hx B.hb dX4_reviewer_116 (by decide) (fun c7 => absurd c7 (by decide)) (fun _ => ?_)
      refine lv_iconst (v := (nI 0)) B.hx B.hb dX4_reviewer_119 (by decide) ?_
      have hK : kReviewer (nI j2) (Z 8 j) (Z 17 j) (Z 9 j) (Z 2 (ix (nI j2))) (decide (¬ mPL Z j mm (nI j2) = -1)) mm = 3 := by simp [kReviewer, hrg0, c3, hixj2, hnmj2]
      exact q_iret B hr hP hD hS (u := ()) (by rw [hK] <;> first | rfl | (simp only [if_true, hixj2] <;> rfl)) (by rw [hK] <;> first | rfl | (simp only [if_true, hixj2] <;> rfl)) (Nat.le_of_ble_eq_true rfl) (Nat.le_of_ble_eq_true rfl) dX4_reviewer_120
    · refine lv_aload_n B.hx B.hb dX4_reviewer_30 rfl (lv_at hl 2 rfl) ?_
      refine q_get B hP (C := RX4) (ref := "PaperKeeperModel") (T := TX4) (N := 31) (ci := 4) hi4 rfl 0 rfl 17 (by decide) (by decide +kernel) rfl (v := .ref (o 17)) rfl dX4_reviewer_31 ?_
      refine lv_iload_n B.hx B.hb dX4_reviewer_34 rfl (lv_at hl 3 rfl) ?_
      refine q_zald (f := (Z 17)) B hP 15 rfl (j := j) rfl (by omega) (by decide) dX4_reviewer_35 ?_
      refine lv_if_ne (tgt := 82) B.hx B.hb dX4_reviewer_36 (by decide) (fun c8 => ?_) (fun c8 => ?_)
      · refine lv_iconst (v := (nI 0)) B.hx B.hb dX4_reviewer_82 (by decide) ?_
        refine lv_istore (lv' := [(5, .int (nI 0)), (4, .int (nI 1)), (3, .int (nI 1)), (0, .ref (o 0)), (1, .int (nI j)), (2, .int (nI j2))]) B.hx B.hb dX4_reviewer_83 hl (by decide) rfl (fun ls hl => ?_)
        refine lv_aload_n B.hx B.hb dX4_reviewer_85 rfl (lv_at hl 3 rfl) ?_
        refine lv_iload_n B.hx B.hb dX4_reviewer_86 rfl (lv_at hl 2 rfl) ?_
        refine lv_if_ne (tgt := 94) B.hx B.hb dX4_reviewer_87 (by decide) (fun _ => ?_) (fun c9 => absurd c9 (by decide))
        refine lv_iload B.hx B.hb dX4_reviewer_94 (lv_at hl 1 rfl) ?_
        refine lv_if_ne (tgt := 103) B.hx B.hb dX4_reviewer_96 (by decide) (fun _ => ?_) (fun c10 => absurd c10 (by decide))
        refine lv_iload B.hx B.hb dX4_reviewer_103 (lv_at hl 0 rfl) ?_
        refine lv_if_eq (tgt := 112) B.hx B.hb dX4_reviewer_105 (by decide) (fun _ => ?_) (fun c11 => absurd c11 (by decide))
        refine lv_iconst (v := (nI 3)) B.hx B.hb dX4_reviewer_112 (by decide) ?_
        refine q_callV (As := [.int (nI 3)]) (rest := []) B hP hD hS (c4_can l D cI cZ cP cJ o J Z (nI 3)) (cwV 1 B.hts gX4_reviewer_X4_can rfl rfl rfl (by decide +kernel) ⟨(Nat.le_of_ble_eq_true rfl), (Nat.le_of_ble_eq_true rfl)⟩) 0 4 rfl rfl rfl rfl hl.1 rfl (Nat.le_of_ble_eq_true rfl) dX4_reviewer_113 ⟨(Nat.le_of_ble_eq_true rfl), (Nat.le_of_ble_eq_true rfl)⟩ (fun E ce q9 H locs hx => False.elim hx) (fun v u H locs hp hP hD hS => ?_)
        obtain rfl := hp
        have hP : va_P D vwCl (mw cI cZ o (va_up J 30 (nI 3)) Z) H := hP
        have hD : va_D A (mw cI cZ o (va_up J 30 (nI 3)) Z) := hD
        refine q_top (v2 := .int (nI 0)) rfl ?_
        refine lv_if_ne (tgt := 121) B.hx B.hb dX4_reviewer_116 (by decide) (fun c12 => absurd c12 (by decide)) (fun _ => ?_)
        refine lv_iconst (v := (nI 0)) B.hx B.hb dX4_reviewer_119 (by decide) ?_
        have hK : kReviewer (nI j2) (Z 8 j) (Z 17 j) (Z 9 j) (Z 2 (ix (nI j2))) (decide (¬ mPL Z j mm (nI j2) = -1)) mm = 3 := by simp [kReviewer, hrg0, c3, c8, hixj2, hnmj2]
        exact q_iret B hr hP hD hS (u := ()) (by rw [hK] <;> first | rfl | (simp only [if_true, hixj2] <;> rfl)) (by rw [hK] <;> first | rfl | (simp only [if_true, hixj2] <;> rfl)) (Nat.le_of_ble_eq_true rfl) (Nat.le_of_ble_eq_true rfl) dX4_reviewer_120
      · refine lv_iload_n B.hx B.hb dX4_reviewer_39 rfl (lv_at hl 4 rfl) ?_
        refine lv_aload_n B.hx B.hb dX4_reviewer_40 rfl (lv_at hl 2 rfl) ?_
        refine q_get B hP (C := RX4) (ref := "PaperKeeperModel") (T := TX4) (N := 31) (ci := 4) hi4 rfl 0 rfl 9 (by decide) (by decide +kernel) rfl (v := .ref (o 9)) rfl dX4_reviewer_41 ?_
        refine lv_iload_n B.hx B.hb dX4_reviewer_44 rfl (lv_at hl 3 rfl) ?_
        refine q_iald (f := (Z 9)) B hP 7 rfl (j := j) rfl (by omega) (by decide) dX4_reviewer_45 ?_
        refine lv_icmp_eq (tgt := 82) B.hx B.hb dX4_reviewer_46 (by decide) (fun c13 => ?_) (fun c13 => ?_)
        · replace c13 := c13.symm
          refine lv_iconst (v := (nI 0)) B.hx B.hb dX4_reviewer_82 (by decide) ?_
          refine lv_istore (lv' := [(5, .int (nI 0)), (4, .int (nI 1)), (3, .int (nI 1)), (0, .ref (o 0)), (1, .int (nI j)), (2, .int (nI j2))]) B.hx B.hb dX4_reviewer_83 hl (by decide) rfl (fun ls hl => ?_)
          refine lv_aload_n B.hx B.hb dX4_reviewer_85 rfl (lv_at hl 3 rfl) ?_
          refine lv_iload_n B.hx B.hb dX4_reviewer_86 rfl (lv_at hl 2 rfl) ?_
          refine lv_if_ne (tgt := 94) B.hx B.hb dX4_reviewer_87 (by decide) (fun _ => ?_) (fun c14 => absurd c14 (by decide))
          refine lv_iload B.hx B.hb dX4_reviewer_94 (lv_at hl 1 rfl) ?_
          refine lv_if_ne (tgt := 103) B.hx B.hb dX4_reviewer_96 (by decide) (fun _ => ?_) (fun c15 => absurd c15 (by decide))
          refine lv_iload B.hx B.hb dX4_reviewer_103 (lv_at hl 0 rfl) ?_
          refine lv_if_eq (tgt := 112) B.hx B.hb dX4_reviewer_105 (by decide) (fun _ => ?_) (fun c16 => absurd c16 (by decide))
          refine lv_iconst (v := (nI 3)) B.hx B.hb dX4_reviewer_112 (by decide) ?_
          refine q_callV (As := [.int (nI 3)]) (rest := []) B hP hD hS (c4_can l D cI cZ cP cJ o J Z (nI 3)) (cwV 1 B.hts gX4_reviewer_X4_can rfl rfl rfl (by decide +kernel) ⟨(Nat.le_of_ble_eq_true rfl), (Nat.le_of_ble_eq_true rfl)⟩) 0 4 rfl rfl rfl rfl hl.1 rfl (Nat.le_of_ble_eq_true rfl) dX4_reviewer_113 ⟨(Nat.le_of_ble_eq_true rfl), (Nat.le_of_ble_eq_true rfl)⟩ (fun E ce q9 H locs hx => False.elim hx) (fun v u H locs hp hP hD hS => ?_)
          obtain rfl := hp
          have hP : va_P D vwCl (mw cI cZ o (va_up J 30 (nI 3)) Z) H := hP
          have hD : va_D A (mw cI cZ o (va_up J 30 (nI 3)) Z) := hD
          refine q_top (v2 := .int (nI 0)) rfl ?_
          refine lv_if_ne (tgt := 121) B.hx B.hb dX4_reviewer_116 (by decide) (fun c17 => absurd c17 (by decide)) (fun _ => ?_)
          refine lv_iconst (v := (nI 0)) B.hx B.hb dX4_reviewer_119 (by decide) ?_
          have hK : kReviewer (nI j2) (Z 8 j) (Z 17 j) (Z 9 j) (Z 2 (ix (nI j2))) (decide (¬ mPL Z j mm (nI j2) = -1)) mm = 3 := by simp [kReviewer, hrg0, c3, c8, c13, hixj2, hnmj2]
          exact q_iret B hr hP hD hS (u := ()) (by rw [hK] <;> first | rfl | (simp only [if_true, hixj2] <;> rfl)) (by rw [hK] <;> first | rfl | (simp only [if_true, hixj2] <;> rfl)) (Nat.le_of_ble_eq_true rfl) (Nat.le_of_ble_eq_true rfl) dX4_reviewer_120
        · refine lv_aload_n B.hx B.hb dX4_reviewer_49 rfl (lv_at hl 2 rfl) ?_
          refine q_get B hP (C := RX4) (ref := "PaperKeeperModel") (T := TX4) (N := 31) (ci := 4) hi4 rfl 0 rfl 2 (by decide) (by decide +kernel) rfl (v := .ref (o 2)) rfl dX4_reviewer_50 ?_
          refine lv_iload_n B.hx B.hb dX4_reviewer_53 rfl (lv_at hl 4 rfl) ?_
          refine q_zald (f := (Z 2)) B hP 1 rfl (j := j2) rfl (by omega) (by decide) dX4_reviewer_54 ?_
          refine lv_if_eq (tgt := 82) B.hx B.hb dX4_reviewer_55 (by decide) (fun c18 => ?_) (fun c18 => ?_)
          · refine lv_iconst (v := (nI 0)) B.hx B.hb dX4_reviewer_82 (by decide) ?_
            refine lv_istore (lv' := [(5, .int (nI 0)), (4, .int (nI 1)), (3, .int (nI 1)), (0, .ref (o 0)), (1, .int (nI j)), (2, .int (nI j2))]) B.hx B.hb dX4_reviewer_83 hl (by decide) rfl (fun ls hl => ?_)
            refine lv_aload_n B.hx B.hb dX4_reviewer_85 rfl (lv_at hl 3 rfl) ?_
            refine lv_iload_n B.hx B.hb dX4_reviewer_86 rfl (lv_at hl 2 rfl) ?_
            refine lv_if_ne (tgt := 94) B.hx B.hb dX4_reviewer_87 (by decide) (fun _ => ?_) (fun c19 => absurd c19 (by decide))
            refine lv_iload B.hx B.hb dX4_reviewer_94 (lv_at hl 1 rfl) ?_
            refine lv_if_ne (tgt := 103) B.hx B.hb dX4_reviewer_96 (by decide) (fun _ => ?_) (fun c20 => absurd c20 (by decide))
            refine lv_iload B.hx B.hb dX4_reviewer_103 (lv_at hl 0 rfl) ?_
            refine lv_if_eq (tgt := 112) B.hx B.hb dX4_reviewer_105 (by decide) (fun _ => ?_) (fun c21 => absurd c21 (by decide))
            refine lv_iconst (v := (nI 3)) B.hx B.hb dX4_reviewer_112 (by decide) ?_
            refine q_callV (As := [.int (nI 3)]) (rest := []) B hP hD hS (c4_can l D cI cZ cP cJ o J Z (nI 3)) (cwV 1 B.hts gX4_reviewer_X4_can rfl rfl rfl (by decide +kernel) ⟨(Nat.le_of_ble_eq_true rfl), (Nat.le_of_ble_eq_true rfl)⟩) 0 4 rfl rfl rfl rfl hl.1 rfl (Nat.le_of_ble_eq_true rfl) dX4_reviewer_113 ⟨(Nat.le_of_ble_eq_true rfl), (Nat.le_of_ble_eq_true rfl)⟩ (fun E ce q9 H locs hx => False.elim hx) (fun v u H locs hp hP hD hS => ?_)
            obtain rfl := hp
            have hP : va_P D vwCl (mw cI cZ o (va_up J 30 (nI 3)) Z) H := hP
            have hD : va_D A (mw cI cZ o (va_up J 30 (nI 3)) Z) := hD
            refine q_top (v2 := .int (nI 0)) rfl ?_
            refine lv_if_ne (tgt := 121) B.hx B.hb dX4_reviewer_116 (by decide) (fun c22 => absurd c22 (by decide)) (fun _ => ?_)
            refine lv_iconst (v := (nI 0)) B.hx B.hb dX4_reviewer_119 (by decide) ?_
            have hK : kReviewer (nI j2) (Z 8 j) (Z 17 j) (Z 9 j) (Z 2 (ix (nI j2))) (decide (¬ mPL Z j mm (nI j2) = -1)) mm = 3 := by simp [kReviewer, hrg0, c3, c8, c13, c18, hixj2, hnmj2]
            exact q_iret B hr hP hD hS (u := ()) (by rw [hK] <;> first | rfl | (simp only [if_true, hixj2] <;> rfl)) (by rw [hK] <;> first | rfl | (simp only [if_true, hixj2] <;> rfl)) (Nat.le_of_ble_eq_true rfl) (Nat.le_of_ble_eq_true rfl) dX4_reviewer_120
          · refine lv_aload_n B.hx B.hb dX4_reviewer_58 rfl (lv_at hl 2 rfl) ?_
            refine lv_iload_n B.hx B.hb dX4_reviewer_59 rfl (lv_at hl 3 rfl) ?_
            refine lv_iload_n B.hx B.hb dX4_reviewer_60 rfl (lv_at hl 4 rfl) ?_
            refine q_callV (As := [.int (nI j), .int (nI j2)]) (rest := []) B hP hD hS (c4_placeOf l D cI cZ cP cJ o J Z j hj8 mm hm hm4 (nI j2)) (cwV 2 B.hts gX4_reviewer_X4_placeOf rfl rfl rfl (by decide +kernel) ⟨(Nat.le_of_ble_eq_true rfl), (Nat.le_of_ble_eq_true rfl)⟩) 0 4 rfl rfl rfl rfl hl.1 rfl (Nat.le_of_ble_eq_true rfl) dX4_reviewer_61 ⟨(Nat.le_of_ble_eq_true rfl), (Nat.le_of_ble_eq_true rfl)⟩ (fun E ce q9 H locs hx => False.elim hx) (fun v u H locs hp hP hD hS => ?_)
            obtain rfl := hp
            have hP : va_P D vwCl (mw cI cZ o J Z) H := hP
            have hD : va_D A (mw cI cZ o J Z) := hD
            refine lv_iconst (v := (-1)) B.hx B.hb dX4_reviewer_64 (by decide) ?_
            refine lv_icmp_ne (tgt := 82) B.hx B.hb dX4_reviewer_65 (by decide) (fun c23 => ?_) (fun c23 => ?_)
            · refine lv_iconst (v := (nI 0)) B.hx B.hb dX4_reviewer_82 (by decide) ?_
              refine lv_istore (lv' := [(5, .int (nI 0)), (4, .int (nI 1)), (3, .int (nI 1)), (0, .ref (o 0)), (1, .int (nI j)), (2, .int (nI j2))]) B.hx B.hb dX4_reviewer_83 hl (by decide) rfl (fun ls hl => ?_)
              refine lv_aload_n B.hx B.hb dX4_reviewer_85 rfl (lv_at hl 3 rfl) ?_
              refine lv_iload_n B.hx B.hb dX4_reviewer_86 rfl (lv_at hl 2 rfl) ?_
              refine lv_if_ne (tgt := 94) B.hx B.hb dX4_reviewer_87 (by decide) (fun _ => ?_) (fun c24 => absurd c24 (by decide))
              refine lv_iload B.hx B.hb dX4_reviewer_94 (lv_at hl 1 rfl) ?_
              refine lv_if_ne (tgt := 103) B.hx B.hb dX4_reviewer_96 (by decide) (fun _ => ?_) (fun c25 => absurd c25 (by decide))
              refine lv_iload B.hx B.hb dX4_reviewer_103 (lv_at hl 0 rfl) ?_
              refine lv_if_eq (tgt := 112) B.hx B.hb dX4_reviewer_105 (by decide) (fun _ => ?_) (fun c26 => absurd c26 (by decide))
              refine lv_iconst (v := (nI 3)) B.hx B.hb dX4_reviewer_112 (by decide) ?_
              refine q_callV (As := [.int (nI 3)]) (rest := []) B hP hD hS (c4_can l D cI cZ cP cJ o J Z (nI 3)) (cwV 1 B.hts gX4_reviewer_X4_can rfl rfl rfl (by decide +kernel) ⟨(Nat.le_of_ble_eq_true rfl), (Nat.le_of_ble_eq_true rfl)⟩) 0 4 rfl rfl rfl rfl hl.1 rfl (Nat.le_of_ble_eq_true rfl) dX4_reviewer_113 ⟨(Nat.le_of_ble_eq_true rfl), (Nat.le_of_ble_eq_true rfl)⟩ (fun E ce q9 H locs hx => False.elim hx) (fun v u H locs hp hP hD hS => ?_)
              obtain rfl := hp
              have hP : va_P D vwCl (mw cI cZ o (va_up J 30 (nI 3)) Z) H := hP
              have hD : va_D A (mw cI cZ o (va_up J 30 (nI 3)) Z) := hD
              refine q_top (v2 := .int (nI 0)) rfl ?_
              refine lv_if_ne (tgt := 121) B.hx B.hb dX4_reviewer_116 (by decide) (fun c27 => absurd c27 (by decide)) (fun _ => ?_)
              refine lv_iconst (v := (nI 0)) B.hx B.hb dX4_reviewer_119 (by decide) ?_
              have hK : kReviewer (nI j2) (Z 8 j) (Z 17 j) (Z 9 j) (Z 2 (ix (nI j2))) (decide (¬ mPL Z j mm (nI j2) = -1)) mm = 3 := by simp [kReviewer, hrg0, c3, c8, c13, c18, c23, hixj2, hnmj2]
              exact q_iret B hr hP hD hS (u := ()) (by rw [hK] <;> first | rfl | (simp only [if_true, hixj2] <;> rfl)) (by rw [hK] <;> first | rfl | (simp only [if_true, hixj2] <;> rfl)) (Nat.le_of_ble_eq_true rfl) (Nat.le_of_ble_eq_true rfl) dX4_reviewer_120
            · refine lv_aload_n B.hx B.hb dX4_reviewer_68 rfl (lv_at hl 2 rfl) ?_
              refine q_get B hP (C := RX4) (ref := "PaperKeeperModel") (T := TX4) (N := 31) (ci := 4) hi4 rfl 0 rfl 12 (by decide) (by decide +kernel) rfl (v := .ref (o 12)) rfl dX4_reviewer_69 ?_
              refine lv_iload_n B.hx B.hb dX4_reviewer_72 rfl (lv_at hl 3 rfl) ?_
              refine q_iald (f := (Z 12)) B hP 10 rfl (j := j) rfl (by omega) (by decide) dX4_reviewer_73 ?_
              refine q_top (v2 := .int (nI mm)) (congrArg Value.int hm) ?_
              refine lv_iconst (v := (nI 4)) B.hx B.hb dX4_reviewer_74 (by decide) ?_
              refine lv_icmp_ge (tgt := 82) B.hx B.hb dX4_reviewer_75 (by decide) (fun c28 => ?_) (fun c28 => ?_)
              · replace c28 := (nI_leI (by omega) (by omega)).mp c28
                refine lv_iconst (v := (nI 0)) B.hx B.hb dX4_reviewer_82 (by decide) ?_
                refine lv_istore (lv' := [(5, .int (nI 0)), (4, .int (nI 1)), (3, .int (nI 1)), (0, .ref (o 0)), (1, .int (nI j)), (2, .int (nI j2))]) B.hx B.hb dX4_reviewer_83 hl (by decide) rfl (fun ls hl => ?_)
                refine lv_aload_n B.hx B.hb dX4_reviewer_85 rfl (lv_at hl 3 rfl) ?_
                refine lv_iload_n B.hx B.hb dX4_reviewer_86 rfl (lv_at hl 2 rfl) ?_
                refine lv_if_ne (tgt := 94) B.hx B.hb dX4_reviewer_87 (by decide) (fun _ => ?_) (fun c29 => absurd c29 (by decide))
                refine lv_iload B.hx B.hb dX4_reviewer_94 (lv_at hl 1 rfl) ?_
                refine lv_if_ne (tgt := 103) B.hx B.hb dX4_reviewer_96 (by decide) (fun _ => ?_) (fun c30 => absurd c30 (by decide))
                refine lv_iload B.hx B.hb dX4_reviewer_103 (lv_at hl 0 rfl) ?_
                refine lv_if_eq (tgt := 112) B.hx B.hb dX4_reviewer_105 (by decide) (fun _ => ?_) (fun c31 => absurd c31 (by decide))
                refine lv_iconst (v := (nI 3)) B.hx B.hb dX4_reviewer_112 (by decide) ?_
                refine q_callV (As := [.int (nI 3)]) (rest := []) B hP hD hS (c4_can l D cI cZ cP cJ o J Z (nI 3)) (cwV 1 B.hts gX4_reviewer_X4_can rfl rfl rfl (by decide +kernel) ⟨(Nat.le_of_ble_eq_true rfl), (Nat.le_of_ble_eq_true rfl)⟩) 0 4 rfl rfl rfl rfl hl.1 rfl (Nat.le_of_ble_eq_true rfl) dX4_reviewer_113 ⟨(Nat.le_of_ble_eq_true rfl), (Nat.le_of_ble_eq_true rfl)⟩ (fun E ce q9 H locs hx => False.elim hx) (fun v u H locs hp hP hD hS => ?_)
                obtain rfl := hp
                have hP : va_P D vwCl (mw cI cZ o (va_up J 30 (nI 3)) Z) H := hP
                have hD : va_D A (mw cI cZ o (va_up J 30 (nI 3)) Z) := hD
                refine q_top (v2 := .int (nI 0)) rfl ?_
                refine lv_if_ne (tgt := 121) B.hx B.hb dX4_reviewer_116 (by decide) (fun c32 => absurd c32 (by decide)) (fun _ => ?_)
                refine lv_iconst (v := (nI 0)) B.hx B.hb dX4_reviewer_119 (by decide) ?_
                have hK : kReviewer (nI j2) (Z 8 j) (Z 17 j) (Z 9 j) (Z 2 (ix (nI j2))) (decide (¬ mPL Z j mm (nI j2) = -1)) mm = 3 := by simp [kReviewer, hrg0, c3, c8, c13, c18, c23, c28, hixj2, hnmj2]
                exact q_iret B hr hP hD hS (u := ()) (by rw [hK] <;> first | rfl | (simp only [if_true, hixj2] <;> rfl)) (by rw [hK] <;> first | rfl | (simp only [if_true, hixj2] <;> rfl)) (Nat.le_of_ble_eq_true rfl) (Nat.le_of_ble_eq_true rfl) dX4_reviewer_120
              · replace c28 := mt (nI_leI (by omega) (by omega)).mpr c28
                refine lv_iconst (v := (nI 1)) B.hx B.hb dX4_reviewer_78 (by decide) ?_
                refine lv_goto (tgt := 83) B.hx B.hb dX4_reviewer_79 (by decide) ?_
                refine lv_istore (lv' := [(5, .int (nI 1)), (4, .int (nI 1)), (3, .int (nI 1)), (0, .ref (o 0)), (1, .int (nI j)), (2, .int (nI j2))]) B.hx B.hb dX4_reviewer_83 hl (by decide) rfl (fun ls hl => ?_)
                refine lv_aload_n B.hx B.hb dX4_reviewer_85 rfl (lv_at hl 3 rfl) ?_
                refine lv_iload_n B.hx B.hb dX4_reviewer_86 rfl (lv_at hl 2 rfl) ?_
                refine lv_if_ne (tgt := 94) B.hx B.hb dX4_reviewer_87 (by decide) (fun _ => ?_) (fun c33 => absurd c33 (by decide))
                refine lv_iload B.hx B.hb dX4_reviewer_94 (lv_at hl 1 rfl) ?_
                refine lv_if_ne (tgt := 103) B.hx B.hb dX4_reviewer_96 (by decide) (fun _ => ?_) (fun c34 => absurd c34 (by decide))
                refine lv_iload B.hx B.hb dX4_reviewer_103 (lv_at hl 0 rfl) ?_
                refine lv_if_eq (tgt := 112) B.hx B.hb dX4_reviewer_105 (by decide) (fun c35 => absurd c35 (by decide)) (fun _ => ?_)
                refine lv_iconst (v := (nI 0)) B.hx B.hb dX4_reviewer_108 (by decide) ?_
                refine lv_goto (tgt := 113) B.hx B.hb dX4_reviewer_109 (by decide) ?_
                refine q_callV (As := [.int (nI 0)]) (rest := []) B hP hD hS (c4_can l D cI cZ cP cJ o J Z (nI 0)) (cwV 1 B.hts gX4_reviewer_X4_can rfl rfl rfl (by decide +kernel) ⟨(Nat.le_of_ble_eq_true rfl), (Nat.le_of_ble_eq_true rfl)⟩) 0 4 rfl rfl rfl rfl hl.1 rfl (Nat.le_of_ble_eq_true rfl) dX4_reviewer_113 ⟨(Nat.le_of_ble_eq_true rfl), (Nat.le_of_ble_eq_true rfl)⟩ (fun E ce q9 H locs hx => False.elim hx) (fun v u H locs hp hP hD hS => ?_)
                obtain rfl := hp
                have hP : va_P D vwCl (mw cI cZ o (va_up J 30 (nI 0)) Z) H := hP
                have hD : va_D A (mw cI cZ o (va_up J 30 (nI 0)) Z) := hD
                refine q_top (v2 := .int (nI 1)) rfl ?_
                refine lv_if_ne (tgt := 121) B.hx B.hb dX4_reviewer_116 (by decide) (fun _ => ?_) (fun c36 => absurd c36 (by decide))
                refine lv_aload_n B.hx B.hb dX4_reviewer_121 rfl (lv_at hl 3 rfl) ?_
                refine q_get B hP (C := RX4) (ref := "PaperKeeperModel") (T := TX4) (N := 31) (ci := 4) hi4 rfl 0 rfl 13 (by decide) (by decide +kernel) rfl (v := .ref (o 13)) rfl dX4_reviewer_122 ?_
                refine lv_iconst (v := (nI 4)) B.hx B.hb dX4_reviewer_125 (by decide) ?_
                refine lv_iload_n B.hx B.hb dX4_reviewer_126 rfl (lv_at hl 4 rfl) ?_
                refine lv_imul B.hx B.hb dX4_reviewer_127 ?_
                refine q_top (v2 := .int (nI ((4 * j)))) (congrArg Value.int (pk_mul _ _)) ?_
                refine lv_aload_n B.hx B.hb dX4_reviewer_128 rfl (lv_at hl 3 rfl) ?_
                refine q_get B hP (C := RX4) (ref := "PaperKeeperModel") (T := TX4) (N := 31) (ci := 4) hi4 rfl 0 rfl 12 (by decide) (by decide +kernel) rfl (v := .ref (o 12)) rfl dX4_reviewer_129 ?_
                refine lv_iload_n B.hx B.hb dX4_reviewer_132 rfl (lv_at hl 4 rfl) ?_
                refine q_iald (f := (Z 12)) B hP 10 rfl (j := j) rfl (by omega) (by decide) dX4_reviewer_133 ?_
                refine q_top (v2 := .int (nI mm)) (congrArg Value.int hm) ?_
                refine lv_iadd B.hx B.hb dX4_reviewer_134 ?_
                refine q_top (v2 := .int (nI (((4 * j) + mm)))) (congrArg Value.int (nI_add _ _)) ?_
                refine lv_iload_n B.hx B.hb dX4_reviewer_135 rfl (lv_at hl 5 rfl) ?_
                refine q_iast B hP hD hS 11 rfl (j := ((4 * j) + mm)) rfl (by omega) (by decide) dX4_reviewer_136 (w' := mw cI cZ o (va_up J 30 (nI 0)) (va_up Z 13 (upd (Z 13) ((4 * j) + mm) (nI j2)))) rfl (fun H locs hP hD hS => ?_)
                refine lv_aload_n B.hx B.hb dX4_reviewer_137 rfl (lv_at hl 3 rfl) ?_
                refine q_get B hP (C := RX4) (ref := "PaperKeeperModel") (T := TX4) (N := 31) (ci := 4) hi4 rfl 0 rfl 14 (by decide) (by decide +kernel) rfl (v := .ref (o 14)) rfl dX4_reviewer_138 ?_
                refine lv_iconst (v := (nI 4)) B.hx B.hb dX4_reviewer_141 (by decide) ?_
                refine lv_iload_n B.hx B.hb dX4_reviewer_142 rfl (lv_at hl 4 rfl) ?_
                refine lv_imul B.hx B.hb dX4_reviewer_143 ?_
                refine q_top (v2 := .int (nI ((4 * j)))) (congrArg Value.int (pk_mul _ _)) ?_
                refine lv_aload_n B.hx B.hb dX4_reviewer_144 rfl (lv_at hl 3 rfl) ?_
                refine q_get B hP (C := RX4) (ref := "PaperKeeperModel") (T := TX4) (N := 31) (ci := 4) hi4 rfl 0 rfl 12 (by decide) (by decide +kernel) rfl (v := .ref (o 12)) rfl dX4_reviewer_145 ?_
                refine lv_iload_n B.hx B.hb dX4_reviewer_148 rfl (lv_at hl 4 rfl) ?_
                refine q_iald (f := (Z 12)) B hP 10 rfl (j := j) rfl (by omega) (by decide) dX4_reviewer_149 ?_
                refine q_top (v2 := .int (nI mm)) (congrArg Value.int hm) ?_
                refine lv_iadd B.hx B.hb dX4_reviewer_150 ?_
                refine q_top (v2 := .int (nI (((4 * j) + mm)))) (congrArg Value.int (nI_add _ _)) ?_
                refine lv_iconst (v := (nI 0)) B.hx B.hb dX4_reviewer_151 (by decide) ?_
                refine q_zast B hP hD hS 12 rfl (j := ((4 * j) + mm)) rfl (by omega) (by decide) (by decide) dX4_reviewer_152 (w' := mw cI cZ o (va_up J 30 (nI 0)) (va_up (va_up Z 13 (upd (Z 13) ((4 * j) + mm) (nI j2))) 14 (upd (Z 14) ((4 * j) + mm) (nI 0)))) rfl (fun H locs hP hD hS => ?_)
                refine lv_aload_n B.hx B.hb dX4_reviewer_153 rfl (lv_at hl 3 rfl) ?_
                refine q_get B hP (C := RX4) (ref := "PaperKeeperModel") (T := TX4) (N := 31) (ci := 4) hi4 rfl 0 rfl 12 (by decide) (by decide +kernel) rfl (v := .ref (o 12)) rfl dX4_reviewer_154 ?_
                refine lv_iload_n B.hx B.hb dX4_reviewer_157 rfl (lv_at hl 4 rfl) ?_
                refine lv_dup2_11 B.hx B.hb dX4_reviewer_158 rfl rfl ?_
                refine q_iald (f := (Z 12)) B hP 10 rfl (j := j) rfl (by omega) (by decide) dX4_reviewer_159 ?_
                refine q_top (v2 := .int (nI mm)) (congrArg Value.int hm) ?_
                refine lv_iconst (v := (nI 1)) B.hx B.hb dX4_reviewer_160 (by decide) ?_
                refine lv_iadd B.hx B.hb dX4_reviewer_161 ?_
                refine q_top (v2 := .int (nI ((mm + 1)))) (congrArg Value.int (nI_add _ _)) ?_
                refine q_iast B hP hD hS 10 rfl (j := j) rfl (by omega) (by decide) dX4_reviewer_162 (w' := mw cI cZ o (va_up J 30 (nI 0)) (va_up (va_up (va_up Z 12 (upd (Z 12) j (nI ((mm + 1))))) 13 (upd (Z 13) ((4 * j) + mm) (nI j2))) 14 (upd (Z 14) ((4 * j) + mm) (nI 0)))) rfl (fun H locs hP hD hS => ?_)
                refine lv_aload_n B.hx B.hb dX4_reviewer_163 rfl (lv_at hl 3 rfl) ?_
                refine q_get B hP (C := RX4) (ref := "PaperKeeperModel") (T := TX4) (N := 31) (ci := 4) hi4 rfl 0 rfl 12 (by decide) (by decide +kernel) rfl (v := .ref (o 12)) rfl dX4_reviewer_164 ?_
                refine lv_iload_n B.hx B.hb dX4_reviewer_167 rfl (lv_at hl 4 rfl) ?_
                refine q_iald (f := (upd (Z 12) j (nI ((mm + 1))))) B hP 10 rfl (j := j) rfl (by omega) (by decide) dX4_reviewer_168 ?_
                refine q_top (v2 := .int (nI ((mm + 1)))) (congrArg Value.int pk_us) ?_
                have hK : kReviewer (nI j2) (Z 8 j) (Z 17 j) (Z 9 j) (Z 2 (ix (nI j2))) (decide (¬ mPL Z j mm (nI j2) = -1)) mm = 0 := by simp [kReviewer, hrg0, c3, c8, c13, c18, c23, c28, hixj2, hnmj2]
                exact q_iret B hr hP hD hS (u := ()) (by rw [hK] <;> first | rfl | (simp only [if_true, hixj2] <;> rfl)) (by rw [hK] <;> first | rfl | (simp only [if_true, hixj2] <;> rfl)) (Nat.le_of_ble_eq_true rfl) (Nat.le_of_ble_eq_true rfl) dX4_reviewer_169
  · have hP : va_P D vwCl (mw cI cZ o J Z) H := hP
    have hD : va_D A (mw cI cZ o J Z) := hD
    refine lv_istore (lv' := [(4, .int (nI 0)), (3, .int (nI 1)), (0, .ref (o 0)), (1, .int (nI j)), (2, .int x)]) B.hx B.hb dX4_reviewer_10 hl (by decide) rfl (fun ls hl => ?_)
    refine lv_iload_n B.hx B.hb dX4_reviewer_12 rfl (lv_at hl 1 rfl) ?_
    refine lv_if_eq (tgt := 82) B.hx B.hb dX4_reviewer_13 (by decide) (fun c37 => absurd c37 (by decide)) (fun _ => ?_)
    refine lv_iload B.hx B.hb dX4_reviewer_16 (lv_at hl 0 rfl) ?_
    refine lv_if_eq (tgt := 82) B.hx B.hb dX4_reviewer_18 (by decide) (fun _ => ?_) (fun c38 => absurd c38 (by decide))
    refine lv_iconst (v := (nI 0)) B.hx B.hb dX4_reviewer_82 (by decide) ?_
    refine lv_istore (lv' := [(5, .int (nI 0)), (4, .int (nI 0)), (3, .int (nI 1)), (0, .ref (o 0)), (1, .int (nI j)), (2, .int x)]) B.hx B.hb dX4_reviewer_83 hl (by decide) rfl (fun ls hl => ?_)
    refine lv_aload_n B.hx B.hb dX4_reviewer_85 rfl (lv_at hl 3 rfl) ?_
    refine lv_iload_n B.hx B.hb dX4_reviewer_86 rfl (lv_at hl 2 rfl) ?_
    refine lv_if_ne (tgt := 94) B.hx B.hb dX4_reviewer_87 (by decide) (fun _ => ?_) (fun c39 => absurd c39 (by decide))
    refine lv_iload B.hx B.hb dX4_reviewer_94 (lv_at hl 1 rfl) ?_
    refine lv_if_ne (tgt := 103) B.hx B.hb dX4_reviewer_96 (by decide) (fun c40 => absurd c40 (by decide)) (fun _ => ?_)
    refine lv_iconst (v := (nI 2)) B.hx B.hb dX4_reviewer_99 (by decide) ?_
    refine lv_goto (tgt := 113) B.hx B.hb dX4_reviewer_100 (by decide) ?_
    refine q_callV (As := [.int (nI 2)]) (rest := []) B hP hD hS (c4_can l D cI cZ cP cJ o J Z (nI 2)) (cwV 1 B.hts gX4_reviewer_X4_can rfl rfl rfl (by decide +kernel) ⟨(Nat.le_of_ble_eq_true rfl), (Nat.le_of_ble_eq_true rfl)⟩) 0 4 rfl rfl rfl rfl hl.1 rfl (Nat.le_of_ble_eq_true rfl) dX4_reviewer_113 ⟨(Nat.le_of_ble_eq_true rfl), (Nat.le_of_ble_eq_true rfl)⟩ (fun E ce q9 H locs hx => False.elim hx) (fun v u H locs hp hP hD hS => ?_)
    obtain rfl := hp
    have hP : va_P D vwCl (mw cI cZ o (va_up J 30 (nI 2)) Z) H := hP
    have hD : va_D A (mw cI cZ o (va_up J 30 (nI 2)) Z) := hD
    refine q_top (v2 := .int (nI 0)) rfl ?_
    refine lv_if_ne (tgt := 121) B.hx B.hb dX4_reviewer_116 (by decide) (fun c41 => absurd c41 (by decide)) (fun _ => ?_)
    refine lv_iconst (v := (nI 0)) B.hx B.hb dX4_reviewer_119 (by decide) ?_
    have hK : kReviewer x (Z 8 j) (Z 17 j) (Z 9 j) (Z 2 (ix x)) (decide (¬ mPL Z j mm x = -1)) mm = 2 := by simp [kReviewer, hrg0]
    exact q_iret B hr hP hD hS (u := ()) (by rw [hK] <;> first | rfl | (simp only [if_true] <;> rfl)) (by rw [hK] <;> first | rfl | (simp only [if_true] <;> rfl)) (Nat.le_of_ble_eq_true rfl) (Nat.le_of_ble_eq_true rfl) dX4_reviewer_120
set_option maxHeartbeats 4000000 in
set_option maxRecDepth 100000 in
theorem c4_reader (l : Launch) (D : va_G) (cI cZ cP cJ : ClassId) (o : Nat → Nat) (J : Nat → Int32) (Z : Nat → Nat → Int32) (n : Nat) (hn : J 5 = nI n) (hn8 : n ≤ 8) (j : Nat) (hj : j < n) (x : Int32) : q_C l yX4_reader wsX4_reader ({ frames := 2, cells := 0, slots := 0, locals := 43 }) D cI cZ cP cJ [.ref (o 0), .int (nI j), .int x] (mw cI cZ o J Z) (S := Unit) (fun v _ => v = some (.int (if kReader x (Z 8 j) (Z 19 (6 * j + ix x)) = 0 then nI (pN (fun i => decide (¬ (upd (Z 19) (6 * j + ix x) (nI 1)) (6 * j + i) = 0)) 6) else nI 0))) (fun _ => mw cI cZ o (va_up J 30 (nI (kReader x (Z 8 j) (Z 19 (6 * j + ix x))))) (if kReader x (Z 8 j) (Z 19 (6 * j + ix x)) = 0 then (va_up Z 19 (upd (Z 19) (6 * j + ix x) (nI 1))) else Z)) (fun _ => False) 0 0 := by
  refine q_of (cc := cX4_reader) (maxL := 4) (ret := (some .int)) (by decide +kernel) rfl (Nat.le_of_ble_eq_true rfl) ?_
  intro p e s m below meth c A ls B hr htb hmn hP hD hS hl
  have hl : lv_has ls 4 [(0, .ref (o 0)), (1, .int (nI j)), (2, .int x)] := hl
  have hi4 : ∀ w ∈ u_ws RX4 TX4 31, w ∈ wsX4_reader := by decide +kernel
  have hj8 : j < 8 := by omega
  refine lv_aload_n B.hx B.hb dX4_reader_0 rfl (lv_at hl 0 rfl) ?_
  refine lv_iload_n B.hx B.hb dX4_reader_1 rfl (lv_at hl 1 rfl) ?_
  refine q_callV (As := [.int (nI j)]) (rest := []) B hP hD hS (c4_isPaper l D cI cZ cP cJ o J Z n hn hn8 (nI j)) (cwV 1 B.hts gX4_reader_X4_isPaper rfl rfl rfl (by decide +kernel) ⟨(Nat.le_of_ble_eq_true rfl), (Nat.le_of_ble_eq_true rfl)⟩) 0 4 rfl rfl rfl rfl hl.1 rfl (Nat.le_of_ble_eq_true rfl) dX4_reader_2 ⟨(Nat.le_of_ble_eq_true rfl), (Nat.le_of_ble_eq_true rfl)⟩ (fun E ce q9 H locs hx => False.elim hx) (fun v u H locs hp hP hD hS => ?_)
  obtain rfl := hp
  have hP : va_P D vwCl (mw cI cZ o J Z) H := hP
  have hD : va_D A (mw cI cZ o J Z) := hD
  refine q_top (v2 := .int (nI 1)) (by rw [inr_nI (by omega) (by omega)]; rfl) ?_
  refine lv_istore_n (lv' := [(3, .int (nI 1)), (0, .ref (o 0)), (1, .int (nI j)), (2, .int x)]) B.hx B.hb dX4_reader_5 rfl hl (by decide) rfl (fun ls hl => ?_)
  refine lv_aload_n B.hx B.hb dX4_reader_6 rfl (lv_at hl 1 rfl) ?_
  refine lv_iload_n B.hx B.hb dX4_reader_7 rfl (lv_at hl 0 rfl) ?_
  refine lv_if_ne (tgt := 15) B.hx B.hb dX4_reader_8 (by decide) (fun _ => ?_) (fun c1 => absurd c1 (by decide))
  refine lv_iload_n B.hx B.hb dX4_reader_15 rfl (lv_at hl 3 rfl) ?_
  refine q_callS (As := [.int x]) (rest := [.ref (o 0)]) B hP hD hS ((c4_isPerson l D cI cZ cP cJ x).fr0 (mw cI cZ o J Z)) (cwS 1 B.hts gX4_reader_X4_isPerson rfl rfl rfl (by decide +kernel) ⟨(Nat.le_of_ble_eq_true rfl), (Nat.le_of_ble_eq_true rfl)⟩) rfl hl.1 rfl (Nat.le_of_ble_eq_true rfl) dX4_reader_16 ⟨(Nat.le_of_ble_eq_true rfl), (Nat.le_of_ble_eq_true rfl)⟩ (fun E ce q9 H locs hx => False.elim hx) (fun v u H locs hp hP hD hS => ?_)
  replace hp := bI2 hp
  rcases hp with ⟨rfl, hrg0⟩ | ⟨rfl, hrg0⟩
  · have hP : va_P D vwCl (mw cI cZ o J Z) H := hP
    have hD : va_D A (mw cI cZ o J Z) := hD
    obtain ⟨j2, hjj2, rfl⟩ := rg_j (by decide) hrg0
    have hixj2 : ix (nI j2) = j2 := ix_nI (by omega)
    have hnmj2 : ¬ nI j2 = -1 := nI_nm1 (by omega)
    refine lv_if_ne (tgt := 26) B.hx B.hb dX4_reader_19 (by decide) (fun _ => ?_) (fun c2 => absurd c2 (by decide))
    refine lv_aload_n B.hx B.hb dX4_reader_26 rfl (lv_at hl 1 rfl) ?_
    refine q_get B hP (C := RX4) (ref := "PaperKeeperModel") (T := TX4) (N := 31) (ci := 4) hi4 rfl 0 rfl 8 (by decide) (by decide +kernel) rfl (v := .ref (o 8)) rfl dX4_reader_27 ?_
    refine lv_iload_n B.hx B.hb dX4_reader_30 rfl (lv_at hl 2 rfl) ?_
    refine q_zald (f := (Z 8)) B hP 6 rfl (j := j) rfl (by omega) (by decide) dX4_reader_31 ?_
    refine lv_if_eq (tgt := 49) B.hx B.hb dX4_reader_32 (by decide) (fun c3 => ?_) (fun c3 => ?_)
    · refine lv_iconst (v := (nI 3)) B.hx B.hb dX4_reader_49 (by decide) ?_
      refine lv_goto (tgt := 54) B.hx B.hb dX4_reader_50 (by decide) ?_
      refine q_callV (As := [.int (nI 3)]) (rest := []) B hP hD hS (c4_can l D cI cZ cP cJ o J Z (nI 3)) (cwV 1 B.hts gX4_reader_X4_can rfl rfl rfl (by decide +kernel) ⟨(Nat.le_of_ble_eq_true rfl), (Nat.le_of_ble_eq_true rfl)⟩) 0 4 rfl rfl rfl rfl hl.1 rfl (Nat.le_of_ble_eq_true rfl) dX4_reader_54 ⟨(Nat.le_of_ble_eq_true rfl), (Nat.le_of_ble_eq_true rfl)⟩ (fun E ce q9 H locs hx => False.elim hx) (fun v u H locs hp hP hD hS => ?_)
      obtain rfl := hp
      have hP : va_P D vwCl (mw cI cZ o (va_up J 30 (nI 3)) Z) H := hP
      have hD : va_D A (mw cI cZ o (va_up J 30 (nI 3)) Z) := hD
      refine q_top (v2 := .int (nI 0)) rfl ?_
      refine lv_if_ne (tgt := 62) B.hx B.hb dX4_reader_57 (by decide) (fun c4 => absurd c4 (by decide)) (fun _ => ?_)
      refine lv_iconst (v := (nI 0)) B.hx B.hb dX4_reader_60 (by decide) ?_
      have hK : kReader (nI j2) (Z 8 j) (Z 19 (6 * j + ix (nI j2))) = 3 := by simp [kReader, hrg0, c3, hixj2, hnmj2]
      exact q_iret B hr hP hD hS (u := ()) (by rw [hK] <;> first | rfl | (simp only [if_true, hixj2] <;> rfl)) (by rw [hK] <;> first | rfl | (simp only [if_true, hixj2] <;> rfl)) (Nat.le_of_ble_eq_true rfl) (Nat.le_of_ble_eq_true rfl) dX4_reader_61
    · refine lv_aload_n B.hx B.hb dX4_reader_35 rfl (lv_at hl 1 rfl) ?_
      refine q_get B hP (C := RX4) (ref := "PaperKeeperModel") (T := TX4) (N := 31) (ci := 4) hi4 rfl 0 rfl 19 (by decide) (by decide +kernel) rfl (v := .ref (o 19)) rfl dX4_reader_36 ?_
      refine lv_bipush (v := (nI 6)) B.hx B.hb dX4_reader_39 (by decide) ?_
      refine lv_iload_n B.hx B.hb dX4_reader_41 rfl (lv_at hl 2 rfl) ?_
      refine lv_imul B.hx B.hb dX4_reader_42 ?_
      refine q_top (v2 := .int (nI ((6 * j)))) (congrArg Value.int (pk_mul _ _)) ?_
      refine lv_iload_n B.hx B.hb dX4_reader_43 rfl (lv_at hl 3 rfl) ?_
      refine lv_iadd B.hx B.hb dX4_reader_44 ?_
      refine q_top (v2 := .int (nI (((6 * j) + j2)))) (congrArg Value.int (nI_add _ _)) ?_
      refine q_zald (f := (Z 19)) B hP 17 rfl (j := ((6 * j) + j2)) rfl (by omega) (by decide) dX4_reader_45 ?_
      refine lv_if_eq (tgt := 53) B.hx B.hb dX4_reader_46 (by decide) (fun c5 => ?_) (fun c5 => ?_)
      · refine lv_iconst (v := (nI 0)) B.hx B.hb dX4_reader_53 (by decide) ?_
        refine q_callV (As := [.int (nI 0)]) (rest := []) B hP hD hS (c4_can l D cI cZ cP cJ o J Z (nI 0)) (cwV 1 B.hts gX4_reader_X4_can rfl rfl rfl (by decide +kernel) ⟨(Nat.le_of_ble_eq_true rfl), (Nat.le_of_ble_eq_true rfl)⟩) 0 4 rfl rfl rfl rfl hl.1 rfl (Nat.le_of_ble_eq_true rfl) dX4_reader_54 ⟨(Nat.le_of_ble_eq_true rfl), (Nat.le_of_ble_eq_true rfl)⟩ (fun E ce q9 H locs hx => False.elim hx) (fun v u H locs hp hP hD hS => ?_)
        obtain rfl := hp
        have hP : va_P D vwCl (mw cI cZ o (va_up J 30 (nI 0)) Z) H := hP
        have hD : va_D A (mw cI cZ o (va_up J 30 (nI 0)) Z) := hD
        refine q_top (v2 := .int (nI 1)) rfl ?_
        refine lv_if_ne (tgt := 62) B.hx B.hb dX4_reader_57 (by decide) (fun _ => ?_) (fun c6 => absurd c6 (by decide))
        refine lv_aload_n B.hx B.hb dX4_reader_62 rfl (lv_at hl 1 rfl) ?_
        refine q_get B hP (C := RX4) (ref := "PaperKeeperModel") (T := TX4) (N := 31) (ci := 4) hi4 rfl 0 rfl 19 (by decide) (by decide +kernel) rfl (v := .ref (o 19)) rfl dX4_reader_63 ?_
        refine lv_bipush (v := (nI 6)) B.hx B.hb dX4_reader_66 (by decide) ?_
        refine lv_iload_n B.hx B.hb dX4_reader_68 rfl (lv_at hl 2 rfl) ?_
        refine lv_imul B.hx B.hb dX4_reader_69 ?_
        refine q_top (v2 := .int (nI ((6 * j)))) (congrArg Value.int (pk_mul _ _)) ?_
        refine lv_iload_n B.hx B.hb dX4_reader_70 rfl (lv_at hl 3 rfl) ?_
        refine lv_iadd B.hx B.hb dX4_reader_71 ?_
        refine q_top (v2 := .int (nI (((6 * j) + j2)))) (congrArg Value.int (nI_add _ _)) ?_
        refine lv_iconst (v := (nI 1)) B.hx B.hb dX4_reader_72 (by decide) ?_
        refine q_zast B hP hD hS 17 rfl (j := ((6 * j) + j2)) rfl (by omega) (by decide) (by decide) dX4_reader_73 (w' := mw cI cZ o (va_up J 30 (nI 0)) (va_up Z 19 (upd (Z 19) ((6 * j) + j2) (nI 1)))) rfl (fun H locs hP hD hS => ?_)
        refine lv_aload_n B.hx B.hb dX4_reader_74 rfl (lv_at hl 1 rfl) ?_
        refine lv_aload_n B.hx B.hb dX4_reader_75 rfl (lv_at hl 1 rfl) ?_
        refine q_get B hP (C := RX4) (ref := "PaperKeeperModel") (T := TX4) (N := 31) (ci := 4) hi4 rfl 0 rfl 19 (by decide) (by decide +kernel) rfl (v := .ref (o 19)) rfl dX4_reader_76 ?_
        refine lv_bipush (v := (nI 6)) B.hx B.hb dX4_reader_79 (by decide) ?_
        refine lv_iload_n B.hx B.hb dX4_reader_81 rfl (lv_at hl 2 rfl) ?_
        refine lv_imul B.hx B.hb dX4_reader_82 ?_
        refine q_top (v2 := .int (nI ((6 * j)))) (congrArg Value.int (pk_mul _ _)) ?_
        refine lv_bipush (v := (nI 6)) B.hx B.hb dX4_reader_83 (by decide) ?_
        refine q_callV (As := [.ref (o 19), .int (nI ((6 * j))), .int (nI 6)]) (rest := []) B hP hD hS (c4_count l D cI cZ cP cJ (mw cI cZ o (va_up J 30 (nI 0)) (va_up Z 19 (upd (Z 19) ((6 * j) + j2) (nI 1)))) (o 0) 17 (o 19) 48 (upd (Z 19) ((6 * j) + j2) (nI 1)) rfl (6 * j) 6 (by omega) (by decide)) (cwV 3 B.hts gX4_reader_X4_count rfl rfl rfl (by decide +kernel) ⟨(Nat.le_of_ble_eq_true rfl), (Nat.le_of_ble_eq_true rfl)⟩) 0 4 rfl rfl rfl rfl hl.1 rfl (Nat.le_of_ble_eq_true rfl) dX4_reader_85 ⟨(Nat.le_of_ble_eq_true rfl), (Nat.le_of_ble_eq_true rfl)⟩ (fun E ce q9 H locs hx => False.elim hx) (fun v u H locs hp hP hD hS => ?_)
        obtain rfl := hp
        have hP : va_P D vwCl (mw cI cZ o (va_up J 30 (nI 0)) (va_up Z 19 (upd (Z 19) ((6 * j) + j2) (nI 1)))) H := hP
        have hD : va_D A (mw cI cZ o (va_up J 30 (nI 0)) (va_up Z 19 (upd (Z 19) ((6 * j) + j2) (nI 1)))) := hD
        have hK : kReader (nI j2) (Z 8 j) (Z 19 (6 * j + ix (nI j2))) = 0 := by simp [kReader, hrg0, c3, c5, hixj2, hnmj2]
        exact q_iret B hr hP hD hS (u := ()) (by rw [hK] <;> first | rfl | (simp only [if_true, hixj2] <;> rfl)) (by rw [hK] <;> first | rfl | (simp only [if_true, hixj2] <;> rfl)) (Nat.le_of_ble_eq_true rfl) (Nat.le_of_ble_eq_true rfl) dX4_reader_88
      · refine lv_iconst (v := (nI 3)) B.hx B.hb dX4_reader_49 (by decide) ?_
        refine lv_goto (tgt := 54) B.hx B.hb dX4_reader_50 (by decide) ?_
        refine q_callV (As := [.int (nI 3)]) (rest := []) B hP hD hS (c4_can l D cI cZ cP cJ o J Z (nI 3)) (cwV 1 B.hts gX4_reader_X4_can rfl rfl rfl (by decide +kernel) ⟨(Nat.le_of_ble_eq_true rfl), (Nat.le_of_ble_eq_true rfl)⟩) 0 4 rfl rfl rfl rfl hl.1 rfl (Nat.le_of_ble_eq_true rfl) dX4_reader_54 ⟨(Nat.le_of_ble_eq_true rfl), (Nat.le_of_ble_eq_true rfl)⟩ (fun E ce q9 H locs hx => False.elim hx) (fun v u H locs hp hP hD hS => ?_)
        obtain rfl := hp
        have hP : va_P D vwCl (mw cI cZ o (va_up J 30 (nI 3)) Z) H := hP
        have hD : va_D A (mw cI cZ o (va_up J 30 (nI 3)) Z) := hD
        refine q_top (v2 := .int (nI 0)) rfl ?_
        refine lv_if_ne (tgt := 62) B.hx B.hb dX4_reader_57 (by decide) (fun c7 => absurd c7 (by decide)) (fun _ => ?_)
        refine lv_iconst (v := (nI 0)) B.hx B.hb dX4_reader_60 (by decide) ?_
        have hK : kReader (nI j2) (Z 8 j) (Z 19 (6 * j + ix (nI j2))) = 3 := by simp [kReader, hrg0, c3, c5, hixj2, hnmj2]
        exact q_iret B hr hP hD hS (u := ()) (by rw [hK] <;> first | rfl | (simp only [if_true, hixj2] <;> rfl)) (by rw [hK] <;> first | rfl | (simp only [if_true, hixj2] <;> rfl)) (Nat.le_of_ble_eq_true rfl) (Nat.le_of_ble_eq_true rfl) dX4_reader_61
  · have hP : va_P D vwCl (mw cI cZ o J Z) H := hP
    have hD : va_D A (mw cI cZ o J Z) := hD
    refine lv_if_ne (tgt := 26) B.hx B.hb dX4_reader_19 (by decide) (fun c8 => absurd c8 (by decide)) (fun _ => ?_)
    refine lv_iconst (v := (nI 2)) B.hx B.hb dX4_reader_22 (by decide) ?_
    refine lv_goto (tgt := 54) B.hx B.hb dX4_reader_23 (by decide) ?_
    refine q_callV (As := [.int (nI 2)]) (rest := []) B hP hD hS (c4_can l D cI cZ cP cJ o J Z (nI 2)) (cwV 1 B.hts gX4_reader_X4_can rfl rfl rfl (by decide +kernel) ⟨(Nat.le_of_ble_eq_true rfl), (Nat.le_of_ble_eq_true rfl)⟩) 0 4 rfl rfl rfl rfl hl.1 rfl (Nat.le_of_ble_eq_true rfl) dX4_reader_54 ⟨(Nat.le_of_ble_eq_true rfl), (Nat.le_of_ble_eq_true rfl)⟩ (fun E ce q9 H locs hx => False.elim hx) (fun v u H locs hp hP hD hS => ?_)
    obtain rfl := hp
    have hP : va_P D vwCl (mw cI cZ o (va_up J 30 (nI 2)) Z) H := hP
    have hD : va_D A (mw cI cZ o (va_up J 30 (nI 2)) Z) := hD
    refine q_top (v2 := .int (nI 0)) rfl ?_
    refine lv_if_ne (tgt := 62) B.hx B.hb dX4_reader_57 (by decide) (fun c9 => absurd c9 (by decide)) (fun _ => ?_)
    refine lv_iconst (v := (nI 0)) B.hx B.hb dX4_reader_60 (by decide) ?_
    have hK : kReader x (Z 8 j) (Z 19 (6 * j + ix x)) = 2 := by simp [kReader, hrg0]
    exact q_iret B hr hP hD hS (u := ()) (by rw [hK] <;> first | rfl | (simp only [if_true] <;> rfl)) (by rw [hK] <;> first | rfl | (simp only [if_true] <;> rfl)) (Nat.le_of_ble_eq_true rfl) (Nat.le_of_ble_eq_true rfl) dX4_reader_61
set_option maxHeartbeats 4000000 in
set_option maxRecDepth 100000 in
theorem c4_review (l : Launch) (D : va_G) (cI cZ cP cJ : ClassId) (o : Nat → Nat) (J : Nat → Int32) (Z : Nat → Nat → Int32) (n : Nat) (hn : J 5 = nI n) (hn8 : n ≤ 8) (j : Nat) (hj : j < n) (mm : Nat) (hm : Z 12 j = nI mm) (hm4 : mm ≤ 4) (k : Nat) (hk : Z 15 j = nI k) (hk4 : k ≤ 4) (x r : Int32) : q_C l yX4_review wsX4_review ({ frames := 2, cells := 0, slots := 0, locals := 43 }) D cI cZ cP cJ [.ref (o 0), .int (nI j), .int x, .int r] (mw cI cZ o J Z) (S := Unit) (fun v _ => v = some (.int (if kReview x (Z 8 j) (decide (¬ mPL Z j mm x = -1)) (Z 14 (ix (mPL Z j mm x))) (Z 6 j) (mNR Z j mm) = 0 then (if r = 0 then -1 else nI k) else nI 0))) (fun _ => mw cI cZ o (va_up J 30 (nI (kReview x (Z 8 j) (decide (¬ mPL Z j mm x = -1)) (Z 14 (ix (mPL Z j mm x))) (Z 6 j) (mNR Z j mm)))) (if kReview x (Z 8 j) (decide (¬ mPL Z j mm x = -1)) (Z 14 (ix (mPL Z j mm x))) (Z 6 j) (mNR Z j mm) = 0 then (if r = 0 then (va_up Z 14 (upd (Z 14) (ix (mPL Z j mm x)) (nI 1))) else (va_up (va_up Z 14 (upd (Z 14) (ix (mPL Z j mm x)) (nI 1))) 15 (upd (Z 15) j (nI (k + 1))))) else Z)) (fun _ => False) 0 0 := by
  refine q_of (cc := cX4_review) (maxL := 8) (ret := (some .int)) (by decide +kernel) rfl (Nat.le_of_ble_eq_true rfl) ?_
  intro p e s m below meth c A ls B hr htb hmn hP hD hS hl
  have hl : lv_has ls 8 [(0, .ref (o 0)), (1, .int (nI j)), (2, .int x), (3, .int r)] := hl
  have hi4 : ∀ w ∈ u_ws RX4 TX4 31, w ∈ wsX4_review := by decide +kernel
  have hj8 : j < 8 := by omega
  refine lv_aload_n B.hx B.hb dX4_review_0 rfl (lv_at hl 0 rfl) ?_
  refine lv_iload_n B.hx B.hb dX4_review_1 rfl (lv_at hl 1 rfl) ?_
  refine q_callV (As := [.int (nI j)]) (rest := []) B hP hD hS (c4_isPaper l D cI cZ cP cJ o J Z n hn hn8 (nI j)) (cwV 1 B.hts gX4_review_X4_isPaper rfl rfl rfl (by decide +kernel) ⟨(Nat.le_of_ble_eq_true rfl), (Nat.le_of_ble_eq_true rfl)⟩) 0 4 rfl rfl rfl rfl hl.1 rfl (Nat.le_of_ble_eq_true rfl) dX4_review_2 ⟨(Nat.le_of_ble_eq_true rfl), (Nat.le_of_ble_eq_true rfl)⟩ (fun E ce q9 H locs hx => False.elim hx) (fun v u H locs hp hP hD hS => ?_)
  obtain rfl := hp
  have hP : va_P D vwCl (mw cI cZ o J Z) H := hP
  have hD : va_D A (mw cI cZ o J Z) := hD
  refine q_top (v2 := .int (nI 1)) (by rw [inr_nI (by omega) (by omega)]; rfl) ?_
  refine lv_istore (lv' := [(4, .int (nI 1)), (0, .ref (o 0)), (1, .int (nI j)), (2, .int x), (3, .int r)]) B.hx B.hb dX4_review_5 hl (by decide) rfl (fun ls hl => ?_)
  refine lv_iload_n B.hx B.hb dX4_review_7 rfl (lv_at hl 3 rfl) ?_
  refine q_callS (As := [.int x]) (rest := []) B hP hD hS ((c4_isPerson l D cI cZ cP cJ x).fr0 (mw cI cZ o J Z)) (cwS 1 B.hts gX4_review_X4_isPerson rfl rfl rfl (by decide +kernel) ⟨(Nat.le_of_ble_eq_true rfl), (Nat.le_of_ble_eq_true rfl)⟩) rfl hl.1 rfl (Nat.le_of_ble_eq_true rfl) dX4_review_8 ⟨(Nat.le_of_ble_eq_true rfl), (Nat.le_of_ble_eq_true rfl)⟩ (fun E ce q9 H locs hx => False.elim hx) (fun v u H locs hp hP hD hS => ?_)
  replace hp := bI2 hp
  rcases hp with ⟨rfl, hrg0⟩ | ⟨rfl, hrg0⟩
  · have hP : va_P D vwCl (mw cI cZ o J Z) H := hP
    have hD : va_D A (mw cI cZ o J Z) := hD
    obtain ⟨j2, hjj2, rfl⟩ := rg_j (by decide) hrg0
    have hixj2 : ix (nI j2) = j2 := ix_nI (by omega)
    have hnmj2 : ¬ nI j2 = -1 := nI_nm1 (by omega)
    refine lv_istore (lv' := [(5, .int (nI 1)), (4, .int (nI 1)), (0, .ref (o 0)), (1, .int (nI j)), (2, .int (nI j2)), (3, .int r)]) B.hx B.hb dX4_review_11 hl (by decide) rfl (fun ls hl => ?_)
    refine lv_iload B.hx B.hb dX4_review_13 (lv_at hl 1 rfl) ?_
    refine lv_if_eq (tgt := 41) B.hx B.hb dX4_review_15 (by decide) (fun c1 => absurd c1 (by decide)) (fun _ => ?_)
    refine lv_iload B.hx B.hb dX4_review_18 (lv_at hl 0 rfl) ?_
    refine lv_if_eq (tgt := 41) B.hx B.hb dX4_review_20 (by decide) (fun c2 => absurd c2 (by decide)) (fun _ => ?_)
    refine lv_aload_n B.hx B.hb dX4_review_23 rfl (lv_at hl 2 rfl) ?_
    refine q_get B hP (C := RX4) (ref := "PaperKeeperModel") (T := TX4) (N := 31) (ci := 4) hi4 rfl 0 rfl 8 (by decide) (by decide +kernel) rfl (v := .ref (o 8)) rfl dX4_review_24 ?_
    refine lv_iload_n B.hx B.hb dX4_review_27 rfl (lv_at hl 3 rfl) ?_
    refine q_zald (f := (Z 8)) B hP 6 rfl (j := j) rfl (by omega) (by decide) dX4_review_28 ?_
    refine lv_if_eq (tgt := 41) B.hx B.hb dX4_review_29 (by decide) (fun c3 => ?_) (fun c3 => ?_)
    · refine lv_iconst (v := (-1)) B.hx B.hb dX4_review_41 (by decide) ?_
      refine lv_istore (lv' := [(6, .int (-1)), (5, .int (nI 1)), (4, .int (nI 1)), (0, .ref (o 0)), (1, .int (nI j)), (2, .int (nI j2)), (3, .int r)]) B.hx B.hb dX4_review_42 hl (by decide) rfl (fun ls hl => ?_)
      refine lv_iload B.hx B.hb dX4_review_44 (lv_at hl 0 rfl) ?_
      refine lv_iconst (v := (-1)) B.hx B.hb dX4_review_46 (by decide) ?_
      refine lv_icmp_eq (tgt := 82) B.hx B.hb dX4_review_47 (by decide) (fun _ => ?_) (fun c4 => absurd c4 (by decide))
      refine lv_iconst (v := (nI 0)) B.hx B.hb dX4_review_82 (by decide) ?_
      refine lv_istore (lv' := [(7, .int (nI 0)), (6, .int (-1)), (5, .int (nI 1)), (4, .int (nI 1)), (0, .ref (o 0)), (1, .int (nI j)), (2, .int (nI j2)), (3, .int r)]) B.hx B.hb dX4_review_83 hl (by decide) rfl (fun ls hl => ?_)
      refine lv_aload_n B.hx B.hb dX4_review_85 rfl (lv_at hl 4 rfl) ?_
      refine lv_iload B.hx B.hb dX4_review_86 (lv_at hl 3 rfl) ?_
      refine lv_if_ne (tgt := 95) B.hx B.hb dX4_review_88 (by decide) (fun _ => ?_) (fun c5 => absurd c5 (by decide))
      refine lv_iload B.hx B.hb dX4_review_95 (lv_at hl 2 rfl) ?_
      refine lv_if_ne (tgt := 104) B.hx B.hb dX4_review_97 (by decide) (fun _ => ?_) (fun c6 => absurd c6 (by decide))
      refine lv_iload B.hx B.hb dX4_review_104 (lv_at hl 0 rfl) ?_
      refine lv_if_eq (tgt := 113) B.hx B.hb dX4_review_106 (by decide) (fun _ => ?_) (fun c7 => absurd c7 (by decide))
      refine lv_iconst (v := (nI 3)) B.hx B.hb dX4_review_113 (by decide) ?_
      refine q_callV (As := [.int (nI 3)]) (rest := []) B hP hD hS (c4_can l D cI cZ cP cJ o J Z (nI 3)) (cwV 1 B.hts gX4_review_X4_can rfl rfl rfl (by decide +kernel) ⟨(Nat.le_of_ble_eq_true rfl), (Nat.le_of_ble_eq_true rfl)⟩) 0 4 rfl rfl rfl rfl hl.1 rfl (Nat.le_of_ble_eq_true rfl) dX4_review_114 ⟨(Nat.le_of_ble_eq_true rfl), (Nat.le_of_ble_eq_true rfl)⟩ (fun E ce q9 H locs hx => False.elim hx) (fun v u H locs hp hP hD hS => ?_)
      obtain rfl := hp
      have hP : va_P D vwCl (mw cI cZ o (va_up J 30 (nI 3)) Z) H := hP
      have hD : va_D A (mw cI cZ o (va_up J 30 (nI 3)) Z) := hD
      refine q_top (v2 := .int (nI 0)) rfl ?_
      refine lv_if_ne (tgt := 122) B.hx B.hb dX4_review_117 (by decide) (fun c8 => absurd c8 (by decide)) (fun _ => ?_)
      refine lv_iconst (v := (nI 0)) B.hx B.hb dX4_review_120 (by decide) ?_
      have hK : kReview (nI j2) (Z 8 j) (decide (¬ mPL Z j mm (nI j2) = -1)) (Z 14 (ix (mPL Z j mm (nI j2)))) (Z 6 j) (mNR Z j mm) = 3 := by simp [kReview, hrg0, c3, hixj2, hnmj2]
      exact q_iret B hr hP hD hS (u := ()) (by rw [hK] <;> first | rfl | (simp only [if_true, hixj2, hpl] <;> rfl)) (by rw [hK] <;> first | rfl | (simp only [if_true, hixj2] <;> rfl)) (Nat.le_of_ble_eq_true rfl) (Nat.le_of_ble_eq_true rfl) dX4_review_121
    · refine lv_aload_n B.hx B.hb dX4_review_32 rfl (lv_at hl 2 rfl) ?_
      refine lv_iload_n B.hx B.hb dX4_review_33 rfl (lv_at hl 3 rfl) ?_
      refine lv_iload_n B.hx B.hb dX4_review_34 rfl (lv_at hl 4 rfl) ?_
      refine q_callV (As := [.int (nI j), .int (nI j2)]) (rest := []) B hP hD hS (c4_placeOf l D cI cZ cP cJ o J Z j hj8 mm hm hm4 (nI j2)) (cwV 2 B.hts gX4_review_X4_placeOf rfl rfl rfl (by decide +kernel) ⟨(Nat.le_of_ble_eq_true rfl), (Nat.le_of_ble_eq_true rfl)⟩) 0 4 rfl rfl rfl rfl hl.1 rfl (Nat.le_of_ble_eq_true rfl) dX4_review_35 ⟨(Nat.le_of_ble_eq_true rfl), (Nat.le_of_ble_eq_true rfl)⟩ (fun E ce q9 H locs hx => False.elim hx) (fun v u H locs hp hP hD hS => ?_)
      replace hp := pl2 (f := fun i => 4 * j + i) hp
      rcases hp with ⟨rfl, hpl⟩ | ⟨i, hi, hok, rfl, hpl⟩
      · have hP : va_P D vwCl (mw cI cZ o J Z) H := hP
        have hD : va_D A (mw cI cZ o J Z) := hD
        refine lv_goto (tgt := 42) B.hx B.hb dX4_review_38 (by decide) ?_
        refine lv_istore (lv' := [(6, .int (-1)), (5, .int (nI 1)), (4, .int (nI 1)), (0, .ref (o 0)), (1, .int (nI j)), (2, .int (nI j2)), (3, .int r)]) B.hx B.hb dX4_review_42 hl (by decide) rfl (fun ls hl => ?_)
        refine lv_iload B.hx B.hb dX4_review_44 (lv_at hl 0 rfl) ?_
        refine lv_iconst (v := (-1)) B.hx B.hb dX4_review_46 (by decide) ?_
        refine lv_icmp_eq (tgt := 82) B.hx B.hb dX4_review_47 (by decide) (fun _ => ?_) (fun c9 => absurd c9 (by decide))
        refine lv_iconst (v := (nI 0)) B.hx B.hb dX4_review_82 (by decide) ?_
        refine lv_istore (lv' := [(7, .int (nI 0)), (6, .int (-1)), (5, .int (nI 1)), (4, .int (nI 1)), (0, .ref (o 0)), (1, .int (nI j)), (2, .int (nI j2)), (3, .int r)]) B.hx B.hb dX4_review_83 hl (by decide) rfl (fun ls hl => ?_)
        refine lv_aload_n B.hx B.hb dX4_review_85 rfl (lv_at hl 4 rfl) ?_
        refine lv_iload B.hx B.hb dX4_review_86 (lv_at hl 3 rfl) ?_
        refine lv_if_ne (tgt := 95) B.hx B.hb dX4_review_88 (by decide) (fun _ => ?_) (fun c10 => absurd c10 (by decide))
        refine lv_iload B.hx B.hb dX4_review_95 (lv_at hl 2 rfl) ?_
        refine lv_if_ne (tgt := 104) B.hx B.hb dX4_review_97 (by decide) (fun _ => ?_) (fun c11 => absurd c11 (by decide))
        refine lv_iload B.hx B.hb dX4_review_104 (lv_at hl 0 rfl) ?_
        refine lv_if_eq (tgt := 113) B.hx B.hb dX4_review_106 (by decide) (fun _ => ?_) (fun c12 => absurd c12 (by decide))
        refine lv_iconst (v := (nI 3)) B.hx B.hb dX4_review_113 (by decide) ?_
        refine q_callV (As := [.int (nI 3)]) (rest := []) B hP hD hS (c4_can l D cI cZ cP cJ o J Z (nI 3)) (cwV 1 B.hts gX4_review_X4_can rfl rfl rfl (by decide +kernel) ⟨(Nat.le_of_ble_eq_true rfl), (Nat.le_of_ble_eq_true rfl)⟩) 0 4 rfl rfl rfl rfl hl.1 rfl (Nat.le_of_ble_eq_true rfl) dX4_review_114 ⟨(Nat.le_of_ble_eq_true rfl), (Nat.le_of_ble_eq_true rfl)⟩ (fun E ce q9 H locs hx => False.elim hx) (fun v u H locs hp hP hD hS => ?_)
        obtain rfl := hp
        have hP : va_P D vwCl (mw cI cZ o (va_up J 30 (nI 3)) Z) H := hP
        have hD : va_D A (mw cI cZ o (va_up J 30 (nI 3)) Z) := hD
        refine q_top (v2 := .int (nI 0)) rfl ?_
        refine lv_if_ne (tgt := 122) B.hx B.hb dX4_review_117 (by decide) (fun c13 => absurd c13 (by decide)) (fun _ => ?_)
        refine lv_iconst (v := (nI 0)) B.hx B.hb dX4_review_120 (by decide) ?_
        have hK : kReview (nI j2) (Z 8 j) (decide (¬ mPL Z j mm (nI j2) = -1)) (Z 14 (ix (mPL Z j mm (nI j2)))) (Z 6 j) (mNR Z j mm) = 3 := by simp [kReview, hrg0, c3, hpl, hixj2, hnmj2]
        exact q_iret B hr hP hD hS (u := ()) (by rw [hK] <;> first | rfl | (simp only [if_true, hixj2, hpl] <;> rfl)) (by rw [hK] <;> first | rfl | (simp only [if_true, hixj2] <;> rfl)) (Nat.le_of_ble_eq_true rfl) (Nat.le_of_ble_eq_true rfl) dX4_review_121
      · have hP : va_P D vwCl (mw cI cZ o J Z) H := hP
        have hD : va_D A (mw cI cZ o J Z) := hD
        have hixi : ix (nI (4 * j + i)) = 4 * j + i := ix_nI (by omega)
        have hnmi : ¬ nI (4 * j + i) = -1 := nI_nm1 (by omega)
        refine lv_goto (tgt := 42) B.hx B.hb dX4_review_38 (by decide) ?_
        refine lv_istore (lv' := [(6, .int (nI ((4 * j + i)))), (5, .int (nI 1)), (4, .int (nI 1)), (0, .ref (o 0)), (1, .int (nI j)), (2, .int (nI j2)), (3, .int r)]) B.hx B.hb dX4_review_42 hl (by decide) rfl (fun ls hl => ?_)
        refine lv_iload B.hx B.hb dX4_review_44 (lv_at hl 0 rfl) ?_
        refine lv_iconst (v := (-1)) B.hx B.hb dX4_review_46 (by decide) ?_
        refine lv_icmp_eq (tgt := 82) B.hx B.hb dX4_review_47 (by decide) (fun c14 => ?_) (fun c14 => ?_)
        · refine lv_iconst (v := (nI 0)) B.hx B.hb dX4_review_82 (by decide) ?_
          refine lv_istore (lv' := [(7, .int (nI 0)), (6, .int (nI ((4 * j + i)))), (5, .int (nI 1)), (4, .int (nI 1)), (0, .ref (o 0)), (1, .int (nI j)), (2, .int (nI j2)), (3, .int r)]) B.hx B.hb dX4_review_83 hl (by decide) rfl (fun ls hl => ?_)
          refine lv_aload_n B.hx B.hb dX4_review_85 rfl (lv_at hl 4 rfl) ?_
          refine lv_iload B.hx B.hb dX4_review_86 (lv_at hl 3 rfl) ?_
          refine lv_if_ne (tgt := 95) B.hx B.hb dX4_review_88 (by decide) (fun _ => ?_) (fun c15 => absurd c15 (by decide))
          refine lv_iload B.hx B.hb dX4_review_95 (lv_at hl 2 rfl) ?_
          refine lv_if_ne (tgt := 104) B.hx B.hb dX4_review_97 (by decide) (fun _ => ?_) (fun c16 => absurd c16 (by decide))
          refine lv_iload B.hx B.hb dX4_review_104 (lv_at hl 0 rfl) ?_
          refine lv_if_eq (tgt := 113) B.hx B.hb dX4_review_106 (by decide) (fun _ => ?_) (fun c17 => absurd c17 (by decide))
          refine lv_iconst (v := (nI 3)) B.hx B.hb dX4_review_113 (by decide) ?_
          refine q_callV (As := [.int (nI 3)]) (rest := []) B hP hD hS (c4_can l D cI cZ cP cJ o J Z (nI 3)) (cwV 1 B.hts gX4_review_X4_can rfl rfl rfl (by decide +kernel) ⟨(Nat.le_of_ble_eq_true rfl), (Nat.le_of_ble_eq_true rfl)⟩) 0 4 rfl rfl rfl rfl hl.1 rfl (Nat.le_of_ble_eq_true rfl) dX4_review_114 ⟨(Nat.le_of_ble_eq_true rfl), (Nat.le_of_ble_eq_true rfl)⟩ (fun E ce q9 H locs hx => False.elim hx) (fun v u H locs hp hP hD hS => ?_)
          obtain rfl := hp
          have hP : va_P D vwCl (mw cI cZ o (va_up J 30 (nI 3)) Z) H := hP
          have hD : va_D A (mw cI cZ o (va_up J 30 (nI 3)) Z) := hD
          refine q_top (v2 := .int (nI 0)) rfl ?_
          refine lv_if_ne (tgt := 122) B.hx B.hb dX4_review_117 (by decide) (fun c18 => absurd c18 (by decide)) (fun _ => ?_)
          refine lv_iconst (v := (nI 0)) B.hx B.hb dX4_review_120 (by decide) ?_
          have hK : kReview (nI j2) (Z 8 j) (decide (¬ mPL Z j mm (nI j2) = -1)) (Z 14 (ix (mPL Z j mm (nI j2)))) (Z 6 j) (mNR Z j mm) = 3 := by simp [kReview, hrg0, c3, hpl, c14, hixj2, hnmj2, hixi, hnmi]
          exact q_iret B hr hP hD hS (u := ()) (by rw [hK] <;> first | rfl | (simp only [if_true, hixj2, hixi, hpl] <;> rfl)) (by rw [hK] <;> first | rfl | (simp only [if_true, hixj2, hixi] <;> rfl)) (Nat.le_of_ble_eq_true rfl) (Nat.le_of_ble_eq_true rfl) dX4_review_121
        · refine lv_aload_n B.hx B.hb dX4_review_50 rfl (lv_at hl 3 rfl) ?_
          refine q_get B hP (C := RX4) (ref := "PaperKeeperModel") (T := TX4) (N := 31) (ci := 4) hi4 rfl 0 rfl 14 (by decide) (by decide +kernel) rfl (v := .ref (o 14)) rfl dX4_review_51 ?_
          refine lv_iload B.hx B.hb dX4_review_54 (lv_at hl 0 rfl) ?_
          refine q_zald (f := (Z 14)) B hP 12 rfl (j := (4 * j + i)) rfl (by omega) (by decide) dX4_review_56 ?_
          refine lv_if_ne (tgt := 82) B.hx B.hb dX4_review_57 (by decide) (fun c19 => ?_) (fun c19 => ?_)
          · refine lv_iconst (v := (nI 0)) B.hx B.hb dX4_review_82 (by decide) ?_
            refine lv_istore (lv' := [(7, .int (nI 0)), (6, .int (nI ((4 * j + i)))), (5, .int (nI 1)), (4, .int (nI 1)), (0, .ref (o 0)), (1, .int (nI j)), (2, .int (nI j2)), (3, .int r)]) B.hx B.hb dX4_review_83 hl (by decide) rfl (fun ls hl => ?_)
            refine lv_aload_n B.hx B.hb dX4_review_85 rfl (lv_at hl 4 rfl) ?_
            refine lv_iload B.hx B.hb dX4_review_86 (lv_at hl 3 rfl) ?_
            refine lv_if_ne (tgt := 95) B.hx B.hb dX4_review_88 (by decide) (fun _ => ?_) (fun c20 => absurd c20 (by decide))
            refine lv_iload B.hx B.hb dX4_review_95 (lv_at hl 2 rfl) ?_
            refine lv_if_ne (tgt := 104) B.hx B.hb dX4_review_97 (by decide) (fun _ => ?_) (fun c21 => absurd c21 (by decide))
            refine lv_iload B.hx B.hb dX4_review_104 (lv_at hl 0 rfl) ?_
            refine lv_if_eq (tgt := 113) B.hx B.hb dX4_review_106 (by decide) (fun _ => ?_) (fun c22 => absurd c22 (by decide))
            refine lv_iconst (v := (nI 3)) B.hx B.hb dX4_review_113 (by decide) ?_
            refine q_callV (As := [.int (nI 3)]) (rest := []) B hP hD hS (c4_can l D cI cZ cP cJ o J Z (nI 3)) (cwV 1 B.hts gX4_review_X4_can rfl rfl rfl (by decide +kernel) ⟨(Nat.le_of_ble_eq_true rfl), (Nat.le_of_ble_eq_true rfl)⟩) 0 4 rfl rfl rfl rfl hl.1 rfl (Nat.le_of_ble_eq_true rfl) dX4_review_114 ⟨(Nat.le_of_ble_eq_true rfl), (Nat.le_of_ble_eq_true rfl)⟩ (fun E ce q9 H locs hx => False.elim hx) (fun v u H locs hp hP hD hS => ?_)
            obtain rfl := hp
            have hP : va_P D vwCl (mw cI cZ o (va_up J 30 (nI 3)) Z) H := hP
            have hD : va_D A (mw cI cZ o (va_up J 30 (nI 3)) Z) := hD
            refine q_top (v2 := .int (nI 0)) rfl ?_
            refine lv_if_ne (tgt := 122) B.hx B.hb dX4_review_117 (by decide) (fun c23 => absurd c23 (by decide)) (fun _ => ?_)
            refine lv_iconst (v := (nI 0)) B.hx B.hb dX4_review_120 (by decide) ?_
            have hK : kReview (nI j2) (Z 8 j) (decide (¬ mPL Z j mm (nI j2) = -1)) (Z 14 (ix (mPL Z j mm (nI j2)))) (Z 6 j) (mNR Z j mm) = 3 := by simp [kReview, hrg0, c3, hpl, c14, c19, hixj2, hnmj2, hixi, hnmi]
            exact q_iret B hr hP hD hS (u := ()) (by rw [hK] <;> first | rfl | (simp only [if_true, hixj2, hixi, hpl] <;> rfl)) (by rw [hK] <;> first | rfl | (simp only [if_true, hixj2, hixi] <;> rfl)) (Nat.le_of_ble_eq_true rfl) (Nat.le_of_ble_eq_true rfl) dX4_review_121
          · refine lv_aload_n B.hx B.hb dX4_review_60 rfl (lv_at hl 3 rfl) ?_
            refine q_get B hP (C := RX4) (ref := "PaperKeeperModel") (T := TX4) (N := 31) (ci := 4) hi4 rfl 0 rfl 6 (by decide) (by decide +kernel) rfl (v := .ref (o 6)) rfl dX4_review_61 ?_
            refine lv_iload_n B.hx B.hb dX4_review_64 rfl (lv_at hl 4 rfl) ?_
            refine q_zald (f := (Z 6)) B hP 4 rfl (j := j) rfl (by omega) (by decide) dX4_review_65 ?_
            refine lv_if_eq (tgt := 78) B.hx B.hb dX4_review_66 (by decide) (fun c24 => ?_) (fun c24 => ?_)
            · refine lv_iconst (v := (nI 1)) B.hx B.hb dX4_review_78 (by decide) ?_
              refine lv_goto (tgt := 83) B.hx B.hb dX4_review_79 (by decide) ?_
              refine lv_istore (lv' := [(7, .int (nI 1)), (6, .int (nI ((4 * j + i)))), (5, .int (nI 1)), (4, .int (nI 1)), (0, .ref (o 0)), (1, .int (nI j)), (2, .int (nI j2)), (3, .int r)]) B.hx B.hb dX4_review_83 hl (by decide) rfl (fun ls hl => ?_)
              refine lv_aload_n B.hx B.hb dX4_review_85 rfl (lv_at hl 4 rfl) ?_
              refine lv_iload B.hx B.hb dX4_review_86 (lv_at hl 3 rfl) ?_
              refine lv_if_ne (tgt := 95) B.hx B.hb dX4_review_88 (by decide) (fun _ => ?_) (fun c25 => absurd c25 (by decide))
              refine lv_iload B.hx B.hb dX4_review_95 (lv_at hl 2 rfl) ?_
              refine lv_if_ne (tgt := 104) B.hx B.hb dX4_review_97 (by decide) (fun _ => ?_) (fun c26 => absurd c26 (by decide))
              refine lv_iload B.hx B.hb dX4_review_104 (lv_at hl 0 rfl) ?_
              refine lv_if_eq (tgt := 113) B.hx B.hb dX4_review_106 (by decide) (fun c27 => absurd c27 (by decide)) (fun _ => ?_)
              refine lv_iconst (v := (nI 0)) B.hx B.hb dX4_review_109 (by decide) ?_
              refine lv_goto (tgt := 114) B.hx B.hb dX4_review_110 (by decide) ?_
              refine q_callV (As := [.int (nI 0)]) (rest := []) B hP hD hS (c4_can l D cI cZ cP cJ o J Z (nI 0)) (cwV 1 B.hts gX4_review_X4_can rfl rfl rfl (by decide +kernel) ⟨(Nat.le_of_ble_eq_true rfl), (Nat.le_of_ble_eq_true rfl)⟩) 0 4 rfl rfl rfl rfl hl.1 rfl (Nat.le_of_ble_eq_true rfl) dX4_review_114 ⟨(Nat.le_of_ble_eq_true rfl), (Nat.le_of_ble_eq_true rfl)⟩ (fun E ce q9 H locs hx => False.elim hx) (fun v u H locs hp hP hD hS => ?_)
              obtain rfl := hp
              have hP : va_P D vwCl (mw cI cZ o (va_up J 30 (nI 0)) Z) H := hP
              have hD : va_D A (mw cI cZ o (va_up J 30 (nI 0)) Z) := hD
              refine q_top (v2 := .int (nI 1)) rfl ?_
              refine lv_if_ne (tgt := 122) B.hx B.hb dX4_review_117 (by decide) (fun _ => ?_) (fun c28 => absurd c28 (by decide))
              refine lv_aload_n B.hx B.hb dX4_review_122 rfl (lv_at hl 4 rfl) ?_
              refine q_get B hP (C := RX4) (ref := "PaperKeeperModel") (T := TX4) (N := 31) (ci := 4) hi4 rfl 0 rfl 14 (by decide) (by decide +kernel) rfl (v := .ref (o 14)) rfl dX4_review_123 ?_
              refine lv_iload B.hx B.hb dX4_review_126 (lv_at hl 1 rfl) ?_
              refine lv_iconst (v := (nI 1)) B.hx B.hb dX4_review_128 (by decide) ?_
              refine q_zast B hP hD hS 12 rfl (j := (4 * j + i)) rfl (by omega) (by decide) (by decide) dX4_review_129 (w' := mw cI cZ o (va_up J 30 (nI 0)) (va_up Z 14 (upd (Z 14) (4 * j + i) (nI 1)))) rfl (fun H locs hP hD hS => ?_)
              refine lv_iload_n B.hx B.hb dX4_review_130 rfl (lv_at hl 7 rfl) ?_
              refine lv_if_ne (tgt := 136) B.hx B.hb dX4_review_131 (by decide) (fun c29 => ?_) (fun c29 => ?_)
              · have hrr := c29
                refine lv_aload_n B.hx B.hb dX4_review_136 rfl (lv_at hl 4 rfl) ?_
                refine q_get B hP (C := RX4) (ref := "PaperKeeperModel") (T := TX4) (N := 31) (ci := 4) hi4 rfl 0 rfl 15 (by decide) (by decide +kernel) rfl (v := .ref (o 15)) rfl dX4_review_137 ?_
                refine lv_iload_n B.hx B.hb dX4_review_140 rfl (lv_at hl 5 rfl) ?_
                refine lv_dup2_11 B.hx B.hb dX4_review_141 rfl rfl ?_
                refine q_iald (f := (Z 15)) B hP 13 rfl (j := j) rfl (by omega) (by decide) dX4_review_142 ?_
                refine q_top (v2 := .int (nI k)) (congrArg Value.int hk) ?_
                refine lv_iconst (v := (nI 1)) B.hx B.hb dX4_review_143 (by decide) ?_
                refine lv_iadd B.hx B.hb dX4_review_144 ?_
                refine q_top (v2 := .int (nI ((k + 1)))) (congrArg Value.int (nI_add _ _)) ?_
                refine q_iast B hP hD hS 13 rfl (j := j) rfl (by omega) (by decide) dX4_review_145 (w' := mw cI cZ o (va_up J 30 (nI 0)) (va_up (va_up Z 14 (upd (Z 14) (4 * j + i) (nI 1))) 15 (upd (Z 15) j (nI ((k + 1)))))) rfl (fun H locs hP hD hS => ?_)
                refine lv_aload_n B.hx B.hb dX4_review_146 rfl (lv_at hl 4 rfl) ?_
                refine q_get B hP (C := RX4) (ref := "PaperKeeperModel") (T := TX4) (N := 31) (ci := 4) hi4 rfl 0 rfl 15 (by decide) (by decide +kernel) rfl (v := .ref (o 15)) rfl dX4_review_147 ?_
                refine lv_iload_n B.hx B.hb dX4_review_150 rfl (lv_at hl 5 rfl) ?_
                refine q_iald (f := (upd (Z 15) j (nI ((k + 1))))) B hP 13 rfl (j := j) rfl (by omega) (by decide) dX4_review_151 ?_
                refine q_top (v2 := .int (nI ((k + 1)))) (congrArg Value.int pk_us) ?_
                refine lv_iconst (v := (nI 1)) B.hx B.hb dX4_review_152 (by decide) ?_
                refine lv_isub B.hx B.hb dX4_review_153 ?_
                refine q_top (v2 := .int (nI k)) (congrArg Value.int (nI_pred _)) ?_
                have hK : kReview (nI j2) (Z 8 j) (decide (¬ mPL Z j mm (nI j2) = -1)) (Z 14 (ix (mPL Z j mm (nI j2)))) (Z 6 j) (mNR Z j mm) = 0 := by simp [kReview, hrg0, c3, hpl, c14, c19, c24, c29, hixj2, hnmj2, hixi, hnmi]
                exact q_iret B hr hP hD hS (u := ()) (by rw [hK] <;> first | rfl | (simp only [if_true, hixj2, hixi, hpl, hrr] <;> rfl)) (by rw [hK] <;> first | rfl | (simp only [if_true, hixj2, hixi, hrr] <;> rfl)) (Nat.le_of_ble_eq_true rfl) (Nat.le_of_ble_eq_true rfl) dX4_review_154
              · have hrr := c29
                refine lv_iconst (v := (-1)) B.hx B.hb dX4_review_134 (by decide) ?_
                have hK : kReview (nI j2) (Z 8 j) (decide (¬ mPL Z j mm (nI j2) = -1)) (Z 14 (ix (mPL Z j mm (nI j2)))) (Z 6 j) (mNR Z j mm) = 0 := by simp [kReview, hrg0, c3, hpl, c14, c19, c24, c29, hixj2, hnmj2, hixi, hnmi]
                exact q_iret B hr hP hD hS (u := ()) (by rw [hK] <;> first | rfl | (simp only [if_true, hixj2, hixi, hpl, hrr] <;> rfl)) (by rw [hK] <;> first | rfl | (simp only [if_true, hixj2, hixi, hrr] <;> rfl)) (Nat.le_of_ble_eq_true rfl) (Nat.le_of_ble_eq_true rfl) dX4_review_135
            · refine lv_aload_n B.hx B.hb dX4_review_69 rfl (lv_at hl 3 rfl) ?_
              refine lv_iload_n B.hx B.hb dX4_review_70 rfl (lv_at hl 4 rfl) ?_
              refine q_callV (As := [.int (nI j)]) (rest := []) B hP hD hS (c4_nextReviewer l D cI cZ cP cJ o J Z j hj8 mm hm hm4) (cwV 1 B.hts gX4_review_X4_nextReviewer rfl rfl rfl (by decide +kernel) ⟨(Nat.le_of_ble_eq_true rfl), (Nat.le_of_ble_eq_true rfl)⟩) 0 4 rfl rfl rfl rfl hl.1 rfl (Nat.le_of_ble_eq_true rfl) dX4_review_71 ⟨(Nat.le_of_ble_eq_true rfl), (Nat.le_of_ble_eq_true rfl)⟩ (fun E ce q9 H locs hx => False.elim hx) (fun v u H locs hp hP hD hS => ?_)
              obtain rfl := hp
              have hP : va_P D vwCl (mw cI cZ o J Z) H := hP
              have hD : va_D A (mw cI cZ o J Z) := hD
              refine lv_iload_n B.hx B.hb dX4_review_74 rfl (lv_at hl 5 rfl) ?_
              refine lv_icmp_ne (tgt := 82) B.hx B.hb dX4_review_75 (by decide) (fun c30 => ?_) (fun c30 => ?_)
              · refine lv_iconst (v := (nI 0)) B.hx B.hb dX4_review_82 (by decide) ?_
                refine lv_istore (lv' := [(7, .int (nI 0)), (6, .int (nI ((4 * j + i)))), (5, .int (nI 1)), (4, .int (nI 1)), (0, .ref (o 0)), (1, .int (nI j)), (2, .int (nI j2)), (3, .int r)]) B.hx B.hb dX4_review_83 hl (by decide) rfl (fun ls hl => ?_)
                refine lv_aload_n B.hx B.hb dX4_review_85 rfl (lv_at hl 4 rfl) ?_
                refine lv_iload B.hx B.hb dX4_review_86 (lv_at hl 3 rfl) ?_
                refine lv_if_ne (tgt := 95) B.hx B.hb dX4_review_88 (by decide) (fun _ => ?_) (fun c31 => absurd c31 (by decide))
                refine lv_iload B.hx B.hb dX4_review_95 (lv_at hl 2 rfl) ?_
                refine lv_if_ne (tgt := 104) B.hx B.hb dX4_review_97 (by decide) (fun _ => ?_) (fun c32 => absurd c32 (by decide))
                refine lv_iload B.hx B.hb dX4_review_104 (lv_at hl 0 rfl) ?_
                refine lv_if_eq (tgt := 113) B.hx B.hb dX4_review_106 (by decide) (fun _ => ?_) (fun c33 => absurd c33 (by decide))
                refine lv_iconst (v := (nI 3)) B.hx B.hb dX4_review_113 (by decide) ?_
                refine q_callV (As := [.int (nI 3)]) (rest := []) B hP hD hS (c4_can l D cI cZ cP cJ o J Z (nI 3)) (cwV 1 B.hts gX4_review_X4_can rfl rfl rfl (by decide +kernel) ⟨(Nat.le_of_ble_eq_true rfl), (Nat.le_of_ble_eq_true rfl)⟩) 0 4 rfl rfl rfl rfl hl.1 rfl (Nat.le_of_ble_eq_true rfl) dX4_review_114 ⟨(Nat.le_of_ble_eq_true rfl), (Nat.le_of_ble_eq_true rfl)⟩ (fun E ce q9 H locs hx => False.elim hx) (fun v u H locs hp hP hD hS => ?_)
                obtain rfl := hp
                have hP : va_P D vwCl (mw cI cZ o (va_up J 30 (nI 3)) Z) H := hP
                have hD : va_D A (mw cI cZ o (va_up J 30 (nI 3)) Z) := hD
                refine q_top (v2 := .int (nI 0)) rfl ?_
                refine lv_if_ne (tgt := 122) B.hx B.hb dX4_review_117 (by decide) (fun c34 => absurd c34 (by decide)) (fun _ => ?_)
                refine lv_iconst (v := (nI 0)) B.hx B.hb dX4_review_120 (by decide) ?_
                have hK : kReview (nI j2) (Z 8 j) (decide (¬ mPL Z j mm (nI j2) = -1)) (Z 14 (ix (mPL Z j mm (nI j2)))) (Z 6 j) (mNR Z j mm) = 3 := by simp [kReview, hrg0, c3, hpl, c14, c19, c24, c30, hixj2, hnmj2, hixi, hnmi]
                exact q_iret B hr hP hD hS (u := ()) (by rw [hK] <;> first | rfl | (simp only [if_true, hixj2, hixi, hpl] <;> rfl)) (by rw [hK] <;> first | rfl | (simp only [if_true, hixj2, hixi] <;> rfl)) (Nat.le_of_ble_eq_true rfl) (Nat.le_of_ble_eq_true rfl) dX4_review_121
              · refine lv_iconst (v := (nI 1)) B.hx B.hb dX4_review_78 (by decide) ?_
                refine lv_goto (tgt := 83) B.hx B.hb dX4_review_79 (by decide) ?_
                refine lv_istore (lv' := [(7, .int (nI 1)), (6, .int (nI ((4 * j + i)))), (5, .int (nI 1)), (4, .int (nI 1)), (0, .ref (o 0)), (1, .int (nI j)), (2, .int (nI j2)), (3, .int r)]) B.hx B.hb dX4_review_83 hl (by decide) rfl (fun ls hl => ?_)
                refine lv_aload_n B.hx B.hb dX4_review_85 rfl (lv_at hl 4 rfl) ?_
                refine lv_iload B.hx B.hb dX4_review_86 (lv_at hl 3 rfl) ?_
                refine lv_if_ne (tgt := 95) B.hx B.hb dX4_review_88 (by decide) (fun _ => ?_) (fun c35 => absurd c35 (by decide))
                refine lv_iload B.hx B.hb dX4_review_95 (lv_at hl 2 rfl) ?_
                refine lv_if_ne (tgt := 104) B.hx B.hb dX4_review_97 (by decide) (fun _ => ?_) (fun c36 => absurd c36 (by decide))
                refine lv_iload B.hx B.hb dX4_review_104 (lv_at hl 0 rfl) ?_
                refine lv_if_eq (tgt := 113) B.hx B.hb dX4_review_106 (by decide) (fun c37 => absurd c37 (by decide)) (fun _ => ?_)
                refine lv_iconst (v := (nI 0)) B.hx B.hb dX4_review_109 (by decide) ?_
                refine lv_goto (tgt := 114) B.hx B.hb dX4_review_110 (by decide) ?_
                refine q_callV (As := [.int (nI 0)]) (rest := []) B hP hD hS (c4_can l D cI cZ cP cJ o J Z (nI 0)) (cwV 1 B.hts gX4_review_X4_can rfl rfl rfl (by decide +kernel) ⟨(Nat.le_of_ble_eq_true rfl), (Nat.le_of_ble_eq_true rfl)⟩) 0 4 rfl rfl rfl rfl hl.1 rfl (Nat.le_of_ble_eq_true rfl) dX4_review_114 ⟨(Nat.le_of_ble_eq_true rfl), (Nat.le_of_ble_eq_true rfl)⟩ (fun E ce q9 H locs hx => False.elim hx) (fun v u H locs hp hP hD hS => ?_)
                obtain rfl := hp
                have hP : va_P D vwCl (mw cI cZ o (va_up J 30 (nI 0)) Z) H := hP
                have hD : va_D A (mw cI cZ o (va_up J 30 (nI 0)) Z) := hD
                refine q_top (v2 := .int (nI 1)) rfl ?_
                refine lv_if_ne (tgt := 122) B.hx B.hb dX4_review_117 (by decide) (fun _ => ?_) (fun c38 => absurd c38 (by decide))
                refine lv_aload_n B.hx B.hb dX4_review_122 rfl (lv_at hl 4 rfl) ?_
                refine q_get B hP (C := RX4) (ref := "PaperKeeperModel") (T := TX4) (N := 31) (ci := 4) hi4 rfl 0 rfl 14 (by decide) (by decide +kernel) rfl (v := .ref (o 14)) rfl dX4_review_123 ?_
                refine lv_iload B.hx B.hb dX4_review_126 (lv_at hl 1 rfl) ?_
                refine lv_iconst (v := (nI 1)) B.hx B.hb dX4_review_128 (by decide) ?_
                refine q_zast B hP hD hS 12 rfl (j := (4 * j + i)) rfl (by omega) (by decide) (by decide) dX4_review_129 (w' := mw cI cZ o (va_up J 30 (nI 0)) (va_up Z 14 (upd (Z 14) (4 * j + i) (nI 1)))) rfl (fun H locs hP hD hS => ?_)
                refine lv_iload_n B.hx B.hb dX4_review_130 rfl (lv_at hl 7 rfl) ?_
                refine lv_if_ne (tgt := 136) B.hx B.hb dX4_review_131 (by decide) (fun c39 => ?_) (fun c39 => ?_)
                · have hrr := c39
                  refine lv_aload_n B.hx B.hb dX4_review_136 rfl (lv_at hl 4 rfl) ?_
                  refine q_get B hP (C := RX4) (ref := "PaperKeeperModel") (T := TX4) (N := 31) (ci := 4) hi4 rfl 0 rfl 15 (by decide) (by decide +kernel) rfl (v := .ref (o 15)) rfl dX4_review_137 ?_
                  refine lv_iload_n B.hx B.hb dX4_review_140 rfl (lv_at hl 5 rfl) ?_
                  refine lv_dup2_11 B.hx B.hb dX4_review_141 rfl rfl ?_
                  refine q_iald (f := (Z 15)) B hP 13 rfl (j := j) rfl (by omega) (by decide) dX4_review_142 ?_
                  refine q_top (v2 := .int (nI k)) (congrArg Value.int hk) ?_
                  refine lv_iconst (v := (nI 1)) B.hx B.hb dX4_review_143 (by decide) ?_
                  refine lv_iadd B.hx B.hb dX4_review_144 ?_
                  refine q_top (v2 := .int (nI ((k + 1)))) (congrArg Value.int (nI_add _ _)) ?_
                  refine q_iast B hP hD hS 13 rfl (j := j) rfl (by omega) (by decide) dX4_review_145 (w' := mw cI cZ o (va_up J 30 (nI 0)) (va_up (va_up Z 14 (upd (Z 14) (4 * j + i) (nI 1))) 15 (upd (Z 15) j (nI ((k + 1)))))) rfl (fun H locs hP hD hS => ?_)
                  refine lv_aload_n B.hx B.hb dX4_review_146 rfl (lv_at hl 4 rfl) ?_
                  refine q_get B hP (C := RX4) (ref := "PaperKeeperModel") (T := TX4) (N := 31) (ci := 4) hi4 rfl 0 rfl 15 (by decide) (by decide +kernel) rfl (v := .ref (o 15)) rfl dX4_review_147 ?_
                  refine lv_iload_n B.hx B.hb dX4_review_150 rfl (lv_at hl 5 rfl) ?_
                  refine q_iald (f := (upd (Z 15) j (nI ((k + 1))))) B hP 13 rfl (j := j) rfl (by omega) (by decide) dX4_review_151 ?_
                  refine q_top (v2 := .int (nI ((k + 1)))) (congrArg Value.int pk_us) ?_
                  refine lv_iconst (v := (nI 1)) B.hx B.hb dX4_review_152 (by decide) ?_
                  refine lv_isub B.hx B.hb dX4_review_153 ?_
                  refine q_top (v2 := .int (nI k)) (congrArg Value.int (nI_pred _)) ?_
                  have hK : kReview (nI j2) (Z 8 j) (decide (¬ mPL Z j mm (nI j2) = -1)) (Z 14 (ix (mPL Z j mm (nI j2)))) (Z 6 j) (mNR Z j mm) = 0 := by simp [kReview, hrg0, c3, hpl, c14, c19, c24, c30, c39, hixj2, hnmj2, hixi, hnmi]
                  exact q_iret B hr hP hD hS (u := ()) (by rw [hK] <;> first | rfl | (simp only [if_true, hixj2, hixi, hpl, hrr] <;> rfl)) (by rw [hK] <;> first | rfl | (simp only [if_true, hixj2, hixi, hrr] <;> rfl)) (Nat.le_of_ble_eq_true rfl) (Nat.le_of_ble_eq_true rfl) dX4_review_154
                · have hrr := c39
                  refine lv_iconst (v := (-1)) B.hx B.hb dX4_review_134 (by decide) ?_
                  have hK : kReview (nI j2) (Z 8 j) (decide (¬ mPL Z j mm (nI j2) = -1)) (Z 14 (ix (mPL Z j mm (nI j2)))) (Z 6 j) (mNR Z j mm) = 0 := by simp [kReview, hrg0, c3, hpl, c14, c19, c24, c30, c39, hixj2, hnmj2, hixi, hnmi]
                  exact q_iret B hr hP hD hS (u := ()) (by rw [hK] <;> first | rfl | (simp only [if_true, hixj2, hixi, hpl, hrr] <;> rfl)) (by rw [hK] <;> first | rfl | (simp only [if_true, hixj2, hixi, hrr] <;> rfl)) (Nat.le_of_ble_eq_true rfl) (Nat.le_of_ble_eq_true rfl) dX4_review_135
  · have hP : va_P D vwCl (mw cI cZ o J Z) H := hP
    have hD : va_D A (mw cI cZ o J Z) := hD
    refine lv_istore (lv' := [(5, .int (nI 0)), (4, .int (nI 1)), (0, .ref (o 0)), (1, .int (nI j)), (2, .int x), (3, .int r)]) B.hx B.hb dX4_review_11 hl (by decide) rfl (fun ls hl => ?_)
    refine lv_iload B.hx B.hb dX4_review_13 (lv_at hl 1 rfl) ?_
    refine lv_if_eq (tgt := 41) B.hx B.hb dX4_review_15 (by decide) (fun c40 => absurd c40 (by decide)) (fun _ => ?_)
    refine lv_iload B.hx B.hb dX4_review_18 (lv_at hl 0 rfl) ?_
    refine lv_if_eq (tgt := 41) B.hx B.hb dX4_review_20 (by decide) (fun _ => ?_) (fun c41 => absurd c41 (by decide))
    refine lv_iconst (v := (-1)) B.hx B.hb dX4_review_41 (by decide) ?_
    refine lv_istore (lv' := [(6, .int (-1)), (5, .int (nI 0)), (4, .int (nI 1)), (0, .ref (o 0)), (1, .int (nI j)), (2, .int x), (3, .int r)]) B.hx B.hb dX4_review_42 hl (by decide) rfl (fun ls hl => ?_)
    refine lv_iload B.hx B.hb dX4_review_44 (lv_at hl 0 rfl) ?_
    refine lv_iconst (v := (-1)) B.hx B.hb dX4_review_46 (by decide) ?_
    refine lv_icmp_eq (tgt := 82) B.hx B.hb dX4_review_47 (by decide) (fun _ => ?_) (fun c42 => absurd c42 (by decide))
    refine lv_iconst (v := (nI 0)) B.hx B.hb dX4_review_82 (by decide) ?_
    refine lv_istore (lv' := [(7, .int (nI 0)), (6, .int (-1)), (5, .int (nI 0)), (4, .int (nI 1)), (0, .ref (o 0)), (1, .int (nI j)), (2, .int x), (3, .int r)]) B.hx B.hb dX4_review_83 hl (by decide) rfl (fun ls hl => ?_)
    refine lv_aload_n B.hx B.hb dX4_review_85 rfl (lv_at hl 4 rfl) ?_
    refine lv_iload B.hx B.hb dX4_review_86 (lv_at hl 3 rfl) ?_
    refine lv_if_ne (tgt := 95) B.hx B.hb dX4_review_88 (by decide) (fun _ => ?_) (fun c43 => absurd c43 (by decide))
    refine lv_iload B.hx B.hb dX4_review_95 (lv_at hl 2 rfl) ?_
    refine lv_if_ne (tgt := 104) B.hx B.hb dX4_review_97 (by decide) (fun c44 => absurd c44 (by decide)) (fun _ => ?_)
    refine lv_iconst (v := (nI 2)) B.hx B.hb dX4_review_100 (by decide) ?_
    refine lv_goto (tgt := 114) B.hx B.hb dX4_review_101 (by decide) ?_
    refine q_callV (As := [.int (nI 2)]) (rest := []) B hP hD hS (c4_can l D cI cZ cP cJ o J Z (nI 2)) (cwV 1 B.hts gX4_review_X4_can rfl rfl rfl (by decide +kernel) ⟨(Nat.le_of_ble_eq_true rfl), (Nat.le_of_ble_eq_true rfl)⟩) 0 4 rfl rfl rfl rfl hl.1 rfl (Nat.le_of_ble_eq_true rfl) dX4_review_114 ⟨(Nat.le_of_ble_eq_true rfl), (Nat.le_of_ble_eq_true rfl)⟩ (fun E ce q9 H locs hx => False.elim hx) (fun v u H locs hp hP hD hS => ?_)
    obtain rfl := hp
    have hP : va_P D vwCl (mw cI cZ o (va_up J 30 (nI 2)) Z) H := hP
    have hD : va_D A (mw cI cZ o (va_up J 30 (nI 2)) Z) := hD
    refine q_top (v2 := .int (nI 0)) rfl ?_
    refine lv_if_ne (tgt := 122) B.hx B.hb dX4_review_117 (by decide) (fun c45 => absurd c45 (by decide)) (fun _ => ?_)
    refine lv_iconst (v := (nI 0)) B.hx B.hb dX4_review_120 (by decide) ?_
    have hK : kReview x (Z 8 j) (decide (¬ mPL Z j mm x = -1)) (Z 14 (ix (mPL Z j mm x))) (Z 6 j) (mNR Z j mm) = 2 := by simp [kReview, hrg0]
    exact q_iret B hr hP hD hS (u := ()) (by rw [hK] <;> first | rfl | (simp only [if_true, hpl] <;> rfl)) (by rw [hK] <;> first | rfl | (simp only [if_true] <;> rfl)) (Nat.le_of_ble_eq_true rfl) (Nat.le_of_ble_eq_true rfl) dX4_review_121
set_option maxHeartbeats 4000000 in
set_option maxRecDepth 100000 in
theorem c4_answer (l : Launch) (D : va_G) (cI cZ cP cJ : ClassId) (o : Nat → Nat) (J : Nat → Int32) (Z : Nat → Nat → Int32) (n : Nat) (hn : J 5 = nI n) (hn8 : n ≤ 8) (j : Nat) (hj : j < n) (k : Nat) (hk : Z 15 j = nI k) (hk4 : k ≤ 4) (r : Int32) : q_C l yX4_answer wsX4_answer ({ frames := 2, cells := 0, slots := 0, locals := 46 }) D cI cZ cP cJ [.ref (o 0), .int (nI j), .int r] (mw cI cZ o J Z) (S := Unit) (fun v _ => v = some (.int (if kAnswer r (Z 8 j) k (Z 16 (4 * j + ix r)) = 0 then nI (pN (fun i => decide ((upd (Z 16) (4 * j + ix r) (nI 1)) (4 * j + i) = 0)) k) else nI 0))) (fun _ => mw cI cZ o (va_up J 30 (nI (kAnswer r (Z 8 j) k (Z 16 (4 * j + ix r))))) (if kAnswer r (Z 8 j) k (Z 16 (4 * j + ix r)) = 0 then (va_up Z 16 (upd (Z 16) (4 * j + ix r) (nI 1))) else Z)) (fun _ => False) 0 0 := by
  refine q_of (cc := cX4_answer) (maxL := 4) (ret := (some .int)) (by decide +kernel) rfl (Nat.le_of_ble_eq_true rfl) ?_
  intro p e s m below meth c A ls B hr htb hmn hP hD hS hl
  have hl : lv_has ls 4 [(0, .ref (o 0)), (1, .int (nI j)), (2, .int r)] := hl
  have hi4 : ∀ w ∈ u_ws RX4 TX4 31, w ∈ wsX4_answer := by decide +kernel
  have hj8 : j < 8 := by omega
  refine lv_aload_n B.hx B.hb dX4_answer_0 rfl (lv_at hl 0 rfl) ?_
  refine lv_iload_n B.hx B.hb dX4_answer_1 rfl (lv_at hl 1 rfl) ?_
  refine q_callV (As := [.int (nI j)]) (rest := []) B hP hD hS (c4_isPaper l D cI cZ cP cJ o J Z n hn hn8 (nI j)) (cwV 1 B.hts gX4_answer_X4_isPaper rfl rfl rfl (by decide +kernel) ⟨(Nat.le_of_ble_eq_true rfl), (Nat.le_of_ble_eq_true rfl)⟩) 0 4 rfl rfl rfl rfl hl.1 rfl (Nat.le_of_ble_eq_true rfl) dX4_answer_2 ⟨(Nat.le_of_ble_eq_true rfl), (Nat.le_of_ble_eq_true rfl)⟩ (fun E ce q9 H locs hx => False.elim hx) (fun v u H locs hp hP hD hS => ?_)
  obtain rfl := hp
  have hP : va_P D vwCl (mw cI cZ o J Z) H := hP
  have hD : va_D A (mw cI cZ o J Z) := hD
  refine q_top (v2 := .int (nI 1)) (by rw [inr_nI (by omega) (by omega)]; rfl) ?_
  refine lv_if_eq (tgt := 37) B.hx B.hb dX4_answer_5 (by decide) (fun c1 => absurd c1 (by decide)) (fun _ => ?_)
  refine lv_aload_n B.hx B.hb dX4_answer_8 rfl (lv_at hl 0 rfl) ?_
  refine q_get B hP (C := RX4) (ref := "PaperKeeperModel") (T := TX4) (N := 31) (ci := 4) hi4 rfl 0 rfl 8 (by decide) (by decide +kernel) rfl (v := .ref (o 8)) rfl dX4_answer_9 ?_
  refine lv_iload_n B.hx B.hb dX4_answer_12 rfl (lv_at hl 1 rfl) ?_
  refine q_zald (f := (Z 8)) B hP 6 rfl (j := j) rfl (by omega) (by decide) dX4_answer_13 ?_
  refine lv_if_eq (tgt := 33) B.hx B.hb dX4_answer_14 (by decide) (fun c2 => ?_) (fun c2 => ?_)
  · refine lv_iconst (v := (nI 1)) B.hx B.hb dX4_answer_33 (by decide) ?_
    refine lv_goto (tgt := 38) B.hx B.hb dX4_answer_34 (by decide) ?_
    refine lv_istore_n (lv' := [(3, .int (nI 1)), (0, .ref (o 0)), (1, .int (nI j)), (2, .int r)]) B.hx B.hb dX4_answer_38 rfl hl (by decide) rfl (fun ls hl => ?_)
    refine lv_aload_n B.hx B.hb dX4_answer_39 rfl (lv_at hl 1 rfl) ?_
    refine lv_iload_n B.hx B.hb dX4_answer_40 rfl (lv_at hl 0 rfl) ?_
    refine lv_if_ne (tgt := 48) B.hx B.hb dX4_answer_41 (by decide) (fun _ => ?_) (fun c3 => absurd c3 (by decide))
    refine lv_aload_n B.hx B.hb dX4_answer_48 rfl (lv_at hl 1 rfl) ?_
    refine q_get B hP (C := RX4) (ref := "PaperKeeperModel") (T := TX4) (N := 31) (ci := 4) hi4 rfl 0 rfl 8 (by decide) (by decide +kernel) rfl (v := .ref (o 8)) rfl dX4_answer_49 ?_
    refine lv_iload_n B.hx B.hb dX4_answer_52 rfl (lv_at hl 2 rfl) ?_
    refine q_zald (f := (Z 8)) B hP 6 rfl (j := j) rfl (by omega) (by decide) dX4_answer_53 ?_
    refine lv_if_eq (tgt := 70) B.hx B.hb dX4_answer_54 (by decide) (fun _ => ?_) (fun c4 => absurd c2 c4)
    refine lv_iconst (v := (nI 2)) B.hx B.hb dX4_answer_70 (by decide) ?_
    refine lv_goto (tgt := 75) B.hx B.hb dX4_answer_71 (by decide) ?_
    refine q_callV (As := [.int (nI 2)]) (rest := []) B hP hD hS (c4_can l D cI cZ cP cJ o J Z (nI 2)) (cwV 1 B.hts gX4_answer_X4_can rfl rfl rfl (by decide +kernel) ⟨(Nat.le_of_ble_eq_true rfl), (Nat.le_of_ble_eq_true rfl)⟩) 0 4 rfl rfl rfl rfl hl.1 rfl (Nat.le_of_ble_eq_true rfl) dX4_answer_75 ⟨(Nat.le_of_ble_eq_true rfl), (Nat.le_of_ble_eq_true rfl)⟩ (fun E ce q9 H locs hx => False.elim hx) (fun v u H locs hp hP hD hS => ?_)
    obtain rfl := hp
    have hP : va_P D vwCl (mw cI cZ o (va_up J 30 (nI 2)) Z) H := hP
    have hD : va_D A (mw cI cZ o (va_up J 30 (nI 2)) Z) := hD
    refine q_top (v2 := .int (nI 0)) rfl ?_
    refine lv_if_ne (tgt := 83) B.hx B.hb dX4_answer_78 (by decide) (fun c5 => absurd c5 (by decide)) (fun _ => ?_)
    refine lv_iconst (v := (nI 0)) B.hx B.hb dX4_answer_81 (by decide) ?_
    have hK : kAnswer r (Z 8 j) k (Z 16 (4 * j + ix r)) = 2 := by simp [kAnswer, c2]
    exact q_iret B hr hP hD hS (u := ()) (by rw [hK] <;> first | rfl | (simp only [if_true] <;> rfl)) (by rw [hK] <;> first | rfl | (simp only [if_true] <;> rfl)) (Nat.le_of_ble_eq_true rfl) (Nat.le_of_ble_eq_true rfl) dX4_answer_82
  · refine lv_iload_n B.hx B.hb dX4_answer_17 rfl (lv_at hl 2 rfl) ?_
    refine lv_iconst (v := (nI 0)) B.hx B.hb dX4_answer_18 (by decide) ?_
    refine lv_aload_n B.hx B.hb dX4_answer_19 rfl (lv_at hl 0 rfl) ?_
    refine q_get B hP (C := RX4) (ref := "PaperKeeperModel") (T := TX4) (N := 31) (ci := 4) hi4 rfl 0 rfl 15 (by decide) (by decide +kernel) rfl (v := .ref (o 15)) rfl dX4_answer_20 ?_
    refine lv_iload_n B.hx B.hb dX4_answer_23 rfl (lv_at hl 1 rfl) ?_
    refine q_iald (f := (Z 15)) B hP 13 rfl (j := j) rfl (by omega) (by decide) dX4_answer_24 ?_
    refine q_top (v2 := .int (nI k)) (congrArg Value.int hk) ?_
    refine lv_iconst (v := (nI 1)) B.hx B.hb dX4_answer_25 (by decide) ?_
    refine lv_isub B.hx B.hb dX4_answer_26 ?_
    refine q_top (v2 := .int (vn k)) (congrArg Value.int (vn_eq _)) ?_
    refine q_callS (As := [.int r, .int (nI 0), .int (vn k)]) (rest := []) B hP hD hS ((c4_isIn l D cI cZ cP cJ r (nI 0) (vn k)).fr0 (mw cI cZ o J Z)) (cwS 3 B.hts gX4_answer_X4_isIn rfl rfl rfl (by decide +kernel) ⟨(Nat.le_of_ble_eq_true rfl), (Nat.le_of_ble_eq_true rfl)⟩) rfl hl.1 rfl (Nat.le_of_ble_eq_true rfl) dX4_answer_27 ⟨(Nat.le_of_ble_eq_true rfl), (Nat.le_of_ble_eq_true rfl)⟩ (fun E ce q9 H locs hx => False.elim hx) (fun v u H locs hp hP hD hS => ?_)
    replace hp := bI2 hp
    rcases hp with ⟨rfl, hrg1⟩ | ⟨rfl, hrg1⟩
    · have hP : va_P D vwCl (mw cI cZ o J Z) H := hP
      have hD : va_D A (mw cI cZ o J Z) := hD
      rw [inr_vn (by omega)] at hrg1
      obtain ⟨jr, hjjr, rfl⟩ := inr_ex (by omega) hrg1
      have hixjr : ix (nI jr) = jr := ix_nI (by omega)
      refine lv_if_eq (tgt := 37) B.hx B.hb dX4_answer_30 (by decide) (fun c6 => absurd c6 (by decide)) (fun _ => ?_)
      refine lv_iconst (v := (nI 1)) B.hx B.hb dX4_answer_33 (by decide) ?_
      refine lv_goto (tgt := 38) B.hx B.hb dX4_answer_34 (by decide) ?_
      refine lv_istore_n (lv' := [(3, .int (nI 1)), (0, .ref (o 0)), (1, .int (nI j)), (2, .int (nI jr))]) B.hx B.hb dX4_answer_38 rfl hl (by decide) rfl (fun ls hl => ?_)
      refine lv_aload_n B.hx B.hb dX4_answer_39 rfl (lv_at hl 1 rfl) ?_
      refine lv_iload_n B.hx B.hb dX4_answer_40 rfl (lv_at hl 0 rfl) ?_
      refine lv_if_ne (tgt := 48) B.hx B.hb dX4_answer_41 (by decide) (fun _ => ?_) (fun c7 => absurd c7 (by decide))
      refine lv_aload_n B.hx B.hb dX4_answer_48 rfl (lv_at hl 1 rfl) ?_
      refine q_get B hP (C := RX4) (ref := "PaperKeeperModel") (T := TX4) (N := 31) (ci := 4) hi4 rfl 0 rfl 8 (by decide) (by decide +kernel) rfl (v := .ref (o 8)) rfl dX4_answer_49 ?_
      refine lv_iload_n B.hx B.hb dX4_answer_52 rfl (lv_at hl 2 rfl) ?_
      refine q_zald (f := (Z 8)) B hP 6 rfl (j := j) rfl (by omega) (by decide) dX4_answer_53 ?_
      refine lv_if_eq (tgt := 70) B.hx B.hb dX4_answer_54 (by decide) (fun c8 => absurd c8 c2) (fun _ => ?_)
      refine lv_aload_n B.hx B.hb dX4_answer_57 rfl (lv_at hl 1 rfl) ?_
      refine q_get B hP (C := RX4) (ref := "PaperKeeperModel") (T := TX4) (N := 31) (ci := 4) hi4 rfl 0 rfl 16 (by decide) (by decide +kernel) rfl (v := .ref (o 16)) rfl dX4_answer_58 ?_
      refine lv_iconst (v := (nI 4)) B.hx B.hb dX4_answer_61 (by decide) ?_
      refine lv_iload_n B.hx B.hb dX4_answer_62 rfl (lv_at hl 2 rfl) ?_
      refine lv_imul B.hx B.hb dX4_answer_63 ?_
      refine q_top (v2 := .int (nI ((4 * j)))) (congrArg Value.int (pk_mul _ _)) ?_
      refine lv_iload_n B.hx B.hb dX4_answer_64 rfl (lv_at hl 3 rfl) ?_
      refine lv_iadd B.hx B.hb dX4_answer_65 ?_
      refine q_top (v2 := .int (nI (((4 * j) + jr)))) (congrArg Value.int (nI_add _ _)) ?_
      refine q_zald (f := (Z 16)) B hP 14 rfl (j := ((4 * j) + jr)) rfl (by omega) (by decide) dX4_answer_66 ?_
      refine lv_if_eq (tgt := 74) B.hx B.hb dX4_answer_67 (by decide) (fun c9 => ?_) (fun c9 => ?_)
      · refine lv_iconst (v := (nI 0)) B.hx B.hb dX4_answer_74 (by decide) ?_
        refine q_callV (As := [.int (nI 0)]) (rest := []) B hP hD hS (c4_can l D cI cZ cP cJ o J Z (nI 0)) (cwV 1 B.hts gX4_answer_X4_can rfl rfl rfl (by decide +kernel) ⟨(Nat.le_of_ble_eq_true rfl), (Nat.le_of_ble_eq_true rfl)⟩) 0 4 rfl rfl rfl rfl hl.1 rfl (Nat.le_of_ble_eq_true rfl) dX4_answer_75 ⟨(Nat.le_of_ble_eq_true rfl), (Nat.le_of_ble_eq_true rfl)⟩ (fun E ce q9 H locs hx => False.elim hx) (fun v u H locs hp hP hD hS => ?_)
        obtain rfl := hp
        have hP : va_P D vwCl (mw cI cZ o (va_up J 30 (nI 0)) Z) H := hP
        have hD : va_D A (mw cI cZ o (va_up J 30 (nI 0)) Z) := hD
        refine q_top (v2 := .int (nI 1)) rfl ?_
        refine lv_if_ne (tgt := 83) B.hx B.hb dX4_answer_78 (by decide) (fun _ => ?_) (fun c10 => absurd c10 (by decide))
        refine lv_aload_n B.hx B.hb dX4_answer_83 rfl (lv_at hl 1 rfl) ?_
        refine q_get B hP (C := RX4) (ref := "PaperKeeperModel") (T := TX4) (N := 31) (ci := 4) hi4 rfl 0 rfl 16 (by decide) (by decide +kernel) rfl (v := .ref (o 16)) rfl dX4_answer_84 ?_
        refine lv_iconst (v := (nI 4)) B.hx B.hb dX4_answer_87 (by decide) ?_
        refine lv_iload_n B.hx B.hb dX4_answer_88 rfl (lv_at hl 2 rfl) ?_
        refine lv_imul B.hx B.hb dX4_answer_89 ?_
        refine q_top (v2 := .int (nI ((4 * j)))) (congrArg Value.int (pk_mul _ _)) ?_
        refine lv_iload_n B.hx B.hb dX4_answer_90 rfl (lv_at hl 3 rfl) ?_
        refine lv_iadd B.hx B.hb dX4_answer_91 ?_
        refine q_top (v2 := .int (nI (((4 * j) + jr)))) (congrArg Value.int (nI_add _ _)) ?_
        refine lv_iconst (v := (nI 1)) B.hx B.hb dX4_answer_92 (by decide) ?_
        refine q_zast B hP hD hS 14 rfl (j := ((4 * j) + jr)) rfl (by omega) (by decide) (by decide) dX4_answer_93 (w' := mw cI cZ o (va_up J 30 (nI 0)) (va_up Z 16 (upd (Z 16) ((4 * j) + jr) (nI 1)))) rfl (fun H locs hP hD hS => ?_)
        refine lv_aload_n B.hx B.hb dX4_answer_94 rfl (lv_at hl 1 rfl) ?_
        refine lv_iload_n B.hx B.hb dX4_answer_95 rfl (lv_at hl 2 rfl) ?_
        refine q_callV (As := [.int (nI j)]) (rest := []) B hP hD hS (c4_openRemarks l D cI cZ cP cJ o (va_up J 30 (nI 0)) (va_up Z 16 (upd (Z 16) ((4 * j) + jr) (nI 1))) j hj8 k hk hk4) (cwV 1 B.hts gX4_answer_X4_openRemarks rfl rfl rfl (by decide +kernel) ⟨(Nat.le_of_ble_eq_true rfl), (Nat.le_of_ble_eq_true rfl)⟩) 0 4 rfl rfl rfl rfl hl.1 rfl (Nat.le_of_ble_eq_true rfl) dX4_answer_96 ⟨(Nat.le_of_ble_eq_true rfl), (Nat.le_of_ble_eq_true rfl)⟩ (fun E ce q9 H locs hx => False.elim hx) (fun v u H locs hp hP hD hS => ?_)
        obtain rfl := hp
        have hP : va_P D vwCl (mw cI cZ o (va_up J 30 (nI 0)) (va_up Z 16 (upd (Z 16) ((4 * j) + jr) (nI 1)))) H := hP
        have hD : va_D A (mw cI cZ o (va_up J 30 (nI 0)) (va_up Z 16 (upd (Z 16) ((4 * j) + jr) (nI 1)))) := hD
        have hK : kAnswer (nI jr) (Z 8 j) k (Z 16 (4 * j + ix (nI jr))) = 0 := by simp [kAnswer, c2, hrg1, c9, hixjr]
        exact q_iret B hr hP hD hS (u := ()) (by rw [hK] <;> first | rfl | (simp only [if_true, hixjr] <;> rfl)) (by rw [hK] <;> first | rfl | (simp only [if_true, hixjr] <;> rfl)) (Nat.le_of_ble_eq_true rfl) (Nat.le_of_ble_eq_true rfl) dX4_answer_99
      · refine lv_iconst (v := (nI 2)) B.hx B.hb dX4_answer_70 (by decide) ?_
        refine lv_goto (tgt := 75) B.hx B.hb dX4_answer_71 (by decide) ?_
        refine q_callV (As := [.int (nI 2)]) (rest := []) B hP hD hS (c4_can l D cI cZ cP cJ o J Z (nI 2)) (cwV 1 B.hts gX4_answer_X4_can rfl rfl rfl (by decide +kernel) ⟨(Nat.le_of_ble_eq_true rfl), (Nat.le_of_ble_eq_true rfl)⟩) 0 4 rfl rfl rfl rfl hl.1 rfl (Nat.le_of_ble_eq_true rfl) dX4_answer_75 ⟨(Nat.le_of_ble_eq_true rfl), (Nat.le_of_ble_eq_true rfl)⟩ (fun E ce q9 H locs hx => False.elim hx) (fun v u H locs hp hP hD hS => ?_)
        obtain rfl := hp
        have hP : va_P D vwCl (mw cI cZ o (va_up J 30 (nI 2)) Z) H := hP
        have hD : va_D A (mw cI cZ o (va_up J 30 (nI 2)) Z) := hD
        refine q_top (v2 := .int (nI 0)) rfl ?_
        refine lv_if_ne (tgt := 83) B.hx B.hb dX4_answer_78 (by decide) (fun c11 => absurd c11 (by decide)) (fun _ => ?_)
        refine lv_iconst (v := (nI 0)) B.hx B.hb dX4_answer_81 (by decide) ?_
        have hK : kAnswer (nI jr) (Z 8 j) k (Z 16 (4 * j + ix (nI jr))) = 2 := by simp [kAnswer, c2, hrg1, c9, hixjr]
        exact q_iret B hr hP hD hS (u := ()) (by rw [hK] <;> first | rfl | (simp only [if_true, hixjr] <;> rfl)) (by rw [hK] <;> first | rfl | (simp only [if_true, hixjr] <;> rfl)) (Nat.le_of_ble_eq_true rfl) (Nat.le_of_ble_eq_true rfl) dX4_answer_82
    · have hP : va_P D vwCl (mw cI cZ o J Z) H := hP
      have hD : va_D A (mw cI cZ o J Z) := hD
      rw [inr_vn (by omega)] at hrg1
      refine lv_if_eq (tgt := 37) B.hx B.hb dX4_answer_30 (by decide) (fun _ => ?_) (fun c12 => absurd c12 (by decide))
      refine lv_iconst (v := (nI 0)) B.hx B.hb dX4_answer_37 (by decide) ?_
      refine lv_istore_n (lv' := [(3, .int (nI 0)), (0, .ref (o 0)), (1, .int (nI j)), (2, .int r)]) B.hx B.hb dX4_answer_38 rfl hl (by decide) rfl (fun ls hl => ?_)
      refine lv_aload_n B.hx B.hb dX4_answer_39 rfl (lv_at hl 1 rfl) ?_
      refine lv_iload_n B.hx B.hb dX4_answer_40 rfl (lv_at hl 0 rfl) ?_
      refine lv_if_ne (tgt := 48) B.hx B.hb dX4_answer_41 (by decide) (fun c13 => absurd c13 (by decide)) (fun _ => ?_)
      refine lv_iconst (v := (nI 1)) B.hx B.hb dX4_answer_44 (by decide) ?_
      refine lv_goto (tgt := 75) B.hx B.hb dX4_answer_45 (by decide) ?_
      refine q_callV (As := [.int (nI 1)]) (rest := []) B hP hD hS (c4_can l D cI cZ cP cJ o J Z (nI 1)) (cwV 1 B.hts gX4_answer_X4_can rfl rfl rfl (by decide +kernel) ⟨(Nat.le_of_ble_eq_true rfl), (Nat.le_of_ble_eq_true rfl)⟩) 0 4 rfl rfl rfl rfl hl.1 rfl (Nat.le_of_ble_eq_true rfl) dX4_answer_75 ⟨(Nat.le_of_ble_eq_true rfl), (Nat.le_of_ble_eq_true rfl)⟩ (fun E ce q9 H locs hx => False.elim hx) (fun v u H locs hp hP hD hS => ?_)
      obtain rfl := hp
      have hP : va_P D vwCl (mw cI cZ o (va_up J 30 (nI 1)) Z) H := hP
      have hD : va_D A (mw cI cZ o (va_up J 30 (nI 1)) Z) := hD
      refine q_top (v2 := .int (nI 0)) rfl ?_
      refine lv_if_ne (tgt := 83) B.hx B.hb dX4_answer_78 (by decide) (fun c14 => absurd c14 (by decide)) (fun _ => ?_)
      refine lv_iconst (v := (nI 0)) B.hx B.hb dX4_answer_81 (by decide) ?_
      have hK : kAnswer r (Z 8 j) k (Z 16 (4 * j + ix r)) = 1 := by simp [kAnswer, c2, hrg1]
      exact q_iret B hr hP hD hS (u := ()) (by rw [hK] <;> first | rfl | (simp only [if_true] <;> rfl)) (by rw [hK] <;> first | rfl | (simp only [if_true] <;> rfl)) (Nat.le_of_ble_eq_true rfl) (Nat.le_of_ble_eq_true rfl) dX4_answer_82
set_option maxHeartbeats 4000000 in
set_option maxRecDepth 100000 in
theorem c4_approve (l : Launch) (D : va_G) (cI cZ cP cJ : ClassId) (o : Nat → Nat) (J : Nat → Int32) (Z : Nat → Nat → Int32) (n : Nat) (hn : J 5 = nI n) (hn8 : n ≤ 8) (j : Nat) (hj : j < n) (mm : Nat) (hm : Z 12 j = nI mm) (hm4 : mm ≤ 4) (k : Nat) (hk : Z 15 j = nI k) (hk4 : k ≤ 4) (hb : ∀ i, i < 6 → Z 3 i = 0 ∨ Z 3 i = 1) (x y : Int32) : q_C l yX4_approve wsX4_approve ({ frames := 3, cells := 0, slots := 0, locals := 67 }) D cI cZ cP cJ [.ref (o 0), .int (nI j), .int x, .int y] (mw cI cZ o J Z) (S := Unit) (fun v _ => v = none) (fun _ => mw cI cZ o (va_up J 30 (nI (kApprove x y (J 0) (Z 8 j) (stp mm (mNR Z j mm) (mOR Z j k) (Z 17 j) (mNC Z j)) (Z 9 j) (ca (Z 3) (Z 4) (ix x) 6)))) (if kApprove x y (J 0) (Z 8 j) (stp mm (mNR Z j mm) (mOR Z j k) (Z 17 j) (mNC Z j)) (Z 9 j) (ca (Z 3) (Z 4) (ix x) 6) = 0 then (va_up (va_up Z 17 (upd (Z 17) j (nI 1))) 18 (upd (Z 18) j y)) else Z)) (fun _ => False) 0 0 := by
  refine q_of (cc := cX4_approve) (maxL := 7) (ret := none) (by decide +kernel) rfl (Nat.le_of_ble_eq_true rfl) ?_
  intro p e s m below meth c A ls B hr htb hmn hP hD hS hl
  have hl : lv_has ls 7 [(0, .ref (o 0)), (1, .int (nI j)), (2, .int x), (3, .int y)] := hl
  have hi4 : ∀ w ∈ u_ws RX4 TX4 31, w ∈ wsX4_approve := by decide +kernel
  have hj8 : j < 8 := by omega
  refine lv_aload_n B.hx B.hb dX4_approve_0 rfl (lv_at hl 0 rfl) ?_
  refine lv_iload_n B.hx B.hb dX4_approve_1 rfl (lv_at hl 1 rfl) ?_
  refine q_callV (As := [.int (nI j)]) (rest := []) B hP hD hS (c4_isPaper l D cI cZ cP cJ o J Z n hn hn8 (nI j)) (cwV 1 B.hts gX4_approve_X4_isPaper rfl rfl rfl (by decide +kernel) ⟨(Nat.le_of_ble_eq_true rfl), (Nat.le_of_ble_eq_true rfl)⟩) 0 4 rfl rfl rfl rfl hl.1 rfl (Nat.le_of_ble_eq_true rfl) dX4_approve_2 ⟨(Nat.le_of_ble_eq_true rfl), (Nat.le_of_ble_eq_true rfl)⟩ (fun E ce q9 H locs hx => False.elim hx) (fun v u H locs hp hP hD hS => ?_)
  obtain rfl := hp
  have hP : va_P D vwCl (mw cI cZ o J Z) H := hP
  have hD : va_D A (mw cI cZ o J Z) := hD
  refine q_top (v2 := .int (nI 1)) (by rw [inr_nI (by omega) (by omega)]; rfl) ?_
  refine lv_istore (lv' := [(4, .int (nI 1)), (0, .ref (o 0)), (1, .int (nI j)), (2, .int x), (3, .int y)]) B.hx B.hb dX4_approve_5 hl (by decide) rfl (fun ls hl => ?_)
  refine lv_iload_n B.hx B.hb dX4_approve_7 rfl (lv_at hl 3 rfl) ?_
  refine q_callS (As := [.int x]) (rest := []) B hP hD hS ((c4_isPerson l D cI cZ cP cJ x).fr0 (mw cI cZ o J Z)) (cwS 1 B.hts gX4_approve_X4_isPerson rfl rfl rfl (by decide +kernel) ⟨(Nat.le_of_ble_eq_true rfl), (Nat.le_of_ble_eq_true rfl)⟩) rfl hl.1 rfl (Nat.le_of_ble_eq_true rfl) dX4_approve_8 ⟨(Nat.le_of_ble_eq_true rfl), (Nat.le_of_ble_eq_true rfl)⟩ (fun E ce q9 H locs hx => False.elim hx) (fun v u H locs hp hP hD hS => ?_)
  replace hp := bI2 hp
  rcases hp with ⟨rfl, hrg0⟩ | ⟨rfl, hrg0⟩
  · have hP : va_P D vwCl (mw cI cZ o J Z) H := hP
    have hD : va_D A (mw cI cZ o J Z) := hD
    obtain ⟨j2, hjj2, rfl⟩ := rg_j (by decide) hrg0
    have hixj2 : ix (nI j2) = j2 := ix_nI (by omega)
    have hnmj2 : ¬ nI j2 = -1 := nI_nm1 (by omega)
    refine lv_if_eq (tgt := 34) B.hx B.hb dX4_approve_11 (by decide) (fun c1 => absurd c1 (by decide)) (fun _ => ?_)
    refine lv_iload_n B.hx B.hb dX4_approve_14 rfl (lv_at hl 4 rfl) ?_
    refine lv_aload_n B.hx B.hb dX4_approve_15 rfl (lv_at hl 1 rfl) ?_
    refine q_get B hP (C := RX4) (ref := "PaperKeeperModel") (T := TX4) (N := 31) (ci := 4) hi4 rfl 0 rfl 0 (by decide) (by decide +kernel) rfl (v := .int (J 0)) rfl dX4_approve_16 ?_
    refine lv_iconst (v := (nI 1)) B.hx B.hb dX4_approve_19 (by decide) ?_
    refine lv_iadd B.hx B.hb dX4_approve_20 ?_
    refine lv_sipush (v := (nI 1000)) B.hx B.hb dX4_approve_21 (by decide) ?_
    refine q_callS (As := [.int y, .int ((J 0) + (nI 1)), .int (nI 1000)]) (rest := []) B hP hD hS ((c4_isIn l D cI cZ cP cJ y ((J 0) + (nI 1)) (nI 1000)).fr0 (mw cI cZ o J Z)) (cwS 3 B.hts gX4_approve_X4_isIn rfl rfl rfl (by decide +kernel) ⟨(Nat.le_of_ble_eq_true rfl), (Nat.le_of_ble_eq_true rfl)⟩) rfl hl.1 rfl (Nat.le_of_ble_eq_true rfl) dX4_approve_24 ⟨(Nat.le_of_ble_eq_true rfl), (Nat.le_of_ble_eq_true rfl)⟩ (fun E ce q9 H locs hx => False.elim hx) (fun v u H locs hp hP hD hS => ?_)
    replace hp := bI2 hp
    rcases hp with ⟨rfl, hrg1⟩ | ⟨rfl, hrg1⟩
    · have hP : va_P D vwCl (mw cI cZ o J Z) H := hP
      have hD : va_D A (mw cI cZ o J Z) := hD
      refine lv_if_eq (tgt := 34) B.hx B.hb dX4_approve_27 (by decide) (fun c2 => absurd c2 (by decide)) (fun _ => ?_)
      refine lv_iconst (v := (nI 1)) B.hx B.hb dX4_approve_30 (by decide) ?_
      refine lv_goto (tgt := 35) B.hx B.hb dX4_approve_31 (by decide) ?_
      refine lv_istore (lv' := [(5, .int (nI 1)), (4, .int (nI 1)), (0, .ref (o 0)), (1, .int (nI j)), (2, .int (nI j2)), (3, .int y)]) B.hx B.hb dX4_approve_35 hl (by decide) rfl (fun ls hl => ?_)
      refine lv_iload B.hx B.hb dX4_approve_37 (lv_at hl 1 rfl) ?_
      refine lv_if_eq (tgt := 86) B.hx B.hb dX4_approve_39 (by decide) (fun c3 => absurd c3 (by decide)) (fun _ => ?_)
      refine lv_iload B.hx B.hb dX4_approve_42 (lv_at hl 0 rfl) ?_
      refine lv_if_eq (tgt := 86) B.hx B.hb dX4_approve_44 (by decide) (fun c4 => absurd c4 (by decide)) (fun _ => ?_)
      refine lv_aload_n B.hx B.hb dX4_approve_47 rfl (lv_at hl 2 rfl) ?_
      refine q_get B hP (C := RX4) (ref := "PaperKeeperModel") (T := TX4) (N := 31) (ci := 4) hi4 rfl 0 rfl 8 (by decide) (by decide +kernel) rfl (v := .ref (o 8)) rfl dX4_approve_48 ?_
      refine lv_iload_n B.hx B.hb dX4_approve_51 rfl (lv_at hl 3 rfl) ?_
      refine q_zald (f := (Z 8)) B hP 6 rfl (j := j) rfl (by omega) (by decide) dX4_approve_52 ?_
      refine lv_if_eq (tgt := 86) B.hx B.hb dX4_approve_53 (by decide) (fun c5 => ?_) (fun c5 => ?_)
      · refine lv_iconst (v := (nI 0)) B.hx B.hb dX4_approve_86 (by decide) ?_
        refine lv_istore (lv' := [(6, .int (nI 0)), (5, .int (nI 1)), (4, .int (nI 1)), (0, .ref (o 0)), (1, .int (nI j)), (2, .int (nI j2)), (3, .int y)]) B.hx B.hb dX4_approve_87 hl (by decide) rfl (fun ls hl => ?_)
        refine lv_aload_n B.hx B.hb dX4_approve_89 rfl (lv_at hl 3 rfl) ?_
        refine lv_iload B.hx B.hb dX4_approve_90 (lv_at hl 2 rfl) ?_
        refine lv_if_ne (tgt := 99) B.hx B.hb dX4_approve_92 (by decide) (fun _ => ?_) (fun c6 => absurd c6 (by decide))
        refine lv_iload B.hx B.hb dX4_approve_99 (lv_at hl 1 rfl) ?_
        refine lv_if_ne (tgt := 108) B.hx B.hb dX4_approve_101 (by decide) (fun _ => ?_) (fun c7 => absurd c7 (by decide))
        refine lv_iload B.hx B.hb dX4_approve_108 (lv_at hl 0 rfl) ?_
        refine lv_if_eq (tgt := 117) B.hx B.hb dX4_approve_110 (by decide) (fun _ => ?_) (fun c8 => absurd c8 (by decide))
        refine lv_iconst (v := (nI 3)) B.hx B.hb dX4_approve_117 (by decide) ?_
        refine q_callV (As := [.int (nI 3)]) (rest := []) B hP hD hS (c4_can l D cI cZ cP cJ o J Z (nI 3)) (cwV 1 B.hts gX4_approve_X4_can rfl rfl rfl (by decide +kernel) ⟨(Nat.le_of_ble_eq_true rfl), (Nat.le_of_ble_eq_true rfl)⟩) 0 4 rfl rfl rfl rfl hl.1 rfl (Nat.le_of_ble_eq_true rfl) dX4_approve_118 ⟨(Nat.le_of_ble_eq_true rfl), (Nat.le_of_ble_eq_true rfl)⟩ (fun E ce q9 H locs hx => False.elim hx) (fun v u H locs hp hP hD hS => ?_)
        obtain rfl := hp
        have hP : va_P D vwCl (mw cI cZ o (va_up J 30 (nI 3)) Z) H := hP
        have hD : va_D A (mw cI cZ o (va_up J 30 (nI 3)) Z) := hD
        refine q_top (v2 := .int (nI 0)) rfl ?_
        refine lv_if_eq (tgt := 138) B.hx B.hb dX4_approve_121 (by decide) (fun _ => ?_) (fun c9 => absurd c9 (by decide))
        have hK : kApprove (nI j2) y (J 0) (Z 8 j) (stp mm (mNR Z j mm) (mOR Z j k) (Z 17 j) (mNC Z j)) (Z 9 j) (ca (Z 3) (Z 4) (ix (nI j2)) 6) = 3 := by simp [kApprove, stp3, hrg0, hrg1, c5, hixj2, hnmj2]
        exact q_vret B hr hP hD hS (u := ()) (by rw [hK] <;> first | rfl | (simp only [if_true, hixj2] <;> rfl)) rfl (Nat.le_of_ble_eq_true rfl) (Nat.le_of_ble_eq_true rfl) dX4_approve_138
      · refine lv_aload_n B.hx B.hb dX4_approve_56 rfl (lv_at hl 2 rfl) ?_
        refine lv_iload_n B.hx B.hb dX4_approve_57 rfl (lv_at hl 3 rfl) ?_
        refine q_callV (As := [.int (nI j)]) (rest := []) B hP hD hS (c4_isOver l D cI cZ cP cJ o J Z j hj8 mm hm hm4 k hk hk4) (cwV 1 B.hts gX4_approve_X4_isOver rfl rfl rfl (by decide +kernel) ⟨(Nat.le_of_ble_eq_true rfl), (Nat.le_of_ble_eq_true rfl)⟩) 0 4 rfl rfl rfl rfl hl.1 rfl (Nat.le_of_ble_eq_true rfl) dX4_approve_58 ⟨(Nat.le_of_ble_eq_true rfl), (Nat.le_of_ble_eq_true rfl)⟩ (fun E ce q9 H locs hx => False.elim hx) (fun v u H locs hp hP hD hS => ?_)
        replace hp := bI2 hp
        rcases hp with ⟨rfl, hov⟩ | ⟨rfl, hov⟩
        · have hP : va_P D vwCl (mw cI cZ o J Z) H := hP
          have hD : va_D A (mw cI cZ o J Z) := hD
          replace hov := ov_t hov
          refine lv_if_eq (tgt := 86) B.hx B.hb dX4_approve_61 (by decide) (fun c10 => absurd c10 (by decide)) (fun _ => ?_)
          refine lv_aload_n B.hx B.hb dX4_approve_64 rfl (lv_at hl 2 rfl) ?_
          refine q_get B hP (C := RX4) (ref := "PaperKeeperModel") (T := TX4) (N := 31) (ci := 4) hi4 rfl 0 rfl 17 (by decide) (by decide +kernel) rfl (v := .ref (o 17)) rfl dX4_approve_65 ?_
          refine lv_iload_n B.hx B.hb dX4_approve_68 rfl (lv_at hl 3 rfl) ?_
          refine q_zald (f := (Z 17)) B hP 15 rfl (j := j) rfl (by omega) (by decide) dX4_approve_69 ?_
          refine lv_if_ne (tgt := 86) B.hx B.hb dX4_approve_70 (by decide) (fun c11 => ?_) (fun c11 => ?_)
          · refine lv_iconst (v := (nI 0)) B.hx B.hb dX4_approve_86 (by decide) ?_
            refine lv_istore (lv' := [(6, .int (nI 0)), (5, .int (nI 1)), (4, .int (nI 1)), (0, .ref (o 0)), (1, .int (nI j)), (2, .int (nI j2)), (3, .int y)]) B.hx B.hb dX4_approve_87 hl (by decide) rfl (fun ls hl => ?_)
            refine lv_aload_n B.hx B.hb dX4_approve_89 rfl (lv_at hl 3 rfl) ?_
            refine lv_iload B.hx B.hb dX4_approve_90 (lv_at hl 2 rfl) ?_
            refine lv_if_ne (tgt := 99) B.hx B.hb dX4_approve_92 (by decide) (fun _ => ?_) (fun c12 => absurd c12 (by decide))
            refine lv_iload B.hx B.hb dX4_approve_99 (lv_at hl 1 rfl) ?_
            refine lv_if_ne (tgt := 108) B.hx B.hb dX4_approve_101 (by decide) (fun _ => ?_) (fun c13 => absurd c13 (by decide))
            refine lv_iload B.hx B.hb dX4_approve_108 (lv_at hl 0 rfl) ?_
            refine lv_if_eq (tgt := 117) B.hx B.hb dX4_approve_110 (by decide) (fun _ => ?_) (fun c14 => absurd c14 (by decide))
            refine lv_iconst (v := (nI 3)) B.hx B.hb dX4_approve_117 (by decide) ?_
            refine q_callV (As := [.int (nI 3)]) (rest := []) B hP hD hS (c4_can l D cI cZ cP cJ o J Z (nI 3)) (cwV 1 B.hts gX4_approve_X4_can rfl rfl rfl (by decide +kernel) ⟨(Nat.le_of_ble_eq_true rfl), (Nat.le_of_ble_eq_true rfl)⟩) 0 4 rfl rfl rfl rfl hl.1 rfl (Nat.le_of_ble_eq_true rfl) dX4_approve_118 ⟨(Nat.le_of_ble_eq_true rfl), (Nat.le_of_ble_eq_true rfl)⟩ (fun E ce q9 H locs hx => False.elim hx) (fun v u H locs hp hP hD hS => ?_)
            obtain rfl := hp
            have hP : va_P D vwCl (mw cI cZ o (va_up J 30 (nI 3)) Z) H := hP
            have hD : va_D A (mw cI cZ o (va_up J 30 (nI 3)) Z) := hD
            refine q_top (v2 := .int (nI 0)) rfl ?_
            refine lv_if_eq (tgt := 138) B.hx B.hb dX4_approve_121 (by decide) (fun _ => ?_) (fun c15 => absurd c15 (by decide))
            have hK : kApprove (nI j2) y (J 0) (Z 8 j) (stp mm (mNR Z j mm) (mOR Z j k) (Z 17 j) (mNC Z j)) (Z 9 j) (ca (Z 3) (Z 4) (ix (nI j2)) 6) = 3 := by simp [kApprove, stp3, hrg0, hrg1, c5, hov, c11, hixj2, hnmj2]
            exact q_vret B hr hP hD hS (u := ()) (by rw [hK] <;> first | rfl | (simp only [if_true, hixj2] <;> rfl)) rfl (Nat.le_of_ble_eq_true rfl) (Nat.le_of_ble_eq_true rfl) dX4_approve_138
          · refine lv_aload_n B.hx B.hb dX4_approve_73 rfl (lv_at hl 2 rfl) ?_
            refine lv_iload_n B.hx B.hb dX4_approve_74 rfl (lv_at hl 3 rfl) ?_
            refine lv_iload_n B.hx B.hb dX4_approve_75 rfl (lv_at hl 4 rfl) ?_
            refine q_callV (As := [.int (nI j), .int (nI j2)]) (rest := []) B hP hD hS (c4_approves l D cI cZ cP cJ o J Z j hj8 j2 hjj2 hb) (cwV 2 B.hts gX4_approve_X4_approves rfl rfl rfl (by decide +kernel) ⟨(Nat.le_of_ble_eq_true rfl), (Nat.le_of_ble_eq_true rfl)⟩) 0 4 rfl rfl rfl rfl hl.1 rfl (Nat.le_of_ble_eq_true rfl) dX4_approve_76 ⟨(Nat.le_of_ble_eq_true rfl), (Nat.le_of_ble_eq_true rfl)⟩ (fun E ce q9 H locs hx => False.elim hx) (fun v u H locs hp hP hD hS => ?_)
            replace hp := bI2 hp
            rcases hp with ⟨rfl, hap⟩ | ⟨rfl, hap⟩
            · have hP : va_P D vwCl (mw cI cZ o J Z) H := hP
              have hD : va_D A (mw cI cZ o J Z) := hD
              replace hap := ap_t hap
              refine lv_if_eq (tgt := 86) B.hx B.hb dX4_approve_79 (by decide) (fun c16 => absurd c16 (by decide)) (fun _ => ?_)
              refine lv_iconst (v := (nI 1)) B.hx B.hb dX4_approve_82 (by decide) ?_
              refine lv_goto (tgt := 87) B.hx B.hb dX4_approve_83 (by decide) ?_
              refine lv_istore (lv' := [(6, .int (nI 1)), (5, .int (nI 1)), (4, .int (nI 1)), (0, .ref (o 0)), (1, .int (nI j)), (2, .int (nI j2)), (3, .int y)]) B.hx B.hb dX4_approve_87 hl (by decide) rfl (fun ls hl => ?_)
              refine lv_aload_n B.hx B.hb dX4_approve_89 rfl (lv_at hl 3 rfl) ?_
              refine lv_iload B.hx B.hb dX4_approve_90 (lv_at hl 2 rfl) ?_
              refine lv_if_ne (tgt := 99) B.hx B.hb dX4_approve_92 (by decide) (fun _ => ?_) (fun c17 => absurd c17 (by decide))
              refine lv_iload B.hx B.hb dX4_approve_99 (lv_at hl 1 rfl) ?_
              refine lv_if_ne (tgt := 108) B.hx B.hb dX4_approve_101 (by decide) (fun _ => ?_) (fun c18 => absurd c18 (by decide))
              refine lv_iload B.hx B.hb dX4_approve_108 (lv_at hl 0 rfl) ?_
              refine lv_if_eq (tgt := 117) B.hx B.hb dX4_approve_110 (by decide) (fun c19 => absurd c19 (by decide)) (fun _ => ?_)
              refine lv_iconst (v := (nI 0)) B.hx B.hb dX4_approve_113 (by decide) ?_
              refine lv_goto (tgt := 118) B.hx B.hb dX4_approve_114 (by decide) ?_
              refine q_callV (As := [.int (nI 0)]) (rest := []) B hP hD hS (c4_can l D cI cZ cP cJ o J Z (nI 0)) (cwV 1 B.hts gX4_approve_X4_can rfl rfl rfl (by decide +kernel) ⟨(Nat.le_of_ble_eq_true rfl), (Nat.le_of_ble_eq_true rfl)⟩) 0 4 rfl rfl rfl rfl hl.1 rfl (Nat.le_of_ble_eq_true rfl) dX4_approve_118 ⟨(Nat.le_of_ble_eq_true rfl), (Nat.le_of_ble_eq_true rfl)⟩ (fun E ce q9 H locs hx => False.elim hx) (fun v u H locs hp hP hD hS => ?_)
              obtain rfl := hp
              have hP : va_P D vwCl (mw cI cZ o (va_up J 30 (nI 0)) Z) H := hP
              have hD : va_D A (mw cI cZ o (va_up J 30 (nI 0)) Z) := hD
              refine q_top (v2 := .int (nI 1)) rfl ?_
              refine lv_if_eq (tgt := 138) B.hx B.hb dX4_approve_121 (by decide) (fun c20 => absurd c20 (by decide)) (fun _ => ?_)
              refine lv_aload_n B.hx B.hb dX4_approve_124 rfl (lv_at hl 3 rfl) ?_
              refine q_get B hP (C := RX4) (ref := "PaperKeeperModel") (T := TX4) (N := 31) (ci := 4) hi4 rfl 0 rfl 17 (by decide) (by decide +kernel) rfl (v := .ref (o 17)) rfl dX4_approve_125 ?_
              refine lv_iload_n B.hx B.hb dX4_approve_128 rfl (lv_at hl 4 rfl) ?_
              refine lv_iconst (v := (nI 1)) B.hx B.hb dX4_approve_129 (by decide) ?_
              refine q_zast B hP hD hS 15 rfl (j := j) rfl (by omega) (by decide) (by decide) dX4_approve_130 (w' := mw cI cZ o (va_up J 30 (nI 0)) (va_up Z 17 (upd (Z 17) j (nI 1)))) rfl (fun H locs hP hD hS => ?_)
              refine lv_aload_n B.hx B.hb dX4_approve_131 rfl (lv_at hl 3 rfl) ?_
              refine q_get B hP (C := RX4) (ref := "PaperKeeperModel") (T := TX4) (N := 31) (ci := 4) hi4 rfl 0 rfl 18 (by decide) (by decide +kernel) rfl (v := .ref (o 18)) rfl dX4_approve_132 ?_
              refine lv_iload_n B.hx B.hb dX4_approve_135 rfl (lv_at hl 4 rfl) ?_
              refine lv_iload_n B.hx B.hb dX4_approve_136 rfl (lv_at hl 6 rfl) ?_
              refine q_iast B hP hD hS 16 rfl (j := j) rfl (by omega) (by decide) dX4_approve_137 (w' := mw cI cZ o (va_up J 30 (nI 0)) (va_up (va_up Z 17 (upd (Z 17) j (nI 1))) 18 (upd (Z 18) j y))) rfl (fun H locs hP hD hS => ?_)
              have hK : kApprove (nI j2) y (J 0) (Z 8 j) (stp mm (mNR Z j mm) (mOR Z j k) (Z 17 j) (mNC Z j)) (Z 9 j) (ca (Z 3) (Z 4) (ix (nI j2)) 6) = 0 := by simp [kApprove, stp3, hrg0, hrg1, c5, hov, c11, hap, hixj2, hnmj2]
              exact q_vret B hr hP hD hS (u := ()) (by rw [hK] <;> first | rfl | (simp only [if_true, hixj2] <;> rfl)) rfl (Nat.le_of_ble_eq_true rfl) (Nat.le_of_ble_eq_true rfl) dX4_approve_138
            · have hP : va_P D vwCl (mw cI cZ o J Z) H := hP
              have hD : va_D A (mw cI cZ o J Z) := hD
              replace hap := ap_f hap
              refine lv_if_eq (tgt := 86) B.hx B.hb dX4_approve_79 (by decide) (fun _ => ?_) (fun c21 => absurd c21 (by decide))
              refine lv_iconst (v := (nI 0)) B.hx B.hb dX4_approve_86 (by decide) ?_
              refine lv_istore (lv' := [(6, .int (nI 0)), (5, .int (nI 1)), (4, .int (nI 1)), (0, .ref (o 0)), (1, .int (nI j)), (2, .int (nI j2)), (3, .int y)]) B.hx B.hb dX4_approve_87 hl (by decide) rfl (fun ls hl => ?_)
              refine lv_aload_n B.hx B.hb dX4_approve_89 rfl (lv_at hl 3 rfl) ?_
              refine lv_iload B.hx B.hb dX4_approve_90 (lv_at hl 2 rfl) ?_
              refine lv_if_ne (tgt := 99) B.hx B.hb dX4_approve_92 (by decide) (fun _ => ?_) (fun c22 => absurd c22 (by decide))
              refine lv_iload B.hx B.hb dX4_approve_99 (lv_at hl 1 rfl) ?_
              refine lv_if_ne (tgt := 108) B.hx B.hb dX4_approve_101 (by decide) (fun _ => ?_) (fun c23 => absurd c23 (by decide))
              refine lv_iload B.hx B.hb dX4_approve_108 (lv_at hl 0 rfl) ?_
              refine lv_if_eq (tgt := 117) B.hx B.hb dX4_approve_110 (by decide) (fun _ => ?_) (fun c24 => absurd c24 (by decide))
              refine lv_iconst (v := (nI 3)) B.hx B.hb dX4_approve_117 (by decide) ?_
              refine q_callV (As := [.int (nI 3)]) (rest := []) B hP hD hS (c4_can l D cI cZ cP cJ o J Z (nI 3)) (cwV 1 B.hts gX4_approve_X4_can rfl rfl rfl (by decide +kernel) ⟨(Nat.le_of_ble_eq_true rfl), (Nat.le_of_ble_eq_true rfl)⟩) 0 4 rfl rfl rfl rfl hl.1 rfl (Nat.le_of_ble_eq_true rfl) dX4_approve_118 ⟨(Nat.le_of_ble_eq_true rfl), (Nat.le_of_ble_eq_true rfl)⟩ (fun E ce q9 H locs hx => False.elim hx) (fun v u H locs hp hP hD hS => ?_)
              obtain rfl := hp
              have hP : va_P D vwCl (mw cI cZ o (va_up J 30 (nI 3)) Z) H := hP
              have hD : va_D A (mw cI cZ o (va_up J 30 (nI 3)) Z) := hD
              refine q_top (v2 := .int (nI 0)) rfl ?_
              refine lv_if_eq (tgt := 138) B.hx B.hb dX4_approve_121 (by decide) (fun _ => ?_) (fun c25 => absurd c25 (by decide))
              have hK : kApprove (nI j2) y (J 0) (Z 8 j) (stp mm (mNR Z j mm) (mOR Z j k) (Z 17 j) (mNC Z j)) (Z 9 j) (ca (Z 3) (Z 4) (ix (nI j2)) 6) = 3 := by simp [kApprove, stp3, hrg0, hrg1, c5, hov, c11, hap, hixj2, hnmj2]
              exact q_vret B hr hP hD hS (u := ()) (by rw [hK] <;> first | rfl | (simp only [if_true, hixj2] <;> rfl)) rfl (Nat.le_of_ble_eq_true rfl) (Nat.le_of_ble_eq_true rfl) dX4_approve_138
        · have hP : va_P D vwCl (mw cI cZ o J Z) H := hP
          have hD : va_D A (mw cI cZ o J Z) := hD
          replace hov := ov_f hov
          refine lv_if_eq (tgt := 86) B.hx B.hb dX4_approve_61 (by decide) (fun _ => ?_) (fun c26 => absurd c26 (by decide))
          refine lv_iconst (v := (nI 0)) B.hx B.hb dX4_approve_86 (by decide) ?_
          refine lv_istore (lv' := [(6, .int (nI 0)), (5, .int (nI 1)), (4, .int (nI 1)), (0, .ref (o 0)), (1, .int (nI j)), (2, .int (nI j2)), (3, .int y)]) B.hx B.hb dX4_approve_87 hl (by decide) rfl (fun ls hl => ?_)
          refine lv_aload_n B.hx B.hb dX4_approve_89 rfl (lv_at hl 3 rfl) ?_
          refine lv_iload B.hx B.hb dX4_approve_90 (lv_at hl 2 rfl) ?_
          refine lv_if_ne (tgt := 99) B.hx B.hb dX4_approve_92 (by decide) (fun _ => ?_) (fun c27 => absurd c27 (by decide))
          refine lv_iload B.hx B.hb dX4_approve_99 (lv_at hl 1 rfl) ?_
          refine lv_if_ne (tgt := 108) B.hx B.hb dX4_approve_101 (by decide) (fun _ => ?_) (fun c28 => absurd c28 (by decide))
          refine lv_iload B.hx B.hb dX4_approve_108 (lv_at hl 0 rfl) ?_
          refine lv_if_eq (tgt := 117) B.hx B.hb dX4_approve_110 (by decide) (fun _ => ?_) (fun c29 => absurd c29 (by decide))
          refine lv_iconst (v := (nI 3)) B.hx B.hb dX4_approve_117 (by decide) ?_
          refine q_callV (As := [.int (nI 3)]) (rest := []) B hP hD hS (c4_can l D cI cZ cP cJ o J Z (nI 3)) (cwV 1 B.hts gX4_approve_X4_can rfl rfl rfl (by decide +kernel) ⟨(Nat.le_of_ble_eq_true rfl), (Nat.le_of_ble_eq_true rfl)⟩) 0 4 rfl rfl rfl rfl hl.1 rfl (Nat.le_of_ble_eq_true rfl) dX4_approve_118 ⟨(Nat.le_of_ble_eq_true rfl), (Nat.le_of_ble_eq_true rfl)⟩ (fun E ce q9 H locs hx => False.elim hx) (fun v u H locs hp hP hD hS => ?_)
          obtain rfl := hp
          have hP : va_P D vwCl (mw cI cZ o (va_up J 30 (nI 3)) Z) H := hP
          have hD : va_D A (mw cI cZ o (va_up J 30 (nI 3)) Z) := hD
          refine q_top (v2 := .int (nI 0)) rfl ?_
          refine lv_if_eq (tgt := 138) B.hx B.hb dX4_approve_121 (by decide) (fun _ => ?_) (fun c30 => absurd c30 (by decide))
          have hK : kApprove (nI j2) y (J 0) (Z 8 j) (stp mm (mNR Z j mm) (mOR Z j k) (Z 17 j) (mNC Z j)) (Z 9 j) (ca (Z 3) (Z 4) (ix (nI j2)) 6) = 3 := by simp [kApprove, stp3, hrg0, hrg1, c5, hov, hixj2, hnmj2]
          exact q_vret B hr hP hD hS (u := ()) (by rw [hK] <;> first | rfl | (simp only [if_true, hixj2] <;> rfl)) rfl (Nat.le_of_ble_eq_true rfl) (Nat.le_of_ble_eq_true rfl) dX4_approve_138
    · have hP : va_P D vwCl (mw cI cZ o J Z) H := hP
      have hD : va_D A (mw cI cZ o J Z) := hD
      refine lv_if_eq (tgt := 34) B.hx B.hb dX4_approve_27 (by decide) (fun _ => ?_) (fun c31 => absurd c31 (by decide))
      refine lv_iconst (v := (nI 0)) B.hx B.hb dX4_approve_34 (by decide) ?_
      refine lv_istore (lv' := [(5, .int (nI 0)), (4, .int (nI 1)), (0, .ref (o 0)), (1, .int (nI j)), (2, .int (nI j2)), (3, .int y)]) B.hx B.hb dX4_approve_35 hl (by decide) rfl (fun ls hl => ?_)
      refine lv_iload B.hx B.hb dX4_approve_37 (lv_at hl 1 rfl) ?_
      refine lv_if_eq (tgt := 86) B.hx B.hb dX4_approve_39 (by decide) (fun c32 => absurd c32 (by decide)) (fun _ => ?_)
      refine lv_iload B.hx B.hb dX4_approve_42 (lv_at hl 0 rfl) ?_
      refine lv_if_eq (tgt := 86) B.hx B.hb dX4_approve_44 (by decide) (fun _ => ?_) (fun c33 => absurd c33 (by decide))
      refine lv_iconst (v := (nI 0)) B.hx B.hb dX4_approve_86 (by decide) ?_
      refine lv_istore (lv' := [(6, .int (nI 0)), (5, .int (nI 0)), (4, .int (nI 1)), (0, .ref (o 0)), (1, .int (nI j)), (2, .int (nI j2)), (3, .int y)]) B.hx B.hb dX4_approve_87 hl (by decide) rfl (fun ls hl => ?_)
      refine lv_aload_n B.hx B.hb dX4_approve_89 rfl (lv_at hl 3 rfl) ?_
      refine lv_iload B.hx B.hb dX4_approve_90 (lv_at hl 2 rfl) ?_
      refine lv_if_ne (tgt := 99) B.hx B.hb dX4_approve_92 (by decide) (fun _ => ?_) (fun c34 => absurd c34 (by decide))
      refine lv_iload B.hx B.hb dX4_approve_99 (lv_at hl 1 rfl) ?_
      refine lv_if_ne (tgt := 108) B.hx B.hb dX4_approve_101 (by decide) (fun c35 => absurd c35 (by decide)) (fun _ => ?_)
      refine lv_iconst (v := (nI 2)) B.hx B.hb dX4_approve_104 (by decide) ?_
      refine lv_goto (tgt := 118) B.hx B.hb dX4_approve_105 (by decide) ?_
      refine q_callV (As := [.int (nI 2)]) (rest := []) B hP hD hS (c4_can l D cI cZ cP cJ o J Z (nI 2)) (cwV 1 B.hts gX4_approve_X4_can rfl rfl rfl (by decide +kernel) ⟨(Nat.le_of_ble_eq_true rfl), (Nat.le_of_ble_eq_true rfl)⟩) 0 4 rfl rfl rfl rfl hl.1 rfl (Nat.le_of_ble_eq_true rfl) dX4_approve_118 ⟨(Nat.le_of_ble_eq_true rfl), (Nat.le_of_ble_eq_true rfl)⟩ (fun E ce q9 H locs hx => False.elim hx) (fun v u H locs hp hP hD hS => ?_)
      obtain rfl := hp
      have hP : va_P D vwCl (mw cI cZ o (va_up J 30 (nI 2)) Z) H := hP
      have hD : va_D A (mw cI cZ o (va_up J 30 (nI 2)) Z) := hD
      refine q_top (v2 := .int (nI 0)) rfl ?_
      refine lv_if_eq (tgt := 138) B.hx B.hb dX4_approve_121 (by decide) (fun _ => ?_) (fun c36 => absurd c36 (by decide))
      have hK : kApprove (nI j2) y (J 0) (Z 8 j) (stp mm (mNR Z j mm) (mOR Z j k) (Z 17 j) (mNC Z j)) (Z 9 j) (ca (Z 3) (Z 4) (ix (nI j2)) 6) = 2 := by simp [kApprove, stp3, hrg0, hrg1, hixj2, hnmj2]
      exact q_vret B hr hP hD hS (u := ()) (by rw [hK] <;> first | rfl | (simp only [if_true, hixj2] <;> rfl)) rfl (Nat.le_of_ble_eq_true rfl) (Nat.le_of_ble_eq_true rfl) dX4_approve_138
  · have hP : va_P D vwCl (mw cI cZ o J Z) H := hP
    have hD : va_D A (mw cI cZ o J Z) := hD
    refine lv_if_eq (tgt := 34) B.hx B.hb dX4_approve_11 (by decide) (fun _ => ?_) (fun c37 => absurd c37 (by decide))
    refine lv_iconst (v := (nI 0)) B.hx B.hb dX4_approve_34 (by decide) ?_
    refine lv_istore (lv' := [(5, .int (nI 0)), (4, .int (nI 1)), (0, .ref (o 0)), (1, .int (nI j)), (2, .int x), (3, .int y)]) B.hx B.hb dX4_approve_35 hl (by decide) rfl (fun ls hl => ?_)
    refine lv_iload B.hx B.hb dX4_approve_37 (lv_at hl 1 rfl) ?_
    refine lv_if_eq (tgt := 86) B.hx B.hb dX4_approve_39 (by decide) (fun c38 => absurd c38 (by decide)) (fun _ => ?_)
    refine lv_iload B.hx B.hb dX4_approve_42 (lv_at hl 0 rfl) ?_
    refine lv_if_eq (tgt := 86) B.hx B.hb dX4_approve_44 (by decide) (fun _ => ?_) (fun c39 => absurd c39 (by decide))
    refine lv_iconst (v := (nI 0)) B.hx B.hb dX4_approve_86 (by decide) ?_
    refine lv_istore (lv' := [(6, .int (nI 0)), (5, .int (nI 0)), (4, .int (nI 1)), (0, .ref (o 0)), (1, .int (nI j)), (2, .int x), (3, .int y)]) B.hx B.hb dX4_approve_87 hl (by decide) rfl (fun ls hl => ?_)
    refine lv_aload_n B.hx B.hb dX4_approve_89 rfl (lv_at hl 3 rfl) ?_
    refine lv_iload B.hx B.hb dX4_approve_90 (lv_at hl 2 rfl) ?_
    refine lv_if_ne (tgt := 99) B.hx B.hb dX4_approve_92 (by decide) (fun _ => ?_) (fun c40 => absurd c40 (by decide))
    refine lv_iload B.hx B.hb dX4_approve_99 (lv_at hl 1 rfl) ?_
    refine lv_if_ne (tgt := 108) B.hx B.hb dX4_approve_101 (by decide) (fun c41 => absurd c41 (by decide)) (fun _ => ?_)
    refine lv_iconst (v := (nI 2)) B.hx B.hb dX4_approve_104 (by decide) ?_
    refine lv_goto (tgt := 118) B.hx B.hb dX4_approve_105 (by decide) ?_
    refine q_callV (As := [.int (nI 2)]) (rest := []) B hP hD hS (c4_can l D cI cZ cP cJ o J Z (nI 2)) (cwV 1 B.hts gX4_approve_X4_can rfl rfl rfl (by decide +kernel) ⟨(Nat.le_of_ble_eq_true rfl), (Nat.le_of_ble_eq_true rfl)⟩) 0 4 rfl rfl rfl rfl hl.1 rfl (Nat.le_of_ble_eq_true rfl) dX4_approve_118 ⟨(Nat.le_of_ble_eq_true rfl), (Nat.le_of_ble_eq_true rfl)⟩ (fun E ce q9 H locs hx => False.elim hx) (fun v u H locs hp hP hD hS => ?_)
    obtain rfl := hp
    have hP : va_P D vwCl (mw cI cZ o (va_up J 30 (nI 2)) Z) H := hP
    have hD : va_D A (mw cI cZ o (va_up J 30 (nI 2)) Z) := hD
    refine q_top (v2 := .int (nI 0)) rfl ?_
    refine lv_if_eq (tgt := 138) B.hx B.hb dX4_approve_121 (by decide) (fun _ => ?_) (fun c42 => absurd c42 (by decide))
    have hK : kApprove x y (J 0) (Z 8 j) (stp mm (mNR Z j mm) (mOR Z j k) (Z 17 j) (mNC Z j)) (Z 9 j) (ca (Z 3) (Z 4) (ix x) 6) = 2 := by simp [kApprove, stp3, hrg0]
    exact q_vret B hr hP hD hS (u := ()) (by rw [hK] <;> first | rfl | (simp only [if_true] <;> rfl)) rfl (Nat.le_of_ble_eq_true rfl) (Nat.le_of_ble_eq_true rfl) dX4_approve_138
set_option maxHeartbeats 4000000 in
set_option maxRecDepth 100000 in
theorem c4_confirm (l : Launch) (D : va_G) (cI cZ cP cJ : ClassId) (o : Nat → Nat) (J : Nat → Int32) (Z : Nat → Nat → Int32) (n : Nat) (hn : J 5 = nI n) (hn8 : n ≤ 8) (j : Nat) (hj : j < n) (x : Int32) : q_C l yX4_confirm wsX4_confirm ({ frames := 2, cells := 0, slots := 0, locals := 43 }) D cI cZ cP cJ [.ref (o 0), .int (nI j), .int x] (mw cI cZ o J Z) (S := Unit) (fun v _ => v = some (.int (if kConfirm x (Z 8 j) (Z 17 j) (Z 19 (6 * j + ix x)) (Z 20 (6 * j + ix x)) = 0 then nI (pN (fun i => decide (¬ Z 19 (6 * j + i) = 0)) 6) - nI (pN (fun i => decide (¬ (upd (Z 20) (6 * j + ix x) (nI 1)) (6 * j + i) = 0)) 6) else nI 0))) (fun _ => mw cI cZ o (va_up J 30 (nI (kConfirm x (Z 8 j) (Z 17 j) (Z 19 (6 * j + ix x)) (Z 20 (6 * j + ix x))))) (if kConfirm x (Z 8 j) (Z 17 j) (Z 19 (6 * j + ix x)) (Z 20 (6 * j + ix x)) = 0 then (va_up Z 20 (upd (Z 20) (6 * j + ix x) (nI 1))) else Z)) (fun _ => False) 0 0 := by
  refine q_of (cc := cX4_confirm) (maxL := 6) (ret := (some .int)) (by decide +kernel) rfl (Nat.le_of_ble_eq_true rfl) ?_
  intro p e s m below meth c A ls B hr htb hmn hP hD hS hl
  have hl : lv_has ls 6 [(0, .ref (o 0)), (1, .int (nI j)), (2, .int x)] := hl
  have hi4 : ∀ w ∈ u_ws RX4 TX4 31, w ∈ wsX4_confirm := by decide +kernel
  have hj8 : j < 8 := by omega
  refine lv_aload_n B.hx B.hb dX4_confirm_0 rfl (lv_at hl 0 rfl) ?_
  refine lv_iload_n B.hx B.hb dX4_confirm_1 rfl (lv_at hl 1 rfl) ?_
  refine q_callV (As := [.int (nI j)]) (rest := []) B hP hD hS (c4_isPaper l D cI cZ cP cJ o J Z n hn hn8 (nI j)) (cwV 1 B.hts gX4_confirm_X4_isPaper rfl rfl rfl (by decide +kernel) ⟨(Nat.le_of_ble_eq_true rfl), (Nat.le_of_ble_eq_true rfl)⟩) 0 4 rfl rfl rfl rfl hl.1 rfl (Nat.le_of_ble_eq_true rfl) dX4_confirm_2 ⟨(Nat.le_of_ble_eq_true rfl), (Nat.le_of_ble_eq_true rfl)⟩ (fun E ce q9 H locs hx => False.elim hx) (fun v u H locs hp hP hD hS => ?_)
  obtain rfl := hp
  have hP : va_P D vwCl (mw cI cZ o J Z) H := hP
  have hD : va_D A (mw cI cZ o J Z) := hD
  refine q_top (v2 := .int (nI 1)) (by rw [inr_nI (by omega) (by omega)]; rfl) ?_
  refine lv_istore_n (lv' := [(3, .int (nI 1)), (0, .ref (o 0)), (1, .int (nI j)), (2, .int x)]) B.hx B.hb dX4_confirm_5 rfl hl (by decide) rfl (fun ls hl => ?_)
  refine lv_iload_n B.hx B.hb dX4_confirm_6 rfl (lv_at hl 3 rfl) ?_
  refine q_callS (As := [.int x]) (rest := []) B hP hD hS ((c4_isPerson l D cI cZ cP cJ x).fr0 (mw cI cZ o J Z)) (cwS 1 B.hts gX4_confirm_X4_isPerson rfl rfl rfl (by decide +kernel) ⟨(Nat.le_of_ble_eq_true rfl), (Nat.le_of_ble_eq_true rfl)⟩) rfl hl.1 rfl (Nat.le_of_ble_eq_true rfl) dX4_confirm_7 ⟨(Nat.le_of_ble_eq_true rfl), (Nat.le_of_ble_eq_true rfl)⟩ (fun E ce q9 H locs hx => False.elim hx) (fun v u H locs hp hP hD hS => ?_)
  replace hp := bI2 hp
  rcases hp with ⟨rfl, hrg0⟩ | ⟨rfl, hrg0⟩
  · have hP : va_P D vwCl (mw cI cZ o J Z) H := hP
    have hD : va_D A (mw cI cZ o J Z) := hD
    obtain ⟨j2, hjj2, rfl⟩ := rg_j (by decide) hrg0
    have hixj2 : ix (nI j2) = j2 := ix_nI (by omega)
    have hnmj2 : ¬ nI j2 = -1 := nI_nm1 (by omega)
    refine lv_istore (lv' := [(4, .int (nI 1)), (3, .int (nI 1)), (0, .ref (o 0)), (1, .int (nI j)), (2, .int (nI j2))]) B.hx B.hb dX4_confirm_10 hl (by decide) rfl (fun ls hl => ?_)
    refine lv_iload_n B.hx B.hb dX4_confirm_12 rfl (lv_at hl 1 rfl) ?_
    refine lv_if_eq (tgt := 71) B.hx B.hb dX4_confirm_13 (by decide) (fun c1 => absurd c1 (by decide)) (fun _ => ?_)
    refine lv_iload B.hx B.hb dX4_confirm_16 (lv_at hl 0 rfl) ?_
    refine lv_if_eq (tgt := 71) B.hx B.hb dX4_confirm_18 (by decide) (fun c2 => absurd c2 (by decide)) (fun _ => ?_)
    refine lv_aload_n B.hx B.hb dX4_confirm_21 rfl (lv_at hl 2 rfl) ?_
    refine q_get B hP (C := RX4) (ref := "PaperKeeperModel") (T := TX4) (N := 31) (ci := 4) hi4 rfl 0 rfl 8 (by decide) (by decide +kernel) rfl (v := .ref (o 8)) rfl dX4_confirm_22 ?_
    refine lv_iload_n B.hx B.hb dX4_confirm_25 rfl (lv_at hl 3 rfl) ?_
    refine q_zald (f := (Z 8)) B hP 6 rfl (j := j) rfl (by omega) (by decide) dX4_confirm_26 ?_
    refine lv_if_eq (tgt := 71) B.hx B.hb dX4_confirm_27 (by decide) (fun c3 => ?_) (fun c3 => ?_)
    · refine lv_iconst (v := (nI 0)) B.hx B.hb dX4_confirm_71 (by decide) ?_
      refine lv_istore (lv' := [(5, .int (nI 0)), (4, .int (nI 1)), (3, .int (nI 1)), (0, .ref (o 0)), (1, .int (nI j)), (2, .int (nI j2))]) B.hx B.hb dX4_confirm_72 hl (by decide) rfl (fun ls hl => ?_)
      refine lv_aload_n B.hx B.hb dX4_confirm_74 rfl (lv_at hl 3 rfl) ?_
      refine lv_iload_n B.hx B.hb dX4_confirm_75 rfl (lv_at hl 2 rfl) ?_
      refine lv_if_ne (tgt := 83) B.hx B.hb dX4_confirm_76 (by decide) (fun _ => ?_) (fun c4 => absurd c4 (by decide))
      refine lv_iload B.hx B.hb dX4_confirm_83 (lv_at hl 1 rfl) ?_
      refine lv_if_ne (tgt := 92) B.hx B.hb dX4_confirm_85 (by decide) (fun _ => ?_) (fun c5 => absurd c5 (by decide))
      refine lv_iload B.hx B.hb dX4_confirm_92 (lv_at hl 0 rfl) ?_
      refine lv_if_eq (tgt := 101) B.hx B.hb dX4_confirm_94 (by decide) (fun _ => ?_) (fun c6 => absurd c6 (by decide))
      refine lv_iconst (v := (nI 3)) B.hx B.hb dX4_confirm_101 (by decide) ?_
      refine q_callV (As := [.int (nI 3)]) (rest := []) B hP hD hS (c4_can l D cI cZ cP cJ o J Z (nI 3)) (cwV 1 B.hts gX4_confirm_X4_can rfl rfl rfl (by decide +kernel) ⟨(Nat.le_of_ble_eq_true rfl), (Nat.le_of_ble_eq_true rfl)⟩) 0 4 rfl rfl rfl rfl hl.1 rfl (Nat.le_of_ble_eq_true rfl) dX4_confirm_102 ⟨(Nat.le_of_ble_eq_true rfl), (Nat.le_of_ble_eq_true rfl)⟩ (fun E ce q9 H locs hx => False.elim hx) (fun v u H locs hp hP hD hS => ?_)
      obtain rfl := hp
      have hP : va_P D vwCl (mw cI cZ o (va_up J 30 (nI 3)) Z) H := hP
      have hD : va_D A (mw cI cZ o (va_up J 30 (nI 3)) Z) := hD
      refine q_top (v2 := .int (nI 0)) rfl ?_
      refine lv_if_ne (tgt := 110) B.hx B.hb dX4_confirm_105 (by decide) (fun c7 => absurd c7 (by decide)) (fun _ => ?_)
      refine lv_iconst (v := (nI 0)) B.hx B.hb dX4_confirm_108 (by decide) ?_
      have hK : kConfirm (nI j2) (Z 8 j) (Z 17 j) (Z 19 (6 * j + ix (nI j2))) (Z 20 (6 * j + ix (nI j2))) = 3 := by simp [kConfirm, hrg0, c3, hixj2, hnmj2]
      exact q_iret B hr hP hD hS (u := ()) (by rw [hK] <;> first | rfl | (simp only [if_true, hixj2] <;> rfl)) (by rw [hK] <;> first | rfl | (simp only [if_true, hixj2] <;> rfl)) (Nat.le_of_ble_eq_true rfl) (Nat.le_of_ble_eq_true rfl) dX4_confirm_109
    · refine lv_aload_n B.hx B.hb dX4_confirm_30 rfl (lv_at hl 2 rfl) ?_
      refine q_get B hP (C := RX4) (ref := "PaperKeeperModel") (T := TX4) (N := 31) (ci := 4) hi4 rfl 0 rfl 17 (by decide) (by decide +kernel) rfl (v := .ref (o 17)) rfl dX4_confirm_31 ?_
      refine lv_iload_n B.hx B.hb dX4_confirm_34 rfl (lv_at hl 3 rfl) ?_
      refine q_zald (f := (Z 17)) B hP 15 rfl (j := j) rfl (by omega) (by decide) dX4_confirm_35 ?_
      refine lv_if_eq (tgt := 71) B.hx B.hb dX4_confirm_36 (by decide) (fun c8 => ?_) (fun c8 => ?_)
      · refine lv_iconst (v := (nI 0)) B.hx B.hb dX4_confirm_71 (by decide) ?_
        refine lv_istore (lv' := [(5, .int (nI 0)), (4, .int (nI 1)), (3, .int (nI 1)), (0, .ref (o 0)), (1, .int (nI j)), (2, .int (nI j2))]) B.hx B.hb dX4_confirm_72 hl (by decide) rfl (fun ls hl => ?_)
        refine lv_aload_n B.hx B.hb dX4_confirm_74 rfl (lv_at hl 3 rfl) ?_
        refine lv_iload_n B.hx B.hb dX4_confirm_75 rfl (lv_at hl 2 rfl) ?_
        refine lv_if_ne (tgt := 83) B.hx B.hb dX4_confirm_76 (by decide) (fun _ => ?_) (fun c9 => absurd c9 (by decide))
        refine lv_iload B.hx B.hb dX4_confirm_83 (lv_at hl 1 rfl) ?_
        refine lv_if_ne (tgt := 92) B.hx B.hb dX4_confirm_85 (by decide) (fun _ => ?_) (fun c10 => absurd c10 (by decide))
        refine lv_iload B.hx B.hb dX4_confirm_92 (lv_at hl 0 rfl) ?_
        refine lv_if_eq (tgt := 101) B.hx B.hb dX4_confirm_94 (by decide) (fun _ => ?_) (fun c11 => absurd c11 (by decide))
        refine lv_iconst (v := (nI 3)) B.hx B.hb dX4_confirm_101 (by decide) ?_
        refine q_callV (As := [.int (nI 3)]) (rest := []) B hP hD hS (c4_can l D cI cZ cP cJ o J Z (nI 3)) (cwV 1 B.hts gX4_confirm_X4_can rfl rfl rfl (by decide +kernel) ⟨(Nat.le_of_ble_eq_true rfl), (Nat.le_of_ble_eq_true rfl)⟩) 0 4 rfl rfl rfl rfl hl.1 rfl (Nat.le_of_ble_eq_true rfl) dX4_confirm_102 ⟨(Nat.le_of_ble_eq_true rfl), (Nat.le_of_ble_eq_true rfl)⟩ (fun E ce q9 H locs hx => False.elim hx) (fun v u H locs hp hP hD hS => ?_)
        obtain rfl := hp
        have hP : va_P D vwCl (mw cI cZ o (va_up J 30 (nI 3)) Z) H := hP
        have hD : va_D A (mw cI cZ o (va_up J 30 (nI 3)) Z) := hD
        refine q_top (v2 := .int (nI 0)) rfl ?_
        refine lv_if_ne (tgt := 110) B.hx B.hb dX4_confirm_105 (by decide) (fun c12 => absurd c12 (by decide)) (fun _ => ?_)
        refine lv_iconst (v := (nI 0)) B.hx B.hb dX4_confirm_108 (by decide) ?_
        have hK : kConfirm (nI j2) (Z 8 j) (Z 17 j) (Z 19 (6 * j + ix (nI j2))) (Z 20 (6 * j + ix (nI j2))) = 3 := by simp [kConfirm, hrg0, c3, c8, hixj2, hnmj2]
        exact q_iret B hr hP hD hS (u := ()) (by rw [hK] <;> first | rfl | (simp only [if_true, hixj2] <;> rfl)) (by rw [hK] <;> first | rfl | (simp only [if_true, hixj2] <;> rfl)) (Nat.le_of_ble_eq_true rfl) (Nat.le_of_ble_eq_true rfl) dX4_confirm_109
      · refine lv_aload_n B.hx B.hb dX4_confirm_39 rfl (lv_at hl 2 rfl) ?_
        refine q_get B hP (C := RX4) (ref := "PaperKeeperModel") (T := TX4) (N := 31) (ci := 4) hi4 rfl 0 rfl 19 (by decide) (by decide +kernel) rfl (v := .ref (o 19)) rfl dX4_confirm_40 ?_
        refine lv_bipush (v := (nI 6)) B.hx B.hb dX4_confirm_43 (by decide) ?_
        refine lv_iload_n B.hx B.hb dX4_confirm_45 rfl (lv_at hl 3 rfl) ?_
        refine lv_imul B.hx B.hb dX4_confirm_46 ?_
        refine q_top (v2 := .int (nI ((6 * j)))) (congrArg Value.int (pk_mul _ _)) ?_
        refine lv_iload_n B.hx B.hb dX4_confirm_47 rfl (lv_at hl 4 rfl) ?_
        refine lv_iadd B.hx B.hb dX4_confirm_48 ?_
        refine q_top (v2 := .int (nI (((6 * j) + j2)))) (congrArg Value.int (nI_add _ _)) ?_
        refine q_zald (f := (Z 19)) B hP 17 rfl (j := ((6 * j) + j2)) rfl (by omega) (by decide) dX4_confirm_49 ?_
        refine lv_if_eq (tgt := 71) B.hx B.hb dX4_confirm_50 (by decide) (fun c13 => ?_) (fun c13 => ?_)
        · refine lv_iconst (v := (nI 0)) B.hx B.hb dX4_confirm_71 (by decide) ?_
          refine lv_istore (lv' := [(5, .int (nI 0)), (4, .int (nI 1)), (3, .int (nI 1)), (0, .ref (o 0)), (1, .int (nI j)), (2, .int (nI j2))]) B.hx B.hb dX4_confirm_72 hl (by decide) rfl (fun ls hl => ?_)
          refine lv_aload_n B.hx B.hb dX4_confirm_74 rfl (lv_at hl 3 rfl) ?_
          refine lv_iload_n B.hx B.hb dX4_confirm_75 rfl (lv_at hl 2 rfl) ?_
          refine lv_if_ne (tgt := 83) B.hx B.hb dX4_confirm_76 (by decide) (fun _ => ?_) (fun c14 => absurd c14 (by decide))
          refine lv_iload B.hx B.hb dX4_confirm_83 (lv_at hl 1 rfl) ?_
          refine lv_if_ne (tgt := 92) B.hx B.hb dX4_confirm_85 (by decide) (fun _ => ?_) (fun c15 => absurd c15 (by decide))
          refine lv_iload B.hx B.hb dX4_confirm_92 (lv_at hl 0 rfl) ?_
          refine lv_if_eq (tgt := 101) B.hx B.hb dX4_confirm_94 (by decide) (fun _ => ?_) (fun c16 => absurd c16 (by decide))
          refine lv_iconst (v := (nI 3)) B.hx B.hb dX4_confirm_101 (by decide) ?_
          refine q_callV (As := [.int (nI 3)]) (rest := []) B hP hD hS (c4_can l D cI cZ cP cJ o J Z (nI 3)) (cwV 1 B.hts gX4_confirm_X4_can rfl rfl rfl (by decide +kernel) ⟨(Nat.le_of_ble_eq_true rfl), (Nat.le_of_ble_eq_true rfl)⟩) 0 4 rfl rfl rfl rfl hl.1 rfl (Nat.le_of_ble_eq_true rfl) dX4_confirm_102 ⟨(Nat.le_of_ble_eq_true rfl), (Nat.le_of_ble_eq_true rfl)⟩ (fun E ce q9 H locs hx => False.elim hx) (fun v u H locs hp hP hD hS => ?_)
          obtain rfl := hp
          have hP : va_P D vwCl (mw cI cZ o (va_up J 30 (nI 3)) Z) H := hP
          have hD : va_D A (mw cI cZ o (va_up J 30 (nI 3)) Z) := hD
          refine q_top (v2 := .int (nI 0)) rfl ?_
          refine lv_if_ne (tgt := 110) B.hx B.hb dX4_confirm_105 (by decide) (fun c17 => absurd c17 (by decide)) (fun _ => ?_)
          refine lv_iconst (v := (nI 0)) B.hx B.hb dX4_confirm_108 (by decide) ?_
          have hK : kConfirm (nI j2) (Z 8 j) (Z 17 j) (Z 19 (6 * j + ix (nI j2))) (Z 20 (6 * j + ix (nI j2))) = 3 := by simp [kConfirm, hrg0, c3, c8, c13, hixj2, hnmj2]
          exact q_iret B hr hP hD hS (u := ()) (by rw [hK] <;> first | rfl | (simp only [if_true, hixj2] <;> rfl)) (by rw [hK] <;> first | rfl | (simp only [if_true, hixj2] <;> rfl)) (Nat.le_of_ble_eq_true rfl) (Nat.le_of_ble_eq_true rfl) dX4_confirm_109
        · refine lv_aload_n B.hx B.hb dX4_confirm_53 rfl (lv_at hl 2 rfl) ?_
          refine q_get B hP (C := RX4) (ref := "PaperKeeperModel") (T := TX4) (N := 31) (ci := 4) hi4 rfl 0 rfl 20 (by decide) (by decide +kernel) rfl (v := .ref (o 20)) rfl dX4_confirm_54 ?_
          refine lv_bipush (v := (nI 6)) B.hx B.hb dX4_confirm_57 (by decide) ?_
          refine lv_iload_n B.hx B.hb dX4_confirm_59 rfl (lv_at hl 3 rfl) ?_
          refine lv_imul B.hx B.hb dX4_confirm_60 ?_
          refine q_top (v2 := .int (nI ((6 * j)))) (congrArg Value.int (pk_mul _ _)) ?_
          refine lv_iload_n B.hx B.hb dX4_confirm_61 rfl (lv_at hl 4 rfl) ?_
          refine lv_iadd B.hx B.hb dX4_confirm_62 ?_
          refine q_top (v2 := .int (nI (((6 * j) + j2)))) (congrArg Value.int (nI_add _ _)) ?_
          refine q_zald (f := (Z 20)) B hP 18 rfl (j := ((6 * j) + j2)) rfl (by omega) (by decide) dX4_confirm_63 ?_
          refine lv_if_ne (tgt := 71) B.hx B.hb dX4_confirm_64 (by decide) (fun c18 => ?_) (fun c18 => ?_)
          · refine lv_iconst (v := (nI 0)) B.hx B.hb dX4_confirm_71 (by decide) ?_
            refine lv_istore (lv' := [(5, .int (nI 0)), (4, .int (nI 1)), (3, .int (nI 1)), (0, .ref (o 0)), (1, .int (nI j)), (2, .int (nI j2))]) B.hx B.hb dX4_confirm_72 hl (by decide) rfl (fun ls hl => ?_)
            refine lv_aload_n B.hx B.hb dX4_confirm_74 rfl (lv_at hl 3 rfl) ?_
            refine lv_iload_n B.hx B.hb dX4_confirm_75 rfl (lv_at hl 2 rfl) ?_
            refine lv_if_ne (tgt := 83) B.hx B.hb dX4_confirm_76 (by decide) (fun _ => ?_) (fun c19 => absurd c19 (by decide))
            refine lv_iload B.hx B.hb dX4_confirm_83 (lv_at hl 1 rfl) ?_
            refine lv_if_ne (tgt := 92) B.hx B.hb dX4_confirm_85 (by decide) (fun _ => ?_) (fun c20 => absurd c20 (by decide))
            refine lv_iload B.hx B.hb dX4_confirm_92 (lv_at hl 0 rfl) ?_
            refine lv_if_eq (tgt := 101) B.hx B.hb dX4_confirm_94 (by decide) (fun _ => ?_) (fun c21 => absurd c21 (by decide))
            refine lv_iconst (v := (nI 3)) B.hx B.hb dX4_confirm_101 (by decide) ?_
            refine q_callV (As := [.int (nI 3)]) (rest := []) B hP hD hS (c4_can l D cI cZ cP cJ o J Z (nI 3)) (cwV 1 B.hts gX4_confirm_X4_can rfl rfl rfl (by decide +kernel) ⟨(Nat.le_of_ble_eq_true rfl), (Nat.le_of_ble_eq_true rfl)⟩) 0 4 rfl rfl rfl rfl hl.1 rfl (Nat.le_of_ble_eq_true rfl) dX4_confirm_102 ⟨(Nat.le_of_ble_eq_true rfl), (Nat.le_of_ble_eq_true rfl)⟩ (fun E ce q9 H locs hx => False.elim hx) (fun v u H locs hp hP hD hS => ?_)
            obtain rfl := hp
            have hP : va_P D vwCl (mw cI cZ o (va_up J 30 (nI 3)) Z) H := hP
            have hD : va_D A (mw cI cZ o (va_up J 30 (nI 3)) Z) := hD
            refine q_top (v2 := .int (nI 0)) rfl ?_
            refine lv_if_ne (tgt := 110) B.hx B.hb dX4_confirm_105 (by decide) (fun c22 => absurd c22 (by decide)) (fun _ => ?_)
            refine lv_iconst (v := (nI 0)) B.hx B.hb dX4_confirm_108 (by decide) ?_
            have hK : kConfirm (nI j2) (Z 8 j) (Z 17 j) (Z 19 (6 * j + ix (nI j2))) (Z 20 (6 * j + ix (nI j2))) = 3 := by simp [kConfirm, hrg0, c3, c8, c13, c18, hixj2, hnmj2]
            exact q_iret B hr hP hD hS (u := ()) (by rw [hK] <;> first | rfl | (simp only [if_true, hixj2] <;> rfl)) (by rw [hK] <;> first | rfl | (simp only [if_true, hixj2] <;> rfl)) (Nat.le_of_ble_eq_true rfl) (Nat.le_of_ble_eq_true rfl) dX4_confirm_109
          · refine lv_iconst (v := (nI 1)) B.hx B.hb dX4_confirm_67 (by decide) ?_
            refine lv_goto (tgt := 72) B.hx B.hb dX4_confirm_68 (by decide) ?_
            refine lv_istore (lv' := [(5, .int (nI 1)), (4, .int (nI 1)), (3, .int (nI 1)), (0, .ref (o 0)), (1, .int (nI j)), (2, .int (nI j2))]) B.hx B.hb dX4_confirm_72 hl (by decide) rfl (fun ls hl => ?_)
            refine lv_aload_n B.hx B.hb dX4_confirm_74 rfl (lv_at hl 3 rfl) ?_
            refine lv_iload_n B.hx B.hb dX4_confirm_75 rfl (lv_at hl 2 rfl) ?_
            refine lv_if_ne (tgt := 83) B.hx B.hb dX4_confirm_76 (by decide) (fun _ => ?_) (fun c23 => absurd c23 (by decide))
            refine lv_iload B.hx B.hb dX4_confirm_83 (lv_at hl 1 rfl) ?_
            refine lv_if_ne (tgt := 92) B.hx B.hb dX4_confirm_85 (by decide) (fun _ => ?_) (fun c24 => absurd c24 (by decide))
            refine lv_iload B.hx B.hb dX4_confirm_92 (lv_at hl 0 rfl) ?_
            refine lv_if_eq (tgt := 101) B.hx B.hb dX4_confirm_94 (by decide) (fun c25 => absurd c25 (by decide)) (fun _ => ?_)
            refine lv_iconst (v := (nI 0)) B.hx B.hb dX4_confirm_97 (by decide) ?_
            refine lv_goto (tgt := 102) B.hx B.hb dX4_confirm_98 (by decide) ?_
            refine q_callV (As := [.int (nI 0)]) (rest := []) B hP hD hS (c4_can l D cI cZ cP cJ o J Z (nI 0)) (cwV 1 B.hts gX4_confirm_X4_can rfl rfl rfl (by decide +kernel) ⟨(Nat.le_of_ble_eq_true rfl), (Nat.le_of_ble_eq_true rfl)⟩) 0 4 rfl rfl rfl rfl hl.1 rfl (Nat.le_of_ble_eq_true rfl) dX4_confirm_102 ⟨(Nat.le_of_ble_eq_true rfl), (Nat.le_of_ble_eq_true rfl)⟩ (fun E ce q9 H locs hx => False.elim hx) (fun v u H locs hp hP hD hS => ?_)
            obtain rfl := hp
            have hP : va_P D vwCl (mw cI cZ o (va_up J 30 (nI 0)) Z) H := hP
            have hD : va_D A (mw cI cZ o (va_up J 30 (nI 0)) Z) := hD
            refine q_top (v2 := .int (nI 1)) rfl ?_
            refine lv_if_ne (tgt := 110) B.hx B.hb dX4_confirm_105 (by decide) (fun _ => ?_) (fun c26 => absurd c26 (by decide))
            refine lv_aload_n B.hx B.hb dX4_confirm_110 rfl (lv_at hl 3 rfl) ?_
            refine q_get B hP (C := RX4) (ref := "PaperKeeperModel") (T := TX4) (N := 31) (ci := 4) hi4 rfl 0 rfl 20 (by decide) (by decide +kernel) rfl (v := .ref (o 20)) rfl dX4_confirm_111 ?_
            refine lv_bipush (v := (nI 6)) B.hx B.hb dX4_confirm_114 (by decide) ?_
            refine lv_iload_n B.hx B.hb dX4_confirm_116 rfl (lv_at hl 4 rfl) ?_
            refine lv_imul B.hx B.hb dX4_confirm_117 ?_
            refine q_top (v2 := .int (nI ((6 * j)))) (congrArg Value.int (pk_mul _ _)) ?_
            refine lv_iload_n B.hx B.hb dX4_confirm_118 rfl (lv_at hl 5 rfl) ?_
            refine lv_iadd B.hx B.hb dX4_confirm_119 ?_
            refine q_top (v2 := .int (nI (((6 * j) + j2)))) (congrArg Value.int (nI_add _ _)) ?_
            refine lv_iconst (v := (nI 1)) B.hx B.hb dX4_confirm_120 (by decide) ?_
            refine q_zast B hP hD hS 18 rfl (j := ((6 * j) + j2)) rfl (by omega) (by decide) (by decide) dX4_confirm_121 (w' := mw cI cZ o (va_up J 30 (nI 0)) (va_up Z 20 (upd (Z 20) ((6 * j) + j2) (nI 1)))) rfl (fun H locs hP hD hS => ?_)
            refine lv_aload_n B.hx B.hb dX4_confirm_122 rfl (lv_at hl 3 rfl) ?_
            refine lv_aload_n B.hx B.hb dX4_confirm_123 rfl (lv_at hl 3 rfl) ?_
            refine q_get B hP (C := RX4) (ref := "PaperKeeperModel") (T := TX4) (N := 31) (ci := 4) hi4 rfl 0 rfl 19 (by decide) (by decide +kernel) rfl (v := .ref (o 19)) rfl dX4_confirm_124 ?_
            refine lv_bipush (v := (nI 6)) B.hx B.hb dX4_confirm_127 (by decide) ?_
            refine lv_iload_n B.hx B.hb dX4_confirm_129 rfl (lv_at hl 4 rfl) ?_
            refine lv_imul B.hx B.hb dX4_confirm_130 ?_
            refine q_top (v2 := .int (nI ((6 * j)))) (congrArg Value.int (pk_mul _ _)) ?_
            refine lv_bipush (v := (nI 6)) B.hx B.hb dX4_confirm_131 (by decide) ?_
            refine q_callV (As := [.ref (o 19), .int (nI ((6 * j))), .int (nI 6)]) (rest := []) B hP hD hS (c4_count l D cI cZ cP cJ (mw cI cZ o (va_up J 30 (nI 0)) (va_up Z 20 (upd (Z 20) ((6 * j) + j2) (nI 1)))) (o 0) 17 (o 19) 48 (Z 19) rfl (6 * j) 6 (by omega) (by decide)) (cwV 3 B.hts gX4_confirm_X4_count rfl rfl rfl (by decide +kernel) ⟨(Nat.le_of_ble_eq_true rfl), (Nat.le_of_ble_eq_true rfl)⟩) 0 4 rfl rfl rfl rfl hl.1 rfl (Nat.le_of_ble_eq_true rfl) dX4_confirm_133 ⟨(Nat.le_of_ble_eq_true rfl), (Nat.le_of_ble_eq_true rfl)⟩ (fun E ce q9 H locs hx => False.elim hx) (fun v u H locs hp hP hD hS => ?_)
            obtain rfl := hp
            have hP : va_P D vwCl (mw cI cZ o (va_up J 30 (nI 0)) (va_up Z 20 (upd (Z 20) ((6 * j) + j2) (nI 1)))) H := hP
            have hD : va_D A (mw cI cZ o (va_up J 30 (nI 0)) (va_up Z 20 (upd (Z 20) ((6 * j) + j2) (nI 1)))) := hD
            refine lv_aload_n B.hx B.hb dX4_confirm_136 rfl (lv_at hl 3 rfl) ?_
            refine lv_aload_n B.hx B.hb dX4_confirm_137 rfl (lv_at hl 3 rfl) ?_
            refine q_get B hP (C := RX4) (ref := "PaperKeeperModel") (T := TX4) (N := 31) (ci := 4) hi4 rfl 0 rfl 20 (by decide) (by decide +kernel) rfl (v := .ref (o 20)) rfl dX4_confirm_138 ?_
            refine lv_bipush (v := (nI 6)) B.hx B.hb dX4_confirm_141 (by decide) ?_
            refine lv_iload_n B.hx B.hb dX4_confirm_143 rfl (lv_at hl 4 rfl) ?_
            refine lv_imul B.hx B.hb dX4_confirm_144 ?_
            refine q_top (v2 := .int (nI ((6 * j)))) (congrArg Value.int (pk_mul _ _)) ?_
            refine lv_bipush (v := (nI 6)) B.hx B.hb dX4_confirm_145 (by decide) ?_
            refine q_callV (As := [.ref (o 20), .int (nI ((6 * j))), .int (nI 6)]) (rest := [.int (nI ((pN (fun i => decide (¬ (Z 19) ((6 * j) + i) = 0)) 6)))]) B hP hD hS (c4_count l D cI cZ cP cJ (mw cI cZ o (va_up J 30 (nI 0)) (va_up Z 20 (upd (Z 20) ((6 * j) + j2) (nI 1)))) (o 0) 18 (o 20) 48 (upd (Z 20) ((6 * j) + j2) (nI 1)) rfl (6 * j) 6 (by omega) (by decide)) (cwV 3 B.hts gX4_confirm_X4_count rfl rfl rfl (by decide +kernel) ⟨(Nat.le_of_ble_eq_true rfl), (Nat.le_of_ble_eq_true rfl)⟩) 0 4 rfl rfl rfl rfl hl.1 rfl (Nat.le_of_ble_eq_true rfl) dX4_confirm_147 ⟨(Nat.le_of_ble_eq_true rfl), (Nat.le_of_ble_eq_true rfl)⟩ (fun E ce q9 H locs hx => False.elim hx) (fun v u H locs hp hP hD hS => ?_)
            obtain rfl := hp
            have hP : va_P D vwCl (mw cI cZ o (va_up J 30 (nI 0)) (va_up Z 20 (upd (Z 20) ((6 * j) + j2) (nI 1)))) H := hP
            have hD : va_D A (mw cI cZ o (va_up J 30 (nI 0)) (va_up Z 20 (upd (Z 20) ((6 * j) + j2) (nI 1)))) := hD
            refine lv_isub B.hx B.hb dX4_confirm_150 ?_
            have hK : kConfirm (nI j2) (Z 8 j) (Z 17 j) (Z 19 (6 * j + ix (nI j2))) (Z 20 (6 * j + ix (nI j2))) = 0 := by simp [kConfirm, hrg0, c3, c8, c13, c18, hixj2, hnmj2]
            exact q_iret B hr hP hD hS (u := ()) (by rw [hK] <;> first | rfl | (simp only [if_true, hixj2] <;> rfl)) (by rw [hK] <;> first | rfl | (simp only [if_true, hixj2] <;> rfl)) (Nat.le_of_ble_eq_true rfl) (Nat.le_of_ble_eq_true rfl) dX4_confirm_151
  · have hP : va_P D vwCl (mw cI cZ o J Z) H := hP
    have hD : va_D A (mw cI cZ o J Z) := hD
    refine lv_istore (lv' := [(4, .int (nI 0)), (3, .int (nI 1)), (0, .ref (o 0)), (1, .int (nI j)), (2, .int x)]) B.hx B.hb dX4_confirm_10 hl (by decide) rfl (fun ls hl => ?_)
    refine lv_iload_n B.hx B.hb dX4_confirm_12 rfl (lv_at hl 1 rfl) ?_
    refine lv_if_eq (tgt := 71) B.hx B.hb dX4_confirm_13 (by decide) (fun c27 => absurd c27 (by decide)) (fun _ => ?_)
    refine lv_iload B.hx B.hb dX4_confirm_16 (lv_at hl 0 rfl) ?_
    refine lv_if_eq (tgt := 71) B.hx B.hb dX4_confirm_18 (by decide) (fun _ => ?_) (fun c28 => absurd c28 (by decide))
    refine lv_iconst (v := (nI 0)) B.hx B.hb dX4_confirm_71 (by decide) ?_
    refine lv_istore (lv' := [(5, .int (nI 0)), (4, .int (nI 0)), (3, .int (nI 1)), (0, .ref (o 0)), (1, .int (nI j)), (2, .int x)]) B.hx B.hb dX4_confirm_72 hl (by decide) rfl (fun ls hl => ?_)
    refine lv_aload_n B.hx B.hb dX4_confirm_74 rfl (lv_at hl 3 rfl) ?_
    refine lv_iload_n B.hx B.hb dX4_confirm_75 rfl (lv_at hl 2 rfl) ?_
    refine lv_if_ne (tgt := 83) B.hx B.hb dX4_confirm_76 (by decide) (fun _ => ?_) (fun c29 => absurd c29 (by decide))
    refine lv_iload B.hx B.hb dX4_confirm_83 (lv_at hl 1 rfl) ?_
    refine lv_if_ne (tgt := 92) B.hx B.hb dX4_confirm_85 (by decide) (fun c30 => absurd c30 (by decide)) (fun _ => ?_)
    refine lv_iconst (v := (nI 2)) B.hx B.hb dX4_confirm_88 (by decide) ?_
    refine lv_goto (tgt := 102) B.hx B.hb dX4_confirm_89 (by decide) ?_
    refine q_callV (As := [.int (nI 2)]) (rest := []) B hP hD hS (c4_can l D cI cZ cP cJ o J Z (nI 2)) (cwV 1 B.hts gX4_confirm_X4_can rfl rfl rfl (by decide +kernel) ⟨(Nat.le_of_ble_eq_true rfl), (Nat.le_of_ble_eq_true rfl)⟩) 0 4 rfl rfl rfl rfl hl.1 rfl (Nat.le_of_ble_eq_true rfl) dX4_confirm_102 ⟨(Nat.le_of_ble_eq_true rfl), (Nat.le_of_ble_eq_true rfl)⟩ (fun E ce q9 H locs hx => False.elim hx) (fun v u H locs hp hP hD hS => ?_)
    obtain rfl := hp
    have hP : va_P D vwCl (mw cI cZ o (va_up J 30 (nI 2)) Z) H := hP
    have hD : va_D A (mw cI cZ o (va_up J 30 (nI 2)) Z) := hD
    refine q_top (v2 := .int (nI 0)) rfl ?_
    refine lv_if_ne (tgt := 110) B.hx B.hb dX4_confirm_105 (by decide) (fun c31 => absurd c31 (by decide)) (fun _ => ?_)
    refine lv_iconst (v := (nI 0)) B.hx B.hb dX4_confirm_108 (by decide) ?_
    have hK : kConfirm x (Z 8 j) (Z 17 j) (Z 19 (6 * j + ix x)) (Z 20 (6 * j + ix x)) = 2 := by simp [kConfirm, hrg0]
    exact q_iret B hr hP hD hS (u := ()) (by rw [hK] <;> first | rfl | (simp only [if_true] <;> rfl)) (by rw [hK] <;> first | rfl | (simp only [if_true] <;> rfl)) (Nat.le_of_ble_eq_true rfl) (Nat.le_of_ble_eq_true rfl) dX4_confirm_109
set_option maxHeartbeats 4000000 in
set_option maxRecDepth 100000 in
theorem c4_look (l : Launch) (D : va_G) (cI cZ cP cJ : ClassId) (o : Nat → Nat) (J : Nat → Int32) (Z : Nat → Nat → Int32) (n : Nat) (hn : J 5 = nI n) (hn8 : n ≤ 8) (j : Nat) (hj : j < n) (w : Nat) (hw : Z 21 j = nI w) (hw2 : w ≤ 128) : q_C l yX4_look wsX4_look ({ frames := 2, cells := 0, slots := 0, locals := 43 }) D cI cZ cP cJ [.ref (o 0), .int (nI j)] (mw cI cZ o J Z) (S := Unit) (fun v _ => v = some (.int (if kLook w = 0 then nl w (Z 24 j) (J 0) (Z 25 j) (J 1) else nI 0))) (fun _ => mw cI cZ o (va_up J 30 (nI (kLook w))) (if kLook w = 0 then (va_up (va_up Z 24 (upd (Z 24) j (nI 0))) 25 (upd (Z 25) j (J 0))) else Z)) (fun _ => False) 0 0 := by
  refine q_of (cc := cX4_look) (maxL := 3) (ret := (some .boolean)) (by decide +kernel) rfl (Nat.le_of_ble_eq_true rfl) ?_
  intro p e s m below meth c A ls B hr htb hmn hP hD hS hl
  have hl : lv_has ls 3 [(0, .ref (o 0)), (1, .int (nI j))] := hl
  have hi4 : ∀ w ∈ u_ws RX4 TX4 31, w ∈ wsX4_look := by decide +kernel
  have hj8 : j < 8 := by omega
  refine lv_aload_n B.hx B.hb dX4_look_0 rfl (lv_at hl 0 rfl) ?_
  refine lv_aload_n B.hx B.hb dX4_look_1 rfl (lv_at hl 0 rfl) ?_
  refine lv_iload_n B.hx B.hb dX4_look_2 rfl (lv_at hl 1 rfl) ?_
  refine q_callV (As := [.int (nI j)]) (rest := [.ref (o 0)]) B hP hD hS (c4_isPaper l D cI cZ cP cJ o J Z n hn hn8 (nI j)) (cwV 1 B.hts gX4_look_X4_isPaper rfl rfl rfl (by decide +kernel) ⟨(Nat.le_of_ble_eq_true rfl), (Nat.le_of_ble_eq_true rfl)⟩) 0 4 rfl rfl rfl rfl hl.1 rfl (Nat.le_of_ble_eq_true rfl) dX4_look_3 ⟨(Nat.le_of_ble_eq_true rfl), (Nat.le_of_ble_eq_true rfl)⟩ (fun E ce q9 H locs hx => False.elim hx) (fun v u H locs hp hP hD hS => ?_)
  obtain rfl := hp
  have hP : va_P D vwCl (mw cI cZ o J Z) H := hP
  have hD : va_D A (mw cI cZ o J Z) := hD
  refine q_top (v2 := .int (nI 1)) (by rw [inr_nI (by omega) (by omega)]; rfl) ?_
  refine lv_if_ne (tgt := 13) B.hx B.hb dX4_look_6 (by decide) (fun _ => ?_) (fun c1 => absurd c1 (by decide))
  refine lv_aload_n B.hx B.hb dX4_look_13 rfl (lv_at hl 0 rfl) ?_
  refine q_get B hP (C := RX4) (ref := "PaperKeeperModel") (T := TX4) (N := 31) (ci := 4) hi4 rfl 0 rfl 21 (by decide) (by decide +kernel) rfl (v := .ref (o 21)) rfl dX4_look_14 ?_
  refine lv_iload_n B.hx B.hb dX4_look_17 rfl (lv_at hl 1 rfl) ?_
  refine q_iald (f := (Z 21)) B hP 19 rfl (j := j) rfl (by omega) (by decide) dX4_look_18 ?_
  refine q_top (v2 := .int (nI w)) (congrArg Value.int hw) ?_
  refine lv_if_ne (tgt := 26) B.hx B.hb dX4_look_19 (by decide) (fun c2 => ?_) (fun c2 => ?_)
  · replace c2 := mt (nI_eq0 (by omega)).mpr c2
    refine lv_iconst (v := (nI 0)) B.hx B.hb dX4_look_26 (by decide) ?_
    refine q_callV (As := [.int (nI 0)]) (rest := []) B hP hD hS (c4_can l D cI cZ cP cJ o J Z (nI 0)) (cwV 1 B.hts gX4_look_X4_can rfl rfl rfl (by decide +kernel) ⟨(Nat.le_of_ble_eq_true rfl), (Nat.le_of_ble_eq_true rfl)⟩) 0 4 rfl rfl rfl rfl hl.1 rfl (Nat.le_of_ble_eq_true rfl) dX4_look_27 ⟨(Nat.le_of_ble_eq_true rfl), (Nat.le_of_ble_eq_true rfl)⟩ (fun E ce q9 H locs hx => False.elim hx) (fun v u H locs hp hP hD hS => ?_)
    obtain rfl := hp
    have hP : va_P D vwCl (mw cI cZ o (va_up J 30 (nI 0)) Z) H := hP
    have hD : va_D A (mw cI cZ o (va_up J 30 (nI 0)) Z) := hD
    refine q_top (v2 := .int (nI 1)) rfl ?_
    refine lv_if_ne (tgt := 35) B.hx B.hb dX4_look_30 (by decide) (fun _ => ?_) (fun c3 => absurd c3 (by decide))
    refine lv_aload_n B.hx B.hb dX4_look_35 rfl (lv_at hl 0 rfl) ?_
    refine lv_iload_n B.hx B.hb dX4_look_36 rfl (lv_at hl 1 rfl) ?_
    refine q_callV (As := [.int (nI j)]) (rest := []) B hP hD hS (c4_falls l D cI cZ cP cJ o (va_up J 30 (nI 0)) Z j hj8 w hw hw2) (cwV 1 B.hts gX4_look_X4_falls rfl rfl rfl (by decide +kernel) ⟨(Nat.le_of_ble_eq_true rfl), (Nat.le_of_ble_eq_true rfl)⟩) 0 4 rfl rfl rfl rfl hl.1 rfl (Nat.le_of_ble_eq_true rfl) dX4_look_37 ⟨(Nat.le_of_ble_eq_true rfl), (Nat.le_of_ble_eq_true rfl)⟩ (fun E ce q9 H locs hx => False.elim hx) (fun v u H locs hp hP hD hS => ?_)
    obtain rfl := hp
    have hP : va_P D vwCl (mw cI cZ o (va_up J 30 (nI 0)) Z) H := hP
    have hD : va_D A (mw cI cZ o (va_up J 30 (nI 0)) Z) := hD
    refine lv_istore_n (lv' := [(2, .int (nl w (Z 24 j) (J 0) (Z 25 j) (J 1))), (0, .ref (o 0)), (1, .int (nI j))]) B.hx B.hb dX4_look_40 rfl hl (by decide) rfl (fun ls hl => ?_)
    refine lv_aload_n B.hx B.hb dX4_look_41 rfl (lv_at hl 1 rfl) ?_
    refine q_get B hP (C := RX4) (ref := "PaperKeeperModel") (T := TX4) (N := 31) (ci := 4) hi4 rfl 0 rfl 24 (by decide) (by decide +kernel) rfl (v := .ref (o 24)) rfl dX4_look_42 ?_
    refine lv_iload_n B.hx B.hb dX4_look_45 rfl (lv_at hl 2 rfl) ?_
    refine lv_iconst (v := (nI 0)) B.hx B.hb dX4_look_46 (by decide) ?_
    refine q_zast B hP hD hS 22 rfl (j := j) rfl (by omega) (by decide) (by decide) dX4_look_47 (w' := mw cI cZ o (va_up J 30 (nI 0)) (va_up Z 24 (upd (Z 24) j (nI 0)))) rfl (fun H locs hP hD hS => ?_)
    refine lv_aload_n B.hx B.hb dX4_look_48 rfl (lv_at hl 1 rfl) ?_
    refine q_get B hP (C := RX4) (ref := "PaperKeeperModel") (T := TX4) (N := 31) (ci := 4) hi4 rfl 0 rfl 25 (by decide) (by decide +kernel) rfl (v := .ref (o 25)) rfl dX4_look_49 ?_
    refine lv_iload_n B.hx B.hb dX4_look_52 rfl (lv_at hl 2 rfl) ?_
    refine lv_aload_n B.hx B.hb dX4_look_53 rfl (lv_at hl 1 rfl) ?_
    refine q_get B hP (C := RX4) (ref := "PaperKeeperModel") (T := TX4) (N := 31) (ci := 4) hi4 rfl 0 rfl 0 (by decide) (by decide +kernel) rfl (v := .int (J 0)) rfl dX4_look_54 ?_
    refine q_iast B hP hD hS 23 rfl (j := j) rfl (by omega) (by decide) dX4_look_57 (w' := mw cI cZ o (va_up J 30 (nI 0)) (va_up (va_up Z 24 (upd (Z 24) j (nI 0))) 25 (upd (Z 25) j (J 0)))) rfl (fun H locs hP hD hS => ?_)
    refine lv_iload_n B.hx B.hb dX4_look_58 rfl (lv_at hl 0 rfl) ?_
    have hK : kLook w = 0 := by simp [kLook, c2]
    exact q_zret B hr hP hD hS (nl_z _ _ _ _ _) (u := ()) (by rw [hK] <;> first | rfl | (simp only [if_true] <;> rfl)) (by rw [hK] <;> first | rfl | (simp only [if_true] <;> rfl)) (Nat.le_of_ble_eq_true rfl) (Nat.le_of_ble_eq_true rfl) dX4_look_59
  · replace c2 := (nI_eq0 (by omega)).mp c2
    refine lv_iconst (v := (nI 2)) B.hx B.hb dX4_look_22 (by decide) ?_
    refine lv_goto (tgt := 27) B.hx B.hb dX4_look_23 (by decide) ?_
    refine q_callV (As := [.int (nI 2)]) (rest := []) B hP hD hS (c4_can l D cI cZ cP cJ o J Z (nI 2)) (cwV 1 B.hts gX4_look_X4_can rfl rfl rfl (by decide +kernel) ⟨(Nat.le_of_ble_eq_true rfl), (Nat.le_of_ble_eq_true rfl)⟩) 0 4 rfl rfl rfl rfl hl.1 rfl (Nat.le_of_ble_eq_true rfl) dX4_look_27 ⟨(Nat.le_of_ble_eq_true rfl), (Nat.le_of_ble_eq_true rfl)⟩ (fun E ce q9 H locs hx => False.elim hx) (fun v u H locs hp hP hD hS => ?_)
    obtain rfl := hp
    have hP : va_P D vwCl (mw cI cZ o (va_up J 30 (nI 2)) Z) H := hP
    have hD : va_D A (mw cI cZ o (va_up J 30 (nI 2)) Z) := hD
    refine q_top (v2 := .int (nI 0)) rfl ?_
    refine lv_if_ne (tgt := 35) B.hx B.hb dX4_look_30 (by decide) (fun c4 => absurd c4 (by decide)) (fun _ => ?_)
    refine lv_iconst (v := (nI 0)) B.hx B.hb dX4_look_33 (by decide) ?_
    have hK : kLook w = 2 := by simp [kLook, c2]
    exact q_zret B hr hP hD hS (by decide) (u := ()) (by rw [hK] <;> first | rfl | (simp only [if_true] <;> rfl)) (by rw [hK] <;> first | rfl | (simp only [if_true] <;> rfl)) (Nat.le_of_ble_eq_true rfl) (Nat.le_of_ble_eq_true rfl) dX4_look_34
set_option maxHeartbeats 4000000 in
set_option maxRecDepth 100000 in
theorem c4_copy (l : Launch) (D : va_G) (cI cZ cP cJ : ClassId) (o : Nat → Nat) (J : Nat → Int32) (Z : Nat → Nat → Int32) (n : Nat) (hn : J 5 = nI n) (hn8 : n ≤ 8) (j : Nat) (hj : j < n) (w : Nat) (hw : Z 21 j = nI w) (hw2 : w ≤ 128) (q : Nat) (hq : J 26 = nI q) (hq2 : q ≤ 30) (x : Int32) : q_C l yX4_copy wsX4_copy ({ frames := 2, cells := 0, slots := 0, locals := 43 }) D cI cZ cP cJ [.ref (o 0), .int (nI j), .int x] (mw cI cZ o J Z) (S := Unit) (fun v _ => v = some (.int (if kCopy x w q = 0 then nI q else nI 0))) (fun _ => mw cI cZ o (va_up (if kCopy x w q = 0 then (va_up J 26 (nI (q + 1))) else J) 30 (nI (kCopy x w q))) (if kCopy x w q = 0 then (va_up (va_up (va_up Z 27 (upd (Z 27) q (nI j))) 28 (upd (Z 28) q (vn w))) 29 (upd (Z 29) q x)) else Z)) (fun _ => False) 0 0 := by
  refine q_of (cc := cX4_copy) (maxL := 3) (ret := (some .int)) (by decide +kernel) rfl (Nat.le_of_ble_eq_true rfl) ?_
  intro p e s m below meth c A ls B hr htb hmn hP hD hS hl
  have hl : lv_has ls 3 [(0, .ref (o 0)), (1, .int (nI j)), (2, .int x)] := hl
  have hi4 : ∀ w ∈ u_ws RX4 TX4 31, w ∈ wsX4_copy := by decide +kernel
  have hj8 : j < 8 := by omega
  refine lv_aload_n B.hx B.hb dX4_copy_0 rfl (lv_at hl 0 rfl) ?_
  refine lv_aload_n B.hx B.hb dX4_copy_1 rfl (lv_at hl 0 rfl) ?_
  refine lv_iload_n B.hx B.hb dX4_copy_2 rfl (lv_at hl 1 rfl) ?_
  refine q_callV (As := [.int (nI j)]) (rest := [.ref (o 0)]) B hP hD hS (c4_isPaper l D cI cZ cP cJ o J Z n hn hn8 (nI j)) (cwV 1 B.hts gX4_copy_X4_isPaper rfl rfl rfl (by decide +kernel) ⟨(Nat.le_of_ble_eq_true rfl), (Nat.le_of_ble_eq_true rfl)⟩) 0 4 rfl rfl rfl rfl hl.1 rfl (Nat.le_of_ble_eq_true rfl) dX4_copy_3 ⟨(Nat.le_of_ble_eq_true rfl), (Nat.le_of_ble_eq_true rfl)⟩ (fun E ce q9 H locs hx => False.elim hx) (fun v u H locs hp hP hD hS => ?_)
  obtain rfl := hp
  have hP : va_P D vwCl (mw cI cZ o J Z) H := hP
  have hD : va_D A (mw cI cZ o J Z) := hD
  refine q_top (v2 := .int (nI 1)) (by rw [inr_nI (by omega) (by omega)]; rfl) ?_
  refine lv_if_ne (tgt := 13) B.hx B.hb dX4_copy_6 (by decide) (fun _ => ?_) (fun c1 => absurd c1 (by decide))
  refine lv_iload_n B.hx B.hb dX4_copy_13 rfl (lv_at hl 2 rfl) ?_
  refine lv_iconst (v := (nI 0)) B.hx B.hb dX4_copy_14 (by decide) ?_
  refine lv_bipush (v := (nI 9)) B.hx B.hb dX4_copy_15 (by decide) ?_
  refine q_callS (As := [.int x, .int (nI 0), .int (nI 9)]) (rest := [.ref (o 0)]) B hP hD hS ((c4_isIn l D cI cZ cP cJ x (nI 0) (nI 9)).fr0 (mw cI cZ o J Z)) (cwS 3 B.hts gX4_copy_X4_isIn rfl rfl rfl (by decide +kernel) ⟨(Nat.le_of_ble_eq_true rfl), (Nat.le_of_ble_eq_true rfl)⟩) rfl hl.1 rfl (Nat.le_of_ble_eq_true rfl) dX4_copy_17 ⟨(Nat.le_of_ble_eq_true rfl), (Nat.le_of_ble_eq_true rfl)⟩ (fun E ce q9 H locs hx => False.elim hx) (fun v u H locs hp hP hD hS => ?_)
  replace hp := bI2 hp
  rcases hp with ⟨rfl, hrg0⟩ | ⟨rfl, hrg0⟩
  · have hP : va_P D vwCl (mw cI cZ o J Z) H := hP
    have hD : va_D A (mw cI cZ o J Z) := hD
    refine lv_if_ne (tgt := 27) B.hx B.hb dX4_copy_20 (by decide) (fun _ => ?_) (fun c2 => absurd c2 (by decide))
    refine lv_aload_n B.hx B.hb dX4_copy_27 rfl (lv_at hl 0 rfl) ?_
    refine q_get B hP (C := RX4) (ref := "PaperKeeperModel") (T := TX4) (N := 31) (ci := 4) hi4 rfl 0 rfl 21 (by decide) (by decide +kernel) rfl (v := .ref (o 21)) rfl dX4_copy_28 ?_
    refine lv_iload_n B.hx B.hb dX4_copy_31 rfl (lv_at hl 1 rfl) ?_
    refine q_iald (f := (Z 21)) B hP 19 rfl (j := j) rfl (by omega) (by decide) dX4_copy_32 ?_
    refine q_top (v2 := .int (nI w)) (congrArg Value.int hw) ?_
    refine lv_if_eq (tgt := 45) B.hx B.hb dX4_copy_33 (by decide) (fun c3 => ?_) (fun c3 => ?_)
    · replace c3 := (nI_eq0 (by omega)).mp c3
      refine lv_iconst (v := (nI 3)) B.hx B.hb dX4_copy_45 (by decide) ?_
      refine lv_goto (tgt := 50) B.hx B.hb dX4_copy_46 (by decide) ?_
      refine q_callV (As := [.int (nI 3)]) (rest := []) B hP hD hS (c4_can l D cI cZ cP cJ o J Z (nI 3)) (cwV 1 B.hts gX4_copy_X4_can rfl rfl rfl (by decide +kernel) ⟨(Nat.le_of_ble_eq_true rfl), (Nat.le_of_ble_eq_true rfl)⟩) 0 4 rfl rfl rfl rfl hl.1 rfl (Nat.le_of_ble_eq_true rfl) dX4_copy_50 ⟨(Nat.le_of_ble_eq_true rfl), (Nat.le_of_ble_eq_true rfl)⟩ (fun E ce q9 H locs hx => False.elim hx) (fun v u H locs hp hP hD hS => ?_)
      obtain rfl := hp
      have hP : va_P D vwCl (mw cI cZ o (va_up J 30 (nI 3)) Z) H := hP
      have hD : va_D A (mw cI cZ o (va_up J 30 (nI 3)) Z) := hD
      refine q_top (v2 := .int (nI 0)) rfl ?_
      refine lv_if_ne (tgt := 58) B.hx B.hb dX4_copy_53 (by decide) (fun c4 => absurd c4 (by decide)) (fun _ => ?_)
      refine lv_iconst (v := (nI 0)) B.hx B.hb dX4_copy_56 (by decide) ?_
      have hK : kCopy x w q = 3 := by simp [kCopy, hrg0, c3] <;> omega
      exact q_iret B hr hP hD hS (u := ()) (by rw [hK] <;> first | rfl | (simp only [if_true] <;> rfl)) (by rw [hK] <;> first | rfl | (simp only [if_true] <;> rfl)) (Nat.le_of_ble_eq_true rfl) (Nat.le_of_ble_eq_true rfl) dX4_copy_57
    · replace c3 := mt (nI_eq0 (by omega)).mpr c3
      refine lv_aload_n B.hx B.hb dX4_copy_36 rfl (lv_at hl 0 rfl) ?_
      refine q_get B hP (C := RX4) (ref := "PaperKeeperModel") (T := TX4) (N := 31) (ci := 4) hi4 rfl 0 rfl 26 (by decide) (by decide +kernel) rfl (v := .int (J 26)) rfl dX4_copy_37 ?_
      refine q_top (v2 := .int (nI q)) (congrArg Value.int hq) ?_
      refine lv_bipush (v := (nI 30)) B.hx B.hb dX4_copy_40 (by decide) ?_
      refine lv_icmp_ne (tgt := 49) B.hx B.hb dX4_copy_42 (by decide) (fun c5 => ?_) (fun c5 => ?_)
      · replace c5 := mt (nI_eq (by omega) (by omega)).mpr c5
        refine lv_iconst (v := (nI 0)) B.hx B.hb dX4_copy_49 (by decide) ?_
        refine q_callV (As := [.int (nI 0)]) (rest := []) B hP hD hS (c4_can l D cI cZ cP cJ o J Z (nI 0)) (cwV 1 B.hts gX4_copy_X4_can rfl rfl rfl (by decide +kernel) ⟨(Nat.le_of_ble_eq_true rfl), (Nat.le_of_ble_eq_true rfl)⟩) 0 4 rfl rfl rfl rfl hl.1 rfl (Nat.le_of_ble_eq_true rfl) dX4_copy_50 ⟨(Nat.le_of_ble_eq_true rfl), (Nat.le_of_ble_eq_true rfl)⟩ (fun E ce q9 H locs hx => False.elim hx) (fun v u H locs hp hP hD hS => ?_)
        obtain rfl := hp
        have hP : va_P D vwCl (mw cI cZ o (va_up J 30 (nI 0)) Z) H := hP
        have hD : va_D A (mw cI cZ o (va_up J 30 (nI 0)) Z) := hD
        refine q_top (v2 := .int (nI 1)) rfl ?_
        refine lv_if_ne (tgt := 58) B.hx B.hb dX4_copy_53 (by decide) (fun _ => ?_) (fun c6 => absurd c6 (by decide))
        refine lv_aload_n B.hx B.hb dX4_copy_58 rfl (lv_at hl 0 rfl) ?_
        refine q_get B hP (C := RX4) (ref := "PaperKeeperModel") (T := TX4) (N := 31) (ci := 4) hi4 rfl 0 rfl 27 (by decide) (by decide +kernel) rfl (v := .ref (o 27)) rfl dX4_copy_59 ?_
        refine lv_aload_n B.hx B.hb dX4_copy_62 rfl (lv_at hl 0 rfl) ?_
        refine q_get B hP (C := RX4) (ref := "PaperKeeperModel") (T := TX4) (N := 31) (ci := 4) hi4 rfl 0 rfl 26 (by decide) (by decide +kernel) rfl (v := .int (J 26)) rfl dX4_copy_63 ?_
        refine q_top (v2 := .int (nI q)) (congrArg Value.int hq) ?_
        refine lv_iload_n B.hx B.hb dX4_copy_66 rfl (lv_at hl 1 rfl) ?_
        refine q_iast B hP hD hS 24 rfl (j := q) rfl (by omega) (by decide) dX4_copy_67 (w' := mw cI cZ o (va_up J 30 (nI 0)) (va_up Z 27 (upd (Z 27) q (nI j)))) rfl (fun H locs hP hD hS => ?_)
        refine lv_aload_n B.hx B.hb dX4_copy_68 rfl (lv_at hl 0 rfl) ?_
        refine q_get B hP (C := RX4) (ref := "PaperKeeperModel") (T := TX4) (N := 31) (ci := 4) hi4 rfl 0 rfl 28 (by decide) (by decide +kernel) rfl (v := .ref (o 28)) rfl dX4_copy_69 ?_
        refine lv_aload_n B.hx B.hb dX4_copy_72 rfl (lv_at hl 0 rfl) ?_
        refine q_get B hP (C := RX4) (ref := "PaperKeeperModel") (T := TX4) (N := 31) (ci := 4) hi4 rfl 0 rfl 26 (by decide) (by decide +kernel) rfl (v := .int (J 26)) rfl dX4_copy_73 ?_
        refine q_top (v2 := .int (nI q)) (congrArg Value.int hq) ?_
        refine lv_aload_n B.hx B.hb dX4_copy_76 rfl (lv_at hl 0 rfl) ?_
        refine q_get B hP (C := RX4) (ref := "PaperKeeperModel") (T := TX4) (N := 31) (ci := 4) hi4 rfl 0 rfl 21 (by decide) (by decide +kernel) rfl (v := .ref (o 21)) rfl dX4_copy_77 ?_
        refine lv_iload_n B.hx B.hb dX4_copy_80 rfl (lv_at hl 1 rfl) ?_
        refine q_iald (f := (Z 21)) B hP 19 rfl (j := j) rfl (by omega) (by decide) dX4_copy_81 ?_
        refine q_top (v2 := .int (nI w)) (congrArg Value.int hw) ?_
        refine lv_iconst (v := (nI 1)) B.hx B.hb dX4_copy_82 (by decide) ?_
        refine lv_isub B.hx B.hb dX4_copy_83 ?_
        refine q_top (v2 := .int (vn w)) (congrArg Value.int (vn_eq _)) ?_
        refine q_iast B hP hD hS 25 rfl (j := q) rfl (by omega) (by decide) dX4_copy_84 (w' := mw cI cZ o (va_up J 30 (nI 0)) (va_up (va_up Z 27 (upd (Z 27) q (nI j))) 28 (upd (Z 28) q (vn w)))) rfl (fun H locs hP hD hS => ?_)
        refine lv_aload_n B.hx B.hb dX4_copy_85 rfl (lv_at hl 0 rfl) ?_
        refine q_get B hP (C := RX4) (ref := "PaperKeeperModel") (T := TX4) (N := 31) (ci := 4) hi4 rfl 0 rfl 29 (by decide) (by decide +kernel) rfl (v := .ref (o 29)) rfl dX4_copy_86 ?_
        refine lv_aload_n B.hx B.hb dX4_copy_89 rfl (lv_at hl 0 rfl) ?_
        refine q_get B hP (C := RX4) (ref := "PaperKeeperModel") (T := TX4) (N := 31) (ci := 4) hi4 rfl 0 rfl 26 (by decide) (by decide +kernel) rfl (v := .int (J 26)) rfl dX4_copy_90 ?_
        refine q_top (v2 := .int (nI q)) (congrArg Value.int hq) ?_
        refine lv_iload_n B.hx B.hb dX4_copy_93 rfl (lv_at hl 2 rfl) ?_
        refine q_iast B hP hD hS 26 rfl (j := q) rfl (by omega) (by decide) dX4_copy_94 (w' := mw cI cZ o (va_up J 30 (nI 0)) (va_up (va_up (va_up Z 27 (upd (Z 27) q (nI j))) 28 (upd (Z 28) q (vn w))) 29 (upd (Z 29) q x))) rfl (fun H locs hP hD hS => ?_)
        refine lv_aload_n B.hx B.hb dX4_copy_95 rfl (lv_at hl 0 rfl) ?_
        refine lv_dup B.hx B.hb dX4_copy_96 rfl ?_
        refine q_get B hP (C := RX4) (ref := "PaperKeeperModel") (T := TX4) (N := 31) (ci := 4) hi4 rfl 0 rfl 26 (by decide) (by decide +kernel) rfl (v := .int (J 26)) rfl dX4_copy_97 ?_
        refine q_top (v2 := .int (nI q)) (congrArg Value.int hq) ?_
        refine lv_iconst (v := (nI 1)) B.hx B.hb dX4_copy_100 (by decide) ?_
        refine lv_iadd B.hx B.hb dX4_copy_101 ?_
        refine q_top (v2 := .int (nI ((q + 1)))) (congrArg Value.int (nI_add _ _)) ?_
        refine q_put B hP hD hS (C := RX4) (ref := "PaperKeeperModel") (T := TX4) (N := 31) (ci := 4) hi4 rfl tyX4 tyX4_ok nmX4 0 rfl 26 (by decide) (by decide +kernel) rfl rfl rfl (by rfl) (Nat.le_of_ble_eq_true rfl) dX4_copy_102 (w' := mw cI cZ o (va_up (va_up J 26 (nI ((q + 1)))) 30 (nI 0)) (va_up (va_up (va_up Z 27 (upd (Z 27) q (nI j))) 28 (upd (Z 28) q (vn w))) 29 (upd (Z 29) q x))) rfl (fun H locs hP hD hS => ?_)
        refine lv_aload_n B.hx B.hb dX4_copy_105 rfl (lv_at hl 0 rfl) ?_
        refine q_get B hP (C := RX4) (ref := "PaperKeeperModel") (T := TX4) (N := 31) (ci := 4) hi4 rfl 0 rfl 26 (by decide) (by decide +kernel) rfl (v := .int (nI ((q + 1)))) rfl dX4_copy_106 ?_
        refine lv_iconst (v := (nI 1)) B.hx B.hb dX4_copy_109 (by decide) ?_
        refine lv_isub B.hx B.hb dX4_copy_110 ?_
        refine q_top (v2 := .int (nI q)) (congrArg Value.int (nI_pred _)) ?_
        have hK : kCopy x w q = 0 := by simp [kCopy, hrg0, c3, c5] <;> omega
        exact q_iret B hr hP hD hS (u := ()) (by rw [hK] <;> first | rfl | (simp only [if_true] <;> rfl)) (by rw [hK] <;> first | rfl | (simp only [if_true] <;> rfl)) (Nat.le_of_ble_eq_true rfl) (Nat.le_of_ble_eq_true rfl) dX4_copy_111
      · replace c5 := (nI_eq (by omega) (by omega)).mp c5
        refine lv_iconst (v := (nI 3)) B.hx B.hb dX4_copy_45 (by decide) ?_
        refine lv_goto (tgt := 50) B.hx B.hb dX4_copy_46 (by decide) ?_
        refine q_callV (As := [.int (nI 3)]) (rest := []) B hP hD hS (c4_can l D cI cZ cP cJ o J Z (nI 3)) (cwV 1 B.hts gX4_copy_X4_can rfl rfl rfl (by decide +kernel) ⟨(Nat.le_of_ble_eq_true rfl), (Nat.le_of_ble_eq_true rfl)⟩) 0 4 rfl rfl rfl rfl hl.1 rfl (Nat.le_of_ble_eq_true rfl) dX4_copy_50 ⟨(Nat.le_of_ble_eq_true rfl), (Nat.le_of_ble_eq_true rfl)⟩ (fun E ce q9 H locs hx => False.elim hx) (fun v u H locs hp hP hD hS => ?_)
        obtain rfl := hp
        have hP : va_P D vwCl (mw cI cZ o (va_up J 30 (nI 3)) Z) H := hP
        have hD : va_D A (mw cI cZ o (va_up J 30 (nI 3)) Z) := hD
        refine q_top (v2 := .int (nI 0)) rfl ?_
        refine lv_if_ne (tgt := 58) B.hx B.hb dX4_copy_53 (by decide) (fun c7 => absurd c7 (by decide)) (fun _ => ?_)
        refine lv_iconst (v := (nI 0)) B.hx B.hb dX4_copy_56 (by decide) ?_
        have hK : kCopy x w q = 3 := by simp [kCopy, hrg0, c3, c5] <;> omega
        exact q_iret B hr hP hD hS (u := ()) (by rw [hK] <;> first | rfl | (simp only [if_true] <;> rfl)) (by rw [hK] <;> first | rfl | (simp only [if_true] <;> rfl)) (Nat.le_of_ble_eq_true rfl) (Nat.le_of_ble_eq_true rfl) dX4_copy_57
  · have hP : va_P D vwCl (mw cI cZ o J Z) H := hP
    have hD : va_D A (mw cI cZ o J Z) := hD
    refine lv_if_ne (tgt := 27) B.hx B.hb dX4_copy_20 (by decide) (fun c8 => absurd c8 (by decide)) (fun _ => ?_)
    refine lv_iconst (v := (nI 2)) B.hx B.hb dX4_copy_23 (by decide) ?_
    refine lv_goto (tgt := 50) B.hx B.hb dX4_copy_24 (by decide) ?_
    refine q_callV (As := [.int (nI 2)]) (rest := []) B hP hD hS (c4_can l D cI cZ cP cJ o J Z (nI 2)) (cwV 1 B.hts gX4_copy_X4_can rfl rfl rfl (by decide +kernel) ⟨(Nat.le_of_ble_eq_true rfl), (Nat.le_of_ble_eq_true rfl)⟩) 0 4 rfl rfl rfl rfl hl.1 rfl (Nat.le_of_ble_eq_true rfl) dX4_copy_50 ⟨(Nat.le_of_ble_eq_true rfl), (Nat.le_of_ble_eq_true rfl)⟩ (fun E ce q9 H locs hx => False.elim hx) (fun v u H locs hp hP hD hS => ?_)
    obtain rfl := hp
    have hP : va_P D vwCl (mw cI cZ o (va_up J 30 (nI 2)) Z) H := hP
    have hD : va_D A (mw cI cZ o (va_up J 30 (nI 2)) Z) := hD
    refine q_top (v2 := .int (nI 0)) rfl ?_
    refine lv_if_ne (tgt := 58) B.hx B.hb dX4_copy_53 (by decide) (fun c9 => absurd c9 (by decide)) (fun _ => ?_)
    refine lv_iconst (v := (nI 0)) B.hx B.hb dX4_copy_56 (by decide) ?_
    have hK : kCopy x w q = 2 := by simp [kCopy, hrg0] <;> omega
    exact q_iret B hr hP hD hS (u := ()) (by rw [hK] <;> first | rfl | (simp only [if_true] <;> rfl)) (by rw [hK] <;> first | rfl | (simp only [if_true] <;> rfl)) (Nat.le_of_ble_eq_true rfl) (Nat.le_of_ble_eq_true rfl) dX4_copy_57
set_option maxHeartbeats 4000000 in
set_option maxRecDepth 100000 in
theorem c4_takeDown (l : Launch) (D : va_G) (cI cZ cP cJ : ClassId) (o : Nat → Nat) (J : Nat → Int32) (Z : Nat → Nat → Int32) (n : Nat) (hn : J 5 = nI n) (hn8 : n ≤ 8) (q : Nat) (hq : J 26 = nI q) (hq2 : q ≤ 30) (x : Int32) : q_C l yX4_takeDown wsX4_takeDown ({ frames := 1, cells := 0, slots := 0, locals := 22 }) D cI cZ cP cJ [.ref (o 0), .int x] (mw cI cZ o J Z) (S := Unit) (fun v _ => v = some (.int (if kTakeDown x q (Z 29 (ix x)) = 0 then Z 29 (ix x) else nI 0))) (fun _ => mw cI cZ o (va_up J 30 (nI (kTakeDown x q (Z 29 (ix x))))) (if kTakeDown x q (Z 29 (ix x)) = 0 then (va_up Z 29 (upd (Z 29) (ix x) (-1))) else Z)) (fun _ => False) 0 0 := by
  refine q_of (cc := cX4_takeDown) (maxL := 3) (ret := (some .int)) (by decide +kernel) rfl (Nat.le_of_ble_eq_true rfl) ?_
  intro p e s m below meth c A ls B hr htb hmn hP hD hS hl
  have hl : lv_has ls 3 [(0, .ref (o 0)), (1, .int x)] := hl
  have hi4 : ∀ w ∈ u_ws RX4 TX4 31, w ∈ wsX4_takeDown := by decide +kernel
  refine lv_aload_n B.hx B.hb dX4_takeDown_0 rfl (lv_at hl 0 rfl) ?_
  refine lv_iload_n B.hx B.hb dX4_takeDown_1 rfl (lv_at hl 1 rfl) ?_
  refine lv_iconst (v := (nI 0)) B.hx B.hb dX4_takeDown_2 (by decide) ?_
  refine lv_aload_n B.hx B.hb dX4_takeDown_3 rfl (lv_at hl 0 rfl) ?_
  refine q_get B hP (C := RX4) (ref := "PaperKeeperModel") (T := TX4) (N := 31) (ci := 4) hi4 rfl 0 rfl 26 (by decide) (by decide +kernel) rfl (v := .int (J 26)) rfl dX4_takeDown_4 ?_
  refine q_top (v2 := .int (nI q)) (congrArg Value.int hq) ?_
  refine lv_iconst (v := (nI 1)) B.hx B.hb dX4_takeDown_7 (by decide) ?_
  refine lv_isub B.hx B.hb dX4_takeDown_8 ?_
  refine q_top (v2 := .int (vn q)) (congrArg Value.int (vn_eq _)) ?_
  refine q_callS (As := [.int x, .int (nI 0), .int (vn q)]) (rest := [.ref (o 0)]) B hP hD hS ((c4_isIn l D cI cZ cP cJ x (nI 0) (vn q)).fr0 (mw cI cZ o J Z)) (cwS 3 B.hts gX4_takeDown_X4_isIn rfl rfl rfl (by decide +kernel) ⟨(Nat.le_of_ble_eq_true rfl), (Nat.le_of_ble_eq_true rfl)⟩) rfl hl.1 rfl (Nat.le_of_ble_eq_true rfl) dX4_takeDown_9 ⟨(Nat.le_of_ble_eq_true rfl), (Nat.le_of_ble_eq_true rfl)⟩ (fun E ce q9 H locs hx => False.elim hx) (fun v u H locs hp hP hD hS => ?_)
  replace hp := bI2 hp
  rcases hp with ⟨rfl, hrg0⟩ | ⟨rfl, hrg0⟩
  · have hP : va_P D vwCl (mw cI cZ o J Z) H := hP
    have hD : va_D A (mw cI cZ o J Z) := hD
    rw [inr_vn (by omega)] at hrg0
    obtain ⟨jx, hjjx, rfl⟩ := inr_ex (by omega) hrg0
    have hixjx : ix (nI jx) = jx := ix_nI (by omega)
    refine lv_if_eq (tgt := 29) B.hx B.hb dX4_takeDown_12 (by decide) (fun c1 => absurd c1 (by decide)) (fun _ => ?_)
    refine lv_aload_n B.hx B.hb dX4_takeDown_15 rfl (lv_at hl 0 rfl) ?_
    refine q_get B hP (C := RX4) (ref := "PaperKeeperModel") (T := TX4) (N := 31) (ci := 4) hi4 rfl 0 rfl 29 (by decide) (by decide +kernel) rfl (v := .ref (o 29)) rfl dX4_takeDown_16 ?_
    refine lv_iload_n B.hx B.hb dX4_takeDown_19 rfl (lv_at hl 1 rfl) ?_
    refine q_iald (f := (Z 29)) B hP 26 rfl (j := jx) rfl (by omega) (by decide) dX4_takeDown_20 ?_
    refine lv_iconst (v := (-1)) B.hx B.hb dX4_takeDown_21 (by decide) ?_
    refine lv_icmp_eq (tgt := 29) B.hx B.hb dX4_takeDown_22 (by decide) (fun c2 => ?_) (fun c2 => ?_)
    · refine lv_iconst (v := (nI 1)) B.hx B.hb dX4_takeDown_29 (by decide) ?_
      refine q_callV (As := [.int (nI 1)]) (rest := []) B hP hD hS (c4_can l D cI cZ cP cJ o J Z (nI 1)) (cwV 1 B.hts gX4_takeDown_X4_can rfl rfl rfl (by decide +kernel) ⟨(Nat.le_of_ble_eq_true rfl), (Nat.le_of_ble_eq_true rfl)⟩) 0 4 rfl rfl rfl rfl hl.1 rfl (Nat.le_of_ble_eq_true rfl) dX4_takeDown_30 ⟨(Nat.le_of_ble_eq_true rfl), (Nat.le_of_ble_eq_true rfl)⟩ (fun E ce q9 H locs hx => False.elim hx) (fun v u H locs hp hP hD hS => ?_)
      obtain rfl := hp
      have hP : va_P D vwCl (mw cI cZ o (va_up J 30 (nI 1)) Z) H := hP
      have hD : va_D A (mw cI cZ o (va_up J 30 (nI 1)) Z) := hD
      refine q_top (v2 := .int (nI 0)) rfl ?_
      refine lv_if_ne (tgt := 38) B.hx B.hb dX4_takeDown_33 (by decide) (fun c3 => absurd c3 (by decide)) (fun _ => ?_)
      refine lv_iconst (v := (nI 0)) B.hx B.hb dX4_takeDown_36 (by decide) ?_
      have hK : kTakeDown (nI jx) q (Z 29 (ix (nI jx))) = 1 := by simp [kTakeDown, hrg0, c2, hixjx]
      exact q_iret B hr hP hD hS (u := ()) (by rw [hK] <;> first | rfl | (simp only [if_true, hixjx] <;> rfl)) (by rw [hK] <;> first | rfl | (simp only [if_true, hixjx] <;> rfl)) (Nat.le_of_ble_eq_true rfl) (Nat.le_of_ble_eq_true rfl) dX4_takeDown_37
    · refine lv_iconst (v := (nI 0)) B.hx B.hb dX4_takeDown_25 (by decide) ?_
      refine lv_goto (tgt := 30) B.hx B.hb dX4_takeDown_26 (by decide) ?_
      refine q_callV (As := [.int (nI 0)]) (rest := []) B hP hD hS (c4_can l D cI cZ cP cJ o J Z (nI 0)) (cwV 1 B.hts gX4_takeDown_X4_can rfl rfl rfl (by decide +kernel) ⟨(Nat.le_of_ble_eq_true rfl), (Nat.le_of_ble_eq_true rfl)⟩) 0 4 rfl rfl rfl rfl hl.1 rfl (Nat.le_of_ble_eq_true rfl) dX4_takeDown_30 ⟨(Nat.le_of_ble_eq_true rfl), (Nat.le_of_ble_eq_true rfl)⟩ (fun E ce q9 H locs hx => False.elim hx) (fun v u H locs hp hP hD hS => ?_)
      obtain rfl := hp
      have hP : va_P D vwCl (mw cI cZ o (va_up J 30 (nI 0)) Z) H := hP
      have hD : va_D A (mw cI cZ o (va_up J 30 (nI 0)) Z) := hD
      refine q_top (v2 := .int (nI 1)) rfl ?_
      refine lv_if_ne (tgt := 38) B.hx B.hb dX4_takeDown_33 (by decide) (fun _ => ?_) (fun c4 => absurd c4 (by decide))
      refine lv_aload_n B.hx B.hb dX4_takeDown_38 rfl (lv_at hl 0 rfl) ?_
      refine q_get B hP (C := RX4) (ref := "PaperKeeperModel") (T := TX4) (N := 31) (ci := 4) hi4 rfl 0 rfl 29 (by decide) (by decide +kernel) rfl (v := .ref (o 29)) rfl dX4_takeDown_39 ?_
      refine lv_iload_n B.hx B.hb dX4_takeDown_42 rfl (lv_at hl 1 rfl) ?_
      refine q_iald (f := (Z 29)) B hP 26 rfl (j := jx) rfl (by omega) (by decide) dX4_takeDown_43 ?_
      refine lv_istore_n (lv' := [(2, .int ((Z 29) jx)), (0, .ref (o 0)), (1, .int (nI jx))]) B.hx B.hb dX4_takeDown_44 rfl hl (by decide) rfl (fun ls hl => ?_)
      refine lv_aload_n B.hx B.hb dX4_takeDown_45 rfl (lv_at hl 1 rfl) ?_
      refine q_get B hP (C := RX4) (ref := "PaperKeeperModel") (T := TX4) (N := 31) (ci := 4) hi4 rfl 0 rfl 29 (by decide) (by decide +kernel) rfl (v := .ref (o 29)) rfl dX4_takeDown_46 ?_
      refine lv_iload_n B.hx B.hb dX4_takeDown_49 rfl (lv_at hl 2 rfl) ?_
      refine lv_iconst (v := (-1)) B.hx B.hb dX4_takeDown_50 (by decide) ?_
      refine q_iast B hP hD hS 26 rfl (j := jx) rfl (by omega) (by decide) dX4_takeDown_51 (w' := mw cI cZ o (va_up J 30 (nI 0)) (va_up Z 29 (upd (Z 29) jx (-1)))) rfl (fun H locs hP hD hS => ?_)
      refine lv_iload_n B.hx B.hb dX4_takeDown_52 rfl (lv_at hl 0 rfl) ?_
      have hK : kTakeDown (nI jx) q (Z 29 (ix (nI jx))) = 0 := by simp [kTakeDown, hrg0, c2, hixjx]
      exact q_iret B hr hP hD hS (u := ()) (by rw [hK] <;> first | rfl | (simp only [if_true, hixjx] <;> rfl)) (by rw [hK] <;> first | rfl | (simp only [if_true, hixjx] <;> rfl)) (Nat.le_of_ble_eq_true rfl) (Nat.le_of_ble_eq_true rfl) dX4_takeDown_53
  · have hP : va_P D vwCl (mw cI cZ o J Z) H := hP
    have hD : va_D A (mw cI cZ o J Z) := hD
    rw [inr_vn (by omega)] at hrg0
    refine lv_if_eq (tgt := 29) B.hx B.hb dX4_takeDown_12 (by decide) (fun _ => ?_) (fun c5 => absurd c5 (by decide))
    refine lv_iconst (v := (nI 1)) B.hx B.hb dX4_takeDown_29 (by decide) ?_
    refine q_callV (As := [.int (nI 1)]) (rest := []) B hP hD hS (c4_can l D cI cZ cP cJ o J Z (nI 1)) (cwV 1 B.hts gX4_takeDown_X4_can rfl rfl rfl (by decide +kernel) ⟨(Nat.le_of_ble_eq_true rfl), (Nat.le_of_ble_eq_true rfl)⟩) 0 4 rfl rfl rfl rfl hl.1 rfl (Nat.le_of_ble_eq_true rfl) dX4_takeDown_30 ⟨(Nat.le_of_ble_eq_true rfl), (Nat.le_of_ble_eq_true rfl)⟩ (fun E ce q9 H locs hx => False.elim hx) (fun v u H locs hp hP hD hS => ?_)
    obtain rfl := hp
    have hP : va_P D vwCl (mw cI cZ o (va_up J 30 (nI 1)) Z) H := hP
    have hD : va_D A (mw cI cZ o (va_up J 30 (nI 1)) Z) := hD
    refine q_top (v2 := .int (nI 0)) rfl ?_
    refine lv_if_ne (tgt := 38) B.hx B.hb dX4_takeDown_33 (by decide) (fun c6 => absurd c6 (by decide)) (fun _ => ?_)
    refine lv_iconst (v := (nI 0)) B.hx B.hb dX4_takeDown_36 (by decide) ?_
    have hK : kTakeDown x q (Z 29 (ix x)) = 1 := by simp [kTakeDown, hrg0]
    exact q_iret B hr hP hD hS (u := ()) (by rw [hK] <;> first | rfl | (simp only [if_true] <;> rfl)) (by rw [hK] <;> first | rfl | (simp only [if_true] <;> rfl)) (Nat.le_of_ble_eq_true rfl) (Nat.le_of_ble_eq_true rfl) dX4_takeDown_37
set_option maxHeartbeats 4000000 in
set_option maxRecDepth 100000 in
theorem c4_isAsked (l : Launch) (D : va_G) (cI cZ cP cJ : ClassId) (o : Nat → Nat) (J : Nat → Int32) (Z : Nat → Nat → Int32) (n : Nat) (hn : J 5 = nI n) (hn8 : n ≤ 8) (j : Nat) (hj : j < n) : q_C l yX4_isAsked wsX4_isAsked ({ frames := 2, cells := 0, slots := 0, locals := 43 }) D cI cZ cP cJ [.ref (o 0), .int (nI j)] (mw cI cZ o J Z) (S := Unit) (fun v _ => v = some (.int (nI 1))) (fun _ => mw cI cZ o (va_up J 30 (nI 0)) Z) (fun _ => False) 0 0 := by
  refine q_of (cc := cX4_isAsked) (maxL := 2) (ret := (some .boolean)) (by decide +kernel) rfl (Nat.le_of_ble_eq_true rfl) ?_
  intro p e s m below meth c A ls B hr htb hmn hP hD hS hl
  have hl : lv_has ls 2 [(0, .ref (o 0)), (1, .int (nI j))] := hl
  have hj8 : j < 8 := by omega
  refine lv_aload_n B.hx B.hb dX4_isAsked_0 rfl (lv_at hl 0 rfl) ?_
  refine lv_aload_n B.hx B.hb dX4_isAsked_1 rfl (lv_at hl 0 rfl) ?_
  refine lv_iload_n B.hx B.hb dX4_isAsked_2 rfl (lv_at hl 1 rfl) ?_
  refine q_callV (As := [.int (nI j)]) (rest := [.ref (o 0)]) B hP hD hS (c4_isPaper l D cI cZ cP cJ o J Z n hn hn8 (nI j)) (cwV 1 B.hts gX4_isAsked_X4_isPaper rfl rfl rfl (by decide +kernel) ⟨(Nat.le_of_ble_eq_true rfl), (Nat.le_of_ble_eq_true rfl)⟩) 0 4 rfl rfl rfl rfl hl.1 rfl (Nat.le_of_ble_eq_true rfl) dX4_isAsked_3 ⟨(Nat.le_of_ble_eq_true rfl), (Nat.le_of_ble_eq_true rfl)⟩ (fun E ce q9 H locs hx => False.elim hx) (fun v u H locs hp hP hD hS => ?_)
  obtain rfl := hp
  have hP : va_P D vwCl (mw cI cZ o J Z) H := hP
  have hD : va_D A (mw cI cZ o J Z) := hD
  refine q_top (v2 := .int (nI 1)) (by rw [inr_nI (by omega) (by omega)]; rfl) ?_
  refine lv_if_eq (tgt := 13) B.hx B.hb dX4_isAsked_6 (by decide) (fun c1 => absurd c1 (by decide)) (fun _ => ?_)
  refine lv_iconst (v := (nI 0)) B.hx B.hb dX4_isAsked_9 (by decide) ?_
  refine lv_goto (tgt := 14) B.hx B.hb dX4_isAsked_10 (by decide) ?_
  refine q_callV (As := [.int (nI 0)]) (rest := []) B hP hD hS (c4_can l D cI cZ cP cJ o J Z (nI 0)) (cwV 1 B.hts gX4_isAsked_X4_can rfl rfl rfl (by decide +kernel) ⟨(Nat.le_of_ble_eq_true rfl), (Nat.le_of_ble_eq_true rfl)⟩) 0 4 rfl rfl rfl rfl hl.1 rfl (Nat.le_of_ble_eq_true rfl) dX4_isAsked_14 ⟨(Nat.le_of_ble_eq_true rfl), (Nat.le_of_ble_eq_true rfl)⟩ (fun E ce q9 H locs hx => False.elim hx) (fun v u H locs hp hP hD hS => ?_)
  obtain rfl := hp
  have hP : va_P D vwCl (mw cI cZ o (va_up J 30 (nI 0)) Z) H := hP
  have hD : va_D A (mw cI cZ o (va_up J 30 (nI 0)) Z) := hD
  refine q_top (v2 := .int (nI 1)) rfl ?_
  exact q_zret B hr hP hD hS (by decide) (u := ()) rfl rfl (Nat.le_of_ble_eq_true rfl) (Nat.le_of_ble_eq_true rfl) dX4_isAsked_17
set_option maxHeartbeats 4000000 in
set_option maxRecDepth 100000 in
theorem c4_isAsked_no (l : Launch) (D : va_G) (cI cZ cP cJ : ClassId) (o : Nat → Nat) (J : Nat → Int32) (Z : Nat → Nat → Int32) (n : Nat) (hn : J 5 = nI n) (hn8 : n ≤ 8) (x : Int32) (hno : inr x n = false) : q_C l yX4_isAsked wsX4_isAsked ({ frames := 2, cells := 0, slots := 0, locals := 43 }) D cI cZ cP cJ [.ref (o 0), .int x] (mw cI cZ o J Z) (S := Unit) (fun v _ => v = some (.int (nI 0))) (fun _ => mw cI cZ o (va_up J 30 (nI 1)) Z) (fun _ => False) 0 0 := by
  refine q_of (cc := cX4_isAsked) (maxL := 2) (ret := (some .boolean)) (by decide +kernel) rfl (Nat.le_of_ble_eq_true rfl) ?_
  intro p e s m below meth c A ls B hr htb hmn hP hD hS hl
  have hl : lv_has ls 2 [(0, .ref (o 0)), (1, .int x)] := hl
  refine lv_aload_n B.hx B.hb dX4_isAsked_0 rfl (lv_at hl 0 rfl) ?_
  refine lv_aload_n B.hx B.hb dX4_isAsked_1 rfl (lv_at hl 0 rfl) ?_
  refine lv_iload_n B.hx B.hb dX4_isAsked_2 rfl (lv_at hl 1 rfl) ?_
  refine q_callV (As := [.int x]) (rest := [.ref (o 0)]) B hP hD hS (c4_isPaper l D cI cZ cP cJ o J Z n hn hn8 x) (cwV 1 B.hts gX4_isAsked_X4_isPaper rfl rfl rfl (by decide +kernel) ⟨(Nat.le_of_ble_eq_true rfl), (Nat.le_of_ble_eq_true rfl)⟩) 0 4 rfl rfl rfl rfl hl.1 rfl (Nat.le_of_ble_eq_true rfl) dX4_isAsked_3 ⟨(Nat.le_of_ble_eq_true rfl), (Nat.le_of_ble_eq_true rfl)⟩ (fun E ce q9 H locs hx => False.elim hx) (fun v u H locs hp hP hD hS => ?_)
  obtain rfl := hp
  have hP : va_P D vwCl (mw cI cZ o J Z) H := hP
  have hD : va_D A (mw cI cZ o J Z) := hD
  refine q_top (v2 := .int (nI 0)) (by rw [hno]; rfl) ?_
  refine lv_if_eq (tgt := 13) B.hx B.hb dX4_isAsked_6 (by decide) (fun _ => ?_) (fun c1 => absurd c1 (by decide))
  refine lv_iconst (v := (nI 1)) B.hx B.hb dX4_isAsked_13 (by decide) ?_
  refine q_callV (As := [.int (nI 1)]) (rest := []) B hP hD hS (c4_can l D cI cZ cP cJ o J Z (nI 1)) (cwV 1 B.hts gX4_isAsked_X4_can rfl rfl rfl (by decide +kernel) ⟨(Nat.le_of_ble_eq_true rfl), (Nat.le_of_ble_eq_true rfl)⟩) 0 4 rfl rfl rfl rfl hl.1 rfl (Nat.le_of_ble_eq_true rfl) dX4_isAsked_14 ⟨(Nat.le_of_ble_eq_true rfl), (Nat.le_of_ble_eq_true rfl)⟩ (fun E ce q9 H locs hx => False.elim hx) (fun v u H locs hp hP hD hS => ?_)
  obtain rfl := hp
  have hP : va_P D vwCl (mw cI cZ o (va_up J 30 (nI 1)) Z) H := hP
  have hD : va_D A (mw cI cZ o (va_up J 30 (nI 1)) Z) := hD
  refine q_top (v2 := .int (nI 0)) rfl ?_
  exact q_zret B hr hP hD hS (by decide) (u := ()) rfl rfl (Nat.le_of_ble_eq_true rfl) (Nat.le_of_ble_eq_true rfl) dX4_isAsked_17
set_option maxHeartbeats 4000000 in
set_option maxRecDepth 100000 in
theorem c4_isDue (l : Launch) (D : va_G) (cI cZ cP cJ : ClassId) (o : Nat → Nat) (J : Nat → Int32) (Z : Nat → Nat → Int32) (n : Nat) (hn : J 5 = nI n) (hn8 : n ≤ 8) (j : Nat) (hj : j < n) (w : Nat) (hw : Z 21 j = nI w) (hw2 : w ≤ 128) : q_C l yX4_isDue wsX4_isDue ({ frames := 3, cells := 0, slots := 0, locals := 64 }) D cI cZ cP cJ [.ref (o 0), .int (nI j)] (mw cI cZ o J Z) (S := Unit) (fun v _ => v = some (.int (nl w (Z 24 j) (J 0) (Z 25 j) (J 1)))) (fun _ => mw cI cZ o (va_up J 30 (nI 0)) Z) (fun _ => False) 0 0 := by
  refine q_of (cc := cX4_isDue) (maxL := 2) (ret := (some .boolean)) (by decide +kernel) rfl (Nat.le_of_ble_eq_true rfl) ?_
  intro p e s m below meth c A ls B hr htb hmn hP hD hS hl
  have hl : lv_has ls 2 [(0, .ref (o 0)), (1, .int (nI j))] := hl
  have hj8 : j < 8 := by omega
  refine lv_aload_n B.hx B.hb dX4_isDue_0 rfl (lv_at hl 0 rfl) ?_
  refine lv_iload_n B.hx B.hb dX4_isDue_1 rfl (lv_at hl 1 rfl) ?_
  refine q_callV (As := [.int (nI j)]) (rest := []) B hP hD hS (c4_isAsked l D cI cZ cP cJ o J Z n hn hn8 j hj) (cwV 1 B.hts gX4_isDue_X4_isAsked rfl rfl rfl (by decide +kernel) ⟨(Nat.le_of_ble_eq_true rfl), (Nat.le_of_ble_eq_true rfl)⟩) 0 4 rfl rfl rfl rfl hl.1 rfl (Nat.le_of_ble_eq_true rfl) dX4_isDue_2 ⟨(Nat.le_of_ble_eq_true rfl), (Nat.le_of_ble_eq_true rfl)⟩ (fun E ce q9 H locs hx => False.elim hx) (fun v u H locs hp hP hD hS => ?_)
  obtain rfl := hp
  have hP : va_P D vwCl (mw cI cZ o (va_up J 30 (nI 0)) Z) H := hP
  have hD : va_D A (mw cI cZ o (va_up J 30 (nI 0)) Z) := hD
  refine lv_if_eq (tgt := 20) B.hx B.hb dX4_isDue_5 (by decide) (fun c1 => absurd c1 (by decide)) (fun _ => ?_)
  refine lv_aload_n B.hx B.hb dX4_isDue_8 rfl (lv_at hl 0 rfl) ?_
  refine lv_iload_n B.hx B.hb dX4_isDue_9 rfl (lv_at hl 1 rfl) ?_
  refine q_callV (As := [.int (nI j)]) (rest := []) B hP hD hS (c4_falls l D cI cZ cP cJ o (va_up J 30 (nI 0)) Z j hj8 w hw hw2) (cwV 1 B.hts gX4_isDue_X4_falls rfl rfl rfl (by decide +kernel) ⟨(Nat.le_of_ble_eq_true rfl), (Nat.le_of_ble_eq_true rfl)⟩) 0 4 rfl rfl rfl rfl hl.1 rfl (Nat.le_of_ble_eq_true rfl) dX4_isDue_10 ⟨(Nat.le_of_ble_eq_true rfl), (Nat.le_of_ble_eq_true rfl)⟩ (fun E ce q9 H locs hx => False.elim hx) (fun v u H locs hp hP hD hS => ?_)
  obtain rfl := hp
  have hP : va_P D vwCl (mw cI cZ o (va_up J 30 (nI 0)) Z) H := hP
  have hD : va_D A (mw cI cZ o (va_up J 30 (nI 0)) Z) := hD
  refine lv_if_eq (tgt := 20) B.hx B.hb dX4_isDue_13 (by decide) (fun c2 => ?_) (fun c2 => ?_)
  · refine lv_iconst (v := (nI 0)) B.hx B.hb dX4_isDue_20 (by decide) ?_
    exact q_zret B hr hP hD hS (by decide) (u := ()) rfl (congrArg (fun z => some (Value.int z)) (nl_0 c2)) (Nat.le_of_ble_eq_true rfl) (Nat.le_of_ble_eq_true rfl) dX4_isDue_21
  · refine lv_iconst (v := (nI 1)) B.hx B.hb dX4_isDue_16 (by decide) ?_
    refine lv_goto (tgt := 21) B.hx B.hb dX4_isDue_17 (by decide) ?_
    exact q_zret B hr hP hD hS (by decide) (u := ()) rfl (congrArg (fun z => some (Value.int z)) (nl_1 c2)) (Nat.le_of_ble_eq_true rfl) (Nat.le_of_ble_eq_true rfl) dX4_isDue_21
set_option maxHeartbeats 4000000 in
set_option maxRecDepth 100000 in
theorem c4_outOfDate (l : Launch) (D : va_G) (cI cZ cP cJ : ClassId) (o : Nat → Nat) (J : Nat → Int32) (Z : Nat → Nat → Int32) (n : Nat) (hn : J 5 = nI n) (hn8 : n ≤ 8) (j : Nat) (hj : j < n) (w : Nat) (hw : Z 21 j = nI w) (hw2 : w ≤ 128) (q : Nat) (hq : J 26 = nI q) (hq2 : q ≤ 30) : q_C l yX4_outOfDate wsX4_outOfDate ({ frames := 3, cells := 0, slots := 0, locals := 64 }) D cI cZ cP cJ [.ref (o 0), .int (nI j)] (mw cI cZ o J Z) (S := Unit) (fun v _ => v = some (.int (nI (pN (fun i => decide (¬ Z 29 i = -1) && decide (Z 27 i = nI j) && decide (¬ Z 28 i = vn w)) q)))) (fun _ => mw cI cZ o (va_up J 30 (nI 0)) Z) (fun _ => False) 0 0 := by
  refine q_of (cc := cX4_outOfDate) (maxL := 4) (ret := (some .int)) (by decide +kernel) rfl (Nat.le_of_ble_eq_true rfl) ?_
  intro p e s m below meth c A ls B hr htb hmn hP hD hS hl
  have hl : lv_has ls 4 [(0, .ref (o 0)), (1, .int (nI j))] := hl
  have hi4 : ∀ w ∈ u_ws RX4 TX4 31, w ∈ wsX4_outOfDate := by decide +kernel
  have hj8 : j < 8 := by omega
  refine lv_aload_n B.hx B.hb dX4_outOfDate_0 rfl (lv_at hl 0 rfl) ?_
  refine lv_iload_n B.hx B.hb dX4_outOfDate_1 rfl (lv_at hl 1 rfl) ?_
  refine q_callV (As := [.int (nI j)]) (rest := []) B hP hD hS (c4_isAsked l D cI cZ cP cJ o J Z n hn hn8 j hj) (cwV 1 B.hts gX4_outOfDate_X4_isAsked rfl rfl rfl (by decide +kernel) ⟨(Nat.le_of_ble_eq_true rfl), (Nat.le_of_ble_eq_true rfl)⟩) 0 4 rfl rfl rfl rfl hl.1 rfl (Nat.le_of_ble_eq_true rfl) dX4_outOfDate_2 ⟨(Nat.le_of_ble_eq_true rfl), (Nat.le_of_ble_eq_true rfl)⟩ (fun E ce q9 H locs hx => False.elim hx) (fun v u H locs hp hP hD hS => ?_)
  obtain rfl := hp
  have hP : va_P D vwCl (mw cI cZ o (va_up J 30 (nI 0)) Z) H := hP
  have hD : va_D A (mw cI cZ o (va_up J 30 (nI 0)) Z) := hD
  refine lv_if_ne (tgt := 10) B.hx B.hb dX4_outOfDate_5 (by decide) (fun _ => ?_) (fun c1 => absurd c1 (by decide))
  refine lv_iconst (v := (nI 0)) B.hx B.hb dX4_outOfDate_10 (by decide) ?_
  refine lv_istore_n (lv' := [(2, .int (nI 0)), (0, .ref (o 0)), (1, .int (nI j))]) B.hx B.hb dX4_outOfDate_11 rfl hl (by decide) rfl (fun ls hl => ?_)
  refine lv_iconst (v := (nI 0)) B.hx B.hb dX4_outOfDate_12 (by decide) ?_
  refine lv_istore_n (lv' := [(3, .int (nI 0)), (2, .int (nI 0)), (0, .ref (o 0)), (1, .int (nI j))]) B.hx B.hb dX4_outOfDate_13 rfl hl (by decide) rfl (fun ls hl => ?_)
  refine q_loop (nL := 4) (fun i : Nat => i ≤ q) (fun i : Nat => q - i) (fun i : Nat => [(3, .int (nI i)), (2, .int (nI (pN (fun i => decide (¬ Z 29 i = -1) && decide (Z 27 i = nI j) && decide (¬ Z 28 i = vn w)) i))), (0, .ref (o 0)), (1, .int (nI j))]) (0) (Nat.zero_le _) (lv_sub hl [0, 1, 2, 3] rfl) ?_
  intro i2 hI3 ih4 ls hl
  have hI3 : i2 ≤ q := hI3
  have hl : lv_has ls 4 [(3, .int (nI i2)), (2, .int (nI (pN (fun i => decide (¬ Z 29 i = -1) && decide (Z 27 i = nI j) && decide (¬ Z 28 i = vn w)) i2))), (0, .ref (o 0)), (1, .int (nI j))] := hl
  refine lv_iload_n B.hx B.hb dX4_outOfDate_14 rfl (lv_at hl 0 rfl) ?_
  refine lv_aload_n B.hx B.hb dX4_outOfDate_15 rfl (lv_at hl 2 rfl) ?_
  refine q_get B hP (C := RX4) (ref := "PaperKeeperModel") (T := TX4) (N := 31) (ci := 4) hi4 rfl 0 rfl 26 (by decide) (by decide +kernel) rfl (v := .int (J 26)) rfl dX4_outOfDate_16 ?_
  refine q_top (v2 := .int (nI q)) (congrArg Value.int hq) ?_
  refine lv_icmp_ge (tgt := 73) B.hx B.hb dX4_outOfDate_19 (by decide) (fun c5 => ?_) (fun c5 => ?_)
  · replace c5 := (nI_leI (by omega) (by omega)).mp c5
    refine lv_iload_n B.hx B.hb dX4_outOfDate_73 rfl (lv_at hl 1 rfl) ?_
    exact q_iret B hr hP hD hS (u := ()) rfl (by rw [show q = i2 by omega]) (Nat.le_of_ble_eq_true rfl) (Nat.le_of_ble_eq_true rfl) dX4_outOfDate_74
  · replace c5 := mt (nI_leI (by omega) (by omega)).mpr c5
    refine lv_iload_n B.hx B.hb dX4_outOfDate_22 rfl (lv_at hl 1 rfl) ?_
    refine lv_aload_n B.hx B.hb dX4_outOfDate_23 rfl (lv_at hl 2 rfl) ?_
    refine q_get B hP (C := RX4) (ref := "PaperKeeperModel") (T := TX4) (N := 31) (ci := 4) hi4 rfl 0 rfl 29 (by decide) (by decide +kernel) rfl (v := .ref (o 29)) rfl dX4_outOfDate_24 ?_
    refine lv_iload_n B.hx B.hb dX4_outOfDate_27 rfl (lv_at hl 0 rfl) ?_
    refine q_iald (f := (Z 29)) B hP 26 rfl (j := i2) rfl (by omega) (by decide) dX4_outOfDate_28 ?_
    refine lv_iconst (v := (-1)) B.hx B.hb dX4_outOfDate_29 (by decide) ?_
    refine lv_icmp_eq (tgt := 64) B.hx B.hb dX4_outOfDate_30 (by decide) (fun c6 => ?_) (fun c6 => ?_)
    · refine lv_iconst (v := (nI 0)) B.hx B.hb dX4_outOfDate_64 (by decide) ?_
      refine lv_iadd B.hx B.hb dX4_outOfDate_65 ?_
      refine q_top (v2 := .int (nI ((pN (fun i => decide (¬ Z 29 i = -1) && decide (Z 27 i = nI j) && decide (¬ Z 28 i = vn w)) i2 + 0)))) (congrArg Value.int (nI_add _ _)) ?_
      refine q_top (v2 := .int (nI (pN (fun i => decide (¬ Z 29 i = -1) && decide (Z 27 i = nI j) && decide (¬ Z 28 i = vn w)) (i2 + 1)))) (by rw [pN_no (ok := (fun i => decide (¬ Z 29 i = -1) && decide (Z 27 i = nI j) && decide (¬ Z 28 i = vn w))) (i := i2) (by simp [c6])]; rfl) ?_
      refine lv_istore_n (lv' := [(2, .int (nI (pN (fun i => decide (¬ Z 29 i = -1) && decide (Z 27 i = nI j) && decide (¬ Z 28 i = vn w)) (i2 + 1)))), (3, .int (nI i2)), (0, .ref (o 0)), (1, .int (nI j))]) B.hx B.hb dX4_outOfDate_66 rfl hl (by decide) rfl (fun ls hl => ?_)
      refine lv_iinc (v := (nI ((i2 + 1)))) (lv' := [(3, .int (nI ((i2 + 1)))), (2, .int (nI (pN (fun i => decide (¬ Z 29 i = -1) && decide (Z 27 i = nI j) && decide (¬ Z 28 i = vn w)) (i2 + 1)))), (0, .ref (o 0)), (1, .int (nI j))]) B.hx B.hb dX4_outOfDate_67 hl (k := 1) rfl (nI_1 _) (by decide) rfl (fun ls hl => ?_)
      refine lv_goto (tgt := 14) B.hx B.hb dX4_outOfDate_70 (by decide) ?_
      exact ih4 (i2 + 1) (by omega) (by omega) ls (lv_sub hl [0, 1, 2, 3] rfl)
    · refine lv_aload_n B.hx B.hb dX4_outOfDate_33 rfl (lv_at hl 2 rfl) ?_
      refine q_get B hP (C := RX4) (ref := "PaperKeeperModel") (T := TX4) (N := 31) (ci := 4) hi4 rfl 0 rfl 27 (by decide) (by decide +kernel) rfl (v := .ref (o 27)) rfl dX4_outOfDate_34 ?_
      refine lv_iload_n B.hx B.hb dX4_outOfDate_37 rfl (lv_at hl 0 rfl) ?_
      refine q_iald (f := (Z 27)) B hP 24 rfl (j := i2) rfl (by omega) (by decide) dX4_outOfDate_38 ?_
      refine lv_iload_n B.hx B.hb dX4_outOfDate_39 rfl (lv_at hl 3 rfl) ?_
      refine lv_icmp_ne (tgt := 64) B.hx B.hb dX4_outOfDate_40 (by decide) (fun c7 => ?_) (fun c7 => ?_)
      · refine lv_iconst (v := (nI 0)) B.hx B.hb dX4_outOfDate_64 (by decide) ?_
        refine lv_iadd B.hx B.hb dX4_outOfDate_65 ?_
        refine q_top (v2 := .int (nI ((pN (fun i => decide (¬ Z 29 i = -1) && decide (Z 27 i = nI j) && decide (¬ Z 28 i = vn w)) i2 + 0)))) (congrArg Value.int (nI_add _ _)) ?_
        refine q_top (v2 := .int (nI (pN (fun i => decide (¬ Z 29 i = -1) && decide (Z 27 i = nI j) && decide (¬ Z 28 i = vn w)) (i2 + 1)))) (by rw [pN_no (ok := (fun i => decide (¬ Z 29 i = -1) && decide (Z 27 i = nI j) && decide (¬ Z 28 i = vn w))) (i := i2) (by simp [c6, c7])]; rfl) ?_
        refine lv_istore_n (lv' := [(2, .int (nI (pN (fun i => decide (¬ Z 29 i = -1) && decide (Z 27 i = nI j) && decide (¬ Z 28 i = vn w)) (i2 + 1)))), (3, .int (nI i2)), (0, .ref (o 0)), (1, .int (nI j))]) B.hx B.hb dX4_outOfDate_66 rfl hl (by decide) rfl (fun ls hl => ?_)
        refine lv_iinc (v := (nI ((i2 + 1)))) (lv' := [(3, .int (nI ((i2 + 1)))), (2, .int (nI (pN (fun i => decide (¬ Z 29 i = -1) && decide (Z 27 i = nI j) && decide (¬ Z 28 i = vn w)) (i2 + 1)))), (0, .ref (o 0)), (1, .int (nI j))]) B.hx B.hb dX4_outOfDate_67 hl (k := 1) rfl (nI_1 _) (by decide) rfl (fun ls hl => ?_)
        refine lv_goto (tgt := 14) B.hx B.hb dX4_outOfDate_70 (by decide) ?_
        exact ih4 (i2 + 1) (by omega) (by omega) ls (lv_sub hl [0, 1, 2, 3] rfl)
      · refine lv_aload_n B.hx B.hb dX4_outOfDate_43 rfl (lv_at hl 2 rfl) ?_
        refine q_get B hP (C := RX4) (ref := "PaperKeeperModel") (T := TX4) (N := 31) (ci := 4) hi4 rfl 0 rfl 28 (by decide) (by decide +kernel) rfl (v := .ref (o 28)) rfl dX4_outOfDate_44 ?_
        refine lv_iload_n B.hx B.hb dX4_outOfDate_47 rfl (lv_at hl 0 rfl) ?_
        refine q_iald (f := (Z 28)) B hP 25 rfl (j := i2) rfl (by omega) (by decide) dX4_outOfDate_48 ?_
        refine lv_aload_n B.hx B.hb dX4_outOfDate_49 rfl (lv_at hl 2 rfl) ?_
        refine q_get B hP (C := RX4) (ref := "PaperKeeperModel") (T := TX4) (N := 31) (ci := 4) hi4 rfl 0 rfl 21 (by decide) (by decide +kernel) rfl (v := .ref (o 21)) rfl dX4_outOfDate_50 ?_
        refine lv_iload_n B.hx B.hb dX4_outOfDate_53 rfl (lv_at hl 3 rfl) ?_
        refine q_iald (f := (Z 21)) B hP 19 rfl (j := j) rfl (by omega) (by decide) dX4_outOfDate_54 ?_
        refine q_top (v2 := .int (nI w)) (congrArg Value.int hw) ?_
        refine lv_iconst (v := (nI 1)) B.hx B.hb dX4_outOfDate_55 (by decide) ?_
        refine lv_isub B.hx B.hb dX4_outOfDate_56 ?_
        refine q_top (v2 := .int (vn w)) (congrArg Value.int (vn_eq _)) ?_
        refine lv_icmp_eq (tgt := 64) B.hx B.hb dX4_outOfDate_57 (by decide) (fun c8 => ?_) (fun c8 => ?_)
        · refine lv_iconst (v := (nI 0)) B.hx B.hb dX4_outOfDate_64 (by decide) ?_
          refine lv_iadd B.hx B.hb dX4_outOfDate_65 ?_
          refine q_top (v2 := .int (nI ((pN (fun i => decide (¬ Z 29 i = -1) && decide (Z 27 i = nI j) && decide (¬ Z 28 i = vn w)) i2 + 0)))) (congrArg Value.int (nI_add _ _)) ?_
          refine q_top (v2 := .int (nI (pN (fun i => decide (¬ Z 29 i = -1) && decide (Z 27 i = nI j) && decide (¬ Z 28 i = vn w)) (i2 + 1)))) (by rw [pN_no (ok := (fun i => decide (¬ Z 29 i = -1) && decide (Z 27 i = nI j) && decide (¬ Z 28 i = vn w))) (i := i2) (by simp [c6, c7, c8])]; rfl) ?_
          refine lv_istore_n (lv' := [(2, .int (nI (pN (fun i => decide (¬ Z 29 i = -1) && decide (Z 27 i = nI j) && decide (¬ Z 28 i = vn w)) (i2 + 1)))), (3, .int (nI i2)), (0, .ref (o 0)), (1, .int (nI j))]) B.hx B.hb dX4_outOfDate_66 rfl hl (by decide) rfl (fun ls hl => ?_)
          refine lv_iinc (v := (nI ((i2 + 1)))) (lv' := [(3, .int (nI ((i2 + 1)))), (2, .int (nI (pN (fun i => decide (¬ Z 29 i = -1) && decide (Z 27 i = nI j) && decide (¬ Z 28 i = vn w)) (i2 + 1)))), (0, .ref (o 0)), (1, .int (nI j))]) B.hx B.hb dX4_outOfDate_67 hl (k := 1) rfl (nI_1 _) (by decide) rfl (fun ls hl => ?_)
          refine lv_goto (tgt := 14) B.hx B.hb dX4_outOfDate_70 (by decide) ?_
          exact ih4 (i2 + 1) (by omega) (by omega) ls (lv_sub hl [0, 1, 2, 3] rfl)
        · refine lv_iconst (v := (nI 1)) B.hx B.hb dX4_outOfDate_60 (by decide) ?_
          refine lv_goto (tgt := 65) B.hx B.hb dX4_outOfDate_61 (by decide) ?_
          refine lv_iadd B.hx B.hb dX4_outOfDate_65 ?_
          refine q_top (v2 := .int (nI ((pN (fun i => decide (¬ Z 29 i = -1) && decide (Z 27 i = nI j) && decide (¬ Z 28 i = vn w)) i2 + 1)))) (congrArg Value.int (nI_add _ _)) ?_
          refine q_top (v2 := .int (nI (pN (fun i => decide (¬ Z 29 i = -1) && decide (Z 27 i = nI j) && decide (¬ Z 28 i = vn w)) (i2 + 1)))) (by rw [pN_yes (ok := (fun i => decide (¬ Z 29 i = -1) && decide (Z 27 i = nI j) && decide (¬ Z 28 i = vn w))) (i := i2) (by simp [c6, c7, c8])]) ?_
          refine lv_istore_n (lv' := [(2, .int (nI (pN (fun i => decide (¬ Z 29 i = -1) && decide (Z 27 i = nI j) && decide (¬ Z 28 i = vn w)) (i2 + 1)))), (3, .int (nI i2)), (0, .ref (o 0)), (1, .int (nI j))]) B.hx B.hb dX4_outOfDate_66 rfl hl (by decide) rfl (fun ls hl => ?_)
          refine lv_iinc (v := (nI ((i2 + 1)))) (lv' := [(3, .int (nI ((i2 + 1)))), (2, .int (nI (pN (fun i => decide (¬ Z 29 i = -1) && decide (Z 27 i = nI j) && decide (¬ Z 28 i = vn w)) (i2 + 1)))), (0, .ref (o 0)), (1, .int (nI j))]) B.hx B.hb dX4_outOfDate_67 hl (k := 1) rfl (nI_1 _) (by decide) rfl (fun ls hl => ?_)
          refine lv_goto (tgt := 14) B.hx B.hb dX4_outOfDate_70 (by decide) ?_
          exact ih4 (i2 + 1) (by omega) (by omega) ls (lv_sub hl [0, 1, 2, 3] rfl)
set_option maxHeartbeats 4000000 in
set_option maxRecDepth 100000 in
theorem c4_step (l : Launch) (D : va_G) (cI cZ cP cJ : ClassId) (o : Nat → Nat) (J : Nat → Int32) (Z : Nat → Nat → Int32) (n : Nat) (hn : J 5 = nI n) (hn8 : n ≤ 8) (j : Nat) (hj : j < n) (mm : Nat) (hm : Z 12 j = nI mm) (hm4 : mm ≤ 4) (k : Nat) (hk : Z 15 j = nI k) (hk4 : k ≤ 4) : q_C l yX4_step wsX4_step ({ frames := 3, cells := 0, slots := 0, locals := 67 }) D cI cZ cP cJ [.ref (o 0), .int (nI j)] (mw cI cZ o J Z) (S := Unit) (fun v _ => v = some (.int (if Z 8 j = 0 then nI 0 else (stp mm (mNR Z j mm) (mOR Z j k) (Z 17 j) (mNC Z j))))) (fun _ => mw cI cZ o (va_up J 30 (nI 0)) Z) (fun _ => False) 0 0 := by
  refine q_of (cc := cX4_step) (maxL := 2) (ret := (some .int)) (by decide +kernel) rfl (Nat.le_of_ble_eq_true rfl) ?_
  intro p e s m below meth c A ls B hr htb hmn hP hD hS hl
  have hl : lv_has ls 2 [(0, .ref (o 0)), (1, .int (nI j))] := hl
  have hj8 : j < 8 := by omega
  refine lv_aload_n B.hx B.hb dX4_step_0 rfl (lv_at hl 0 rfl) ?_
  refine lv_iload_n B.hx B.hb dX4_step_1 rfl (lv_at hl 1 rfl) ?_
  refine q_callV (As := [.int (nI j)]) (rest := []) B hP hD hS (c4_isAsked l D cI cZ cP cJ o J Z n hn hn8 j hj) (cwV 1 B.hts gX4_step_X4_isAsked rfl rfl rfl (by decide +kernel) ⟨(Nat.le_of_ble_eq_true rfl), (Nat.le_of_ble_eq_true rfl)⟩) 0 4 rfl rfl rfl rfl hl.1 rfl (Nat.le_of_ble_eq_true rfl) dX4_step_2 ⟨(Nat.le_of_ble_eq_true rfl), (Nat.le_of_ble_eq_true rfl)⟩ (fun E ce q9 H locs hx => False.elim hx) (fun v u H locs hp hP hD hS => ?_)
  obtain rfl := hp
  have hP : va_P D vwCl (mw cI cZ o (va_up J 30 (nI 0)) Z) H := hP
  have hD : va_D A (mw cI cZ o (va_up J 30 (nI 0)) Z) := hD
  refine lv_if_eq (tgt := 16) B.hx B.hb dX4_step_5 (by decide) (fun c1 => absurd c1 (by decide)) (fun _ => ?_)
  refine lv_aload_n B.hx B.hb dX4_step_8 rfl (lv_at hl 0 rfl) ?_
  refine lv_iload_n B.hx B.hb dX4_step_9 rfl (lv_at hl 1 rfl) ?_
  refine q_callV (As := [.int (nI j)]) (rest := []) B hP hD hS (c4_stepOf l D cI cZ cP cJ o (va_up J 30 (nI 0)) Z j hj8 mm hm hm4 k hk hk4) (cwV 1 B.hts gX4_step_X4_stepOf rfl rfl rfl (by decide +kernel) ⟨(Nat.le_of_ble_eq_true rfl), (Nat.le_of_ble_eq_true rfl)⟩) 0 4 rfl rfl rfl rfl hl.1 rfl (Nat.le_of_ble_eq_true rfl) dX4_step_10 ⟨(Nat.le_of_ble_eq_true rfl), (Nat.le_of_ble_eq_true rfl)⟩ (fun E ce q9 H locs hx => False.elim hx) (fun v u H locs hp hP hD hS => ?_)
  obtain rfl := hp
  have hP : va_P D vwCl (mw cI cZ o (va_up J 30 (nI 0)) Z) H := hP
  have hD : va_D A (mw cI cZ o (va_up J 30 (nI 0)) Z) := hD
  refine lv_goto (tgt := 17) B.hx B.hb dX4_step_13 (by decide) ?_
  exact q_iret B hr hP hD hS (u := ()) rfl rfl (Nat.le_of_ble_eq_true rfl) (Nat.le_of_ble_eq_true rfl) dX4_step_17
set_option maxHeartbeats 4000000 in
set_option maxRecDepth 100000 in
theorem c4_inForce (l : Launch) (D : va_G) (cI cZ cP cJ : ClassId) (o : Nat → Nat) (J : Nat → Int32) (Z : Nat → Nat → Int32) (n : Nat) (hn : J 5 = nI n) (hn8 : n ≤ 8) (j : Nat) (hj : j < n) (w : Nat) (hw : Z 21 j = nI w) (hw2 : w ≤ 128) : q_C l yX4_inForce wsX4_inForce ({ frames := 3, cells := 0, slots := 0, locals := 64 }) D cI cZ cP cJ [.ref (o 0), .int (nI j)] (mw cI cZ o J Z) (S := Unit) (fun v _ => v = some (.int (vn w))) (fun _ => mw cI cZ o (va_up J 30 (nI 0)) Z) (fun _ => False) 0 0 := by
  refine q_of (cc := cX4_inForce) (maxL := 2) (ret := (some .int)) (by decide +kernel) rfl (Nat.le_of_ble_eq_true rfl) ?_
  intro p e s m below meth c A ls B hr htb hmn hP hD hS hl
  have hl : lv_has ls 2 [(0, .ref (o 0)), (1, .int (nI j))] := hl
  have hi4 : ∀ w ∈ u_ws RX4 TX4 31, w ∈ wsX4_inForce := by decide +kernel
  have hj8 : j < 8 := by omega
  refine lv_aload_n B.hx B.hb dX4_inForce_0 rfl (lv_at hl 0 rfl) ?_
  refine lv_iload_n B.hx B.hb dX4_inForce_1 rfl (lv_at hl 1 rfl) ?_
  refine q_callV (As := [.int (nI j)]) (rest := []) B hP hD hS (c4_isAsked l D cI cZ cP cJ o J Z n hn hn8 j hj) (cwV 1 B.hts gX4_inForce_X4_isAsked rfl rfl rfl (by decide +kernel) ⟨(Nat.le_of_ble_eq_true rfl), (Nat.le_of_ble_eq_true rfl)⟩) 0 4 rfl rfl rfl rfl hl.1 rfl (Nat.le_of_ble_eq_true rfl) dX4_inForce_2 ⟨(Nat.le_of_ble_eq_true rfl), (Nat.le_of_ble_eq_true rfl)⟩ (fun E ce q9 H locs hx => False.elim hx) (fun v u H locs hp hP hD hS => ?_)
  obtain rfl := hp
  have hP : va_P D vwCl (mw cI cZ o (va_up J 30 (nI 0)) Z) H := hP
  have hD : va_D A (mw cI cZ o (va_up J 30 (nI 0)) Z) := hD
  refine lv_if_eq (tgt := 19) B.hx B.hb dX4_inForce_5 (by decide) (fun c1 => absurd c1 (by decide)) (fun _ => ?_)
  refine lv_aload_n B.hx B.hb dX4_inForce_8 rfl (lv_at hl 0 rfl) ?_
  refine q_get B hP (C := RX4) (ref := "PaperKeeperModel") (T := TX4) (N := 31) (ci := 4) hi4 rfl 0 rfl 21 (by decide) (by decide +kernel) rfl (v := .ref (o 21)) rfl dX4_inForce_9 ?_
  refine lv_iload_n B.hx B.hb dX4_inForce_12 rfl (lv_at hl 1 rfl) ?_
  refine q_iald (f := (Z 21)) B hP 19 rfl (j := j) rfl (by omega) (by decide) dX4_inForce_13 ?_
  refine q_top (v2 := .int (nI w)) (congrArg Value.int hw) ?_
  refine lv_iconst (v := (nI 1)) B.hx B.hb dX4_inForce_14 (by decide) ?_
  refine lv_isub B.hx B.hb dX4_inForce_15 ?_
  refine q_top (v2 := .int (vn w)) (congrArg Value.int (vn_eq _)) ?_
  refine lv_goto (tgt := 20) B.hx B.hb dX4_inForce_16 (by decide) ?_
  exact q_iret B hr hP hD hS (u := ()) rfl rfl (Nat.le_of_ble_eq_true rfl) (Nat.le_of_ble_eq_true rfl) dX4_inForce_20
set_option maxHeartbeats 4000000 in
set_option maxRecDepth 100000 in
theorem c4_text (l : Launch) (D : va_G) (cI cZ cP cJ : ClassId) (o : Nat → Nat) (J : Nat → Int32) (Z : Nat → Nat → Int32) (n : Nat) (hn : J 5 = nI n) (hn8 : n ≤ 8) (j : Nat) (hj : j < n) (w : Nat) (hw : Z 21 j = nI w) (hw2 : w ≤ 128) : q_C l yX4_text wsX4_text ({ frames := 3, cells := 0, slots := 0, locals := 64 }) D cI cZ cP cJ [.ref (o 0), .int (nI j)] (mw cI cZ o J Z) (S := Unit) (fun v _ => v = some (.int (if w = 0 then -1 else Z 23 (400 * j + w - 1)))) (fun _ => mw cI cZ o (va_up J 30 (nI 0)) Z) (fun _ => False) 0 0 := by
  refine q_of (cc := cX4_text) (maxL := 2) (ret := (some .int)) (by decide +kernel) rfl (Nat.le_of_ble_eq_true rfl) ?_
  intro p e s m below meth c A ls B hr htb hmn hP hD hS hl
  have hl : lv_has ls 2 [(0, .ref (o 0)), (1, .int (nI j))] := hl
  have hi4 : ∀ w ∈ u_ws RX4 TX4 31, w ∈ wsX4_text := by decide +kernel
  have hj8 : j < 8 := by omega
  refine lv_aload_n B.hx B.hb dX4_text_0 rfl (lv_at hl 0 rfl) ?_
  refine lv_iload_n B.hx B.hb dX4_text_1 rfl (lv_at hl 1 rfl) ?_
  refine q_callV (As := [.int (nI j)]) (rest := []) B hP hD hS (c4_isAsked l D cI cZ cP cJ o J Z n hn hn8 j hj) (cwV 1 B.hts gX4_text_X4_isAsked rfl rfl rfl (by decide +kernel) ⟨(Nat.le_of_ble_eq_true rfl), (Nat.le_of_ble_eq_true rfl)⟩) 0 4 rfl rfl rfl rfl hl.1 rfl (Nat.le_of_ble_eq_true rfl) dX4_text_2 ⟨(Nat.le_of_ble_eq_true rfl), (Nat.le_of_ble_eq_true rfl)⟩ (fun E ce q9 H locs hx => False.elim hx) (fun v u H locs hp hP hD hS => ?_)
  obtain rfl := hp
  have hP : va_P D vwCl (mw cI cZ o (va_up J 30 (nI 0)) Z) H := hP
  have hD : va_D A (mw cI cZ o (va_up J 30 (nI 0)) Z) := hD
  refine lv_if_eq (tgt := 43) B.hx B.hb dX4_text_5 (by decide) (fun c1 => absurd c1 (by decide)) (fun _ => ?_)
  refine lv_aload_n B.hx B.hb dX4_text_8 rfl (lv_at hl 0 rfl) ?_
  refine q_get B hP (C := RX4) (ref := "PaperKeeperModel") (T := TX4) (N := 31) (ci := 4) hi4 rfl 0 rfl 21 (by decide) (by decide +kernel) rfl (v := .ref (o 21)) rfl dX4_text_9 ?_
  refine lv_iload_n B.hx B.hb dX4_text_12 rfl (lv_at hl 1 rfl) ?_
  refine q_iald (f := (Z 21)) B hP 19 rfl (j := j) rfl (by omega) (by decide) dX4_text_13 ?_
  refine q_top (v2 := .int (nI w)) (congrArg Value.int hw) ?_
  refine lv_if_ne (tgt := 21) B.hx B.hb dX4_text_14 (by decide) (fun c2 => ?_) (fun c2 => ?_)
  · replace c2 := mt (nI_eq0 (by omega)).mpr c2
    refine lv_aload_n B.hx B.hb dX4_text_21 rfl (lv_at hl 0 rfl) ?_
    refine q_get B hP (C := RX4) (ref := "PaperKeeperModel") (T := TX4) (N := 31) (ci := 4) hi4 rfl 0 rfl 23 (by decide) (by decide +kernel) rfl (v := .ref (o 23)) rfl dX4_text_22 ?_
    refine lv_sipush (v := (nI 400)) B.hx B.hb dX4_text_25 (by decide) ?_
    refine lv_iload_n B.hx B.hb dX4_text_28 rfl (lv_at hl 1 rfl) ?_
    refine lv_imul B.hx B.hb dX4_text_29 ?_
    refine q_top (v2 := .int (nI ((400 * j)))) (congrArg Value.int (pk_mul _ _)) ?_
    refine lv_aload_n B.hx B.hb dX4_text_30 rfl (lv_at hl 0 rfl) ?_
    refine q_get B hP (C := RX4) (ref := "PaperKeeperModel") (T := TX4) (N := 31) (ci := 4) hi4 rfl 0 rfl 21 (by decide) (by decide +kernel) rfl (v := .ref (o 21)) rfl dX4_text_31 ?_
    refine lv_iload_n B.hx B.hb dX4_text_34 rfl (lv_at hl 1 rfl) ?_
    refine q_iald (f := (Z 21)) B hP 19 rfl (j := j) rfl (by omega) (by decide) dX4_text_35 ?_
    refine q_top (v2 := .int (nI w)) (congrArg Value.int hw) ?_
    refine lv_iadd B.hx B.hb dX4_text_36 ?_
    refine q_top (v2 := .int (nI (((400 * j) + w)))) (congrArg Value.int (nI_add _ _)) ?_
    refine lv_iconst (v := (nI 1)) B.hx B.hb dX4_text_37 (by decide) ?_
    refine lv_isub B.hx B.hb dX4_text_38 ?_
    refine q_top (v2 := .int (nI ((400 * j + w - 1)))) (congrArg Value.int (pk_sub (by omega))) ?_
    refine q_iald (f := (Z 23)) B hP 21 rfl (j := (400 * j + w - 1)) rfl (by omega) (by decide) dX4_text_39 ?_
    refine lv_goto (tgt := 44) B.hx B.hb dX4_text_40 (by decide) ?_
    exact q_iret B hr hP hD hS (u := ()) rfl (by simp [c2]) (Nat.le_of_ble_eq_true rfl) (Nat.le_of_ble_eq_true rfl) dX4_text_44
  · replace c2 := (nI_eq0 (by omega)).mp c2
    refine lv_iconst (v := (-1)) B.hx B.hb dX4_text_17 (by decide) ?_
    refine lv_goto (tgt := 44) B.hx B.hb dX4_text_18 (by decide) ?_
    exact q_iret B hr hP hD hS (u := ()) rfl (by simp [c2]) (Nat.le_of_ble_eq_true rfl) (Nat.le_of_ble_eq_true rfl) dX4_text_44
set_option maxHeartbeats 4000000 in
set_option maxRecDepth 100000 in
theorem c4_waitsFor (l : Launch) (D : va_G) (cI cZ cP cJ : ClassId) (o : Nat → Nat) (J : Nat → Int32) (Z : Nat → Nat → Int32) (n : Nat) (hn : J 5 = nI n) (hn8 : n ≤ 8) (j : Nat) (hj : j < n) (mm : Nat) (hm : Z 12 j = nI mm) (hm4 : mm ≤ 4) (k : Nat) (hk : Z 15 j = nI k) (hk4 : k ≤ 4) : q_C l yX4_waitsFor wsX4_waitsFor ({ frames := 3, cells := 0, slots := 0, locals := 67 }) D cI cZ cP cJ [.ref (o 0), .int (nI j)] (mw cI cZ o J Z) (S := Unit) (fun v _ => v = some (.int (if Z 8 j = 0 then -1 else prs (stp mm (mNR Z j mm) (mOR Z j k) (Z 17 j) (mNC Z j)) (mNR Z j mm) (Z 9 j) (mNC Z j)))) (fun _ => mw cI cZ o (va_up J 30 (nI 0)) Z) (fun _ => False) 0 0 := by
  refine q_of (cc := cX4_waitsFor) (maxL := 3) (ret := (some .int)) (by decide +kernel) rfl (Nat.le_of_ble_eq_true rfl) ?_
  intro p e s m below meth c A ls B hr htb hmn hP hD hS hl
  have hl : lv_has ls 3 [(0, .ref (o 0)), (1, .int (nI j))] := hl
  have hi4 : ∀ w ∈ u_ws RX4 TX4 31, w ∈ wsX4_waitsFor := by decide +kernel
  have hj8 : j < 8 := by omega
  refine lv_aload_n B.hx B.hb dX4_waitsFor_0 rfl (lv_at hl 0 rfl) ?_
  refine lv_iload_n B.hx B.hb dX4_waitsFor_1 rfl (lv_at hl 1 rfl) ?_
  refine q_callV (As := [.int (nI j)]) (rest := []) B hP hD hS (c4_isAsked l D cI cZ cP cJ o J Z n hn hn8 j hj) (cwV 1 B.hts gX4_waitsFor_X4_isAsked rfl rfl rfl (by decide +kernel) ⟨(Nat.le_of_ble_eq_true rfl), (Nat.le_of_ble_eq_true rfl)⟩) 0 4 rfl rfl rfl rfl hl.1 rfl (Nat.le_of_ble_eq_true rfl) dX4_waitsFor_2 ⟨(Nat.le_of_ble_eq_true rfl), (Nat.le_of_ble_eq_true rfl)⟩ (fun E ce q9 H locs hx => False.elim hx) (fun v u H locs hp hP hD hS => ?_)
  obtain rfl := hp
  have hP : va_P D vwCl (mw cI cZ o (va_up J 30 (nI 0)) Z) H := hP
  have hD : va_D A (mw cI cZ o (va_up J 30 (nI 0)) Z) := hD
  refine lv_if_ne (tgt := 10) B.hx B.hb dX4_waitsFor_5 (by decide) (fun _ => ?_) (fun c1 => absurd c1 (by decide))
  refine lv_aload_n B.hx B.hb dX4_waitsFor_10 rfl (lv_at hl 0 rfl) ?_
  refine lv_iload_n B.hx B.hb dX4_waitsFor_11 rfl (lv_at hl 1 rfl) ?_
  refine q_callV (As := [.int (nI j)]) (rest := []) B hP hD hS (c4_stepOf l D cI cZ cP cJ o (va_up J 30 (nI 0)) Z j hj8 mm hm hm4 k hk hk4) (cwV 1 B.hts gX4_waitsFor_X4_stepOf rfl rfl rfl (by decide +kernel) ⟨(Nat.le_of_ble_eq_true rfl), (Nat.le_of_ble_eq_true rfl)⟩) 0 4 rfl rfl rfl rfl hl.1 rfl (Nat.le_of_ble_eq_true rfl) dX4_waitsFor_12 ⟨(Nat.le_of_ble_eq_true rfl), (Nat.le_of_ble_eq_true rfl)⟩ (fun E ce q9 H locs hx => False.elim hx) (fun v u H locs hp hP hD hS => ?_)
  replace hp := if8 hp
  rcases hp with ⟨rfl, h8⟩ | ⟨rfl, h8⟩
  · have hP : va_P D vwCl (mw cI cZ o (va_up J 30 (nI 0)) Z) H := hP
    have hD : va_D A (mw cI cZ o (va_up J 30 (nI 0)) Z) := hD
    refine lv_istore_n (lv' := [(2, .int (nI 0)), (0, .ref (o 0)), (1, .int (nI j))]) B.hx B.hb dX4_waitsFor_15 rfl hl (by decide) rfl (fun ls hl => ?_)
    refine lv_iload_n B.hx B.hb dX4_waitsFor_16 rfl (lv_at hl 0 rfl) ?_
    refine lv_iconst (v := (nI 1)) B.hx B.hb dX4_waitsFor_17 (by decide) ?_
    refine lv_icmp_ne (tgt := 29) B.hx B.hb dX4_waitsFor_18 (by decide) (fun _ => ?_) (fun c2 => absurd c2 (by decide))
    refine lv_iload_n B.hx B.hb dX4_waitsFor_29 rfl (lv_at hl 0 rfl) ?_
    refine lv_iconst (v := (nI 2)) B.hx B.hb dX4_waitsFor_30 (by decide) ?_
    refine lv_icmp_ne (tgt := 43) B.hx B.hb dX4_waitsFor_31 (by decide) (fun _ => ?_) (fun c3 => absurd c3 (by decide))
    refine lv_iload_n B.hx B.hb dX4_waitsFor_43 rfl (lv_at hl 0 rfl) ?_
    refine lv_iconst (v := (nI 4)) B.hx B.hb dX4_waitsFor_44 (by decide) ?_
    refine lv_icmp_ne (tgt := 56) B.hx B.hb dX4_waitsFor_45 (by decide) (fun _ => ?_) (fun c4 => absurd c4 (by decide))
    refine lv_iconst (v := (-1)) B.hx B.hb dX4_waitsFor_56 (by decide) ?_
    exact q_iret B hr hP hD hS (u := ()) rfl (by simp [prs, n41, n42, n21, h8]) (Nat.le_of_ble_eq_true rfl) (Nat.le_of_ble_eq_true rfl) dX4_waitsFor_57
  · have hP : va_P D vwCl (mw cI cZ o (va_up J 30 (nI 0)) Z) H := hP
    have hD : va_D A (mw cI cZ o (va_up J 30 (nI 0)) Z) := hD
    refine lv_istore_n (lv' := [(2, .int (stp mm (mNR Z j mm) (mOR Z j k) (Z 17 j) (mNC Z j))), (0, .ref (o 0)), (1, .int (nI j))]) B.hx B.hb dX4_waitsFor_15 rfl hl (by decide) rfl (fun ls hl => ?_)
    refine lv_iload_n B.hx B.hb dX4_waitsFor_16 rfl (lv_at hl 0 rfl) ?_
    refine lv_iconst (v := (nI 1)) B.hx B.hb dX4_waitsFor_17 (by decide) ?_
    refine lv_icmp_ne (tgt := 29) B.hx B.hb dX4_waitsFor_18 (by decide) (fun c5 => ?_) (fun c5 => ?_)
    · refine lv_iload_n B.hx B.hb dX4_waitsFor_29 rfl (lv_at hl 0 rfl) ?_
      refine lv_iconst (v := (nI 2)) B.hx B.hb dX4_waitsFor_30 (by decide) ?_
      refine lv_icmp_ne (tgt := 43) B.hx B.hb dX4_waitsFor_31 (by decide) (fun c6 => ?_) (fun c6 => ?_)
      · refine lv_iload_n B.hx B.hb dX4_waitsFor_43 rfl (lv_at hl 0 rfl) ?_
        refine lv_iconst (v := (nI 4)) B.hx B.hb dX4_waitsFor_44 (by decide) ?_
        refine lv_icmp_ne (tgt := 56) B.hx B.hb dX4_waitsFor_45 (by decide) (fun c7 => ?_) (fun c7 => ?_)
        · refine lv_iconst (v := (-1)) B.hx B.hb dX4_waitsFor_56 (by decide) ?_
          exact q_iret B hr hP hD hS (u := ()) rfl (by simp [prs, n41, n42, n21, h8, c5, c6, c7]) (Nat.le_of_ble_eq_true rfl) (Nat.le_of_ble_eq_true rfl) dX4_waitsFor_57
        · refine lv_aload_n B.hx B.hb dX4_waitsFor_48 rfl (lv_at hl 1 rfl) ?_
          refine lv_iload_n B.hx B.hb dX4_waitsFor_49 rfl (lv_at hl 2 rfl) ?_
          refine q_callV (As := [.int (nI j)]) (rest := []) B hP hD hS (c4_nextReader l D cI cZ cP cJ o (va_up J 30 (nI 0)) Z j hj8) (cwV 1 B.hts gX4_waitsFor_X4_nextReader rfl rfl rfl (by decide +kernel) ⟨(Nat.le_of_ble_eq_true rfl), (Nat.le_of_ble_eq_true rfl)⟩) 0 4 rfl rfl rfl rfl hl.1 rfl (Nat.le_of_ble_eq_true rfl) dX4_waitsFor_50 ⟨(Nat.le_of_ble_eq_true rfl), (Nat.le_of_ble_eq_true rfl)⟩ (fun E ce q9 H locs hx => False.elim hx) (fun v u H locs hp hP hD hS => ?_)
          obtain rfl := hp
          have hP : va_P D vwCl (mw cI cZ o (va_up J 30 (nI 0)) Z) H := hP
          have hD : va_D A (mw cI cZ o (va_up J 30 (nI 0)) Z) := hD
          refine lv_goto (tgt := 57) B.hx B.hb dX4_waitsFor_53 (by decide) ?_
          exact q_iret B hr hP hD hS (u := ()) rfl (by simp [prs, n41, n42, n21, h8, c5, c6, c7]) (Nat.le_of_ble_eq_true rfl) (Nat.le_of_ble_eq_true rfl) dX4_waitsFor_57
      · refine lv_aload_n B.hx B.hb dX4_waitsFor_34 rfl (lv_at hl 1 rfl) ?_
        refine q_get B hP (C := RX4) (ref := "PaperKeeperModel") (T := TX4) (N := 31) (ci := 4) hi4 rfl 0 rfl 9 (by decide) (by decide +kernel) rfl (v := .ref (o 9)) rfl dX4_waitsFor_35 ?_
        refine lv_iload_n B.hx B.hb dX4_waitsFor_38 rfl (lv_at hl 2 rfl) ?_
        refine q_iald (f := (Z 9)) B hP 7 rfl (j := j) rfl (by omega) (by decide) dX4_waitsFor_39 ?_
        refine lv_goto (tgt := 57) B.hx B.hb dX4_waitsFor_40 (by decide) ?_
        exact q_iret B hr hP hD hS (u := ()) rfl (by simp [prs, n41, n42, n21, h8, c5, c6]) (Nat.le_of_ble_eq_true rfl) (Nat.le_of_ble_eq_true rfl) dX4_waitsFor_57
    · refine lv_aload_n B.hx B.hb dX4_waitsFor_21 rfl (lv_at hl 1 rfl) ?_
      refine lv_iload_n B.hx B.hb dX4_waitsFor_22 rfl (lv_at hl 2 rfl) ?_
      refine q_callV (As := [.int (nI j)]) (rest := []) B hP hD hS (c4_nextReviewer l D cI cZ cP cJ o (va_up J 30 (nI 0)) Z j hj8 mm hm hm4) (cwV 1 B.hts gX4_waitsFor_X4_nextReviewer rfl rfl rfl (by decide +kernel) ⟨(Nat.le_of_ble_eq_true rfl), (Nat.le_of_ble_eq_true rfl)⟩) 0 4 rfl rfl rfl rfl hl.1 rfl (Nat.le_of_ble_eq_true rfl) dX4_waitsFor_23 ⟨(Nat.le_of_ble_eq_true rfl), (Nat.le_of_ble_eq_true rfl)⟩ (fun E ce q9 H locs hx => False.elim hx) (fun v u H locs hp hP hD hS => ?_)
      obtain rfl := hp
      have hP : va_P D vwCl (mw cI cZ o (va_up J 30 (nI 0)) Z) H := hP
      have hD : va_D A (mw cI cZ o (va_up J 30 (nI 0)) Z) := hD
      refine lv_goto (tgt := 57) B.hx B.hb dX4_waitsFor_26 (by decide) ?_
      exact q_iret B hr hP hD hS (u := ()) rfl (by simp [prs, n41, n42, n21, h8, c5]) (Nat.le_of_ble_eq_true rfl) (Nat.le_of_ble_eq_true rfl) dX4_waitsFor_57
set_option maxHeartbeats 4000000 in
set_option maxRecDepth 100000 in
theorem c4_day (l : Launch) (D : va_G) (cI cZ cP cJ : ClassId) (o : Nat → Nat) (J : Nat → Int32) (Z : Nat → Nat → Int32) : q_C l yX4_day wsX4_day ({ frames := 0, cells := 0, slots := 0, locals := 0 }) D cI cZ cP cJ [.ref (o 0)] (mw cI cZ o J Z) (S := Unit) (fun v _ => v = some (.int (J 0))) (fun _ => mw cI cZ o (va_up J 30 (nI 0)) Z) (fun _ => False) 0 0 := by
  refine q_of (cc := cX4_day) (maxL := 1) (ret := (some .int)) (by decide +kernel) rfl (Nat.le_of_ble_eq_true rfl) ?_
  intro p e s m below meth c A ls B hr htb hmn hP hD hS hl
  have hl : lv_has ls 1 [(0, .ref (o 0))] := hl
  have hi4 : ∀ w ∈ u_ws RX4 TX4 31, w ∈ wsX4_day := by decide +kernel
  refine lv_aload_n B.hx B.hb dX4_day_0 rfl (lv_at hl 0 rfl) ?_
  refine lv_iconst (v := (nI 0)) B.hx B.hb dX4_day_1 (by decide) ?_
  refine q_put B hP hD hS (C := RX4) (ref := "PaperKeeperModel") (T := TX4) (N := 31) (ci := 4) hi4 rfl tyX4 tyX4_ok nmX4 0 rfl 30 (by decide) (by decide +kernel) rfl rfl rfl (by rfl) (Nat.le_of_ble_eq_true rfl) dX4_day_2 (w' := mw cI cZ o (va_up J 30 (nI 0)) Z) rfl (fun H locs hP hD hS => ?_)
  refine lv_aload_n B.hx B.hb dX4_day_5 rfl (lv_at hl 0 rfl) ?_
  refine q_get B hP (C := RX4) (ref := "PaperKeeperModel") (T := TX4) (N := 31) (ci := 4) hi4 rfl 0 rfl 0 (by decide) (by decide +kernel) rfl (v := .int (J 0)) rfl dX4_day_6 ?_
  exact q_iret B hr hP hD hS (u := ()) rfl rfl (Nat.le_of_ble_eq_true rfl) (Nat.le_of_ble_eq_true rfl) dX4_day_9
set_option maxHeartbeats 4000000 in
set_option maxRecDepth 100000 in
theorem c4_inForceOn (l : Launch) (D : va_G) (cI cZ cP cJ : ClassId) (o : Nat → Nat) (J : Nat → Int32) (Z : Nat → Nat → Int32) (n : Nat) (hn : J 5 = nI n) (hn8 : n ≤ 8) (j : Nat) (hj : j < n) (w : Nat) (hw : Z 21 j = nI w) (hw2 : w ≤ 128) (y : Int32) : q_C l yX4_inForceOn wsX4_inForceOn ({ frames := 2, cells := 0, slots := 0, locals := 43 }) D cI cZ cP cJ [.ref (o 0), .int (nI j), .int y] (mw cI cZ o J Z) (S := Unit) (fun v _ => v = some (.int (if kInForceOn y (J 0) = 0 then pL (fun i => decide (¬ y < Z 22 (400 * j + i))) nI w else nI 0))) (fun _ => mw cI cZ o (va_up J 30 (nI (kInForceOn y (J 0)))) Z) (fun _ => False) 0 0 := by
  refine q_of (cc := cX4_inForceOn) (maxL := 5) (ret := (some .int)) (by decide +kernel) rfl (Nat.le_of_ble_eq_true rfl) ?_
  intro p e s m below meth c A ls B hr htb hmn hP hD hS hl
  have hl : lv_has ls 5 [(0, .ref (o 0)), (1, .int (nI j)), (2, .int y)] := hl
  have hi4 : ∀ w ∈ u_ws RX4 TX4 31, w ∈ wsX4_inForceOn := by decide +kernel
  have hj8 : j < 8 := by omega
  refine lv_aload_n B.hx B.hb dX4_inForceOn_0 rfl (lv_at hl 0 rfl) ?_
  refine lv_aload_n B.hx B.hb dX4_inForceOn_1 rfl (lv_at hl 0 rfl) ?_
  refine lv_iload_n B.hx B.hb dX4_inForceOn_2 rfl (lv_at hl 1 rfl) ?_
  refine q_callV (As := [.int (nI j)]) (rest := [.ref (o 0)]) B hP hD hS (c4_isPaper l D cI cZ cP cJ o J Z n hn hn8 (nI j)) (cwV 1 B.hts gX4_inForceOn_X4_isPaper rfl rfl rfl (by decide +kernel) ⟨(Nat.le_of_ble_eq_true rfl), (Nat.le_of_ble_eq_true rfl)⟩) 0 4 rfl rfl rfl rfl hl.1 rfl (Nat.le_of_ble_eq_true rfl) dX4_inForceOn_3 ⟨(Nat.le_of_ble_eq_true rfl), (Nat.le_of_ble_eq_true rfl)⟩ (fun E ce q9 H locs hx => False.elim hx) (fun v u H locs hp hP hD hS => ?_)
  obtain rfl := hp
  have hP : va_P D vwCl (mw cI cZ o J Z) H := hP
  have hD : va_D A (mw cI cZ o J Z) := hD
  refine q_top (v2 := .int (nI 1)) (by rw [inr_nI (by omega) (by omega)]; rfl) ?_
  refine lv_if_ne (tgt := 13) B.hx B.hb dX4_inForceOn_6 (by decide) (fun _ => ?_) (fun c1 => absurd c1 (by decide))
  refine lv_iload_n B.hx B.hb dX4_inForceOn_13 rfl (lv_at hl 2 rfl) ?_
  refine lv_iconst (v := (nI 0)) B.hx B.hb dX4_inForceOn_14 (by decide) ?_
  refine lv_aload_n B.hx B.hb dX4_inForceOn_15 rfl (lv_at hl 0 rfl) ?_
  refine q_get B hP (C := RX4) (ref := "PaperKeeperModel") (T := TX4) (N := 31) (ci := 4) hi4 rfl 0 rfl 0 (by decide) (by decide +kernel) rfl (v := .int (J 0)) rfl dX4_inForceOn_16 ?_
  refine q_callS (As := [.int y, .int (nI 0), .int (J 0)]) (rest := [.ref (o 0)]) B hP hD hS ((c4_isIn l D cI cZ cP cJ y (nI 0) (J 0)).fr0 (mw cI cZ o J Z)) (cwS 3 B.hts gX4_inForceOn_X4_isIn rfl rfl rfl (by decide +kernel) ⟨(Nat.le_of_ble_eq_true rfl), (Nat.le_of_ble_eq_true rfl)⟩) rfl hl.1 rfl (Nat.le_of_ble_eq_true rfl) dX4_inForceOn_19 ⟨(Nat.le_of_ble_eq_true rfl), (Nat.le_of_ble_eq_true rfl)⟩ (fun E ce q9 H locs hx => False.elim hx) (fun v u H locs hp hP hD hS => ?_)
  replace hp := bI2 hp
  rcases hp with ⟨rfl, hrg0⟩ | ⟨rfl, hrg0⟩
  · have hP : va_P D vwCl (mw cI cZ o J Z) H := hP
    have hD : va_D A (mw cI cZ o J Z) := hD
    refine lv_if_eq (tgt := 29) B.hx B.hb dX4_inForceOn_22 (by decide) (fun c2 => absurd c2 (by decide)) (fun _ => ?_)
    refine lv_iconst (v := (nI 0)) B.hx B.hb dX4_inForceOn_25 (by decide) ?_
    refine lv_goto (tgt := 30) B.hx B.hb dX4_inForceOn_26 (by decide) ?_
    refine q_callV (As := [.int (nI 0)]) (rest := []) B hP hD hS (c4_can l D cI cZ cP cJ o J Z (nI 0)) (cwV 1 B.hts gX4_inForceOn_X4_can rfl rfl rfl (by decide +kernel) ⟨(Nat.le_of_ble_eq_true rfl), (Nat.le_of_ble_eq_true rfl)⟩) 0 4 rfl rfl rfl rfl hl.1 rfl (Nat.le_of_ble_eq_true rfl) dX4_inForceOn_30 ⟨(Nat.le_of_ble_eq_true rfl), (Nat.le_of_ble_eq_true rfl)⟩ (fun E ce q9 H locs hx => False.elim hx) (fun v u H locs hp hP hD hS => ?_)
    obtain rfl := hp
    have hP : va_P D vwCl (mw cI cZ o (va_up J 30 (nI 0)) Z) H := hP
    have hD : va_D A (mw cI cZ o (va_up J 30 (nI 0)) Z) := hD
    refine q_top (v2 := .int (nI 1)) rfl ?_
    refine lv_if_ne (tgt := 38) B.hx B.hb dX4_inForceOn_33 (by decide) (fun _ => ?_) (fun c3 => absurd c3 (by decide))
    refine lv_iconst (v := (-1)) B.hx B.hb dX4_inForceOn_38 (by decide) ?_
    refine lv_istore_n (lv' := [(3, .int (-1)), (0, .ref (o 0)), (1, .int (nI j)), (2, .int y)]) B.hx B.hb dX4_inForceOn_39 rfl hl (by decide) rfl (fun ls hl => ?_)
    refine lv_iconst (v := (nI 0)) B.hx B.hb dX4_inForceOn_40 (by decide) ?_
    refine lv_istore (lv' := [(4, .int (nI 0)), (3, .int (-1)), (0, .ref (o 0)), (1, .int (nI j)), (2, .int y)]) B.hx B.hb dX4_inForceOn_41 hl (by decide) rfl (fun ls hl => ?_)
    refine q_loop (nL := 5) (fun i : Nat => i ≤ w) (fun i : Nat => w - i) (fun i : Nat => [(4, .int (nI i)), (3, .int (pL (fun i => decide (¬ y < Z 22 (400 * j + i))) nI i)), (0, .ref (o 0)), (1, .int (nI j)), (2, .int y)]) (0) (Nat.zero_le _) (lv_sub hl [0, 1, 2, 3, 4] rfl) ?_
    intro i4 hI5 ih6 ls hl
    have hI5 : i4 ≤ w := hI5
    have hl : lv_has ls 5 [(4, .int (nI i4)), (3, .int (pL (fun i => decide (¬ y < Z 22 (400 * j + i))) nI i4)), (0, .ref (o 0)), (1, .int (nI j)), (2, .int y)] := hl
    refine lv_iload B.hx B.hb dX4_inForceOn_43 (lv_at hl 0 rfl) ?_
    refine lv_aload_n B.hx B.hb dX4_inForceOn_45 rfl (lv_at hl 2 rfl) ?_
    refine q_get B hP (C := RX4) (ref := "PaperKeeperModel") (T := TX4) (N := 31) (ci := 4) hi4 rfl 0 rfl 21 (by decide) (by decide +kernel) rfl (v := .ref (o 21)) rfl dX4_inForceOn_46 ?_
    refine lv_iload_n B.hx B.hb dX4_inForceOn_49 rfl (lv_at hl 3 rfl) ?_
    refine q_iald (f := (Z 21)) B hP 19 rfl (j := j) rfl (by omega) (by decide) dX4_inForceOn_50 ?_
    refine q_top (v2 := .int (nI w)) (congrArg Value.int hw) ?_
    refine lv_icmp_ge (tgt := 84) B.hx B.hb dX4_inForceOn_51 (by decide) (fun c7 => ?_) (fun c7 => ?_)
    · replace c7 := (nI_leI (by omega) (by omega)).mp c7
      obtain rfl : i4 = w := by omega
      refine lv_iload_n B.hx B.hb dX4_inForceOn_84 rfl (lv_at hl 1 rfl) ?_
      have hK : kInForceOn y (J 0) = 0 := by simp [kInForceOn, hrg0, c7]
      exact q_iret B hr hP hD hS (u := ()) (by rw [hK] <;> first | rfl | (simp only [if_true] <;> rfl)) (by rw [hK] <;> first | rfl | (simp only [if_true] <;> rfl)) (Nat.le_of_ble_eq_true rfl) (Nat.le_of_ble_eq_true rfl) dX4_inForceOn_85
    · replace c7 := mt (nI_leI (by omega) (by omega)).mpr c7
      refine lv_aload_n B.hx B.hb dX4_inForceOn_54 rfl (lv_at hl 2 rfl) ?_
      refine q_get B hP (C := RX4) (ref := "PaperKeeperModel") (T := TX4) (N := 31) (ci := 4) hi4 rfl 0 rfl 22 (by decide) (by decide +kernel) rfl (v := .ref (o 22)) rfl dX4_inForceOn_55 ?_
      refine lv_sipush (v := (nI 400)) B.hx B.hb dX4_inForceOn_58 (by decide) ?_
      refine lv_iload_n B.hx B.hb dX4_inForceOn_61 rfl (lv_at hl 3 rfl) ?_
      refine lv_imul B.hx B.hb dX4_inForceOn_62 ?_
      refine q_top (v2 := .int (nI ((400 * j)))) (congrArg Value.int (pk_mul _ _)) ?_
      refine lv_iload B.hx B.hb dX4_inForceOn_63 (lv_at hl 0 rfl) ?_
      refine lv_iadd B.hx B.hb dX4_inForceOn_65 ?_
      refine q_top (v2 := .int (nI (((400 * j) + i4)))) (congrArg Value.int (nI_add _ _)) ?_
      refine q_iald (f := (Z 22)) B hP 20 rfl (j := ((400 * j) + i4)) rfl (by omega) (by decide) dX4_inForceOn_66 ?_
      refine lv_iload_n B.hx B.hb dX4_inForceOn_67 rfl (lv_at hl 4 rfl) ?_
      refine lv_icmp_gt (tgt := 76) B.hx B.hb dX4_inForceOn_68 (by decide) (fun c8 => ?_) (fun c8 => ?_)
      · refine lv_iload_n B.hx B.hb dX4_inForceOn_76 rfl (lv_at hl 1 rfl) ?_
        refine q_top (v2 := .int (pL (fun i => decide (¬ y < Z 22 (400 * j + i))) nI (i4 + 1))) (congrArg Value.int (pL_no (ok := (fun i => decide (¬ y < Z 22 (400 * j + i)))) (v := nI) (i := i4) (by simp [c8])).symm) ?_
        refine lv_istore_n (lv' := [(3, .int (pL (fun i => decide (¬ y < Z 22 (400 * j + i))) nI (i4 + 1))), (4, .int (nI i4)), (0, .ref (o 0)), (1, .int (nI j)), (2, .int y)]) B.hx B.hb dX4_inForceOn_77 rfl hl (by decide) rfl (fun ls hl => ?_)
        refine lv_iinc (v := (nI ((i4 + 1)))) (lv' := [(4, .int (nI ((i4 + 1)))), (3, .int (pL (fun i => decide (¬ y < Z 22 (400 * j + i))) nI (i4 + 1))), (0, .ref (o 0)), (1, .int (nI j)), (2, .int y)]) B.hx B.hb dX4_inForceOn_78 hl (k := 1) rfl (nI_1 _) (by decide) rfl (fun ls hl => ?_)
        refine lv_goto (tgt := 43) B.hx B.hb dX4_inForceOn_81 (by decide) ?_
        exact ih6 (i4 + 1) (by omega) (by omega) ls (lv_sub hl [0, 1, 2, 3, 4] rfl)
      · refine lv_iload B.hx B.hb dX4_inForceOn_71 (lv_at hl 0 rfl) ?_
        refine lv_goto (tgt := 77) B.hx B.hb dX4_inForceOn_73 (by decide) ?_
        refine q_top (v2 := .int (pL (fun i => decide (¬ y < Z 22 (400 * j + i))) nI (i4 + 1))) (congrArg Value.int (pL_yes (ok := (fun i => decide (¬ y < Z 22 (400 * j + i)))) (v := nI) (i := i4) (by simp [c8])).symm) ?_
        refine lv_istore_n (lv' := [(3, .int (pL (fun i => decide (¬ y < Z 22 (400 * j + i))) nI (i4 + 1))), (4, .int (nI i4)), (0, .ref (o 0)), (1, .int (nI j)), (2, .int y)]) B.hx B.hb dX4_inForceOn_77 rfl hl (by decide) rfl (fun ls hl => ?_)
        refine lv_iinc (v := (nI ((i4 + 1)))) (lv' := [(4, .int (nI ((i4 + 1)))), (3, .int (pL (fun i => decide (¬ y < Z 22 (400 * j + i))) nI (i4 + 1))), (0, .ref (o 0)), (1, .int (nI j)), (2, .int y)]) B.hx B.hb dX4_inForceOn_78 hl (k := 1) rfl (nI_1 _) (by decide) rfl (fun ls hl => ?_)
        refine lv_goto (tgt := 43) B.hx B.hb dX4_inForceOn_81 (by decide) ?_
        exact ih6 (i4 + 1) (by omega) (by omega) ls (lv_sub hl [0, 1, 2, 3, 4] rfl)
  · have hP : va_P D vwCl (mw cI cZ o J Z) H := hP
    have hD : va_D A (mw cI cZ o J Z) := hD
    refine lv_if_eq (tgt := 29) B.hx B.hb dX4_inForceOn_22 (by decide) (fun _ => ?_) (fun c9 => absurd c9 (by decide))
    refine lv_iconst (v := (nI 2)) B.hx B.hb dX4_inForceOn_29 (by decide) ?_
    refine q_callV (As := [.int (nI 2)]) (rest := []) B hP hD hS (c4_can l D cI cZ cP cJ o J Z (nI 2)) (cwV 1 B.hts gX4_inForceOn_X4_can rfl rfl rfl (by decide +kernel) ⟨(Nat.le_of_ble_eq_true rfl), (Nat.le_of_ble_eq_true rfl)⟩) 0 4 rfl rfl rfl rfl hl.1 rfl (Nat.le_of_ble_eq_true rfl) dX4_inForceOn_30 ⟨(Nat.le_of_ble_eq_true rfl), (Nat.le_of_ble_eq_true rfl)⟩ (fun E ce q9 H locs hx => False.elim hx) (fun v u H locs hp hP hD hS => ?_)
    obtain rfl := hp
    have hP : va_P D vwCl (mw cI cZ o (va_up J 30 (nI 2)) Z) H := hP
    have hD : va_D A (mw cI cZ o (va_up J 30 (nI 2)) Z) := hD
    refine q_top (v2 := .int (nI 0)) rfl ?_
    refine lv_if_ne (tgt := 38) B.hx B.hb dX4_inForceOn_33 (by decide) (fun c10 => absurd c10 (by decide)) (fun _ => ?_)
    refine lv_iconst (v := (nI 0)) B.hx B.hb dX4_inForceOn_36 (by decide) ?_
    have hK : kInForceOn y (J 0) = 2 := by simp [kInForceOn, hrg0]
    exact q_iret B hr hP hD hS (u := ()) (by rw [hK] <;> first | rfl | (simp only [if_true] <;> rfl)) (by rw [hK] <;> first | rfl | (simp only [if_true] <;> rfl)) (Nat.le_of_ble_eq_true rfl) (Nat.le_of_ble_eq_true rfl) dX4_inForceOn_37
set_option maxHeartbeats 4000000 in
set_option maxRecDepth 100000 in
theorem c4_since (l : Launch) (D : va_G) (cI cZ cP cJ : ClassId) (o : Nat → Nat) (J : Nat → Int32) (Z : Nat → Nat → Int32) (n : Nat) (hn : J 5 = nI n) (hn8 : n ≤ 8) (j : Nat) (hj : j < n) (w : Nat) (hw : Z 21 j = nI w) (hw2 : w ≤ 128) (y : Int32) : q_C l yX4_since wsX4_since ({ frames := 2, cells := 0, slots := 0, locals := 43 }) D cI cZ cP cJ [.ref (o 0), .int (nI j), .int y] (mw cI cZ o J Z) (S := Unit) (fun v _ => v = some (.int (if kSince y w = 0 then Z 22 (400 * j + ix y) else nI 0))) (fun _ => mw cI cZ o (va_up J 30 (nI (kSince y w))) Z) (fun _ => False) 0 0 := by
  refine q_of (cc := cX4_since) (maxL := 3) (ret := (some .int)) (by decide +kernel) rfl (Nat.le_of_ble_eq_true rfl) ?_
  intro p e s m below meth c A ls B hr htb hmn hP hD hS hl
  have hl : lv_has ls 3 [(0, .ref (o 0)), (1, .int (nI j)), (2, .int y)] := hl
  have hi4 : ∀ w ∈ u_ws RX4 TX4 31, w ∈ wsX4_since := by decide +kernel
  have hj8 : j < 8 := by omega
  refine lv_aload_n B.hx B.hb dX4_since_0 rfl (lv_at hl 0 rfl) ?_
  refine lv_aload_n B.hx B.hb dX4_since_1 rfl (lv_at hl 0 rfl) ?_
  refine lv_iload_n B.hx B.hb dX4_since_2 rfl (lv_at hl 1 rfl) ?_
  refine q_callV (As := [.int (nI j)]) (rest := [.ref (o 0)]) B hP hD hS (c4_isPaper l D cI cZ cP cJ o J Z n hn hn8 (nI j)) (cwV 1 B.hts gX4_since_X4_isPaper rfl rfl rfl (by decide +kernel) ⟨(Nat.le_of_ble_eq_true rfl), (Nat.le_of_ble_eq_true rfl)⟩) 0 4 rfl rfl rfl rfl hl.1 rfl (Nat.le_of_ble_eq_true rfl) dX4_since_3 ⟨(Nat.le_of_ble_eq_true rfl), (Nat.le_of_ble_eq_true rfl)⟩ (fun E ce q9 H locs hx => False.elim hx) (fun v u H locs hp hP hD hS => ?_)
  obtain rfl := hp
  have hP : va_P D vwCl (mw cI cZ o J Z) H := hP
  have hD : va_D A (mw cI cZ o J Z) := hD
  refine q_top (v2 := .int (nI 1)) (by rw [inr_nI (by omega) (by omega)]; rfl) ?_
  refine lv_if_eq (tgt := 29) B.hx B.hb dX4_since_6 (by decide) (fun c1 => absurd c1 (by decide)) (fun _ => ?_)
  refine lv_iload_n B.hx B.hb dX4_since_9 rfl (lv_at hl 2 rfl) ?_
  refine lv_iconst (v := (nI 0)) B.hx B.hb dX4_since_10 (by decide) ?_
  refine lv_aload_n B.hx B.hb dX4_since_11 rfl (lv_at hl 0 rfl) ?_
  refine q_get B hP (C := RX4) (ref := "PaperKeeperModel") (T := TX4) (N := 31) (ci := 4) hi4 rfl 0 rfl 21 (by decide) (by decide +kernel) rfl (v := .ref (o 21)) rfl dX4_since_12 ?_
  refine lv_iload_n B.hx B.hb dX4_since_15 rfl (lv_at hl 1 rfl) ?_
  refine q_iald (f := (Z 21)) B hP 19 rfl (j := j) rfl (by omega) (by decide) dX4_since_16 ?_
  refine q_top (v2 := .int (nI w)) (congrArg Value.int hw) ?_
  refine lv_iconst (v := (nI 1)) B.hx B.hb dX4_since_17 (by decide) ?_
  refine lv_isub B.hx B.hb dX4_since_18 ?_
  refine q_top (v2 := .int (vn w)) (congrArg Value.int (vn_eq _)) ?_
  refine q_callS (As := [.int y, .int (nI 0), .int (vn w)]) (rest := [.ref (o 0)]) B hP hD hS ((c4_isIn l D cI cZ cP cJ y (nI 0) (vn w)).fr0 (mw cI cZ o J Z)) (cwS 3 B.hts gX4_since_X4_isIn rfl rfl rfl (by decide +kernel) ⟨(Nat.le_of_ble_eq_true rfl), (Nat.le_of_ble_eq_true rfl)⟩) rfl hl.1 rfl (Nat.le_of_ble_eq_true rfl) dX4_since_19 ⟨(Nat.le_of_ble_eq_true rfl), (Nat.le_of_ble_eq_true rfl)⟩ (fun E ce q9 H locs hx => False.elim hx) (fun v u H locs hp hP hD hS => ?_)
  replace hp := bI2 hp
  rcases hp with ⟨rfl, hrg0⟩ | ⟨rfl, hrg0⟩
  · have hP : va_P D vwCl (mw cI cZ o J Z) H := hP
    have hD : va_D A (mw cI cZ o J Z) := hD
    rw [inr_vn (by omega)] at hrg0
    obtain ⟨jy, hjjy, rfl⟩ := inr_ex (by omega) hrg0
    have hixjy : ix (nI jy) = jy := ix_nI (by omega)
    refine lv_if_eq (tgt := 29) B.hx B.hb dX4_since_22 (by decide) (fun c2 => absurd c2 (by decide)) (fun _ => ?_)
    refine lv_iconst (v := (nI 0)) B.hx B.hb dX4_since_25 (by decide) ?_
    refine lv_goto (tgt := 30) B.hx B.hb dX4_since_26 (by decide) ?_
    refine q_callV (As := [.int (nI 0)]) (rest := []) B hP hD hS (c4_can l D cI cZ cP cJ o J Z (nI 0)) (cwV 1 B.hts gX4_since_X4_can rfl rfl rfl (by decide +kernel) ⟨(Nat.le_of_ble_eq_true rfl), (Nat.le_of_ble_eq_true rfl)⟩) 0 4 rfl rfl rfl rfl hl.1 rfl (Nat.le_of_ble_eq_true rfl) dX4_since_30 ⟨(Nat.le_of_ble_eq_true rfl), (Nat.le_of_ble_eq_true rfl)⟩ (fun E ce q9 H locs hx => False.elim hx) (fun v u H locs hp hP hD hS => ?_)
    obtain rfl := hp
    have hP : va_P D vwCl (mw cI cZ o (va_up J 30 (nI 0)) Z) H := hP
    have hD : va_D A (mw cI cZ o (va_up J 30 (nI 0)) Z) := hD
    refine q_top (v2 := .int (nI 1)) rfl ?_
    refine lv_if_eq (tgt := 51) B.hx B.hb dX4_since_33 (by decide) (fun c3 => absurd c3 (by decide)) (fun _ => ?_)
    refine lv_aload_n B.hx B.hb dX4_since_36 rfl (lv_at hl 0 rfl) ?_
    refine q_get B hP (C := RX4) (ref := "PaperKeeperModel") (T := TX4) (N := 31) (ci := 4) hi4 rfl 0 rfl 22 (by decide) (by decide +kernel) rfl (v := .ref (o 22)) rfl dX4_since_37 ?_
    refine lv_sipush (v := (nI 400)) B.hx B.hb dX4_since_40 (by decide) ?_
    refine lv_iload_n B.hx B.hb dX4_since_43 rfl (lv_at hl 1 rfl) ?_
    refine lv_imul B.hx B.hb dX4_since_44 ?_
    refine q_top (v2 := .int (nI ((400 * j)))) (congrArg Value.int (pk_mul _ _)) ?_
    refine lv_iload_n B.hx B.hb dX4_since_45 rfl (lv_at hl 2 rfl) ?_
    refine lv_iadd B.hx B.hb dX4_since_46 ?_
    refine q_top (v2 := .int (nI (((400 * j) + jy)))) (congrArg Value.int (nI_add _ _)) ?_
    refine q_iald (f := (Z 22)) B hP 20 rfl (j := ((400 * j) + jy)) rfl (by omega) (by decide) dX4_since_47 ?_
    refine lv_goto (tgt := 52) B.hx B.hb dX4_since_48 (by decide) ?_
    have hK : kSince (nI jy) w = 0 := by simp [kSince, hrg0, hixjy]
    exact q_iret B hr hP hD hS (u := ()) (by rw [hK] <;> first | rfl | (simp only [if_true, hixjy] <;> rfl)) (by rw [hK] <;> first | rfl | (simp only [if_true, hixjy] <;> rfl)) (Nat.le_of_ble_eq_true rfl) (Nat.le_of_ble_eq_true rfl) dX4_since_52
  · have hP : va_P D vwCl (mw cI cZ o J Z) H := hP
    have hD : va_D A (mw cI cZ o J Z) := hD
    rw [inr_vn (by omega)] at hrg0
    refine lv_if_eq (tgt := 29) B.hx B.hb dX4_since_22 (by decide) (fun _ => ?_) (fun c4 => absurd c4 (by decide))
    refine lv_iconst (v := (nI 1)) B.hx B.hb dX4_since_29 (by decide) ?_
    refine q_callV (As := [.int (nI 1)]) (rest := []) B hP hD hS (c4_can l D cI cZ cP cJ o J Z (nI 1)) (cwV 1 B.hts gX4_since_X4_can rfl rfl rfl (by decide +kernel) ⟨(Nat.le_of_ble_eq_true rfl), (Nat.le_of_ble_eq_true rfl)⟩) 0 4 rfl rfl rfl rfl hl.1 rfl (Nat.le_of_ble_eq_true rfl) dX4_since_30 ⟨(Nat.le_of_ble_eq_true rfl), (Nat.le_of_ble_eq_true rfl)⟩ (fun E ce q9 H locs hx => False.elim hx) (fun v u H locs hp hP hD hS => ?_)
    obtain rfl := hp
    have hP : va_P D vwCl (mw cI cZ o (va_up J 30 (nI 1)) Z) H := hP
    have hD : va_D A (mw cI cZ o (va_up J 30 (nI 1)) Z) := hD
    refine q_top (v2 := .int (nI 0)) rfl ?_
    refine lv_if_eq (tgt := 51) B.hx B.hb dX4_since_33 (by decide) (fun _ => ?_) (fun c5 => absurd c5 (by decide))
    refine lv_iconst (v := (nI 0)) B.hx B.hb dX4_since_51 (by decide) ?_
    have hK : kSince y w = 1 := by simp [kSince, hrg0]
    exact q_iret B hr hP hD hS (u := ()) (by rw [hK] <;> first | rfl | (simp only [if_true] <;> rfl)) (by rw [hK] <;> first | rfl | (simp only [if_true] <;> rfl)) (Nat.le_of_ble_eq_true rfl) (Nat.le_of_ble_eq_true rfl) dX4_since_52
set_option maxHeartbeats 4000000 in
set_option maxRecDepth 100000 in
theorem c4_draft_no (l : Launch) (D : va_G) (cI cZ cP cJ : ClassId) (o : Nat → Nat) (J : Nat → Int32) (Z : Nat → Nat → Int32) (n : Nat) (hn : J 5 = nI n) (hn8 : n ≤ 8) (x y z : Int32) (hno : inr x n = false) : q_C l yX4_draft wsX4_draft ({ frames := 2, cells := 0, slots := 0, locals := 43 }) D cI cZ cP cJ [.ref (o 0), .int x, .int y, .int z] (mw cI cZ o J Z) (S := Unit) (fun v _ => v = none) (fun _ => mw cI cZ o (va_up J 30 (nI 1)) Z) (fun _ => False) 0 0 := by
  refine q_of (cc := cX4_draft) (maxL := 6) (ret := none) (by decide +kernel) rfl (Nat.le_of_ble_eq_true rfl) ?_
  intro p e s m below meth c A ls B hr htb hmn hP hD hS hl
  have hl : lv_has ls 6 [(0, .ref (o 0)), (1, .int x), (2, .int y), (3, .int z)] := hl
  refine lv_iload_n B.hx B.hb dX4_draft_0 rfl (lv_at hl 2 rfl) ?_
  refine q_callS (As := [.int y]) (rest := []) B hP hD hS ((c4_isPerson l D cI cZ cP cJ y).fr0 (mw cI cZ o J Z)) (cwS 1 B.hts gX4_draft_X4_isPerson rfl rfl rfl (by decide +kernel) ⟨(Nat.le_of_ble_eq_true rfl), (Nat.le_of_ble_eq_true rfl)⟩) rfl hl.1 rfl (Nat.le_of_ble_eq_true rfl) dX4_draft_1 ⟨(Nat.le_of_ble_eq_true rfl), (Nat.le_of_ble_eq_true rfl)⟩ (fun E ce q9 H locs hx => False.elim hx) (fun v u H locs hp hP hD hS => ?_)
  replace hp := bI2 hp
  rcases hp with ⟨rfl, hrg0⟩ | ⟨rfl, hrg0⟩
  · have hP : va_P D vwCl (mw cI cZ o J Z) H := hP
    have hD : va_D A (mw cI cZ o J Z) := hD
    refine lv_if_eq (tgt := 22) B.hx B.hb dX4_draft_4 (by decide) (fun c1 => absurd c1 (by decide)) (fun _ => ?_)
    refine lv_iload_n B.hx B.hb dX4_draft_7 rfl (lv_at hl 3 rfl) ?_
    refine lv_iconst (v := (nI 0)) B.hx B.hb dX4_draft_8 (by decide) ?_
    refine lv_sipush (v := (nI 9999)) B.hx B.hb dX4_draft_9 (by decide) ?_
    refine q_callS (As := [.int z, .int (nI 0), .int (nI 9999)]) (rest := []) B hP hD hS ((c4_isIn l D cI cZ cP cJ z (nI 0) (nI 9999)).fr0 (mw cI cZ o J Z)) (cwS 3 B.hts gX4_draft_X4_isIn rfl rfl rfl (by decide +kernel) ⟨(Nat.le_of_ble_eq_true rfl), (Nat.le_of_ble_eq_true rfl)⟩) rfl hl.1 rfl (Nat.le_of_ble_eq_true rfl) dX4_draft_12 ⟨(Nat.le_of_ble_eq_true rfl), (Nat.le_of_ble_eq_true rfl)⟩ (fun E ce q9 H locs hx => False.elim hx) (fun v u H locs hp hP hD hS => ?_)
    replace hp := bI2 hp
    rcases hp with ⟨rfl, hrg1⟩ | ⟨rfl, hrg1⟩
    · have hP : va_P D vwCl (mw cI cZ o J Z) H := hP
      have hD : va_D A (mw cI cZ o J Z) := hD
      refine lv_if_eq (tgt := 22) B.hx B.hb dX4_draft_15 (by decide) (fun c2 => absurd c2 (by decide)) (fun _ => ?_)
      refine lv_iconst (v := (nI 1)) B.hx B.hb dX4_draft_18 (by decide) ?_
      refine lv_goto (tgt := 23) B.hx B.hb dX4_draft_19 (by decide) ?_
      refine lv_istore (lv' := [(4, .int (nI 1)), (0, .ref (o 0)), (1, .int x), (2, .int y), (3, .int z)]) B.hx B.hb dX4_draft_23 hl (by decide) rfl (fun ls hl => ?_)
      refine lv_aload_n B.hx B.hb dX4_draft_25 rfl (lv_at hl 1 rfl) ?_
      refine lv_aload_n B.hx B.hb dX4_draft_26 rfl (lv_at hl 1 rfl) ?_
      refine lv_iload_n B.hx B.hb dX4_draft_27 rfl (lv_at hl 2 rfl) ?_
      refine q_callV (As := [.int x]) (rest := [.ref (o 0)]) B hP hD hS (c4_isPaper l D cI cZ cP cJ o J Z n hn hn8 x) (cwV 1 B.hts gX4_draft_X4_isPaper rfl rfl rfl (by decide +kernel) ⟨(Nat.le_of_ble_eq_true rfl), (Nat.le_of_ble_eq_true rfl)⟩) 0 4 rfl rfl rfl rfl hl.1 rfl (Nat.le_of_ble_eq_true rfl) dX4_draft_28 ⟨(Nat.le_of_ble_eq_true rfl), (Nat.le_of_ble_eq_true rfl)⟩ (fun E ce q9 H locs hx => False.elim hx) (fun v u H locs hp hP hD hS => ?_)
      obtain rfl := hp
      have hP : va_P D vwCl (mw cI cZ o J Z) H := hP
      have hD : va_D A (mw cI cZ o J Z) := hD
      refine q_top (v2 := .int (nI 0)) (by rw [hno]; rfl) ?_
      refine lv_if_ne (tgt := 38) B.hx B.hb dX4_draft_31 (by decide) (fun c3 => absurd c3 (by decide)) (fun _ => ?_)
      refine lv_iconst (v := (nI 1)) B.hx B.hb dX4_draft_34 (by decide) ?_
      refine lv_goto (tgt := 61) B.hx B.hb dX4_draft_35 (by decide) ?_
      refine q_callV (As := [.int (nI 1)]) (rest := []) B hP hD hS (c4_can l D cI cZ cP cJ o J Z (nI 1)) (cwV 1 B.hts gX4_draft_X4_can rfl rfl rfl (by decide +kernel) ⟨(Nat.le_of_ble_eq_true rfl), (Nat.le_of_ble_eq_true rfl)⟩) 0 4 rfl rfl rfl rfl hl.1 rfl (Nat.le_of_ble_eq_true rfl) dX4_draft_61 ⟨(Nat.le_of_ble_eq_true rfl), (Nat.le_of_ble_eq_true rfl)⟩ (fun E ce q9 H locs hx => False.elim hx) (fun v u H locs hp hP hD hS => ?_)
      obtain rfl := hp
      have hP : va_P D vwCl (mw cI cZ o (va_up J 30 (nI 1)) Z) H := hP
      have hD : va_D A (mw cI cZ o (va_up J 30 (nI 1)) Z) := hD
      refine q_top (v2 := .int (nI 0)) rfl ?_
      refine lv_if_eq (tgt := 139) B.hx B.hb dX4_draft_64 (by decide) (fun _ => ?_) (fun c4 => absurd c4 (by decide))
      exact q_vret B hr hP hD hS (u := ()) rfl rfl (Nat.le_of_ble_eq_true rfl) (Nat.le_of_ble_eq_true rfl) dX4_draft_139
    · have hP : va_P D vwCl (mw cI cZ o J Z) H := hP
      have hD : va_D A (mw cI cZ o J Z) := hD
      refine lv_if_eq (tgt := 22) B.hx B.hb dX4_draft_15 (by decide) (fun _ => ?_) (fun c5 => absurd c5 (by decide))
      refine lv_iconst (v := (nI 0)) B.hx B.hb dX4_draft_22 (by decide) ?_
      refine lv_istore (lv' := [(4, .int (nI 0)), (0, .ref (o 0)), (1, .int x), (2, .int y), (3, .int z)]) B.hx B.hb dX4_draft_23 hl (by decide) rfl (fun ls hl => ?_)
      refine lv_aload_n B.hx B.hb dX4_draft_25 rfl (lv_at hl 1 rfl) ?_
      refine lv_aload_n B.hx B.hb dX4_draft_26 rfl (lv_at hl 1 rfl) ?_
      refine lv_iload_n B.hx B.hb dX4_draft_27 rfl (lv_at hl 2 rfl) ?_
      refine q_callV (As := [.int x]) (rest := [.ref (o 0)]) B hP hD hS (c4_isPaper l D cI cZ cP cJ o J Z n hn hn8 x) (cwV 1 B.hts gX4_draft_X4_isPaper rfl rfl rfl (by decide +kernel) ⟨(Nat.le_of_ble_eq_true rfl), (Nat.le_of_ble_eq_true rfl)⟩) 0 4 rfl rfl rfl rfl hl.1 rfl (Nat.le_of_ble_eq_true rfl) dX4_draft_28 ⟨(Nat.le_of_ble_eq_true rfl), (Nat.le_of_ble_eq_true rfl)⟩ (fun E ce q9 H locs hx => False.elim hx) (fun v u H locs hp hP hD hS => ?_)
      obtain rfl := hp
      have hP : va_P D vwCl (mw cI cZ o J Z) H := hP
      have hD : va_D A (mw cI cZ o J Z) := hD
      refine q_top (v2 := .int (nI 0)) (by rw [hno]; rfl) ?_
      refine lv_if_ne (tgt := 38) B.hx B.hb dX4_draft_31 (by decide) (fun c6 => absurd c6 (by decide)) (fun _ => ?_)
      refine lv_iconst (v := (nI 1)) B.hx B.hb dX4_draft_34 (by decide) ?_
      refine lv_goto (tgt := 61) B.hx B.hb dX4_draft_35 (by decide) ?_
      refine q_callV (As := [.int (nI 1)]) (rest := []) B hP hD hS (c4_can l D cI cZ cP cJ o J Z (nI 1)) (cwV 1 B.hts gX4_draft_X4_can rfl rfl rfl (by decide +kernel) ⟨(Nat.le_of_ble_eq_true rfl), (Nat.le_of_ble_eq_true rfl)⟩) 0 4 rfl rfl rfl rfl hl.1 rfl (Nat.le_of_ble_eq_true rfl) dX4_draft_61 ⟨(Nat.le_of_ble_eq_true rfl), (Nat.le_of_ble_eq_true rfl)⟩ (fun E ce q9 H locs hx => False.elim hx) (fun v u H locs hp hP hD hS => ?_)
      obtain rfl := hp
      have hP : va_P D vwCl (mw cI cZ o (va_up J 30 (nI 1)) Z) H := hP
      have hD : va_D A (mw cI cZ o (va_up J 30 (nI 1)) Z) := hD
      refine q_top (v2 := .int (nI 0)) rfl ?_
      refine lv_if_eq (tgt := 139) B.hx B.hb dX4_draft_64 (by decide) (fun _ => ?_) (fun c7 => absurd c7 (by decide))
      exact q_vret B hr hP hD hS (u := ()) rfl rfl (Nat.le_of_ble_eq_true rfl) (Nat.le_of_ble_eq_true rfl) dX4_draft_139
  · have hP : va_P D vwCl (mw cI cZ o J Z) H := hP
    have hD : va_D A (mw cI cZ o J Z) := hD
    refine lv_if_eq (tgt := 22) B.hx B.hb dX4_draft_4 (by decide) (fun _ => ?_) (fun c8 => absurd c8 (by decide))
    refine lv_iconst (v := (nI 0)) B.hx B.hb dX4_draft_22 (by decide) ?_
    refine lv_istore (lv' := [(4, .int (nI 0)), (0, .ref (o 0)), (1, .int x), (2, .int y), (3, .int z)]) B.hx B.hb dX4_draft_23 hl (by decide) rfl (fun ls hl => ?_)
    refine lv_aload_n B.hx B.hb dX4_draft_25 rfl (lv_at hl 1 rfl) ?_
    refine lv_aload_n B.hx B.hb dX4_draft_26 rfl (lv_at hl 1 rfl) ?_
    refine lv_iload_n B.hx B.hb dX4_draft_27 rfl (lv_at hl 2 rfl) ?_
    refine q_callV (As := [.int x]) (rest := [.ref (o 0)]) B hP hD hS (c4_isPaper l D cI cZ cP cJ o J Z n hn hn8 x) (cwV 1 B.hts gX4_draft_X4_isPaper rfl rfl rfl (by decide +kernel) ⟨(Nat.le_of_ble_eq_true rfl), (Nat.le_of_ble_eq_true rfl)⟩) 0 4 rfl rfl rfl rfl hl.1 rfl (Nat.le_of_ble_eq_true rfl) dX4_draft_28 ⟨(Nat.le_of_ble_eq_true rfl), (Nat.le_of_ble_eq_true rfl)⟩ (fun E ce q9 H locs hx => False.elim hx) (fun v u H locs hp hP hD hS => ?_)
    obtain rfl := hp
    have hP : va_P D vwCl (mw cI cZ o J Z) H := hP
    have hD : va_D A (mw cI cZ o J Z) := hD
    refine q_top (v2 := .int (nI 0)) (by rw [hno]; rfl) ?_
    refine lv_if_ne (tgt := 38) B.hx B.hb dX4_draft_31 (by decide) (fun c9 => absurd c9 (by decide)) (fun _ => ?_)
    refine lv_iconst (v := (nI 1)) B.hx B.hb dX4_draft_34 (by decide) ?_
    refine lv_goto (tgt := 61) B.hx B.hb dX4_draft_35 (by decide) ?_
    refine q_callV (As := [.int (nI 1)]) (rest := []) B hP hD hS (c4_can l D cI cZ cP cJ o J Z (nI 1)) (cwV 1 B.hts gX4_draft_X4_can rfl rfl rfl (by decide +kernel) ⟨(Nat.le_of_ble_eq_true rfl), (Nat.le_of_ble_eq_true rfl)⟩) 0 4 rfl rfl rfl rfl hl.1 rfl (Nat.le_of_ble_eq_true rfl) dX4_draft_61 ⟨(Nat.le_of_ble_eq_true rfl), (Nat.le_of_ble_eq_true rfl)⟩ (fun E ce q9 H locs hx => False.elim hx) (fun v u H locs hp hP hD hS => ?_)
    obtain rfl := hp
    have hP : va_P D vwCl (mw cI cZ o (va_up J 30 (nI 1)) Z) H := hP
    have hD : va_D A (mw cI cZ o (va_up J 30 (nI 1)) Z) := hD
    refine q_top (v2 := .int (nI 0)) rfl ?_
    refine lv_if_eq (tgt := 139) B.hx B.hb dX4_draft_64 (by decide) (fun _ => ?_) (fun c10 => absurd c10 (by decide))
    exact q_vret B hr hP hD hS (u := ()) rfl rfl (Nat.le_of_ble_eq_true rfl) (Nat.le_of_ble_eq_true rfl) dX4_draft_139
set_option maxHeartbeats 4000000 in
set_option maxRecDepth 100000 in
theorem c4_change_no (l : Launch) (D : va_G) (cI cZ cP cJ : ClassId) (o : Nat → Nat) (J : Nat → Int32) (Z : Nat → Nat → Int32) (n : Nat) (hn : J 5 = nI n) (hn8 : n ≤ 8) (x y : Int32) (hno : inr x n = false) : q_C l yX4_change wsX4_change ({ frames := 2, cells := 0, slots := 0, locals := 43 }) D cI cZ cP cJ [.ref (o 0), .int x, .int y] (mw cI cZ o J Z) (S := Unit) (fun v _ => v = some (.int (nI 0))) (fun _ => mw cI cZ o (va_up J 30 (nI 1)) Z) (fun _ => False) 0 0 := by
  refine q_of (cc := cX4_change) (maxL := 3) (ret := (some .int)) (by decide +kernel) rfl (Nat.le_of_ble_eq_true rfl) ?_
  intro p e s m below meth c A ls B hr htb hmn hP hD hS hl
  have hl : lv_has ls 3 [(0, .ref (o 0)), (1, .int x), (2, .int y)] := hl
  refine lv_aload_n B.hx B.hb dX4_change_0 rfl (lv_at hl 0 rfl) ?_
  refine lv_aload_n B.hx B.hb dX4_change_1 rfl (lv_at hl 0 rfl) ?_
  refine lv_iload_n B.hx B.hb dX4_change_2 rfl (lv_at hl 1 rfl) ?_
  refine q_callV (As := [.int x]) (rest := [.ref (o 0)]) B hP hD hS (c4_isPaper l D cI cZ cP cJ o J Z n hn hn8 x) (cwV 1 B.hts gX4_change_X4_isPaper rfl rfl rfl (by decide +kernel) ⟨(Nat.le_of_ble_eq_true rfl), (Nat.le_of_ble_eq_true rfl)⟩) 0 4 rfl rfl rfl rfl hl.1 rfl (Nat.le_of_ble_eq_true rfl) dX4_change_3 ⟨(Nat.le_of_ble_eq_true rfl), (Nat.le_of_ble_eq_true rfl)⟩ (fun E ce q9 H locs hx => False.elim hx) (fun v u H locs hp hP hD hS => ?_)
  obtain rfl := hp
  have hP : va_P D vwCl (mw cI cZ o J Z) H := hP
  have hD : va_D A (mw cI cZ o J Z) := hD
  refine q_top (v2 := .int (nI 0)) (by rw [hno]; rfl) ?_
  refine lv_if_ne (tgt := 13) B.hx B.hb dX4_change_6 (by decide) (fun c1 => absurd c1 (by decide)) (fun _ => ?_)
  refine lv_iconst (v := (nI 1)) B.hx B.hb dX4_change_9 (by decide) ?_
  refine lv_goto (tgt := 52) B.hx B.hb dX4_change_10 (by decide) ?_
  refine q_callV (As := [.int (nI 1)]) (rest := []) B hP hD hS (c4_can l D cI cZ cP cJ o J Z (nI 1)) (cwV 1 B.hts gX4_change_X4_can rfl rfl rfl (by decide +kernel) ⟨(Nat.le_of_ble_eq_true rfl), (Nat.le_of_ble_eq_true rfl)⟩) 0 4 rfl rfl rfl rfl hl.1 rfl (Nat.le_of_ble_eq_true rfl) dX4_change_52 ⟨(Nat.le_of_ble_eq_true rfl), (Nat.le_of_ble_eq_true rfl)⟩ (fun E ce q9 H locs hx => False.elim hx) (fun v u H locs hp hP hD hS => ?_)
  obtain rfl := hp
  have hP : va_P D vwCl (mw cI cZ o (va_up J 30 (nI 1)) Z) H := hP
  have hD : va_D A (mw cI cZ o (va_up J 30 (nI 1)) Z) := hD
  refine q_top (v2 := .int (nI 0)) rfl ?_
  refine lv_if_ne (tgt := 60) B.hx B.hb dX4_change_55 (by decide) (fun c2 => absurd c2 (by decide)) (fun _ => ?_)
  refine lv_iconst (v := (nI 0)) B.hx B.hb dX4_change_58 (by decide) ?_
  exact q_iret B hr hP hD hS (u := ()) rfl rfl (Nat.le_of_ble_eq_true rfl) (Nat.le_of_ble_eq_true rfl) dX4_change_59
set_option maxHeartbeats 4000000 in
set_option maxRecDepth 100000 in
theorem c4_drop_no (l : Launch) (D : va_G) (cI cZ cP cJ : ClassId) (o : Nat → Nat) (J : Nat → Int32) (Z : Nat → Nat → Int32) (n : Nat) (hn : J 5 = nI n) (hn8 : n ≤ 8) (x : Int32) (hno : inr x n = false) : q_C l yX4_drop wsX4_drop ({ frames := 2, cells := 0, slots := 0, locals := 43 }) D cI cZ cP cJ [.ref (o 0), .int x] (mw cI cZ o J Z) (S := Unit) (fun v _ => v = some (.int (nI 0))) (fun _ => mw cI cZ o (va_up J 30 (nI 1)) Z) (fun _ => False) 0 0 := by
  refine q_of (cc := cX4_drop) (maxL := 2) (ret := (some .int)) (by decide +kernel) rfl (Nat.le_of_ble_eq_true rfl) ?_
  intro p e s m below meth c A ls B hr htb hmn hP hD hS hl
  have hl : lv_has ls 2 [(0, .ref (o 0)), (1, .int x)] := hl
  refine lv_aload_n B.hx B.hb dX4_drop_0 rfl (lv_at hl 0 rfl) ?_
  refine lv_aload_n B.hx B.hb dX4_drop_1 rfl (lv_at hl 0 rfl) ?_
  refine lv_iload_n B.hx B.hb dX4_drop_2 rfl (lv_at hl 1 rfl) ?_
  refine q_callV (As := [.int x]) (rest := [.ref (o 0)]) B hP hD hS (c4_isPaper l D cI cZ cP cJ o J Z n hn hn8 x) (cwV 1 B.hts gX4_drop_X4_isPaper rfl rfl rfl (by decide +kernel) ⟨(Nat.le_of_ble_eq_true rfl), (Nat.le_of_ble_eq_true rfl)⟩) 0 4 rfl rfl rfl rfl hl.1 rfl (Nat.le_of_ble_eq_true rfl) dX4_drop_3 ⟨(Nat.le_of_ble_eq_true rfl), (Nat.le_of_ble_eq_true rfl)⟩ (fun E ce q9 H locs hx => False.elim hx) (fun v u H locs hp hP hD hS => ?_)
  obtain rfl := hp
  have hP : va_P D vwCl (mw cI cZ o J Z) H := hP
  have hD : va_D A (mw cI cZ o J Z) := hD
  refine q_top (v2 := .int (nI 0)) (by rw [hno]; rfl) ?_
  refine lv_if_ne (tgt := 13) B.hx B.hb dX4_drop_6 (by decide) (fun c1 => absurd c1 (by decide)) (fun _ => ?_)
  refine lv_iconst (v := (nI 1)) B.hx B.hb dX4_drop_9 (by decide) ?_
  refine lv_goto (tgt := 27) B.hx B.hb dX4_drop_10 (by decide) ?_
  refine q_callV (As := [.int (nI 1)]) (rest := []) B hP hD hS (c4_can l D cI cZ cP cJ o J Z (nI 1)) (cwV 1 B.hts gX4_drop_X4_can rfl rfl rfl (by decide +kernel) ⟨(Nat.le_of_ble_eq_true rfl), (Nat.le_of_ble_eq_true rfl)⟩) 0 4 rfl rfl rfl rfl hl.1 rfl (Nat.le_of_ble_eq_true rfl) dX4_drop_27 ⟨(Nat.le_of_ble_eq_true rfl), (Nat.le_of_ble_eq_true rfl)⟩ (fun E ce q9 H locs hx => False.elim hx) (fun v u H locs hp hP hD hS => ?_)
  obtain rfl := hp
  have hP : va_P D vwCl (mw cI cZ o (va_up J 30 (nI 1)) Z) H := hP
  have hD : va_D A (mw cI cZ o (va_up J 30 (nI 1)) Z) := hD
  refine q_top (v2 := .int (nI 0)) rfl ?_
  refine lv_if_ne (tgt := 35) B.hx B.hb dX4_drop_30 (by decide) (fun c2 => absurd c2 (by decide)) (fun _ => ?_)
  refine lv_iconst (v := (nI 0)) B.hx B.hb dX4_drop_33 (by decide) ?_
  exact q_iret B hr hP hD hS (u := ()) rfl rfl (Nat.le_of_ble_eq_true rfl) (Nat.le_of_ble_eq_true rfl) dX4_drop_34
set_option maxHeartbeats 4000000 in
set_option maxRecDepth 100000 in
theorem c4_reviewer_no (l : Launch) (D : va_G) (cI cZ cP cJ : ClassId) (o : Nat → Nat) (J : Nat → Int32) (Z : Nat → Nat → Int32) (n : Nat) (hn : J 5 = nI n) (hn8 : n ≤ 8) (x y : Int32) (hno : inr x n = false) : q_C l yX4_reviewer wsX4_reviewer ({ frames := 2, cells := 0, slots := 0, locals := 43 }) D cI cZ cP cJ [.ref (o 0), .int x, .int y] (mw cI cZ o J Z) (S := Unit) (fun v _ => v = some (.int (nI 0))) (fun _ => mw cI cZ o (va_up J 30 (nI 1)) Z) (fun _ => False) 0 0 := by
  refine q_of (cc := cX4_reviewer) (maxL := 6) (ret := (some .int)) (by decide +kernel) rfl (Nat.le_of_ble_eq_true rfl) ?_
  intro p e s m below meth c A ls B hr htb hmn hP hD hS hl
  have hl : lv_has ls 6 [(0, .ref (o 0)), (1, .int x), (2, .int y)] := hl
  refine lv_aload_n B.hx B.hb dX4_reviewer_0 rfl (lv_at hl 0 rfl) ?_
  refine lv_iload_n B.hx B.hb dX4_reviewer_1 rfl (lv_at hl 1 rfl) ?_
  refine q_callV (As := [.int x]) (rest := []) B hP hD hS (c4_isPaper l D cI cZ cP cJ o J Z n hn hn8 x) (cwV 1 B.hts gX4_reviewer_X4_isPaper rfl rfl rfl (by decide +kernel) ⟨(Nat.le_of_ble_eq_true rfl), (Nat.le_of_ble_eq_true rfl)⟩) 0 4 rfl rfl rfl rfl hl.1 rfl (Nat.le_of_ble_eq_true rfl) dX4_reviewer_2 ⟨(Nat.le_of_ble_eq_true rfl), (Nat.le_of_ble_eq_true rfl)⟩ (fun E ce q9 H locs hx => False.elim hx) (fun v u H locs hp hP hD hS => ?_)
  obtain rfl := hp
  have hP : va_P D vwCl (mw cI cZ o J Z) H := hP
  have hD : va_D A (mw cI cZ o J Z) := hD
  refine q_top (v2 := .int (nI 0)) (by rw [hno]; rfl) ?_
  refine lv_istore_n (lv' := [(3, .int (nI 0)), (0, .ref (o 0)), (1, .int x), (2, .int y)]) B.hx B.hb dX4_reviewer_5 rfl hl (by decide) rfl (fun ls hl => ?_)
  refine lv_iload_n B.hx B.hb dX4_reviewer_6 rfl (lv_at hl 3 rfl) ?_
  refine q_callS (As := [.int y]) (rest := []) B hP hD hS ((c4_isPerson l D cI cZ cP cJ y).fr0 (mw cI cZ o J Z)) (cwS 1 B.hts gX4_reviewer_X4_isPerson rfl rfl rfl (by decide +kernel) ⟨(Nat.le_of_ble_eq_true rfl), (Nat.le_of_ble_eq_true rfl)⟩) rfl hl.1 rfl (Nat.le_of_ble_eq_true rfl) dX4_reviewer_7 ⟨(Nat.le_of_ble_eq_true rfl), (Nat.le_of_ble_eq_true rfl)⟩ (fun E ce q9 H locs hx => False.elim hx) (fun v u H locs hp hP hD hS => ?_)
  replace hp := bI2 hp
  rcases hp with ⟨rfl, hrg0⟩ | ⟨rfl, hrg0⟩
  · have hP : va_P D vwCl (mw cI cZ o J Z) H := hP
    have hD : va_D A (mw cI cZ o J Z) := hD
    refine lv_istore (lv' := [(4, .int (nI 1)), (3, .int (nI 0)), (0, .ref (o 0)), (1, .int x), (2, .int y)]) B.hx B.hb dX4_reviewer_10 hl (by decide) rfl (fun ls hl => ?_)
    refine lv_iload_n B.hx B.hb dX4_reviewer_12 rfl (lv_at hl 1 rfl) ?_
    refine lv_if_eq (tgt := 82) B.hx B.hb dX4_reviewer_13 (by decide) (fun _ => ?_) (fun c1 => absurd c1 (by decide))
    refine lv_iconst (v := (nI 0)) B.hx B.hb dX4_reviewer_82 (by decide) ?_
    refine lv_istore (lv' := [(5, .int (nI 0)), (4, .int (nI 1)), (3, .int (nI 0)), (0, .ref (o 0)), (1, .int x), (2, .int y)]) B.hx B.hb dX4_reviewer_83 hl (by decide) rfl (fun ls hl => ?_)
    refine lv_aload_n B.hx B.hb dX4_reviewer_85 rfl (lv_at hl 3 rfl) ?_
    refine lv_iload_n B.hx B.hb dX4_reviewer_86 rfl (lv_at hl 2 rfl) ?_
    refine lv_if_ne (tgt := 94) B.hx B.hb dX4_reviewer_87 (by decide) (fun c2 => absurd c2 (by decide)) (fun _ => ?_)
    refine lv_iconst (v := (nI 1)) B.hx B.hb dX4_reviewer_90 (by decide) ?_
    refine lv_goto (tgt := 113) B.hx B.hb dX4_reviewer_91 (by decide) ?_
    refine q_callV (As := [.int (nI 1)]) (rest := []) B hP hD hS (c4_can l D cI cZ cP cJ o J Z (nI 1)) (cwV 1 B.hts gX4_reviewer_X4_can rfl rfl rfl (by decide +kernel) ⟨(Nat.le_of_ble_eq_true rfl), (Nat.le_of_ble_eq_true rfl)⟩) 0 4 rfl rfl rfl rfl hl.1 rfl (Nat.le_of_ble_eq_true rfl) dX4_reviewer_113 ⟨(Nat.le_of_ble_eq_true rfl), (Nat.le_of_ble_eq_true rfl)⟩ (fun E ce q9 H locs hx => False.elim hx) (fun v u H locs hp hP hD hS => ?_)
    obtain rfl := hp
    have hP : va_P D vwCl (mw cI cZ o (va_up J 30 (nI 1)) Z) H := hP
    have hD : va_D A (mw cI cZ o (va_up J 30 (nI 1)) Z) := hD
    refine q_top (v2 := .int (nI 0)) rfl ?_
    refine lv_if_ne (tgt := 121) B.hx B.hb dX4_reviewer_116 (by decide) (fun c3 => absurd c3 (by decide)) (fun _ => ?_)
    refine lv_iconst (v := (nI 0)) B.hx B.hb dX4_reviewer_119 (by decide) ?_
    exact q_iret B hr hP hD hS (u := ()) rfl rfl (Nat.le_of_ble_eq_true rfl) (Nat.le_of_ble_eq_true rfl) dX4_reviewer_120
  · have hP : va_P D vwCl (mw cI cZ o J Z) H := hP
    have hD : va_D A (mw cI cZ o J Z) := hD
    refine lv_istore (lv' := [(4, .int (nI 0)), (3, .int (nI 0)), (0, .ref (o 0)), (1, .int x), (2, .int y)]) B.hx B.hb dX4_reviewer_10 hl (by decide) rfl (fun ls hl => ?_)
    refine lv_iload_n B.hx B.hb dX4_reviewer_12 rfl (lv_at hl 1 rfl) ?_
    refine lv_if_eq (tgt := 82) B.hx B.hb dX4_reviewer_13 (by decide) (fun _ => ?_) (fun c4 => absurd c4 (by decide))
    refine lv_iconst (v := (nI 0)) B.hx B.hb dX4_reviewer_82 (by decide) ?_
    refine lv_istore (lv' := [(5, .int (nI 0)), (4, .int (nI 0)), (3, .int (nI 0)), (0, .ref (o 0)), (1, .int x), (2, .int y)]) B.hx B.hb dX4_reviewer_83 hl (by decide) rfl (fun ls hl => ?_)
    refine lv_aload_n B.hx B.hb dX4_reviewer_85 rfl (lv_at hl 3 rfl) ?_
    refine lv_iload_n B.hx B.hb dX4_reviewer_86 rfl (lv_at hl 2 rfl) ?_
    refine lv_if_ne (tgt := 94) B.hx B.hb dX4_reviewer_87 (by decide) (fun c5 => absurd c5 (by decide)) (fun _ => ?_)
    refine lv_iconst (v := (nI 1)) B.hx B.hb dX4_reviewer_90 (by decide) ?_
    refine lv_goto (tgt := 113) B.hx B.hb dX4_reviewer_91 (by decide) ?_
    refine q_callV (As := [.int (nI 1)]) (rest := []) B hP hD hS (c4_can l D cI cZ cP cJ o J Z (nI 1)) (cwV 1 B.hts gX4_reviewer_X4_can rfl rfl rfl (by decide +kernel) ⟨(Nat.le_of_ble_eq_true rfl), (Nat.le_of_ble_eq_true rfl)⟩) 0 4 rfl rfl rfl rfl hl.1 rfl (Nat.le_of_ble_eq_true rfl) dX4_reviewer_113 ⟨(Nat.le_of_ble_eq_true rfl), (Nat.le_of_ble_eq_true rfl)⟩ (fun E ce q9 H locs hx => False.elim hx) (fun v u H locs hp hP hD hS => ?_)
    obtain rfl := hp
    have hP : va_P D vwCl (mw cI cZ o (va_up J 30 (nI 1)) Z) H := hP
    have hD : va_D A (mw cI cZ o (va_up J 30 (nI 1)) Z) := hD
    refine q_top (v2 := .int (nI 0)) rfl ?_
    refine lv_if_ne (tgt := 121) B.hx B.hb dX4_reviewer_116 (by decide) (fun c6 => absurd c6 (by decide)) (fun _ => ?_)
    refine lv_iconst (v := (nI 0)) B.hx B.hb dX4_reviewer_119 (by decide) ?_
    exact q_iret B hr hP hD hS (u := ()) rfl rfl (Nat.le_of_ble_eq_true rfl) (Nat.le_of_ble_eq_true rfl) dX4_reviewer_120
set_option maxHeartbeats 4000000 in
set_option maxRecDepth 100000 in
theorem c4_reader_no (l : Launch) (D : va_G) (cI cZ cP cJ : ClassId) (o : Nat → Nat) (J : Nat → Int32) (Z : Nat → Nat → Int32) (n : Nat) (hn : J 5 = nI n) (hn8 : n ≤ 8) (x y : Int32) (hno : inr x n = false) : q_C l yX4_reader wsX4_reader ({ frames := 2, cells := 0, slots := 0, locals := 43 }) D cI cZ cP cJ [.ref (o 0), .int x, .int y] (mw cI cZ o J Z) (S := Unit) (fun v _ => v = some (.int (nI 0))) (fun _ => mw cI cZ o (va_up J 30 (nI 1)) Z) (fun _ => False) 0 0 := by
  refine q_of (cc := cX4_reader) (maxL := 4) (ret := (some .int)) (by decide +kernel) rfl (Nat.le_of_ble_eq_true rfl) ?_
  intro p e s m below meth c A ls B hr htb hmn hP hD hS hl
  have hl : lv_has ls 4 [(0, .ref (o 0)), (1, .int x), (2, .int y)] := hl
  refine lv_aload_n B.hx B.hb dX4_reader_0 rfl (lv_at hl 0 rfl) ?_
  refine lv_iload_n B.hx B.hb dX4_reader_1 rfl (lv_at hl 1 rfl) ?_
  refine q_callV (As := [.int x]) (rest := []) B hP hD hS (c4_isPaper l D cI cZ cP cJ o J Z n hn hn8 x) (cwV 1 B.hts gX4_reader_X4_isPaper rfl rfl rfl (by decide +kernel) ⟨(Nat.le_of_ble_eq_true rfl), (Nat.le_of_ble_eq_true rfl)⟩) 0 4 rfl rfl rfl rfl hl.1 rfl (Nat.le_of_ble_eq_true rfl) dX4_reader_2 ⟨(Nat.le_of_ble_eq_true rfl), (Nat.le_of_ble_eq_true rfl)⟩ (fun E ce q9 H locs hx => False.elim hx) (fun v u H locs hp hP hD hS => ?_)
  obtain rfl := hp
  have hP : va_P D vwCl (mw cI cZ o J Z) H := hP
  have hD : va_D A (mw cI cZ o J Z) := hD
  refine q_top (v2 := .int (nI 0)) (by rw [hno]; rfl) ?_
  refine lv_istore_n (lv' := [(3, .int (nI 0)), (0, .ref (o 0)), (1, .int x), (2, .int y)]) B.hx B.hb dX4_reader_5 rfl hl (by decide) rfl (fun ls hl => ?_)
  refine lv_aload_n B.hx B.hb dX4_reader_6 rfl (lv_at hl 1 rfl) ?_
  refine lv_iload_n B.hx B.hb dX4_reader_7 rfl (lv_at hl 0 rfl) ?_
  refine lv_if_ne (tgt := 15) B.hx B.hb dX4_reader_8 (by decide) (fun c1 => absurd c1 (by decide)) (fun _ => ?_)
  refine lv_iconst (v := (nI 1)) B.hx B.hb dX4_reader_11 (by decide) ?_
  refine lv_goto (tgt := 54) B.hx B.hb dX4_reader_12 (by decide) ?_
  refine q_callV (As := [.int (nI 1)]) (rest := []) B hP hD hS (c4_can l D cI cZ cP cJ o J Z (nI 1)) (cwV 1 B.hts gX4_reader_X4_can rfl rfl rfl (by decide +kernel) ⟨(Nat.le_of_ble_eq_true rfl), (Nat.le_of_ble_eq_true rfl)⟩) 0 4 rfl rfl rfl rfl hl.1 rfl (Nat.le_of_ble_eq_true rfl) dX4_reader_54 ⟨(Nat.le_of_ble_eq_true rfl), (Nat.le_of_ble_eq_true rfl)⟩ (fun E ce q9 H locs hx => False.elim hx) (fun v u H locs hp hP hD hS => ?_)
  obtain rfl := hp
  have hP : va_P D vwCl (mw cI cZ o (va_up J 30 (nI 1)) Z) H := hP
  have hD : va_D A (mw cI cZ o (va_up J 30 (nI 1)) Z) := hD
  refine q_top (v2 := .int (nI 0)) rfl ?_
  refine lv_if_ne (tgt := 62) B.hx B.hb dX4_reader_57 (by decide) (fun c2 => absurd c2 (by decide)) (fun _ => ?_)
  refine lv_iconst (v := (nI 0)) B.hx B.hb dX4_reader_60 (by decide) ?_
  exact q_iret B hr hP hD hS (u := ()) rfl rfl (Nat.le_of_ble_eq_true rfl) (Nat.le_of_ble_eq_true rfl) dX4_reader_61
set_option maxHeartbeats 4000000 in
set_option maxRecDepth 100000 in
theorem c4_review_no (l : Launch) (D : va_G) (cI cZ cP cJ : ClassId) (o : Nat → Nat) (J : Nat → Int32) (Z : Nat → Nat → Int32) (n : Nat) (hn : J 5 = nI n) (hn8 : n ≤ 8) (x y z : Int32) (hno : inr x n = false) : q_C l yX4_review wsX4_review ({ frames := 2, cells := 0, slots := 0, locals := 43 }) D cI cZ cP cJ [.ref (o 0), .int x, .int y, .int z] (mw cI cZ o J Z) (S := Unit) (fun v _ => v = some (.int (nI 0))) (fun _ => mw cI cZ o (va_up J 30 (nI 1)) Z) (fun _ => False) 0 0 := by
  refine q_of (cc := cX4_review) (maxL := 8) (ret := (some .int)) (by decide +kernel) rfl (Nat.le_of_ble_eq_true rfl) ?_
  intro p e s m below meth c A ls B hr htb hmn hP hD hS hl
  have hl : lv_has ls 8 [(0, .ref (o 0)), (1, .int x), (2, .int y), (3, .int z)] := hl
  refine lv_aload_n B.hx B.hb dX4_review_0 rfl (lv_at hl 0 rfl) ?_
  refine lv_iload_n B.hx B.hb dX4_review_1 rfl (lv_at hl 1 rfl) ?_
  refine q_callV (As := [.int x]) (rest := []) B hP hD hS (c4_isPaper l D cI cZ cP cJ o J Z n hn hn8 x) (cwV 1 B.hts gX4_review_X4_isPaper rfl rfl rfl (by decide +kernel) ⟨(Nat.le_of_ble_eq_true rfl), (Nat.le_of_ble_eq_true rfl)⟩) 0 4 rfl rfl rfl rfl hl.1 rfl (Nat.le_of_ble_eq_true rfl) dX4_review_2 ⟨(Nat.le_of_ble_eq_true rfl), (Nat.le_of_ble_eq_true rfl)⟩ (fun E ce q9 H locs hx => False.elim hx) (fun v u H locs hp hP hD hS => ?_)
  obtain rfl := hp
  have hP : va_P D vwCl (mw cI cZ o J Z) H := hP
  have hD : va_D A (mw cI cZ o J Z) := hD
  refine q_top (v2 := .int (nI 0)) (by rw [hno]; rfl) ?_
  refine lv_istore (lv' := [(4, .int (nI 0)), (0, .ref (o 0)), (1, .int x), (2, .int y), (3, .int z)]) B.hx B.hb dX4_review_5 hl (by decide) rfl (fun ls hl => ?_)
  refine lv_iload_n B.hx B.hb dX4_review_7 rfl (lv_at hl 3 rfl) ?_
  refine q_callS (As := [.int y]) (rest := []) B hP hD hS ((c4_isPerson l D cI cZ cP cJ y).fr0 (mw cI cZ o J Z)) (cwS 1 B.hts gX4_review_X4_isPerson rfl rfl rfl (by decide +kernel) ⟨(Nat.le_of_ble_eq_true rfl), (Nat.le_of_ble_eq_true rfl)⟩) rfl hl.1 rfl (Nat.le_of_ble_eq_true rfl) dX4_review_8 ⟨(Nat.le_of_ble_eq_true rfl), (Nat.le_of_ble_eq_true rfl)⟩ (fun E ce q9 H locs hx => False.elim hx) (fun v u H locs hp hP hD hS => ?_)
  replace hp := bI2 hp
  rcases hp with ⟨rfl, hrg0⟩ | ⟨rfl, hrg0⟩
  · have hP : va_P D vwCl (mw cI cZ o J Z) H := hP
    have hD : va_D A (mw cI cZ o J Z) := hD
    refine lv_istore (lv' := [(5, .int (nI 1)), (4, .int (nI 0)), (0, .ref (o 0)), (1, .int x), (2, .int y), (3, .int z)]) B.hx B.hb dX4_review_11 hl (by decide) rfl (fun ls hl => ?_)
    refine lv_iload B.hx B.hb dX4_review_13 (lv_at hl 1 rfl) ?_
    refine lv_if_eq (tgt := 41) B.hx B.hb dX4_review_15 (by decide) (fun _ => ?_) (fun c1 => absurd c1 (by decide))
    refine lv_iconst (v := (-1)) B.hx B.hb dX4_review_41 (by decide) ?_
    refine lv_istore (lv' := [(6, .int (-1)), (5, .int (nI 1)), (4, .int (nI 0)), (0, .ref (o 0)), (1, .int x), (2, .int y), (3, .int z)]) B.hx B.hb dX4_review_42 hl (by decide) rfl (fun ls hl => ?_)
    refine lv_iload B.hx B.hb dX4_review_44 (lv_at hl 0 rfl) ?_
    refine lv_iconst (v := (-1)) B.hx B.hb dX4_review_46 (by decide) ?_
    refine lv_icmp_eq (tgt := 82) B.hx B.hb dX4_review_47 (by decide) (fun _ => ?_) (fun c2 => absurd c2 (by decide))
    refine lv_iconst (v := (nI 0)) B.hx B.hb dX4_review_82 (by decide) ?_
    refine lv_istore (lv' := [(7, .int (nI 0)), (6, .int (-1)), (5, .int (nI 1)), (4, .int (nI 0)), (0, .ref (o 0)), (1, .int x), (2, .int y), (3, .int z)]) B.hx B.hb dX4_review_83 hl (by decide) rfl (fun ls hl => ?_)
    refine lv_aload_n B.hx B.hb dX4_review_85 rfl (lv_at hl 4 rfl) ?_
    refine lv_iload B.hx B.hb dX4_review_86 (lv_at hl 3 rfl) ?_
    refine lv_if_ne (tgt := 95) B.hx B.hb dX4_review_88 (by decide) (fun c3 => absurd c3 (by decide)) (fun _ => ?_)
    refine lv_iconst (v := (nI 1)) B.hx B.hb dX4_review_91 (by decide) ?_
    refine lv_goto (tgt := 114) B.hx B.hb dX4_review_92 (by decide) ?_
    refine q_callV (As := [.int (nI 1)]) (rest := []) B hP hD hS (c4_can l D cI cZ cP cJ o J Z (nI 1)) (cwV 1 B.hts gX4_review_X4_can rfl rfl rfl (by decide +kernel) ⟨(Nat.le_of_ble_eq_true rfl), (Nat.le_of_ble_eq_true rfl)⟩) 0 4 rfl rfl rfl rfl hl.1 rfl (Nat.le_of_ble_eq_true rfl) dX4_review_114 ⟨(Nat.le_of_ble_eq_true rfl), (Nat.le_of_ble_eq_true rfl)⟩ (fun E ce q9 H locs hx => False.elim hx) (fun v u H locs hp hP hD hS => ?_)
    obtain rfl := hp
    have hP : va_P D vwCl (mw cI cZ o (va_up J 30 (nI 1)) Z) H := hP
    have hD : va_D A (mw cI cZ o (va_up J 30 (nI 1)) Z) := hD
    refine q_top (v2 := .int (nI 0)) rfl ?_
    refine lv_if_ne (tgt := 122) B.hx B.hb dX4_review_117 (by decide) (fun c4 => absurd c4 (by decide)) (fun _ => ?_)
    refine lv_iconst (v := (nI 0)) B.hx B.hb dX4_review_120 (by decide) ?_
    exact q_iret B hr hP hD hS (u := ()) rfl rfl (Nat.le_of_ble_eq_true rfl) (Nat.le_of_ble_eq_true rfl) dX4_review_121
  · have hP : va_P D vwCl (mw cI cZ o J Z) H := hP
    have hD : va_D A (mw cI cZ o J Z) := hD
    refine lv_istore (lv' := [(5, .int (nI 0)), (4, .int (nI 0)), (0, .ref (o 0)), (1, .int x), (2, .int y), (3, .int z)]) B.hx B.hb dX4_review_11 hl (by decide) rfl (fun ls hl => ?_)
    refine lv_iload B.hx B.hb dX4_review_13 (lv_at hl 1 rfl) ?_
    refine lv_if_eq (tgt := 41) B.hx B.hb dX4_review_15 (by decide) (fun _ => ?_) (fun c5 => absurd c5 (by decide))
    refine lv_iconst (v := (-1)) B.hx B.hb dX4_review_41 (by decide) ?_
    refine lv_istore (lv' := [(6, .int (-1)), (5, .int (nI 0)), (4, .int (nI 0)), (0, .ref (o 0)), (1, .int x), (2, .int y), (3, .int z)]) B.hx B.hb dX4_review_42 hl (by decide) rfl (fun ls hl => ?_)
    refine lv_iload B.hx B.hb dX4_review_44 (lv_at hl 0 rfl) ?_
    refine lv_iconst (v := (-1)) B.hx B.hb dX4_review_46 (by decide) ?_
    refine lv_icmp_eq (tgt := 82) B.hx B.hb dX4_review_47 (by decide) (fun _ => ?_) (fun c6 => absurd c6 (by decide))
    refine lv_iconst (v := (nI 0)) B.hx B.hb dX4_review_82 (by decide) ?_
    refine lv_istore (lv' := [(7, .int (nI 0)), (6, .int (-1)), (5, .int (nI 0)), (4, .int (nI 0)), (0, .ref (o 0)), (1, .int x), (2, .int y), (3, .int z)]) B.hx B.hb dX4_review_83 hl (by decide) rfl (fun ls hl => ?_)
    refine lv_aload_n B.hx B.hb dX4_review_85 rfl (lv_at hl 4 rfl) ?_
    refine lv_iload B.hx B.hb dX4_review_86 (lv_at hl 3 rfl) ?_
    refine lv_if_ne (tgt := 95) B.hx B.hb dX4_review_88 (by decide) (fun c7 => absurd c7 (by decide)) (fun _ => ?_)
    refine lv_iconst (v := (nI 1)) B.hx B.hb dX4_review_91 (by decide) ?_
    refine lv_goto (tgt := 114) B.hx B.hb dX4_review_92 (by decide) ?_
    refine q_callV (As := [.int (nI 1)]) (rest := []) B hP hD hS (c4_can l D cI cZ cP cJ o J Z (nI 1)) (cwV 1 B.hts gX4_review_X4_can rfl rfl rfl (by decide +kernel) ⟨(Nat.le_of_ble_eq_true rfl), (Nat.le_of_ble_eq_true rfl)⟩) 0 4 rfl rfl rfl rfl hl.1 rfl (Nat.le_of_ble_eq_true rfl) dX4_review_114 ⟨(Nat.le_of_ble_eq_true rfl), (Nat.le_of_ble_eq_true rfl)⟩ (fun E ce q9 H locs hx => False.elim hx) (fun v u H locs hp hP hD hS => ?_)
    obtain rfl := hp
    have hP : va_P D vwCl (mw cI cZ o (va_up J 30 (nI 1)) Z) H := hP
    have hD : va_D A (mw cI cZ o (va_up J 30 (nI 1)) Z) := hD
    refine q_top (v2 := .int (nI 0)) rfl ?_
    refine lv_if_ne (tgt := 122) B.hx B.hb dX4_review_117 (by decide) (fun c8 => absurd c8 (by decide)) (fun _ => ?_)
    refine lv_iconst (v := (nI 0)) B.hx B.hb dX4_review_120 (by decide) ?_
    exact q_iret B hr hP hD hS (u := ()) rfl rfl (Nat.le_of_ble_eq_true rfl) (Nat.le_of_ble_eq_true rfl) dX4_review_121
set_option maxHeartbeats 4000000 in
set_option maxRecDepth 100000 in
theorem c4_answer_no (l : Launch) (D : va_G) (cI cZ cP cJ : ClassId) (o : Nat → Nat) (J : Nat → Int32) (Z : Nat → Nat → Int32) (n : Nat) (hn : J 5 = nI n) (hn8 : n ≤ 8) (x y : Int32) (hno : inr x n = false) : q_C l yX4_answer wsX4_answer ({ frames := 2, cells := 0, slots := 0, locals := 43 }) D cI cZ cP cJ [.ref (o 0), .int x, .int y] (mw cI cZ o J Z) (S := Unit) (fun v _ => v = some (.int (nI 0))) (fun _ => mw cI cZ o (va_up J 30 (nI 1)) Z) (fun _ => False) 0 0 := by
  refine q_of (cc := cX4_answer) (maxL := 4) (ret := (some .int)) (by decide +kernel) rfl (Nat.le_of_ble_eq_true rfl) ?_
  intro p e s m below meth c A ls B hr htb hmn hP hD hS hl
  have hl : lv_has ls 4 [(0, .ref (o 0)), (1, .int x), (2, .int y)] := hl
  refine lv_aload_n B.hx B.hb dX4_answer_0 rfl (lv_at hl 0 rfl) ?_
  refine lv_iload_n B.hx B.hb dX4_answer_1 rfl (lv_at hl 1 rfl) ?_
  refine q_callV (As := [.int x]) (rest := []) B hP hD hS (c4_isPaper l D cI cZ cP cJ o J Z n hn hn8 x) (cwV 1 B.hts gX4_answer_X4_isPaper rfl rfl rfl (by decide +kernel) ⟨(Nat.le_of_ble_eq_true rfl), (Nat.le_of_ble_eq_true rfl)⟩) 0 4 rfl rfl rfl rfl hl.1 rfl (Nat.le_of_ble_eq_true rfl) dX4_answer_2 ⟨(Nat.le_of_ble_eq_true rfl), (Nat.le_of_ble_eq_true rfl)⟩ (fun E ce q9 H locs hx => False.elim hx) (fun v u H locs hp hP hD hS => ?_)
  obtain rfl := hp
  have hP : va_P D vwCl (mw cI cZ o J Z) H := hP
  have hD : va_D A (mw cI cZ o J Z) := hD
  refine q_top (v2 := .int (nI 0)) (by rw [hno]; rfl) ?_
  refine lv_if_eq (tgt := 37) B.hx B.hb dX4_answer_5 (by decide) (fun _ => ?_) (fun c1 => absurd c1 (by decide))
  refine lv_iconst (v := (nI 0)) B.hx B.hb dX4_answer_37 (by decide) ?_
  refine lv_istore_n (lv' := [(3, .int (nI 0)), (0, .ref (o 0)), (1, .int x), (2, .int y)]) B.hx B.hb dX4_answer_38 rfl hl (by decide) rfl (fun ls hl => ?_)
  refine lv_aload_n B.hx B.hb dX4_answer_39 rfl (lv_at hl 1 rfl) ?_
  refine lv_iload_n B.hx B.hb dX4_answer_40 rfl (lv_at hl 0 rfl) ?_
  refine lv_if_ne (tgt := 48) B.hx B.hb dX4_answer_41 (by decide) (fun c2 => absurd c2 (by decide)) (fun _ => ?_)
  refine lv_iconst (v := (nI 1)) B.hx B.hb dX4_answer_44 (by decide) ?_
  refine lv_goto (tgt := 75) B.hx B.hb dX4_answer_45 (by decide) ?_
  refine q_callV (As := [.int (nI 1)]) (rest := []) B hP hD hS (c4_can l D cI cZ cP cJ o J Z (nI 1)) (cwV 1 B.hts gX4_answer_X4_can rfl rfl rfl (by decide +kernel) ⟨(Nat.le_of_ble_eq_true rfl), (Nat.le_of_ble_eq_true rfl)⟩) 0 4 rfl rfl rfl rfl hl.1 rfl (Nat.le_of_ble_eq_true rfl) dX4_answer_75 ⟨(Nat.le_of_ble_eq_true rfl), (Nat.le_of_ble_eq_true rfl)⟩ (fun E ce q9 H locs hx => False.elim hx) (fun v u H locs hp hP hD hS => ?_)
  obtain rfl := hp
  have hP : va_P D vwCl (mw cI cZ o (va_up J 30 (nI 1)) Z) H := hP
  have hD : va_D A (mw cI cZ o (va_up J 30 (nI 1)) Z) := hD
  refine q_top (v2 := .int (nI 0)) rfl ?_
  refine lv_if_ne (tgt := 83) B.hx B.hb dX4_answer_78 (by decide) (fun c3 => absurd c3 (by decide)) (fun _ => ?_)
  refine lv_iconst (v := (nI 0)) B.hx B.hb dX4_answer_81 (by decide) ?_
  exact q_iret B hr hP hD hS (u := ()) rfl rfl (Nat.le_of_ble_eq_true rfl) (Nat.le_of_ble_eq_true rfl) dX4_answer_82
set_option maxHeartbeats 4000000 in
set_option maxRecDepth 100000 in
theorem c4_approve_no (l : Launch) (D : va_G) (cI cZ cP cJ : ClassId) (o : Nat → Nat) (J : Nat → Int32) (Z : Nat → Nat → Int32) (n : Nat) (hn : J 5 = nI n) (hn8 : n ≤ 8) (x y z : Int32) (hno : inr x n = false) : q_C l yX4_approve wsX4_approve ({ frames := 2, cells := 0, slots := 0, locals := 43 }) D cI cZ cP cJ [.ref (o 0), .int x, .int y, .int z] (mw cI cZ o J Z) (S := Unit) (fun v _ => v = none) (fun _ => mw cI cZ o (va_up J 30 (nI 1)) Z) (fun _ => False) 0 0 := by
  refine q_of (cc := cX4_approve) (maxL := 7) (ret := none) (by decide +kernel) rfl (Nat.le_of_ble_eq_true rfl) ?_
  intro p e s m below meth c A ls B hr htb hmn hP hD hS hl
  have hl : lv_has ls 7 [(0, .ref (o 0)), (1, .int x), (2, .int y), (3, .int z)] := hl
  have hi4 : ∀ w ∈ u_ws RX4 TX4 31, w ∈ wsX4_approve := by decide +kernel
  refine lv_aload_n B.hx B.hb dX4_approve_0 rfl (lv_at hl 0 rfl) ?_
  refine lv_iload_n B.hx B.hb dX4_approve_1 rfl (lv_at hl 1 rfl) ?_
  refine q_callV (As := [.int x]) (rest := []) B hP hD hS (c4_isPaper l D cI cZ cP cJ o J Z n hn hn8 x) (cwV 1 B.hts gX4_approve_X4_isPaper rfl rfl rfl (by decide +kernel) ⟨(Nat.le_of_ble_eq_true rfl), (Nat.le_of_ble_eq_true rfl)⟩) 0 4 rfl rfl rfl rfl hl.1 rfl (Nat.le_of_ble_eq_true rfl) dX4_approve_2 ⟨(Nat.le_of_ble_eq_true rfl), (Nat.le_of_ble_eq_true rfl)⟩ (fun E ce q9 H locs hx => False.elim hx) (fun v u H locs hp hP hD hS => ?_)
  obtain rfl := hp
  have hP : va_P D vwCl (mw cI cZ o J Z) H := hP
  have hD : va_D A (mw cI cZ o J Z) := hD
  refine q_top (v2 := .int (nI 0)) (by rw [hno]; rfl) ?_
  refine lv_istore (lv' := [(4, .int (nI 0)), (0, .ref (o 0)), (1, .int x), (2, .int y), (3, .int z)]) B.hx B.hb dX4_approve_5 hl (by decide) rfl (fun ls hl => ?_)
  refine lv_iload_n B.hx B.hb dX4_approve_7 rfl (lv_at hl 3 rfl) ?_
  refine q_callS (As := [.int y]) (rest := []) B hP hD hS ((c4_isPerson l D cI cZ cP cJ y).fr0 (mw cI cZ o J Z)) (cwS 1 B.hts gX4_approve_X4_isPerson rfl rfl rfl (by decide +kernel) ⟨(Nat.le_of_ble_eq_true rfl), (Nat.le_of_ble_eq_true rfl)⟩) rfl hl.1 rfl (Nat.le_of_ble_eq_true rfl) dX4_approve_8 ⟨(Nat.le_of_ble_eq_true rfl), (Nat.le_of_ble_eq_true rfl)⟩ (fun E ce q9 H locs hx => False.elim hx) (fun v u H locs hp hP hD hS => ?_)
  replace hp := bI2 hp
  rcases hp with ⟨rfl, hrg0⟩ | ⟨rfl, hrg0⟩
  · have hP : va_P D vwCl (mw cI cZ o J Z) H := hP
    have hD : va_D A (mw cI cZ o J Z) := hD
    refine lv_if_eq (tgt := 34) B.hx B.hb dX4_approve_11 (by decide) (fun c1 => absurd c1 (by decide)) (fun _ => ?_)
    refine lv_iload_n B.hx B.hb dX4_approve_14 rfl (lv_at hl 4 rfl) ?_
    refine lv_aload_n B.hx B.hb dX4_approve_15 rfl (lv_at hl 1 rfl) ?_
    refine q_get B hP (C := RX4) (ref := "PaperKeeperModel") (T := TX4) (N := 31) (ci := 4) hi4 rfl 0 rfl 0 (by decide) (by decide +kernel) rfl (v := .int (J 0)) rfl dX4_approve_16 ?_
    refine lv_iconst (v := (nI 1)) B.hx B.hb dX4_approve_19 (by decide) ?_
    refine lv_iadd B.hx B.hb dX4_approve_20 ?_
    refine lv_sipush (v := (nI 1000)) B.hx B.hb dX4_approve_21 (by decide) ?_
    refine q_callS (As := [.int z, .int ((J 0) + (nI 1)), .int (nI 1000)]) (rest := []) B hP hD hS ((c4_isIn l D cI cZ cP cJ z ((J 0) + (nI 1)) (nI 1000)).fr0 (mw cI cZ o J Z)) (cwS 3 B.hts gX4_approve_X4_isIn rfl rfl rfl (by decide +kernel) ⟨(Nat.le_of_ble_eq_true rfl), (Nat.le_of_ble_eq_true rfl)⟩) rfl hl.1 rfl (Nat.le_of_ble_eq_true rfl) dX4_approve_24 ⟨(Nat.le_of_ble_eq_true rfl), (Nat.le_of_ble_eq_true rfl)⟩ (fun E ce q9 H locs hx => False.elim hx) (fun v u H locs hp hP hD hS => ?_)
    replace hp := bI2 hp
    rcases hp with ⟨rfl, hrg1⟩ | ⟨rfl, hrg1⟩
    · have hP : va_P D vwCl (mw cI cZ o J Z) H := hP
      have hD : va_D A (mw cI cZ o J Z) := hD
      refine lv_if_eq (tgt := 34) B.hx B.hb dX4_approve_27 (by decide) (fun c2 => absurd c2 (by decide)) (fun _ => ?_)
      refine lv_iconst (v := (nI 1)) B.hx B.hb dX4_approve_30 (by decide) ?_
      refine lv_goto (tgt := 35) B.hx B.hb dX4_approve_31 (by decide) ?_
      refine lv_istore (lv' := [(5, .int (nI 1)), (4, .int (nI 0)), (0, .ref (o 0)), (1, .int x), (2, .int y), (3, .int z)]) B.hx B.hb dX4_approve_35 hl (by decide) rfl (fun ls hl => ?_)
      refine lv_iload B.hx B.hb dX4_approve_37 (lv_at hl 1 rfl) ?_
      refine lv_if_eq (tgt := 86) B.hx B.hb dX4_approve_39 (by decide) (fun _ => ?_) (fun c3 => absurd c3 (by decide))
      refine lv_iconst (v := (nI 0)) B.hx B.hb dX4_approve_86 (by decide) ?_
      refine lv_istore (lv' := [(6, .int (nI 0)), (5, .int (nI 1)), (4, .int (nI 0)), (0, .ref (o 0)), (1, .int x), (2, .int y), (3, .int z)]) B.hx B.hb dX4_approve_87 hl (by decide) rfl (fun ls hl => ?_)
      refine lv_aload_n B.hx B.hb dX4_approve_89 rfl (lv_at hl 3 rfl) ?_
      refine lv_iload B.hx B.hb dX4_approve_90 (lv_at hl 2 rfl) ?_
      refine lv_if_ne (tgt := 99) B.hx B.hb dX4_approve_92 (by decide) (fun c4 => absurd c4 (by decide)) (fun _ => ?_)
      refine lv_iconst (v := (nI 1)) B.hx B.hb dX4_approve_95 (by decide) ?_
      refine lv_goto (tgt := 118) B.hx B.hb dX4_approve_96 (by decide) ?_
      refine q_callV (As := [.int (nI 1)]) (rest := []) B hP hD hS (c4_can l D cI cZ cP cJ o J Z (nI 1)) (cwV 1 B.hts gX4_approve_X4_can rfl rfl rfl (by decide +kernel) ⟨(Nat.le_of_ble_eq_true rfl), (Nat.le_of_ble_eq_true rfl)⟩) 0 4 rfl rfl rfl rfl hl.1 rfl (Nat.le_of_ble_eq_true rfl) dX4_approve_118 ⟨(Nat.le_of_ble_eq_true rfl), (Nat.le_of_ble_eq_true rfl)⟩ (fun E ce q9 H locs hx => False.elim hx) (fun v u H locs hp hP hD hS => ?_)
      obtain rfl := hp
      have hP : va_P D vwCl (mw cI cZ o (va_up J 30 (nI 1)) Z) H := hP
      have hD : va_D A (mw cI cZ o (va_up J 30 (nI 1)) Z) := hD
      refine q_top (v2 := .int (nI 0)) rfl ?_
      refine lv_if_eq (tgt := 138) B.hx B.hb dX4_approve_121 (by decide) (fun _ => ?_) (fun c5 => absurd c5 (by decide))
      exact q_vret B hr hP hD hS (u := ()) rfl rfl (Nat.le_of_ble_eq_true rfl) (Nat.le_of_ble_eq_true rfl) dX4_approve_138
    · have hP : va_P D vwCl (mw cI cZ o J Z) H := hP
      have hD : va_D A (mw cI cZ o J Z) := hD
      refine lv_if_eq (tgt := 34) B.hx B.hb dX4_approve_27 (by decide) (fun _ => ?_) (fun c6 => absurd c6 (by decide))
      refine lv_iconst (v := (nI 0)) B.hx B.hb dX4_approve_34 (by decide) ?_
      refine lv_istore (lv' := [(5, .int (nI 0)), (4, .int (nI 0)), (0, .ref (o 0)), (1, .int x), (2, .int y), (3, .int z)]) B.hx B.hb dX4_approve_35 hl (by decide) rfl (fun ls hl => ?_)
      refine lv_iload B.hx B.hb dX4_approve_37 (lv_at hl 1 rfl) ?_
      refine lv_if_eq (tgt := 86) B.hx B.hb dX4_approve_39 (by decide) (fun _ => ?_) (fun c7 => absurd c7 (by decide))
      refine lv_iconst (v := (nI 0)) B.hx B.hb dX4_approve_86 (by decide) ?_
      refine lv_istore (lv' := [(6, .int (nI 0)), (5, .int (nI 0)), (4, .int (nI 0)), (0, .ref (o 0)), (1, .int x), (2, .int y), (3, .int z)]) B.hx B.hb dX4_approve_87 hl (by decide) rfl (fun ls hl => ?_)
      refine lv_aload_n B.hx B.hb dX4_approve_89 rfl (lv_at hl 3 rfl) ?_
      refine lv_iload B.hx B.hb dX4_approve_90 (lv_at hl 2 rfl) ?_
      refine lv_if_ne (tgt := 99) B.hx B.hb dX4_approve_92 (by decide) (fun c8 => absurd c8 (by decide)) (fun _ => ?_)
      refine lv_iconst (v := (nI 1)) B.hx B.hb dX4_approve_95 (by decide) ?_
      refine lv_goto (tgt := 118) B.hx B.hb dX4_approve_96 (by decide) ?_
      refine q_callV (As := [.int (nI 1)]) (rest := []) B hP hD hS (c4_can l D cI cZ cP cJ o J Z (nI 1)) (cwV 1 B.hts gX4_approve_X4_can rfl rfl rfl (by decide +kernel) ⟨(Nat.le_of_ble_eq_true rfl), (Nat.le_of_ble_eq_true rfl)⟩) 0 4 rfl rfl rfl rfl hl.1 rfl (Nat.le_of_ble_eq_true rfl) dX4_approve_118 ⟨(Nat.le_of_ble_eq_true rfl), (Nat.le_of_ble_eq_true rfl)⟩ (fun E ce q9 H locs hx => False.elim hx) (fun v u H locs hp hP hD hS => ?_)
      obtain rfl := hp
      have hP : va_P D vwCl (mw cI cZ o (va_up J 30 (nI 1)) Z) H := hP
      have hD : va_D A (mw cI cZ o (va_up J 30 (nI 1)) Z) := hD
      refine q_top (v2 := .int (nI 0)) rfl ?_
      refine lv_if_eq (tgt := 138) B.hx B.hb dX4_approve_121 (by decide) (fun _ => ?_) (fun c9 => absurd c9 (by decide))
      exact q_vret B hr hP hD hS (u := ()) rfl rfl (Nat.le_of_ble_eq_true rfl) (Nat.le_of_ble_eq_true rfl) dX4_approve_138
  · have hP : va_P D vwCl (mw cI cZ o J Z) H := hP
    have hD : va_D A (mw cI cZ o J Z) := hD
    refine lv_if_eq (tgt := 34) B.hx B.hb dX4_approve_11 (by decide) (fun _ => ?_) (fun c10 => absurd c10 (by decide))
    refine lv_iconst (v := (nI 0)) B.hx B.hb dX4_approve_34 (by decide) ?_
    refine lv_istore (lv' := [(5, .int (nI 0)), (4, .int (nI 0)), (0, .ref (o 0)), (1, .int x), (2, .int y), (3, .int z)]) B.hx B.hb dX4_approve_35 hl (by decide) rfl (fun ls hl => ?_)
    refine lv_iload B.hx B.hb dX4_approve_37 (lv_at hl 1 rfl) ?_
    refine lv_if_eq (tgt := 86) B.hx B.hb dX4_approve_39 (by decide) (fun _ => ?_) (fun c11 => absurd c11 (by decide))
    refine lv_iconst (v := (nI 0)) B.hx B.hb dX4_approve_86 (by decide) ?_
    refine lv_istore (lv' := [(6, .int (nI 0)), (5, .int (nI 0)), (4, .int (nI 0)), (0, .ref (o 0)), (1, .int x), (2, .int y), (3, .int z)]) B.hx B.hb dX4_approve_87 hl (by decide) rfl (fun ls hl => ?_)
    refine lv_aload_n B.hx B.hb dX4_approve_89 rfl (lv_at hl 3 rfl) ?_
    refine lv_iload B.hx B.hb dX4_approve_90 (lv_at hl 2 rfl) ?_
    refine lv_if_ne (tgt := 99) B.hx B.hb dX4_approve_92 (by decide) (fun c12 => absurd c12 (by decide)) (fun _ => ?_)
    refine lv_iconst (v := (nI 1)) B.hx B.hb dX4_approve_95 (by decide) ?_
    refine lv_goto (tgt := 118) B.hx B.hb dX4_approve_96 (by decide) ?_
    refine q_callV (As := [.int (nI 1)]) (rest := []) B hP hD hS (c4_can l D cI cZ cP cJ o J Z (nI 1)) (cwV 1 B.hts gX4_approve_X4_can rfl rfl rfl (by decide +kernel) ⟨(Nat.le_of_ble_eq_true rfl), (Nat.le_of_ble_eq_true rfl)⟩) 0 4 rfl rfl rfl rfl hl.1 rfl (Nat.le_of_ble_eq_true rfl) dX4_approve_118 ⟨(Nat.le_of_ble_eq_true rfl), (Nat.le_of_ble_eq_true rfl)⟩ (fun E ce q9 H locs hx => False.elim hx) (fun v u H locs hp hP hD hS => ?_)
    obtain rfl := hp
    have hP : va_P D vwCl (mw cI cZ o (va_up J 30 (nI 1)) Z) H := hP
    have hD : va_D A (mw cI cZ o (va_up J 30 (nI 1)) Z) := hD
    refine q_top (v2 := .int (nI 0)) rfl ?_
    refine lv_if_eq (tgt := 138) B.hx B.hb dX4_approve_121 (by decide) (fun _ => ?_) (fun c13 => absurd c13 (by decide))
    exact q_vret B hr hP hD hS (u := ()) rfl rfl (Nat.le_of_ble_eq_true rfl) (Nat.le_of_ble_eq_true rfl) dX4_approve_138
set_option maxHeartbeats 4000000 in
set_option maxRecDepth 100000 in
theorem c4_confirm_no (l : Launch) (D : va_G) (cI cZ cP cJ : ClassId) (o : Nat → Nat) (J : Nat → Int32) (Z : Nat → Nat → Int32) (n : Nat) (hn : J 5 = nI n) (hn8 : n ≤ 8) (x y : Int32) (hno : inr x n = false) : q_C l yX4_confirm wsX4_confirm ({ frames := 2, cells := 0, slots := 0, locals := 43 }) D cI cZ cP cJ [.ref (o 0), .int x, .int y] (mw cI cZ o J Z) (S := Unit) (fun v _ => v = some (.int (nI 0))) (fun _ => mw cI cZ o (va_up J 30 (nI 1)) Z) (fun _ => False) 0 0 := by
  refine q_of (cc := cX4_confirm) (maxL := 6) (ret := (some .int)) (by decide +kernel) rfl (Nat.le_of_ble_eq_true rfl) ?_
  intro p e s m below meth c A ls B hr htb hmn hP hD hS hl
  have hl : lv_has ls 6 [(0, .ref (o 0)), (1, .int x), (2, .int y)] := hl
  refine lv_aload_n B.hx B.hb dX4_confirm_0 rfl (lv_at hl 0 rfl) ?_
  refine lv_iload_n B.hx B.hb dX4_confirm_1 rfl (lv_at hl 1 rfl) ?_
  refine q_callV (As := [.int x]) (rest := []) B hP hD hS (c4_isPaper l D cI cZ cP cJ o J Z n hn hn8 x) (cwV 1 B.hts gX4_confirm_X4_isPaper rfl rfl rfl (by decide +kernel) ⟨(Nat.le_of_ble_eq_true rfl), (Nat.le_of_ble_eq_true rfl)⟩) 0 4 rfl rfl rfl rfl hl.1 rfl (Nat.le_of_ble_eq_true rfl) dX4_confirm_2 ⟨(Nat.le_of_ble_eq_true rfl), (Nat.le_of_ble_eq_true rfl)⟩ (fun E ce q9 H locs hx => False.elim hx) (fun v u H locs hp hP hD hS => ?_)
  obtain rfl := hp
  have hP : va_P D vwCl (mw cI cZ o J Z) H := hP
  have hD : va_D A (mw cI cZ o J Z) := hD
  refine q_top (v2 := .int (nI 0)) (by rw [hno]; rfl) ?_
  refine lv_istore_n (lv' := [(3, .int (nI 0)), (0, .ref (o 0)), (1, .int x), (2, .int y)]) B.hx B.hb dX4_confirm_5 rfl hl (by decide) rfl (fun ls hl => ?_)
  refine lv_iload_n B.hx B.hb dX4_confirm_6 rfl (lv_at hl 3 rfl) ?_
  refine q_callS (As := [.int y]) (rest := []) B hP hD hS ((c4_isPerson l D cI cZ cP cJ y).fr0 (mw cI cZ o J Z)) (cwS 1 B.hts gX4_confirm_X4_isPerson rfl rfl rfl (by decide +kernel) ⟨(Nat.le_of_ble_eq_true rfl), (Nat.le_of_ble_eq_true rfl)⟩) rfl hl.1 rfl (Nat.le_of_ble_eq_true rfl) dX4_confirm_7 ⟨(Nat.le_of_ble_eq_true rfl), (Nat.le_of_ble_eq_true rfl)⟩ (fun E ce q9 H locs hx => False.elim hx) (fun v u H locs hp hP hD hS => ?_)
  replace hp := bI2 hp
  rcases hp with ⟨rfl, hrg0⟩ | ⟨rfl, hrg0⟩
  · have hP : va_P D vwCl (mw cI cZ o J Z) H := hP
    have hD : va_D A (mw cI cZ o J Z) := hD
    refine lv_istore (lv' := [(4, .int (nI 1)), (3, .int (nI 0)), (0, .ref (o 0)), (1, .int x), (2, .int y)]) B.hx B.hb dX4_confirm_10 hl (by decide) rfl (fun ls hl => ?_)
    refine lv_iload_n B.hx B.hb dX4_confirm_12 rfl (lv_at hl 1 rfl) ?_
    refine lv_if_eq (tgt := 71) B.hx B.hb dX4_confirm_13 (by decide) (fun _ => ?_) (fun c1 => absurd c1 (by decide))
    refine lv_iconst (v := (nI 0)) B.hx B.hb dX4_confirm_71 (by decide) ?_
    refine lv_istore (lv' := [(5, .int (nI 0)), (4, .int (nI 1)), (3, .int (nI 0)), (0, .ref (o 0)), (1, .int x), (2, .int y)]) B.hx B.hb dX4_confirm_72 hl (by decide) rfl (fun ls hl => ?_)
    refine lv_aload_n B.hx B.hb dX4_confirm_74 rfl (lv_at hl 3 rfl) ?_
    refine lv_iload_n B.hx B.hb dX4_confirm_75 rfl (lv_at hl 2 rfl) ?_
    refine lv_if_ne (tgt := 83) B.hx B.hb dX4_confirm_76 (by decide) (fun c2 => absurd c2 (by decide)) (fun _ => ?_)
    refine lv_iconst (v := (nI 1)) B.hx B.hb dX4_confirm_79 (by decide) ?_
    refine lv_goto (tgt := 102) B.hx B.hb dX4_confirm_80 (by decide) ?_
    refine q_callV (As := [.int (nI 1)]) (rest := []) B hP hD hS (c4_can l D cI cZ cP cJ o J Z (nI 1)) (cwV 1 B.hts gX4_confirm_X4_can rfl rfl rfl (by decide +kernel) ⟨(Nat.le_of_ble_eq_true rfl), (Nat.le_of_ble_eq_true rfl)⟩) 0 4 rfl rfl rfl rfl hl.1 rfl (Nat.le_of_ble_eq_true rfl) dX4_confirm_102 ⟨(Nat.le_of_ble_eq_true rfl), (Nat.le_of_ble_eq_true rfl)⟩ (fun E ce q9 H locs hx => False.elim hx) (fun v u H locs hp hP hD hS => ?_)
    obtain rfl := hp
    have hP : va_P D vwCl (mw cI cZ o (va_up J 30 (nI 1)) Z) H := hP
    have hD : va_D A (mw cI cZ o (va_up J 30 (nI 1)) Z) := hD
    refine q_top (v2 := .int (nI 0)) rfl ?_
    refine lv_if_ne (tgt := 110) B.hx B.hb dX4_confirm_105 (by decide) (fun c3 => absurd c3 (by decide)) (fun _ => ?_)
    refine lv_iconst (v := (nI 0)) B.hx B.hb dX4_confirm_108 (by decide) ?_
    exact q_iret B hr hP hD hS (u := ()) rfl rfl (Nat.le_of_ble_eq_true rfl) (Nat.le_of_ble_eq_true rfl) dX4_confirm_109
  · have hP : va_P D vwCl (mw cI cZ o J Z) H := hP
    have hD : va_D A (mw cI cZ o J Z) := hD
    refine lv_istore (lv' := [(4, .int (nI 0)), (3, .int (nI 0)), (0, .ref (o 0)), (1, .int x), (2, .int y)]) B.hx B.hb dX4_confirm_10 hl (by decide) rfl (fun ls hl => ?_)
    refine lv_iload_n B.hx B.hb dX4_confirm_12 rfl (lv_at hl 1 rfl) ?_
    refine lv_if_eq (tgt := 71) B.hx B.hb dX4_confirm_13 (by decide) (fun _ => ?_) (fun c4 => absurd c4 (by decide))
    refine lv_iconst (v := (nI 0)) B.hx B.hb dX4_confirm_71 (by decide) ?_
    refine lv_istore (lv' := [(5, .int (nI 0)), (4, .int (nI 0)), (3, .int (nI 0)), (0, .ref (o 0)), (1, .int x), (2, .int y)]) B.hx B.hb dX4_confirm_72 hl (by decide) rfl (fun ls hl => ?_)
    refine lv_aload_n B.hx B.hb dX4_confirm_74 rfl (lv_at hl 3 rfl) ?_
    refine lv_iload_n B.hx B.hb dX4_confirm_75 rfl (lv_at hl 2 rfl) ?_
    refine lv_if_ne (tgt := 83) B.hx B.hb dX4_confirm_76 (by decide) (fun c5 => absurd c5 (by decide)) (fun _ => ?_)
    refine lv_iconst (v := (nI 1)) B.hx B.hb dX4_confirm_79 (by decide) ?_
    refine lv_goto (tgt := 102) B.hx B.hb dX4_confirm_80 (by decide) ?_
    refine q_callV (As := [.int (nI 1)]) (rest := []) B hP hD hS (c4_can l D cI cZ cP cJ o J Z (nI 1)) (cwV 1 B.hts gX4_confirm_X4_can rfl rfl rfl (by decide +kernel) ⟨(Nat.le_of_ble_eq_true rfl), (Nat.le_of_ble_eq_true rfl)⟩) 0 4 rfl rfl rfl rfl hl.1 rfl (Nat.le_of_ble_eq_true rfl) dX4_confirm_102 ⟨(Nat.le_of_ble_eq_true rfl), (Nat.le_of_ble_eq_true rfl)⟩ (fun E ce q9 H locs hx => False.elim hx) (fun v u H locs hp hP hD hS => ?_)
    obtain rfl := hp
    have hP : va_P D vwCl (mw cI cZ o (va_up J 30 (nI 1)) Z) H := hP
    have hD : va_D A (mw cI cZ o (va_up J 30 (nI 1)) Z) := hD
    refine q_top (v2 := .int (nI 0)) rfl ?_
    refine lv_if_ne (tgt := 110) B.hx B.hb dX4_confirm_105 (by decide) (fun c6 => absurd c6 (by decide)) (fun _ => ?_)
    refine lv_iconst (v := (nI 0)) B.hx B.hb dX4_confirm_108 (by decide) ?_
    exact q_iret B hr hP hD hS (u := ()) rfl rfl (Nat.le_of_ble_eq_true rfl) (Nat.le_of_ble_eq_true rfl) dX4_confirm_109
set_option maxHeartbeats 4000000 in
set_option maxRecDepth 100000 in
theorem c4_look_no (l : Launch) (D : va_G) (cI cZ cP cJ : ClassId) (o : Nat → Nat) (J : Nat → Int32) (Z : Nat → Nat → Int32) (n : Nat) (hn : J 5 = nI n) (hn8 : n ≤ 8) (x : Int32) (hno : inr x n = false) : q_C l yX4_look wsX4_look ({ frames := 2, cells := 0, slots := 0, locals := 43 }) D cI cZ cP cJ [.ref (o 0), .int x] (mw cI cZ o J Z) (S := Unit) (fun v _ => v = some (.int (nI 0))) (fun _ => mw cI cZ o (va_up J 30 (nI 1)) Z) (fun _ => False) 0 0 := by
  refine q_of (cc := cX4_look) (maxL := 3) (ret := (some .boolean)) (by decide +kernel) rfl (Nat.le_of_ble_eq_true rfl) ?_
  intro p e s m below meth c A ls B hr htb hmn hP hD hS hl
  have hl : lv_has ls 3 [(0, .ref (o 0)), (1, .int x)] := hl
  refine lv_aload_n B.hx B.hb dX4_look_0 rfl (lv_at hl 0 rfl) ?_
  refine lv_aload_n B.hx B.hb dX4_look_1 rfl (lv_at hl 0 rfl) ?_
  refine lv_iload_n B.hx B.hb dX4_look_2 rfl (lv_at hl 1 rfl) ?_
  refine q_callV (As := [.int x]) (rest := [.ref (o 0)]) B hP hD hS (c4_isPaper l D cI cZ cP cJ o J Z n hn hn8 x) (cwV 1 B.hts gX4_look_X4_isPaper rfl rfl rfl (by decide +kernel) ⟨(Nat.le_of_ble_eq_true rfl), (Nat.le_of_ble_eq_true rfl)⟩) 0 4 rfl rfl rfl rfl hl.1 rfl (Nat.le_of_ble_eq_true rfl) dX4_look_3 ⟨(Nat.le_of_ble_eq_true rfl), (Nat.le_of_ble_eq_true rfl)⟩ (fun E ce q9 H locs hx => False.elim hx) (fun v u H locs hp hP hD hS => ?_)
  obtain rfl := hp
  have hP : va_P D vwCl (mw cI cZ o J Z) H := hP
  have hD : va_D A (mw cI cZ o J Z) := hD
  refine q_top (v2 := .int (nI 0)) (by rw [hno]; rfl) ?_
  refine lv_if_ne (tgt := 13) B.hx B.hb dX4_look_6 (by decide) (fun c1 => absurd c1 (by decide)) (fun _ => ?_)
  refine lv_iconst (v := (nI 1)) B.hx B.hb dX4_look_9 (by decide) ?_
  refine lv_goto (tgt := 27) B.hx B.hb dX4_look_10 (by decide) ?_
  refine q_callV (As := [.int (nI 1)]) (rest := []) B hP hD hS (c4_can l D cI cZ cP cJ o J Z (nI 1)) (cwV 1 B.hts gX4_look_X4_can rfl rfl rfl (by decide +kernel) ⟨(Nat.le_of_ble_eq_true rfl), (Nat.le_of_ble_eq_true rfl)⟩) 0 4 rfl rfl rfl rfl hl.1 rfl (Nat.le_of_ble_eq_true rfl) dX4_look_27 ⟨(Nat.le_of_ble_eq_true rfl), (Nat.le_of_ble_eq_true rfl)⟩ (fun E ce q9 H locs hx => False.elim hx) (fun v u H locs hp hP hD hS => ?_)
  obtain rfl := hp
  have hP : va_P D vwCl (mw cI cZ o (va_up J 30 (nI 1)) Z) H := hP
  have hD : va_D A (mw cI cZ o (va_up J 30 (nI 1)) Z) := hD
  refine q_top (v2 := .int (nI 0)) rfl ?_
  refine lv_if_ne (tgt := 35) B.hx B.hb dX4_look_30 (by decide) (fun c2 => absurd c2 (by decide)) (fun _ => ?_)
  refine lv_iconst (v := (nI 0)) B.hx B.hb dX4_look_33 (by decide) ?_
  exact q_zret B hr hP hD hS (by decide) (u := ()) rfl rfl (Nat.le_of_ble_eq_true rfl) (Nat.le_of_ble_eq_true rfl) dX4_look_34
set_option maxHeartbeats 4000000 in
set_option maxRecDepth 100000 in
theorem c4_isDue_no (l : Launch) (D : va_G) (cI cZ cP cJ : ClassId) (o : Nat → Nat) (J : Nat → Int32) (Z : Nat → Nat → Int32) (n : Nat) (hn : J 5 = nI n) (hn8 : n ≤ 8) (x : Int32) (hno : inr x n = false) : q_C l yX4_isDue wsX4_isDue ({ frames := 3, cells := 0, slots := 0, locals := 64 }) D cI cZ cP cJ [.ref (o 0), .int x] (mw cI cZ o J Z) (S := Unit) (fun v _ => v = some (.int (nI 0))) (fun _ => mw cI cZ o (va_up J 30 (nI 1)) Z) (fun _ => False) 0 0 := by
  refine q_of (cc := cX4_isDue) (maxL := 2) (ret := (some .boolean)) (by decide +kernel) rfl (Nat.le_of_ble_eq_true rfl) ?_
  intro p e s m below meth c A ls B hr htb hmn hP hD hS hl
  have hl : lv_has ls 2 [(0, .ref (o 0)), (1, .int x)] := hl
  refine lv_aload_n B.hx B.hb dX4_isDue_0 rfl (lv_at hl 0 rfl) ?_
  refine lv_iload_n B.hx B.hb dX4_isDue_1 rfl (lv_at hl 1 rfl) ?_
  refine q_callV (As := [.int x]) (rest := []) B hP hD hS (c4_isAsked_no l D cI cZ cP cJ o J Z n hn hn8 x hno) (cwV 1 B.hts gX4_isDue_X4_isAsked rfl rfl rfl (by decide +kernel) ⟨(Nat.le_of_ble_eq_true rfl), (Nat.le_of_ble_eq_true rfl)⟩) 0 4 rfl rfl rfl rfl hl.1 rfl (Nat.le_of_ble_eq_true rfl) dX4_isDue_2 ⟨(Nat.le_of_ble_eq_true rfl), (Nat.le_of_ble_eq_true rfl)⟩ (fun E ce q9 H locs hx => False.elim hx) (fun v u H locs hp hP hD hS => ?_)
  obtain rfl := hp
  have hP : va_P D vwCl (mw cI cZ o (va_up J 30 (nI 1)) Z) H := hP
  have hD : va_D A (mw cI cZ o (va_up J 30 (nI 1)) Z) := hD
  refine lv_if_eq (tgt := 20) B.hx B.hb dX4_isDue_5 (by decide) (fun _ => ?_) (fun c1 => absurd c1 (by decide))
  refine lv_iconst (v := (nI 0)) B.hx B.hb dX4_isDue_20 (by decide) ?_
  exact q_zret B hr hP hD hS (by decide) (u := ()) rfl rfl (Nat.le_of_ble_eq_true rfl) (Nat.le_of_ble_eq_true rfl) dX4_isDue_21
set_option maxHeartbeats 4000000 in
set_option maxRecDepth 100000 in
theorem c4_copy_no (l : Launch) (D : va_G) (cI cZ cP cJ : ClassId) (o : Nat → Nat) (J : Nat → Int32) (Z : Nat → Nat → Int32) (n : Nat) (hn : J 5 = nI n) (hn8 : n ≤ 8) (x y : Int32) (hno : inr x n = false) : q_C l yX4_copy wsX4_copy ({ frames := 2, cells := 0, slots := 0, locals := 43 }) D cI cZ cP cJ [.ref (o 0), .int x, .int y] (mw cI cZ o J Z) (S := Unit) (fun v _ => v = some (.int (nI 0))) (fun _ => mw cI cZ o (va_up J 30 (nI 1)) Z) (fun _ => False) 0 0 := by
  refine q_of (cc := cX4_copy) (maxL := 3) (ret := (some .int)) (by decide +kernel) rfl (Nat.le_of_ble_eq_true rfl) ?_
  intro p e s m below meth c A ls B hr htb hmn hP hD hS hl
  have hl : lv_has ls 3 [(0, .ref (o 0)), (1, .int x), (2, .int y)] := hl
  refine lv_aload_n B.hx B.hb dX4_copy_0 rfl (lv_at hl 0 rfl) ?_
  refine lv_aload_n B.hx B.hb dX4_copy_1 rfl (lv_at hl 0 rfl) ?_
  refine lv_iload_n B.hx B.hb dX4_copy_2 rfl (lv_at hl 1 rfl) ?_
  refine q_callV (As := [.int x]) (rest := [.ref (o 0)]) B hP hD hS (c4_isPaper l D cI cZ cP cJ o J Z n hn hn8 x) (cwV 1 B.hts gX4_copy_X4_isPaper rfl rfl rfl (by decide +kernel) ⟨(Nat.le_of_ble_eq_true rfl), (Nat.le_of_ble_eq_true rfl)⟩) 0 4 rfl rfl rfl rfl hl.1 rfl (Nat.le_of_ble_eq_true rfl) dX4_copy_3 ⟨(Nat.le_of_ble_eq_true rfl), (Nat.le_of_ble_eq_true rfl)⟩ (fun E ce q9 H locs hx => False.elim hx) (fun v u H locs hp hP hD hS => ?_)
  obtain rfl := hp
  have hP : va_P D vwCl (mw cI cZ o J Z) H := hP
  have hD : va_D A (mw cI cZ o J Z) := hD
  refine q_top (v2 := .int (nI 0)) (by rw [hno]; rfl) ?_
  refine lv_if_ne (tgt := 13) B.hx B.hb dX4_copy_6 (by decide) (fun c1 => absurd c1 (by decide)) (fun _ => ?_)
  refine lv_iconst (v := (nI 1)) B.hx B.hb dX4_copy_9 (by decide) ?_
  refine lv_goto (tgt := 50) B.hx B.hb dX4_copy_10 (by decide) ?_
  refine q_callV (As := [.int (nI 1)]) (rest := []) B hP hD hS (c4_can l D cI cZ cP cJ o J Z (nI 1)) (cwV 1 B.hts gX4_copy_X4_can rfl rfl rfl (by decide +kernel) ⟨(Nat.le_of_ble_eq_true rfl), (Nat.le_of_ble_eq_true rfl)⟩) 0 4 rfl rfl rfl rfl hl.1 rfl (Nat.le_of_ble_eq_true rfl) dX4_copy_50 ⟨(Nat.le_of_ble_eq_true rfl), (Nat.le_of_ble_eq_true rfl)⟩ (fun E ce q9 H locs hx => False.elim hx) (fun v u H locs hp hP hD hS => ?_)
  obtain rfl := hp
  have hP : va_P D vwCl (mw cI cZ o (va_up J 30 (nI 1)) Z) H := hP
  have hD : va_D A (mw cI cZ o (va_up J 30 (nI 1)) Z) := hD
  refine q_top (v2 := .int (nI 0)) rfl ?_
  refine lv_if_ne (tgt := 58) B.hx B.hb dX4_copy_53 (by decide) (fun c2 => absurd c2 (by decide)) (fun _ => ?_)
  refine lv_iconst (v := (nI 0)) B.hx B.hb dX4_copy_56 (by decide) ?_
  exact q_iret B hr hP hD hS (u := ()) rfl rfl (Nat.le_of_ble_eq_true rfl) (Nat.le_of_ble_eq_true rfl) dX4_copy_57
set_option maxHeartbeats 4000000 in
set_option maxRecDepth 100000 in
theorem c4_outOfDate_no (l : Launch) (D : va_G) (cI cZ cP cJ : ClassId) (o : Nat → Nat) (J : Nat → Int32) (Z : Nat → Nat → Int32) (n : Nat) (hn : J 5 = nI n) (hn8 : n ≤ 8) (x : Int32) (hno : inr x n = false) : q_C l yX4_outOfDate wsX4_outOfDate ({ frames := 3, cells := 0, slots := 0, locals := 64 }) D cI cZ cP cJ [.ref (o 0), .int x] (mw cI cZ o J Z) (S := Unit) (fun v _ => v = some (.int (nI 0))) (fun _ => mw cI cZ o (va_up J 30 (nI 1)) Z) (fun _ => False) 0 0 := by
  refine q_of (cc := cX4_outOfDate) (maxL := 4) (ret := (some .int)) (by decide +kernel) rfl (Nat.le_of_ble_eq_true rfl) ?_
  intro p e s m below meth c A ls B hr htb hmn hP hD hS hl
  have hl : lv_has ls 4 [(0, .ref (o 0)), (1, .int x)] := hl
  refine lv_aload_n B.hx B.hb dX4_outOfDate_0 rfl (lv_at hl 0 rfl) ?_
  refine lv_iload_n B.hx B.hb dX4_outOfDate_1 rfl (lv_at hl 1 rfl) ?_
  refine q_callV (As := [.int x]) (rest := []) B hP hD hS (c4_isAsked_no l D cI cZ cP cJ o J Z n hn hn8 x hno) (cwV 1 B.hts gX4_outOfDate_X4_isAsked rfl rfl rfl (by decide +kernel) ⟨(Nat.le_of_ble_eq_true rfl), (Nat.le_of_ble_eq_true rfl)⟩) 0 4 rfl rfl rfl rfl hl.1 rfl (Nat.le_of_ble_eq_true rfl) dX4_outOfDate_2 ⟨(Nat.le_of_ble_eq_true rfl), (Nat.le_of_ble_eq_true rfl)⟩ (fun E ce q9 H locs hx => False.elim hx) (fun v u H locs hp hP hD hS => ?_)
  obtain rfl := hp
  have hP : va_P D vwCl (mw cI cZ o (va_up J 30 (nI 1)) Z) H := hP
  have hD : va_D A (mw cI cZ o (va_up J 30 (nI 1)) Z) := hD
  refine lv_if_ne (tgt := 10) B.hx B.hb dX4_outOfDate_5 (by decide) (fun c1 => absurd c1 (by decide)) (fun _ => ?_)
  refine lv_iconst (v := (nI 0)) B.hx B.hb dX4_outOfDate_8 (by decide) ?_
  exact q_iret B hr hP hD hS (u := ()) rfl rfl (Nat.le_of_ble_eq_true rfl) (Nat.le_of_ble_eq_true rfl) dX4_outOfDate_9
set_option maxHeartbeats 4000000 in
set_option maxRecDepth 100000 in
theorem c4_step_no (l : Launch) (D : va_G) (cI cZ cP cJ : ClassId) (o : Nat → Nat) (J : Nat → Int32) (Z : Nat → Nat → Int32) (n : Nat) (hn : J 5 = nI n) (hn8 : n ≤ 8) (x : Int32) (hno : inr x n = false) : q_C l yX4_step wsX4_step ({ frames := 3, cells := 0, slots := 0, locals := 64 }) D cI cZ cP cJ [.ref (o 0), .int x] (mw cI cZ o J Z) (S := Unit) (fun v _ => v = some (.int (nI 0))) (fun _ => mw cI cZ o (va_up J 30 (nI 1)) Z) (fun _ => False) 0 0 := by
  refine q_of (cc := cX4_step) (maxL := 2) (ret := (some .int)) (by decide +kernel) rfl (Nat.le_of_ble_eq_true rfl) ?_
  intro p e s m below meth c A ls B hr htb hmn hP hD hS hl
  have hl : lv_has ls 2 [(0, .ref (o 0)), (1, .int x)] := hl
  refine lv_aload_n B.hx B.hb dX4_step_0 rfl (lv_at hl 0 rfl) ?_
  refine lv_iload_n B.hx B.hb dX4_step_1 rfl (lv_at hl 1 rfl) ?_
  refine q_callV (As := [.int x]) (rest := []) B hP hD hS (c4_isAsked_no l D cI cZ cP cJ o J Z n hn hn8 x hno) (cwV 1 B.hts gX4_step_X4_isAsked rfl rfl rfl (by decide +kernel) ⟨(Nat.le_of_ble_eq_true rfl), (Nat.le_of_ble_eq_true rfl)⟩) 0 4 rfl rfl rfl rfl hl.1 rfl (Nat.le_of_ble_eq_true rfl) dX4_step_2 ⟨(Nat.le_of_ble_eq_true rfl), (Nat.le_of_ble_eq_true rfl)⟩ (fun E ce q9 H locs hx => False.elim hx) (fun v u H locs hp hP hD hS => ?_)
  obtain rfl := hp
  have hP : va_P D vwCl (mw cI cZ o (va_up J 30 (nI 1)) Z) H := hP
  have hD : va_D A (mw cI cZ o (va_up J 30 (nI 1)) Z) := hD
  refine lv_if_eq (tgt := 16) B.hx B.hb dX4_step_5 (by decide) (fun _ => ?_) (fun c1 => absurd c1 (by decide))
  refine lv_iconst (v := (nI 0)) B.hx B.hb dX4_step_16 (by decide) ?_
  exact q_iret B hr hP hD hS (u := ()) rfl rfl (Nat.le_of_ble_eq_true rfl) (Nat.le_of_ble_eq_true rfl) dX4_step_17
set_option maxHeartbeats 4000000 in
set_option maxRecDepth 100000 in
theorem c4_waitsFor_no (l : Launch) (D : va_G) (cI cZ cP cJ : ClassId) (o : Nat → Nat) (J : Nat → Int32) (Z : Nat → Nat → Int32) (n : Nat) (hn : J 5 = nI n) (hn8 : n ≤ 8) (x : Int32) (hno : inr x n = false) : q_C l yX4_waitsFor wsX4_waitsFor ({ frames := 3, cells := 0, slots := 0, locals := 64 }) D cI cZ cP cJ [.ref (o 0), .int x] (mw cI cZ o J Z) (S := Unit) (fun v _ => v = some (.int (nI 0))) (fun _ => mw cI cZ o (va_up J 30 (nI 1)) Z) (fun _ => False) 0 0 := by
  refine q_of (cc := cX4_waitsFor) (maxL := 3) (ret := (some .int)) (by decide +kernel) rfl (Nat.le_of_ble_eq_true rfl) ?_
  intro p e s m below meth c A ls B hr htb hmn hP hD hS hl
  have hl : lv_has ls 3 [(0, .ref (o 0)), (1, .int x)] := hl
  refine lv_aload_n B.hx B.hb dX4_waitsFor_0 rfl (lv_at hl 0 rfl) ?_
  refine lv_iload_n B.hx B.hb dX4_waitsFor_1 rfl (lv_at hl 1 rfl) ?_
  refine q_callV (As := [.int x]) (rest := []) B hP hD hS (c4_isAsked_no l D cI cZ cP cJ o J Z n hn hn8 x hno) (cwV 1 B.hts gX4_waitsFor_X4_isAsked rfl rfl rfl (by decide +kernel) ⟨(Nat.le_of_ble_eq_true rfl), (Nat.le_of_ble_eq_true rfl)⟩) 0 4 rfl rfl rfl rfl hl.1 rfl (Nat.le_of_ble_eq_true rfl) dX4_waitsFor_2 ⟨(Nat.le_of_ble_eq_true rfl), (Nat.le_of_ble_eq_true rfl)⟩ (fun E ce q9 H locs hx => False.elim hx) (fun v u H locs hp hP hD hS => ?_)
  obtain rfl := hp
  have hP : va_P D vwCl (mw cI cZ o (va_up J 30 (nI 1)) Z) H := hP
  have hD : va_D A (mw cI cZ o (va_up J 30 (nI 1)) Z) := hD
  refine lv_if_ne (tgt := 10) B.hx B.hb dX4_waitsFor_5 (by decide) (fun c1 => absurd c1 (by decide)) (fun _ => ?_)
  refine lv_iconst (v := (nI 0)) B.hx B.hb dX4_waitsFor_8 (by decide) ?_
  exact q_iret B hr hP hD hS (u := ()) rfl rfl (Nat.le_of_ble_eq_true rfl) (Nat.le_of_ble_eq_true rfl) dX4_waitsFor_9
set_option maxHeartbeats 4000000 in
set_option maxRecDepth 100000 in
theorem c4_inForce_no (l : Launch) (D : va_G) (cI cZ cP cJ : ClassId) (o : Nat → Nat) (J : Nat → Int32) (Z : Nat → Nat → Int32) (n : Nat) (hn : J 5 = nI n) (hn8 : n ≤ 8) (x : Int32) (hno : inr x n = false) : q_C l yX4_inForce wsX4_inForce ({ frames := 3, cells := 0, slots := 0, locals := 64 }) D cI cZ cP cJ [.ref (o 0), .int x] (mw cI cZ o J Z) (S := Unit) (fun v _ => v = some (.int (nI 0))) (fun _ => mw cI cZ o (va_up J 30 (nI 1)) Z) (fun _ => False) 0 0 := by
  refine q_of (cc := cX4_inForce) (maxL := 2) (ret := (some .int)) (by decide +kernel) rfl (Nat.le_of_ble_eq_true rfl) ?_
  intro p e s m below meth c A ls B hr htb hmn hP hD hS hl
  have hl : lv_has ls 2 [(0, .ref (o 0)), (1, .int x)] := hl
  refine lv_aload_n B.hx B.hb dX4_inForce_0 rfl (lv_at hl 0 rfl) ?_
  refine lv_iload_n B.hx B.hb dX4_inForce_1 rfl (lv_at hl 1 rfl) ?_
  refine q_callV (As := [.int x]) (rest := []) B hP hD hS (c4_isAsked_no l D cI cZ cP cJ o J Z n hn hn8 x hno) (cwV 1 B.hts gX4_inForce_X4_isAsked rfl rfl rfl (by decide +kernel) ⟨(Nat.le_of_ble_eq_true rfl), (Nat.le_of_ble_eq_true rfl)⟩) 0 4 rfl rfl rfl rfl hl.1 rfl (Nat.le_of_ble_eq_true rfl) dX4_inForce_2 ⟨(Nat.le_of_ble_eq_true rfl), (Nat.le_of_ble_eq_true rfl)⟩ (fun E ce q9 H locs hx => False.elim hx) (fun v u H locs hp hP hD hS => ?_)
  obtain rfl := hp
  have hP : va_P D vwCl (mw cI cZ o (va_up J 30 (nI 1)) Z) H := hP
  have hD : va_D A (mw cI cZ o (va_up J 30 (nI 1)) Z) := hD
  refine lv_if_eq (tgt := 19) B.hx B.hb dX4_inForce_5 (by decide) (fun _ => ?_) (fun c1 => absurd c1 (by decide))
  refine lv_iconst (v := (nI 0)) B.hx B.hb dX4_inForce_19 (by decide) ?_
  exact q_iret B hr hP hD hS (u := ()) rfl rfl (Nat.le_of_ble_eq_true rfl) (Nat.le_of_ble_eq_true rfl) dX4_inForce_20
set_option maxHeartbeats 4000000 in
set_option maxRecDepth 100000 in
theorem c4_text_no (l : Launch) (D : va_G) (cI cZ cP cJ : ClassId) (o : Nat → Nat) (J : Nat → Int32) (Z : Nat → Nat → Int32) (n : Nat) (hn : J 5 = nI n) (hn8 : n ≤ 8) (x : Int32) (hno : inr x n = false) : q_C l yX4_text wsX4_text ({ frames := 3, cells := 0, slots := 0, locals := 64 }) D cI cZ cP cJ [.ref (o 0), .int x] (mw cI cZ o J Z) (S := Unit) (fun v _ => v = some (.int (nI 0))) (fun _ => mw cI cZ o (va_up J 30 (nI 1)) Z) (fun _ => False) 0 0 := by
  refine q_of (cc := cX4_text) (maxL := 2) (ret := (some .int)) (by decide +kernel) rfl (Nat.le_of_ble_eq_true rfl) ?_
  intro p e s m below meth c A ls B hr htb hmn hP hD hS hl
  have hl : lv_has ls 2 [(0, .ref (o 0)), (1, .int x)] := hl
  refine lv_aload_n B.hx B.hb dX4_text_0 rfl (lv_at hl 0 rfl) ?_
  refine lv_iload_n B.hx B.hb dX4_text_1 rfl (lv_at hl 1 rfl) ?_
  refine q_callV (As := [.int x]) (rest := []) B hP hD hS (c4_isAsked_no l D cI cZ cP cJ o J Z n hn hn8 x hno) (cwV 1 B.hts gX4_text_X4_isAsked rfl rfl rfl (by decide +kernel) ⟨(Nat.le_of_ble_eq_true rfl), (Nat.le_of_ble_eq_true rfl)⟩) 0 4 rfl rfl rfl rfl hl.1 rfl (Nat.le_of_ble_eq_true rfl) dX4_text_2 ⟨(Nat.le_of_ble_eq_true rfl), (Nat.le_of_ble_eq_true rfl)⟩ (fun E ce q9 H locs hx => False.elim hx) (fun v u H locs hp hP hD hS => ?_)
  obtain rfl := hp
  have hP : va_P D vwCl (mw cI cZ o (va_up J 30 (nI 1)) Z) H := hP
  have hD : va_D A (mw cI cZ o (va_up J 30 (nI 1)) Z) := hD
  refine lv_if_eq (tgt := 43) B.hx B.hb dX4_text_5 (by decide) (fun _ => ?_) (fun c1 => absurd c1 (by decide))
  refine lv_iconst (v := (nI 0)) B.hx B.hb dX4_text_43 (by decide) ?_
  exact q_iret B hr hP hD hS (u := ()) rfl rfl (Nat.le_of_ble_eq_true rfl) (Nat.le_of_ble_eq_true rfl) dX4_text_44
set_option maxHeartbeats 4000000 in
set_option maxRecDepth 100000 in
theorem c4_inForceOn_no (l : Launch) (D : va_G) (cI cZ cP cJ : ClassId) (o : Nat → Nat) (J : Nat → Int32) (Z : Nat → Nat → Int32) (n : Nat) (hn : J 5 = nI n) (hn8 : n ≤ 8) (x y : Int32) (hno : inr x n = false) : q_C l yX4_inForceOn wsX4_inForceOn ({ frames := 2, cells := 0, slots := 0, locals := 43 }) D cI cZ cP cJ [.ref (o 0), .int x, .int y] (mw cI cZ o J Z) (S := Unit) (fun v _ => v = some (.int (nI 0))) (fun _ => mw cI cZ o (va_up J 30 (nI 1)) Z) (fun _ => False) 0 0 := by
  refine q_of (cc := cX4_inForceOn) (maxL := 5) (ret := (some .int)) (by decide +kernel) rfl (Nat.le_of_ble_eq_true rfl) ?_
  intro p e s m below meth c A ls B hr htb hmn hP hD hS hl
  have hl : lv_has ls 5 [(0, .ref (o 0)), (1, .int x), (2, .int y)] := hl
  refine lv_aload_n B.hx B.hb dX4_inForceOn_0 rfl (lv_at hl 0 rfl) ?_
  refine lv_aload_n B.hx B.hb dX4_inForceOn_1 rfl (lv_at hl 0 rfl) ?_
  refine lv_iload_n B.hx B.hb dX4_inForceOn_2 rfl (lv_at hl 1 rfl) ?_
  refine q_callV (As := [.int x]) (rest := [.ref (o 0)]) B hP hD hS (c4_isPaper l D cI cZ cP cJ o J Z n hn hn8 x) (cwV 1 B.hts gX4_inForceOn_X4_isPaper rfl rfl rfl (by decide +kernel) ⟨(Nat.le_of_ble_eq_true rfl), (Nat.le_of_ble_eq_true rfl)⟩) 0 4 rfl rfl rfl rfl hl.1 rfl (Nat.le_of_ble_eq_true rfl) dX4_inForceOn_3 ⟨(Nat.le_of_ble_eq_true rfl), (Nat.le_of_ble_eq_true rfl)⟩ (fun E ce q9 H locs hx => False.elim hx) (fun v u H locs hp hP hD hS => ?_)
  obtain rfl := hp
  have hP : va_P D vwCl (mw cI cZ o J Z) H := hP
  have hD : va_D A (mw cI cZ o J Z) := hD
  refine q_top (v2 := .int (nI 0)) (by rw [hno]; rfl) ?_
  refine lv_if_ne (tgt := 13) B.hx B.hb dX4_inForceOn_6 (by decide) (fun c1 => absurd c1 (by decide)) (fun _ => ?_)
  refine lv_iconst (v := (nI 1)) B.hx B.hb dX4_inForceOn_9 (by decide) ?_
  refine lv_goto (tgt := 30) B.hx B.hb dX4_inForceOn_10 (by decide) ?_
  refine q_callV (As := [.int (nI 1)]) (rest := []) B hP hD hS (c4_can l D cI cZ cP cJ o J Z (nI 1)) (cwV 1 B.hts gX4_inForceOn_X4_can rfl rfl rfl (by decide +kernel) ⟨(Nat.le_of_ble_eq_true rfl), (Nat.le_of_ble_eq_true rfl)⟩) 0 4 rfl rfl rfl rfl hl.1 rfl (Nat.le_of_ble_eq_true rfl) dX4_inForceOn_30 ⟨(Nat.le_of_ble_eq_true rfl), (Nat.le_of_ble_eq_true rfl)⟩ (fun E ce q9 H locs hx => False.elim hx) (fun v u H locs hp hP hD hS => ?_)
  obtain rfl := hp
  have hP : va_P D vwCl (mw cI cZ o (va_up J 30 (nI 1)) Z) H := hP
  have hD : va_D A (mw cI cZ o (va_up J 30 (nI 1)) Z) := hD
  refine q_top (v2 := .int (nI 0)) rfl ?_
  refine lv_if_ne (tgt := 38) B.hx B.hb dX4_inForceOn_33 (by decide) (fun c2 => absurd c2 (by decide)) (fun _ => ?_)
  refine lv_iconst (v := (nI 0)) B.hx B.hb dX4_inForceOn_36 (by decide) ?_
  exact q_iret B hr hP hD hS (u := ()) rfl rfl (Nat.le_of_ble_eq_true rfl) (Nat.le_of_ble_eq_true rfl) dX4_inForceOn_37
set_option maxHeartbeats 4000000 in
set_option maxRecDepth 100000 in
theorem c4_since_no (l : Launch) (D : va_G) (cI cZ cP cJ : ClassId) (o : Nat → Nat) (J : Nat → Int32) (Z : Nat → Nat → Int32) (n : Nat) (hn : J 5 = nI n) (hn8 : n ≤ 8) (x y : Int32) (hno : inr x n = false) : q_C l yX4_since wsX4_since ({ frames := 2, cells := 0, slots := 0, locals := 43 }) D cI cZ cP cJ [.ref (o 0), .int x, .int y] (mw cI cZ o J Z) (S := Unit) (fun v _ => v = some (.int (nI 0))) (fun _ => mw cI cZ o (va_up J 30 (nI 1)) Z) (fun _ => False) 0 0 := by
  refine q_of (cc := cX4_since) (maxL := 3) (ret := (some .int)) (by decide +kernel) rfl (Nat.le_of_ble_eq_true rfl) ?_
  intro p e s m below meth c A ls B hr htb hmn hP hD hS hl
  have hl : lv_has ls 3 [(0, .ref (o 0)), (1, .int x), (2, .int y)] := hl
  refine lv_aload_n B.hx B.hb dX4_since_0 rfl (lv_at hl 0 rfl) ?_
  refine lv_aload_n B.hx B.hb dX4_since_1 rfl (lv_at hl 0 rfl) ?_
  refine lv_iload_n B.hx B.hb dX4_since_2 rfl (lv_at hl 1 rfl) ?_
  refine q_callV (As := [.int x]) (rest := [.ref (o 0)]) B hP hD hS (c4_isPaper l D cI cZ cP cJ o J Z n hn hn8 x) (cwV 1 B.hts gX4_since_X4_isPaper rfl rfl rfl (by decide +kernel) ⟨(Nat.le_of_ble_eq_true rfl), (Nat.le_of_ble_eq_true rfl)⟩) 0 4 rfl rfl rfl rfl hl.1 rfl (Nat.le_of_ble_eq_true rfl) dX4_since_3 ⟨(Nat.le_of_ble_eq_true rfl), (Nat.le_of_ble_eq_true rfl)⟩ (fun E ce q9 H locs hx => False.elim hx) (fun v u H locs hp hP hD hS => ?_)
  obtain rfl := hp
  have hP : va_P D vwCl (mw cI cZ o J Z) H := hP
  have hD : va_D A (mw cI cZ o J Z) := hD
  refine q_top (v2 := .int (nI 0)) (by rw [hno]; rfl) ?_
  refine lv_if_eq (tgt := 29) B.hx B.hb dX4_since_6 (by decide) (fun _ => ?_) (fun c1 => absurd c1 (by decide))
  refine lv_iconst (v := (nI 1)) B.hx B.hb dX4_since_29 (by decide) ?_
  refine q_callV (As := [.int (nI 1)]) (rest := []) B hP hD hS (c4_can l D cI cZ cP cJ o J Z (nI 1)) (cwV 1 B.hts gX4_since_X4_can rfl rfl rfl (by decide +kernel) ⟨(Nat.le_of_ble_eq_true rfl), (Nat.le_of_ble_eq_true rfl)⟩) 0 4 rfl rfl rfl rfl hl.1 rfl (Nat.le_of_ble_eq_true rfl) dX4_since_30 ⟨(Nat.le_of_ble_eq_true rfl), (Nat.le_of_ble_eq_true rfl)⟩ (fun E ce q9 H locs hx => False.elim hx) (fun v u H locs hp hP hD hS => ?_)
  obtain rfl := hp
  have hP : va_P D vwCl (mw cI cZ o (va_up J 30 (nI 1)) Z) H := hP
  have hD : va_D A (mw cI cZ o (va_up J 30 (nI 1)) Z) := hD
  refine q_top (v2 := .int (nI 0)) rfl ?_
  refine lv_if_eq (tgt := 51) B.hx B.hb dX4_since_33 (by decide) (fun _ => ?_) (fun c2 => absurd c2 (by decide))
  refine lv_iconst (v := (nI 0)) B.hx B.hb dX4_since_51 (by decide) ?_
  exact q_iret B hr hP hD hS (u := ()) rfl rfl (Nat.le_of_ble_eq_true rfl) (Nat.le_of_ble_eq_true rfl) dX4_since_52
set_option maxHeartbeats 4000000 in
set_option maxRecDepth 100000 in
theorem c4_hang_no (l : Launch) (D : va_G) (cI cZ cP cJ : ClassId) (o : Nat → Nat) (J : Nat → Int32) (Z : Nat → Nat → Int32) (n : Nat) (hn : J 5 = nI n) (hn8 : n ≤ 8) (x y : Int32) (hno : inr x n = false) : q_C l yX4_hang wsX4_hang ({ frames := 2, cells := 0, slots := 0, locals := 43 }) D cI cZ cP cJ [.ref (o 0), .int x, .int y] (mw cI cZ o J Z) (S := Unit) (fun v _ => v = some (.int (nI 0))) (fun _ => mw cI cZ o (va_up J 30 (nI 1)) Z) (fun _ => False) 0 0 := by
  refine q_of (cc := cX4_hang) (maxL := 5) (ret := (some .int)) (by decide +kernel) rfl (Nat.le_of_ble_eq_true rfl) ?_
  intro p e s m below meth c A ls B hr htb hmn hP hD hS hl
  have hl : lv_has ls 5 [(0, .ref (o 0)), (1, .int x), (2, .int y)] := hl
  refine lv_aload_n B.hx B.hb dX4_hang_0 rfl (lv_at hl 0 rfl) ?_
  refine lv_aload_n B.hx B.hb dX4_hang_1 rfl (lv_at hl 0 rfl) ?_
  refine lv_iload_n B.hx B.hb dX4_hang_2 rfl (lv_at hl 1 rfl) ?_
  refine q_callV (As := [.int x]) (rest := [.ref (o 0)]) B hP hD hS (c4_isPaper l D cI cZ cP cJ o J Z n hn hn8 x) (cwV 1 B.hts gX4_hang_X4_isPaper rfl rfl rfl (by decide +kernel) ⟨(Nat.le_of_ble_eq_true rfl), (Nat.le_of_ble_eq_true rfl)⟩) 0 4 rfl rfl rfl rfl hl.1 rfl (Nat.le_of_ble_eq_true rfl) dX4_hang_3 ⟨(Nat.le_of_ble_eq_true rfl), (Nat.le_of_ble_eq_true rfl)⟩ (fun E ce q9 H locs hx => False.elim hx) (fun v u H locs hp hP hD hS => ?_)
  obtain rfl := hp
  have hP : va_P D vwCl (mw cI cZ o J Z) H := hP
  have hD : va_D A (mw cI cZ o J Z) := hD
  refine q_top (v2 := .int (nI 0)) (by rw [hno]; rfl) ?_
  refine lv_if_eq (tgt := 17) B.hx B.hb dX4_hang_6 (by decide) (fun _ => ?_) (fun c1 => absurd c1 (by decide))
  refine lv_iconst (v := (nI 1)) B.hx B.hb dX4_hang_17 (by decide) ?_
  refine lv_goto (tgt := 31) B.hx B.hb dX4_hang_18 (by decide) ?_
  refine q_callV (As := [.int (nI 1)]) (rest := []) B hP hD hS (c4_can l D cI cZ cP cJ o J Z (nI 1)) (cwV 1 B.hts gX4_hang_X4_can rfl rfl rfl (by decide +kernel) ⟨(Nat.le_of_ble_eq_true rfl), (Nat.le_of_ble_eq_true rfl)⟩) 0 4 rfl rfl rfl rfl hl.1 rfl (Nat.le_of_ble_eq_true rfl) dX4_hang_31 ⟨(Nat.le_of_ble_eq_true rfl), (Nat.le_of_ble_eq_true rfl)⟩ (fun E ce q9 H locs hx => False.elim hx) (fun v u H locs hp hP hD hS => ?_)
  obtain rfl := hp
  have hP : va_P D vwCl (mw cI cZ o (va_up J 30 (nI 1)) Z) H := hP
  have hD : va_D A (mw cI cZ o (va_up J 30 (nI 1)) Z) := hD
  refine q_top (v2 := .int (nI 0)) rfl ?_
  refine lv_if_ne (tgt := 39) B.hx B.hb dX4_hang_34 (by decide) (fun c2 => absurd c2 (by decide)) (fun _ => ?_)
  refine lv_iconst (v := (nI 0)) B.hx B.hb dX4_hang_37 (by decide) ?_
  exact q_iret B hr hP hD hS (u := ()) rfl rfl (Nat.le_of_ble_eq_true rfl) (Nat.le_of_ble_eq_true rfl) dX4_hang_38
set_option maxHeartbeats 4000000 in
set_option maxRecDepth 100000 in
theorem c4_hang_no2 (l : Launch) (D : va_G) (cI cZ cP cJ : ClassId) (o : Nat → Nat) (J : Nat → Int32) (Z : Nat → Nat → Int32) (n : Nat) (hn : J 5 = nI n) (hn8 : n ≤ 8) (j : Nat) (hj : j < n) (y : Int32) (hno : inr y n = false) : q_C l yX4_hang wsX4_hang ({ frames := 2, cells := 0, slots := 0, locals := 43 }) D cI cZ cP cJ [.ref (o 0), .int (nI j), .int y] (mw cI cZ o J Z) (S := Unit) (fun v _ => v = some (.int (nI 0))) (fun _ => mw cI cZ o (va_up J 30 (nI 1)) Z) (fun _ => False) 0 0 := by
  refine q_of (cc := cX4_hang) (maxL := 5) (ret := (some .int)) (by decide +kernel) rfl (Nat.le_of_ble_eq_true rfl) ?_
  intro p e s m below meth c A ls B hr htb hmn hP hD hS hl
  have hl : lv_has ls 5 [(0, .ref (o 0)), (1, .int (nI j)), (2, .int y)] := hl
  have hj8 : j < 8 := by omega
  refine lv_aload_n B.hx B.hb dX4_hang_0 rfl (lv_at hl 0 rfl) ?_
  refine lv_aload_n B.hx B.hb dX4_hang_1 rfl (lv_at hl 0 rfl) ?_
  refine lv_iload_n B.hx B.hb dX4_hang_2 rfl (lv_at hl 1 rfl) ?_
  refine q_callV (As := [.int (nI j)]) (rest := [.ref (o 0)]) B hP hD hS (c4_isPaper l D cI cZ cP cJ o J Z n hn hn8 (nI j)) (cwV 1 B.hts gX4_hang_X4_isPaper rfl rfl rfl (by decide +kernel) ⟨(Nat.le_of_ble_eq_true rfl), (Nat.le_of_ble_eq_true rfl)⟩) 0 4 rfl rfl rfl rfl hl.1 rfl (Nat.le_of_ble_eq_true rfl) dX4_hang_3 ⟨(Nat.le_of_ble_eq_true rfl), (Nat.le_of_ble_eq_true rfl)⟩ (fun E ce q9 H locs hx => False.elim hx) (fun v u H locs hp hP hD hS => ?_)
  obtain rfl := hp
  have hP : va_P D vwCl (mw cI cZ o J Z) H := hP
  have hD : va_D A (mw cI cZ o J Z) := hD
  refine q_top (v2 := .int (nI 1)) (by rw [inr_nI (by omega) (by omega)]; rfl) ?_
  refine lv_if_eq (tgt := 17) B.hx B.hb dX4_hang_6 (by decide) (fun c1 => absurd c1 (by decide)) (fun _ => ?_)
  refine lv_aload_n B.hx B.hb dX4_hang_9 rfl (lv_at hl 0 rfl) ?_
  refine lv_iload_n B.hx B.hb dX4_hang_10 rfl (lv_at hl 2 rfl) ?_
  refine q_callV (As := [.int y]) (rest := [.ref (o 0)]) B hP hD hS (c4_isPaper l D cI cZ cP cJ o J Z n hn hn8 y) (cwV 1 B.hts gX4_hang_X4_isPaper rfl rfl rfl (by decide +kernel) ⟨(Nat.le_of_ble_eq_true rfl), (Nat.le_of_ble_eq_true rfl)⟩) 0 4 rfl rfl rfl rfl hl.1 rfl (Nat.le_of_ble_eq_true rfl) dX4_hang_11 ⟨(Nat.le_of_ble_eq_true rfl), (Nat.le_of_ble_eq_true rfl)⟩ (fun E ce q9 H locs hx => False.elim hx) (fun v u H locs hp hP hD hS => ?_)
  obtain rfl := hp
  have hP : va_P D vwCl (mw cI cZ o J Z) H := hP
  have hD : va_D A (mw cI cZ o J Z) := hD
  refine q_top (v2 := .int (nI 0)) (by rw [hno]; rfl) ?_
  refine lv_if_ne (tgt := 21) B.hx B.hb dX4_hang_14 (by decide) (fun c2 => absurd c2 (by decide)) (fun _ => ?_)
  refine lv_iconst (v := (nI 1)) B.hx B.hb dX4_hang_17 (by decide) ?_
  refine lv_goto (tgt := 31) B.hx B.hb dX4_hang_18 (by decide) ?_
  refine q_callV (As := [.int (nI 1)]) (rest := []) B hP hD hS (c4_can l D cI cZ cP cJ o J Z (nI 1)) (cwV 1 B.hts gX4_hang_X4_can rfl rfl rfl (by decide +kernel) ⟨(Nat.le_of_ble_eq_true rfl), (Nat.le_of_ble_eq_true rfl)⟩) 0 4 rfl rfl rfl rfl hl.1 rfl (Nat.le_of_ble_eq_true rfl) dX4_hang_31 ⟨(Nat.le_of_ble_eq_true rfl), (Nat.le_of_ble_eq_true rfl)⟩ (fun E ce q9 H locs hx => False.elim hx) (fun v u H locs hp hP hD hS => ?_)
  obtain rfl := hp
  have hP : va_P D vwCl (mw cI cZ o (va_up J 30 (nI 1)) Z) H := hP
  have hD : va_D A (mw cI cZ o (va_up J 30 (nI 1)) Z) := hD
  refine q_top (v2 := .int (nI 0)) rfl ?_
  refine lv_if_ne (tgt := 39) B.hx B.hb dX4_hang_34 (by decide) (fun c3 => absurd c3 (by decide)) (fun _ => ?_)
  refine lv_iconst (v := (nI 0)) B.hx B.hb dX4_hang_37 (by decide) ?_
  exact q_iret B hr hP hD hS (u := ()) rfl rfl (Nat.le_of_ble_eq_true rfl) (Nat.le_of_ble_eq_true rfl) dX4_hang_38
