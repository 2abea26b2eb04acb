/-! The constructors. -/
set_option maxHeartbeats 4000000 in
set_option maxRecDepth 100000 in
theorem c0_init (l : Launch) (D : va_G) (cI cZ cP : ClassId) (h : Nat) : q_C l yX0_init wsX0_init ({ frames := 1, cells := 3, slots := 90, locals := 12 }) D cI cZ cP [.ref h] [(h, .inr (0, [.null, .null, .null, .int 0]))] (S := Nat → Nat) (fun v a => v = none ∧ a 5 = h) (fun b => cw cI b (fun _ => 0) (fun _ _ => 0)) (fun _ => False) 3 90 := by
  refine q_of (cc := cX0_init) (maxL := 1) (ret := none) (by decide +kernel) rfl (Nat.le_of_ble_eq_true rfl) ?_
  intro p e s m below meth c A ls B hr htb hmn hP hD hS hl
  have hl : lv_has ls 1 [(0, .ref (h))] := hl
  have hi0 : ∀ w ∈ u_ws RX0 TX0 4, w ∈ wsX0_init := by decide +kernel
  refine lv_aload_n B.hx B.hb dX0_init_0 rfl (lv_at hl 0 rfl) ?_
  refine q_objI B (by decide +kernel) (by decide +kernel) (by decide +kernel) hl.1 dX0_init_1 ⟨(Nat.le_of_ble_eq_true rfl), (Nat.le_of_ble_eq_true rfl)⟩ ?_
  refine lv_aload_n B.hx B.hb dX0_init_4 rfl (lv_at hl 0 rfl) ?_
  refine lv_bipush (v := (nI 30)) B.hx B.hb dX0_init_5 (by decide) ?_
  refine q_newI B hP hD hS (by decide +kernel) (N := 30) (by decide) rfl (Nat.le_of_ble_eq_true rfl) (Nat.le_of_ble_eq_true rfl) (Nat.le_of_ble_eq_true rfl) dX0_init_7 (fun q1 H hP hD hS => ?_)
  have hP : va_P D vwCl [(h, .inr (0, [.null, .null, .null, .int 0])), (q1, .inl (cI, 30, .inl (fun _ => 0)))] H := hP
  have hD : va_D A [(h, .inr (0, [.null, .null, .null, .int 0])), (q1, .inl (cI, 30, .inl (fun _ => 0)))] := hD
  refine q_putF B hP hD hS hmn (C := RX0) (ref := "PaperKeeper$Copies") (T := TX0) (N := 4) (ci := 0) hi0 rfl tyX0 tyX0_ok nmX0 0 rfl 0 (by decide) (by decide +kernel) rfl rfl rfl rfl (by rfl) (Nat.le_of_ble_eq_true rfl) dX0_init_9 (w' := [(h, .inr (0, [.ref (q1), .null, .null, .int 0])), (q1, .inl (cI, 30, .inl (fun _ => 0)))]) rfl (fun H locs hP hD hS => ?_)
  refine lv_aload_n B.hx B.hb dX0_init_12 rfl (lv_at hl 0 rfl) ?_
  refine lv_bipush (v := (nI 30)) B.hx B.hb dX0_init_13 (by decide) ?_
  refine q_newI B hP hD hS (by decide +kernel) (N := 30) (by decide) rfl (Nat.le_of_ble_eq_true rfl) (Nat.le_of_ble_eq_true rfl) (Nat.le_of_ble_eq_true rfl) dX0_init_15 (fun q2 H hP hD hS => ?_)
  have hP : va_P D vwCl [(h, .inr (0, [.ref (q1), .null, .null, .int 0])), (q1, .inl (cI, 30, .inl (fun _ => 0))), (q2, .inl (cI, 30, .inl (fun _ => 0)))] H := hP
  have hD : va_D A [(h, .inr (0, [.ref (q1), .null, .null, .int 0])), (q1, .inl (cI, 30, .inl (fun _ => 0))), (q2, .inl (cI, 30, .inl (fun _ => 0)))] := hD
  refine q_putF B hP hD hS hmn (C := RX0) (ref := "PaperKeeper$Copies") (T := TX0) (N := 4) (ci := 0) hi0 rfl tyX0 tyX0_ok nmX0 0 rfl 1 (by decide) (by decide +kernel) rfl rfl rfl rfl (by rfl) (Nat.le_of_ble_eq_true rfl) dX0_init_17 (w' := [(h, .inr (0, [.ref (q1), .ref (q2), .null, .int 0])), (q1, .inl (cI, 30, .inl (fun _ => 0))), (q2, .inl (cI, 30, .inl (fun _ => 0)))]) rfl (fun H locs hP hD hS => ?_)
  refine lv_aload_n B.hx B.hb dX0_init_20 rfl (lv_at hl 0 rfl) ?_
  refine lv_bipush (v := (nI 30)) B.hx B.hb dX0_init_21 (by decide) ?_
  refine q_newI B hP hD hS (by decide +kernel) (N := 30) (by decide) rfl (Nat.le_of_ble_eq_true rfl) (Nat.le_of_ble_eq_true rfl) (Nat.le_of_ble_eq_true rfl) dX0_init_23 (fun q3 H hP hD hS => ?_)
  have hP : va_P D vwCl [(h, .inr (0, [.ref (q1), .ref (q2), .null, .int 0])), (q1, .inl (cI, 30, .inl (fun _ => 0))), (q2, .inl (cI, 30, .inl (fun _ => 0))), (q3, .inl (cI, 30, .inl (fun _ => 0)))] H := hP
  have hD : va_D A [(h, .inr (0, [.ref (q1), .ref (q2), .null, .int 0])), (q1, .inl (cI, 30, .inl (fun _ => 0))), (q2, .inl (cI, 30, .inl (fun _ => 0))), (q3, .inl (cI, 30, .inl (fun _ => 0)))] := hD
  refine q_putF B hP hD hS hmn (C := RX0) (ref := "PaperKeeper$Copies") (T := TX0) (N := 4) (ci := 0) hi0 rfl tyX0 tyX0_ok nmX0 0 rfl 2 (by decide) (by decide +kernel) rfl rfl rfl rfl (by rfl) (Nat.le_of_ble_eq_true rfl) dX0_init_25 (w' := [(h, .inr (0, [.ref (q1), .ref (q2), .ref (q3), .int 0])), (q1, .inl (cI, 30, .inl (fun _ => 0))), (q2, .inl (cI, 30, .inl (fun _ => 0))), (q3, .inl (cI, 30, .inl (fun _ => 0)))]) rfl (fun H locs hP hD hS => ?_)
  exact q_vret B hr hP hD hS (u := adr [0, 0, 0, 0, 0, h, q1, q2, q3]) rfl ⟨rfl, rfl⟩ (Nat.le_of_ble_eq_true rfl) (Nat.le_of_ble_eq_true rfl) dX0_init_28
set_option maxHeartbeats 4000000 in
set_option maxRecDepth 100000 in
theorem c1_init (l : Launch) (D : va_G) (cI cZ cP : ClassId) (h : Nat) : q_C l yX1_init wsX1_init ({ frames := 1, cells := 5, slots := 26, locals := 12 }) D cI cZ cP [.ref h] [(h, .inr (1, [.null, .null, .null, .null, .null, .int 0, .int 0, .int 0, .int 0, .int 0, .int 0, .int 0]))] (S := Nat → Nat) (fun v a => v = none ∧ a 2 = h) (fun a => dw cI cZ a (fun _ => 0) (fun _ _ => 0)) (fun _ => False) 5 26 := by
  refine q_of (cc := cX1_init) (maxL := 1) (ret := none) (by decide +kernel) rfl (Nat.le_of_ble_eq_true rfl) ?_
  intro p e s m below meth c A ls B hr htb hmn hP hD hS hl
  have hl : lv_has ls 1 [(0, .ref (h))] := hl
  have hi1 : ∀ w ∈ u_ws RX1 TX1 12, w ∈ wsX1_init := by decide +kernel
  refine lv_aload_n B.hx B.hb dX1_init_0 rfl (lv_at hl 0 rfl) ?_
  refine q_objI B (by decide +kernel) (by decide +kernel) (by decide +kernel) hl.1 dX1_init_1 ⟨(Nat.le_of_ble_eq_true rfl), (Nat.le_of_ble_eq_true rfl)⟩ ?_
  refine lv_aload_n B.hx B.hb dX1_init_4 rfl (lv_at hl 0 rfl) ?_
  refine lv_iconst (v := (nI 4)) B.hx B.hb dX1_init_5 (by decide) ?_
  refine q_newI B hP hD hS (by decide +kernel) (N := 4) (by decide) rfl (Nat.le_of_ble_eq_true rfl) (Nat.le_of_ble_eq_true rfl) (Nat.le_of_ble_eq_true rfl) dX1_init_6 (fun q1 H hP hD hS => ?_)
  have hP : va_P D vwCl [(h, .inr (1, [.null, .null, .null, .null, .null, .int 0, .int 0, .int 0, .int 0, .int 0, .int 0, .int 0])), (q1, .inl (cI, 4, .inl (fun _ => 0)))] H := hP
  have hD : va_D A [(h, .inr (1, [.null, .null, .null, .null, .null, .int 0, .int 0, .int 0, .int 0, .int 0, .int 0, .int 0])), (q1, .inl (cI, 4, .inl (fun _ => 0)))] := hD
  refine q_putF B hP hD hS hmn (C := RX1) (ref := "PaperKeeper$Draft") (T := TX1) (N := 12) (ci := 1) hi1 rfl tyX1 tyX1_ok nmX1 0 rfl 0 (by decide) (by decide +kernel) rfl rfl rfl rfl (by rfl) (Nat.le_of_ble_eq_true rfl) dX1_init_8 (w' := [(h, .inr (1, [.ref (q1), .null, .null, .null, .null, .int 0, .int 0, .int 0, .int 0, .int 0, .int 0, .int 0])), (q1, .inl (cI, 4, .inl (fun _ => 0)))]) rfl (fun H locs hP hD hS => ?_)
  refine lv_aload_n B.hx B.hb dX1_init_11 rfl (lv_at hl 0 rfl) ?_
  refine lv_bipush (v := (nI 6)) B.hx B.hb dX1_init_12 (by decide) ?_
  refine q_newZ B hP hD hS (by decide +kernel) (N := 6) (by decide) rfl (Nat.le_of_ble_eq_true rfl) (Nat.le_of_ble_eq_true rfl) (Nat.le_of_ble_eq_true rfl) dX1_init_14 (fun q2 H hP hD hS => ?_)
  have hP : va_P D vwCl [(h, .inr (1, [.ref (q1), .null, .null, .null, .null, .int 0, .int 0, .int 0, .int 0, .int 0, .int 0, .int 0])), (q1, .inl (cI, 4, .inl (fun _ => 0))), (q2, .inl (cZ, 6, .inl (fun _ => 0)))] H := hP
  have hD : va_D A [(h, .inr (1, [.ref (q1), .null, .null, .null, .null, .int 0, .int 0, .int 0, .int 0, .int 0, .int 0, .int 0])), (q1, .inl (cI, 4, .inl (fun _ => 0))), (q2, .inl (cZ, 6, .inl (fun _ => 0)))] := hD
  refine q_putF B hP hD hS hmn (C := RX1) (ref := "PaperKeeper$Draft") (T := TX1) (N := 12) (ci := 1) hi1 rfl tyX1 tyX1_ok nmX1 0 rfl 1 (by decide) (by decide +kernel) rfl rfl rfl rfl (by rfl) (Nat.le_of_ble_eq_true rfl) dX1_init_16 (w' := [(h, .inr (1, [.ref (q1), .ref (q2), .null, .null, .null, .int 0, .int 0, .int 0, .int 0, .int 0, .int 0, .int 0])), (q1, .inl (cI, 4, .inl (fun _ => 0))), (q2, .inl (cZ, 6, .inl (fun _ => 0)))]) rfl (fun H locs hP hD hS => ?_)
  refine lv_aload_n B.hx B.hb dX1_init_19 rfl (lv_at hl 0 rfl) ?_
  refine lv_iconst (v := (nI 4)) B.hx B.hb dX1_init_20 (by decide) ?_
  refine q_newZ B hP hD hS (by decide +kernel) (N := 4) (by decide) rfl (Nat.le_of_ble_eq_true rfl) (Nat.le_of_ble_eq_true rfl) (Nat.le_of_ble_eq_true rfl) dX1_init_21 (fun q3 H hP hD hS => ?_)
  have hP : va_P D vwCl [(h, .inr (1, [.ref (q1), .ref (q2), .null, .null, .null, .int 0, .int 0, .int 0, .int 0, .int 0, .int 0, .int 0])), (q1, .inl (cI, 4, .inl (fun _ => 0))), (q2, .inl (cZ, 6, .inl (fun _ => 0))), (q3, .inl (cZ, 4, .inl (fun _ => 0)))] H := hP
  have hD : va_D A [(h, .inr (1, [.ref (q1), .ref (q2), .null, .null, .null, .int 0, .int 0, .int 0, .int 0, .int 0, .int 0, .int 0])), (q1, .inl (cI, 4, .inl (fun _ => 0))), (q2, .inl (cZ, 6, .inl (fun _ => 0))), (q3, .inl (cZ, 4, .inl (fun _ => 0)))] := hD
  refine q_putF B hP hD hS hmn (C := RX1) (ref := "PaperKeeper$Draft") (T := TX1) (N := 12) (ci := 1) hi1 rfl tyX1 tyX1_ok nmX1 0 rfl 2 (by decide) (by decide +kernel) rfl rfl rfl rfl (by rfl) (Nat.le_of_ble_eq_true rfl) dX1_init_23 (w' := [(h, .inr (1, [.ref (q1), .ref (q2), .ref (q3), .null, .null, .int 0, .int 0, .int 0, .int 0, .int 0, .int 0, .int 0])), (q1, .inl (cI, 4, .inl (fun _ => 0))), (q2, .inl (cZ, 6, .inl (fun _ => 0))), (q3, .inl (cZ, 4, .inl (fun _ => 0)))]) rfl (fun H locs hP hD hS => ?_)
  refine lv_aload_n B.hx B.hb dX1_init_26 rfl (lv_at hl 0 rfl) ?_
  refine lv_bipush (v := (nI 6)) B.hx B.hb dX1_init_27 (by decide) ?_
  refine q_newZ B hP hD hS (by decide +kernel) (N := 6) (by decide) rfl (Nat.le_of_ble_eq_true rfl) (Nat.le_of_ble_eq_true rfl) (Nat.le_of_ble_eq_true rfl) dX1_init_29 (fun q4 H hP hD hS => ?_)
  have hP : va_P D vwCl [(h, .inr (1, [.ref (q1), .ref (q2), .ref (q3), .null, .null, .int 0, .int 0, .int 0, .int 0, .int 0, .int 0, .int 0])), (q1, .inl (cI, 4, .inl (fun _ => 0))), (q2, .inl (cZ, 6, .inl (fun _ => 0))), (q3, .inl (cZ, 4, .inl (fun _ => 0))), (q4, .inl (cZ, 6, .inl (fun _ => 0)))] H := hP
  have hD : va_D A [(h, .inr (1, [.ref (q1), .ref (q2), .ref (q3), .null, .null, .int 0, .int 0, .int 0, .int 0, .int 0, .int 0, .int 0])), (q1, .inl (cI, 4, .inl (fun _ => 0))), (q2, .inl (cZ, 6, .inl (fun _ => 0))), (q3, .inl (cZ, 4, .inl (fun _ => 0))), (q4, .inl (cZ, 6, .inl (fun _ => 0)))] := hD
  refine q_putF B hP hD hS hmn (C := RX1) (ref := "PaperKeeper$Draft") (T := TX1) (N := 12) (ci := 1) hi1 rfl tyX1 tyX1_ok nmX1 0 rfl 3 (by decide) (by decide +kernel) rfl rfl rfl rfl (by rfl) (Nat.le_of_ble_eq_true rfl) dX1_init_31 (w' := [(h, .inr (1, [.ref (q1), .ref (q2), .ref (q3), .ref (q4), .null, .int 0, .int 0, .int 0, .int 0, .int 0, .int 0, .int 0])), (q1, .inl (cI, 4, .inl (fun _ => 0))), (q2, .inl (cZ, 6, .inl (fun _ => 0))), (q3, .inl (cZ, 4, .inl (fun _ => 0))), (q4, .inl (cZ, 6, .inl (fun _ => 0)))]) rfl (fun H locs hP hD hS => ?_)
  refine lv_aload_n B.hx B.hb dX1_init_34 rfl (lv_at hl 0 rfl) ?_
  refine lv_bipush (v := (nI 6)) B.hx B.hb dX1_init_35 (by decide) ?_
  refine q_newZ B hP hD hS (by decide +kernel) (N := 6) (by decide) rfl (Nat.le_of_ble_eq_true rfl) (Nat.le_of_ble_eq_true rfl) (Nat.le_of_ble_eq_true rfl) dX1_init_37 (fun q5 H hP hD hS => ?_)
  have hP : va_P D vwCl [(h, .inr (1, [.ref (q1), .ref (q2), .ref (q3), .ref (q4), .null, .int 0, .int 0, .int 0, .int 0, .int 0, .int 0, .int 0])), (q1, .inl (cI, 4, .inl (fun _ => 0))), (q2, .inl (cZ, 6, .inl (fun _ => 0))), (q3, .inl (cZ, 4, .inl (fun _ => 0))), (q4, .inl (cZ, 6, .inl (fun _ => 0))), (q5, .inl (cZ, 6, .inl (fun _ => 0)))] H := hP
  have hD : va_D A [(h, .inr (1, [.ref (q1), .ref (q2), .ref (q3), .ref (q4), .null, .int 0, .int 0, .int 0, .int 0, .int 0, .int 0, .int 0])), (q1, .inl (cI, 4, .inl (fun _ => 0))), (q2, .inl (cZ, 6, .inl (fun _ => 0))), (q3, .inl (cZ, 4, .inl (fun _ => 0))), (q4, .inl (cZ, 6, .inl (fun _ => 0))), (q5, .inl (cZ, 6, .inl (fun _ => 0)))] := hD
  refine q_putF B hP hD hS hmn (C := RX1) (ref := "PaperKeeper$Draft") (T := TX1) (N := 12) (ci := 1) hi1 rfl tyX1 tyX1_ok nmX1 0 rfl 4 (by decide) (by decide +kernel) rfl rfl rfl rfl (by rfl) (Nat.le_of_ble_eq_true rfl) dX1_init_39 (w' := [(h, .inr (1, [.ref (q1), .ref (q2), .ref (q3), .ref (q4), .ref (q5), .int 0, .int 0, .int 0, .int 0, .int 0, .int 0, .int 0])), (q1, .inl (cI, 4, .inl (fun _ => 0))), (q2, .inl (cZ, 6, .inl (fun _ => 0))), (q3, .inl (cZ, 4, .inl (fun _ => 0))), (q4, .inl (cZ, 6, .inl (fun _ => 0))), (q5, .inl (cZ, 6, .inl (fun _ => 0)))]) rfl (fun H locs hP hD hS => ?_)
  exact q_vret B hr hP hD hS (u := adr [0, 0, h, q1, q2, q3, q4, q5]) rfl ⟨rfl, rfl⟩ (Nat.le_of_ble_eq_true rfl) (Nat.le_of_ble_eq_true rfl) dX1_init_42
set_option maxHeartbeats 4000000 in
set_option maxRecDepth 100000 in
theorem c2_init (l : Launch) (D : va_G) (cI cZ cP : ClassId) (h : Nat) (x : Int32) (hx : x = 0 ∨ x = 1) : q_C l yX2_init wsX2_init ({ frames := 2, cells := 9, slots := 302, locals := 32 }) D cI cZ cP [.ref h, .int x] [(h, .inr (2, [.int 0, .null, .null, .null, .null, .int 0, .int 0, .int 0, .int 0]))] (S := Nat → Nat) (fun v a => v = none ∧ a 0 = h) (fun a => dw cI cZ a (va_up (fun _ => 0) 0 x) (fun _ _ => 0) ++ ppw cI cZ a (va_up (fun _ => 0) 0 x) (fun _ _ => 0)) (fun _ => False) 9 302 := by
  refine q_of (cc := cX2_init) (maxL := 2) (ret := none) (by decide +kernel) rfl (Nat.le_of_ble_eq_true rfl) ?_
  intro p e s m below meth c A ls B hr htb hmn hP hD hS hl
  have hl : lv_has ls 2 [(0, .ref (h)), (1, .int x)] := hl
  have hi1 : ∀ w ∈ u_ws RX1 TX1 12, w ∈ wsX2_init := by decide +kernel
  have hi2 : ∀ w ∈ u_ws RX2 TX2 9, w ∈ wsX2_init := by decide +kernel
  refine lv_aload_n B.hx B.hb dX2_init_0 rfl (lv_at hl 0 rfl) ?_
  refine q_objI B (by decide +kernel) (by decide +kernel) (by decide +kernel) hl.1 dX2_init_1 ⟨(Nat.le_of_ble_eq_true rfl), (Nat.le_of_ble_eq_true rfl)⟩ ?_
  refine lv_aload_n B.hx B.hb dX2_init_4 rfl (lv_at hl 0 rfl) ?_
  refine lv_iload_n B.hx B.hb dX2_init_5 rfl (lv_at hl 1 rfl) ?_
  refine q_putF B hP hD hS hmn (C := RX2) (ref := "PaperKeeper$Paper") (T := TX2) (N := 9) (ci := 2) hi2 rfl tyX2 tyX2_ok nmX2 0 rfl 0 (by decide) (by decide +kernel) rfl rfl rfl (by rcases hx with rfl | rfl <;> rfl) (by rcases hx with rfl | rfl <;> rfl) (Nat.le_of_ble_eq_true rfl) dX2_init_6 (w' := [(h, .inr (2, [.int x, .null, .null, .null, .null, .int 0, .int 0, .int 0, .int 0]))]) rfl (fun H locs hP hD hS => ?_)
  refine lv_aload_n B.hx B.hb dX2_init_9 rfl (lv_at hl 0 rfl) ?_
  refine lv_bipush (v := (nI 8)) B.hx B.hb dX2_init_10 (by decide) ?_
  refine q_newZ B hP hD hS (by decide +kernel) (N := 8) (by decide) rfl (Nat.le_of_ble_eq_true rfl) (Nat.le_of_ble_eq_true rfl) (Nat.le_of_ble_eq_true rfl) dX2_init_12 (fun q1 H hP hD hS => ?_)
  have hP : va_P D vwCl [(h, .inr (2, [.int x, .null, .null, .null, .null, .int 0, .int 0, .int 0, .int 0])), (q1, .inl (cZ, 8, .inl (fun _ => 0)))] H := hP
  have hD : va_D A [(h, .inr (2, [.int x, .null, .null, .null, .null, .int 0, .int 0, .int 0, .int 0])), (q1, .inl (cZ, 8, .inl (fun _ => 0)))] := hD
  refine q_putF B hP hD hS hmn (C := RX2) (ref := "PaperKeeper$Paper") (T := TX2) (N := 9) (ci := 2) hi2 rfl tyX2 tyX2_ok nmX2 0 rfl 1 (by decide) (by decide +kernel) rfl rfl rfl rfl (by rfl) (Nat.le_of_ble_eq_true rfl) dX2_init_14 (w' := [(h, .inr (2, [.int x, .ref (q1), .null, .null, .null, .int 0, .int 0, .int 0, .int 0])), (q1, .inl (cZ, 8, .inl (fun _ => 0)))]) rfl (fun H locs hP hD hS => ?_)
  refine lv_aload_n B.hx B.hb dX2_init_17 rfl (lv_at hl 0 rfl) ?_
  refine q_new B hP hD hS (C := RX1) (T := TX1) (N := 12) (ci := 1) (fs := [.null, .null, .null, .null, .null, .int 0, .int 0, .int 0, .int 0, .int 0, .int 0, .int 0]) hi1 tyX1 tyX1_ok (by decide +kernel) (by decide +kernel) (by decide +kernel) rfl (fun j hj => by rcases (show j = 0 ∨ j = 1 ∨ j = 2 ∨ j = 3 ∨ j = 4 ∨ j = 5 ∨ j = 6 ∨ j = 7 ∨ j = 8 ∨ j = 9 ∨ j = 10 ∨ j = 11 by omega) with rfl | rfl | rfl | rfl | rfl | rfl | rfl | rfl | rfl | rfl | rfl | rfl <;> rfl) (Nat.le_of_ble_eq_true rfl) (Nat.le_of_ble_eq_true rfl) dX2_init_18 (fun q2 H hP hD hS => ?_)
  have hP : va_P D vwCl [(h, .inr (2, [.int x, .ref (q1), .null, .null, .null, .int 0, .int 0, .int 0, .int 0])), (q1, .inl (cZ, 8, .inl (fun _ => 0))), (q2, .inr (1, [.null, .null, .null, .null, .null, .int 0, .int 0, .int 0, .int 0, .int 0, .int 0, .int 0]))] H := hP
  have hD : va_D A [(h, .inr (2, [.int x, .ref (q1), .null, .null, .null, .int 0, .int 0, .int 0, .int 0])), (q1, .inl (cZ, 8, .inl (fun _ => 0))), (q2, .inr (1, [.null, .null, .null, .null, .null, .int 0, .int 0, .int 0, .int 0, .int 0, .int 0, .int 0]))] := hD
  refine lv_dup B.hx B.hb dX2_init_21 rfl ?_
  refine q_callI (As := []) (rest := [.ref (q2), .ref (h)]) B hP hD hS ((c1_init l D cI cZ cP q2).fl [(h, .inr (2, [.int x, .ref (q1), .null, .null, .null, .int 0, .int 0, .int 0, .int 0])), (q1, .inl (cZ, 8, .inl (fun _ => 0)))]) ggX2_init_X1_init rfl rfl rfl (by decide +kernel) (by decide +kernel) (by decide +kernel) rfl (by decide +kernel) ⟨(Nat.le_of_ble_eq_true rfl), (Nat.le_of_ble_eq_true rfl)⟩ rfl hl.1 rfl (Nat.le_of_ble_eq_true rfl) dX2_init_22 ⟨(Nat.le_of_ble_eq_true rfl), (Nat.le_of_ble_eq_true rfl)⟩ (fun v u H locs hp hP hD hS => ?_)
  obtain ⟨rfl, hu⟩ := hp
  obtain ⟨v3, hv3⟩ : ∃ z, z = u 3 := ⟨_, rfl⟩
  obtain ⟨v4, hv4⟩ : ∃ z, z = u 4 := ⟨_, rfl⟩
  obtain ⟨v5, hv5⟩ : ∃ z, z = u 5 := ⟨_, rfl⟩
  obtain ⟨v6, hv6⟩ : ∃ z, z = u 6 := ⟨_, rfl⟩
  obtain ⟨v7, hv7⟩ : ∃ z, z = u 7 := ⟨_, rfl⟩
  simp only [dw] at hP hD
  rw [hu, ← hv3, ← hv4, ← hv5, ← hv6, ← hv7] at hP hD
  have hP : va_P D vwCl [(h, .inr (2, [.int x, .ref (q1), .null, .null, .null, .int 0, .int 0, .int 0, .int 0])), (q1, .inl (cZ, 8, .inl (fun _ => 0))), (q2, .inr (1, [.ref (v3), .ref (v4), .ref (v5), .ref (v6), .ref (v7), .int 0, .int 0, .int 0, .int 0, .int 0, .int 0, .int 0])), (v3, .inl (cI, 4, .inl (fun _ => 0))), (v4, .inl (cZ, 6, .inl (fun _ => 0))), (v5, .inl (cZ, 4, .inl (fun _ => 0))), (v6, .inl (cZ, 6, .inl (fun _ => 0))), (v7, .inl (cZ, 6, .inl (fun _ => 0)))] H := hP
  have hD : va_D A [(h, .inr (2, [.int x, .ref (q1), .null, .null, .null, .int 0, .int 0, .int 0, .int 0])), (q1, .inl (cZ, 8, .inl (fun _ => 0))), (q2, .inr (1, [.ref (v3), .ref (v4), .ref (v5), .ref (v6), .ref (v7), .int 0, .int 0, .int 0, .int 0, .int 0, .int 0, .int 0])), (v3, .inl (cI, 4, .inl (fun _ => 0))), (v4, .inl (cZ, 6, .inl (fun _ => 0))), (v5, .inl (cZ, 4, .inl (fun _ => 0))), (v6, .inl (cZ, 6, .inl (fun _ => 0))), (v7, .inl (cZ, 6, .inl (fun _ => 0)))] := hD
  refine q_putF B hP hD hS hmn (C := RX2) (ref := "PaperKeeper$Paper") (T := TX2) (N := 9) (ci := 2) hi2 rfl tyX2 tyX2_ok nmX2 0 rfl 2 (by decide) (by decide +kernel) rfl rfl rfl rfl (by rfl) (Nat.le_of_ble_eq_true rfl) dX2_init_25 (w' := [(h, .inr (2, [.int x, .ref (q1), .ref (q2), .null, .null, .int 0, .int 0, .int 0, .int 0])), (q1, .inl (cZ, 8, .inl (fun _ => 0))), (q2, .inr (1, [.ref (v3), .ref (v4), .ref (v5), .ref (v6), .ref (v7), .int 0, .int 0, .int 0, .int 0, .int 0, .int 0, .int 0])), (v3, .inl (cI, 4, .inl (fun _ => 0))), (v4, .inl (cZ, 6, .inl (fun _ => 0))), (v5, .inl (cZ, 4, .inl (fun _ => 0))), (v6, .inl (cZ, 6, .inl (fun _ => 0))), (v7, .inl (cZ, 6, .inl (fun _ => 0)))]) rfl (fun H locs hP hD hS => ?_)
  refine lv_aload_n B.hx B.hb dX2_init_28 rfl (lv_at hl 0 rfl) ?_
  refine lv_sipush (v := (nI 128)) B.hx B.hb dX2_init_29 (by decide) ?_
  refine q_newI B hP hD hS (by decide +kernel) (N := 128) (by decide) rfl (Nat.le_of_ble_eq_true rfl) (Nat.le_of_ble_eq_true rfl) (Nat.le_of_ble_eq_true rfl) dX2_init_32 (fun q3 H hP hD hS => ?_)
  have hP : va_P D vwCl [(h, .inr (2, [.int x, .ref (q1), .ref (q2), .null, .null, .int 0, .int 0, .int 0, .int 0])), (q1, .inl (cZ, 8, .inl (fun _ => 0))), (q2, .inr (1, [.ref (v3), .ref (v4), .ref (v5), .ref (v6), .ref (v7), .int 0, .int 0, .int 0, .int 0, .int 0, .int 0, .int 0])), (v3, .inl (cI, 4, .inl (fun _ => 0))), (v4, .inl (cZ, 6, .inl (fun _ => 0))), (v5, .inl (cZ, 4, .inl (fun _ => 0))), (v6, .inl (cZ, 6, .inl (fun _ => 0))), (v7, .inl (cZ, 6, .inl (fun _ => 0))), (q3, .inl (cI, 128, .inl (fun _ => 0)))] H := hP
  have hD : va_D A [(h, .inr (2, [.int x, .ref (q1), .ref (q2), .null, .null, .int 0, .int 0, .int 0, .int 0])), (q1, .inl (cZ, 8, .inl (fun _ => 0))), (q2, .inr (1, [.ref (v3), .ref (v4), .ref (v5), .ref (v6), .ref (v7), .int 0, .int 0, .int 0, .int 0, .int 0, .int 0, .int 0])), (v3, .inl (cI, 4, .inl (fun _ => 0))), (v4, .inl (cZ, 6, .inl (fun _ => 0))), (v5, .inl (cZ, 4, .inl (fun _ => 0))), (v6, .inl (cZ, 6, .inl (fun _ => 0))), (v7, .inl (cZ, 6, .inl (fun _ => 0))), (q3, .inl (cI, 128, .inl (fun _ => 0)))] := hD
  refine q_putF B hP hD hS hmn (C := RX2) (ref := "PaperKeeper$Paper") (T := TX2) (N := 9) (ci := 2) hi2 rfl tyX2 tyX2_ok nmX2 0 rfl 3 (by decide) (by decide +kernel) rfl rfl rfl rfl (by rfl) (Nat.le_of_ble_eq_true rfl) dX2_init_34 (w' := [(h, .inr (2, [.int x, .ref (q1), .ref (q2), .ref (q3), .null, .int 0, .int 0, .int 0, .int 0])), (q1, .inl (cZ, 8, .inl (fun _ => 0))), (q2, .inr (1, [.ref (v3), .ref (v4), .ref (v5), .ref (v6), .ref (v7), .int 0, .int 0, .int 0, .int 0, .int 0, .int 0, .int 0])), (v3, .inl (cI, 4, .inl (fun _ => 0))), (v4, .inl (cZ, 6, .inl (fun _ => 0))), (v5, .inl (cZ, 4, .inl (fun _ => 0))), (v6, .inl (cZ, 6, .inl (fun _ => 0))), (v7, .inl (cZ, 6, .inl (fun _ => 0))), (q3, .inl (cI, 128, .inl (fun _ => 0)))]) rfl (fun H locs hP hD hS => ?_)
  refine lv_aload_n B.hx B.hb dX2_init_37 rfl (lv_at hl 0 rfl) ?_
  refine lv_sipush (v := (nI 128)) B.hx B.hb dX2_init_38 (by decide) ?_
  refine q_newI B hP hD hS (by decide +kernel) (N := 128) (by decide) rfl (Nat.le_of_ble_eq_true rfl) (Nat.le_of_ble_eq_true rfl) (Nat.le_of_ble_eq_true rfl) dX2_init_41 (fun q4 H hP hD hS => ?_)
  have hP : va_P D vwCl [(h, .inr (2, [.int x, .ref (q1), .ref (q2), .ref (q3), .null, .int 0, .int 0, .int 0, .int 0])), (q1, .inl (cZ, 8, .inl (fun _ => 0))), (q2, .inr (1, [.ref (v3), .ref (v4), .ref (v5), .ref (v6), .ref (v7), .int 0, .int 0, .int 0, .int 0, .int 0, .int 0, .int 0])), (v3, .inl (cI, 4, .inl (fun _ => 0))), (v4, .inl (cZ, 6, .inl (fun _ => 0))), (v5, .inl (cZ, 4, .inl (fun _ => 0))), (v6, .inl (cZ, 6, .inl (fun _ => 0))), (v7, .inl (cZ, 6, .inl (fun _ => 0))), (q3, .inl (cI, 128, .inl (fun _ => 0))), (q4, .inl (cI, 128, .inl (fun _ => 0)))] H := hP
  have hD : va_D A [(h, .inr (2, [.int x, .ref (q1), .ref (q2), .ref (q3), .null, .int 0, .int 0, .int 0, .int 0])), (q1, .inl (cZ, 8, .inl (fun _ => 0))), (q2, .inr (1, [.ref (v3), .ref (v4), .ref (v5), .ref (v6), .ref (v7), .int 0, .int 0, .int 0, .int 0, .int 0, .int 0, .int 0])), (v3, .inl (cI, 4, .inl (fun _ => 0))), (v4, .inl (cZ, 6, .inl (fun _ => 0))), (v5, .inl (cZ, 4, .inl (fun _ => 0))), (v6, .inl (cZ, 6, .inl (fun _ => 0))), (v7, .inl (cZ, 6, .inl (fun _ => 0))), (q3, .inl (cI, 128, .inl (fun _ => 0))), (q4, .inl (cI, 128, .inl (fun _ => 0)))] := hD
  refine q_putF B hP hD hS hmn (C := RX2) (ref := "PaperKeeper$Paper") (T := TX2) (N := 9) (ci := 2) hi2 rfl tyX2 tyX2_ok nmX2 0 rfl 4 (by decide) (by decide +kernel) rfl rfl rfl rfl (by rfl) (Nat.le_of_ble_eq_true rfl) dX2_init_43 (w' := [(h, .inr (2, [.int x, .ref (q1), .ref (q2), .ref (q3), .ref (q4), .int 0, .int 0, .int 0, .int 0])), (q1, .inl (cZ, 8, .inl (fun _ => 0))), (q2, .inr (1, [.ref (v3), .ref (v4), .ref (v5), .ref (v6), .ref (v7), .int 0, .int 0, .int 0, .int 0, .int 0, .int 0, .int 0])), (v3, .inl (cI, 4, .inl (fun _ => 0))), (v4, .inl (cZ, 6, .inl (fun _ => 0))), (v5, .inl (cZ, 4, .inl (fun _ => 0))), (v6, .inl (cZ, 6, .inl (fun _ => 0))), (v7, .inl (cZ, 6, .inl (fun _ => 0))), (q3, .inl (cI, 128, .inl (fun _ => 0))), (q4, .inl (cI, 128, .inl (fun _ => 0)))]) rfl (fun H locs hP hD hS => ?_)
  have hP : va_P D vwCl (dw cI cZ (adr [h, q1, q2, v3, v4, v5, v6, v7, q3, q4]) (va_up (fun _ => 0) 0 x) (fun _ _ => 0) ++ ppw cI cZ (adr [h, q1, q2, v3, v4, v5, v6, v7, q3, q4]) (va_up (fun _ => 0) 0 x) (fun _ _ => 0)) H := hP.sub [2, 3, 4, 5, 6, 7, 0, 1, 8, 9] rfl
  have hD : va_D A (dw cI cZ (adr [h, q1, q2, v3, v4, v5, v6, v7, q3, q4]) (va_up (fun _ => 0) 0 x) (fun _ _ => 0) ++ ppw cI cZ (adr [h, q1, q2, v3, v4, v5, v6, v7, q3, q4]) (va_up (fun _ => 0) 0 x) (fun _ _ => 0)) := hD.sub [2, 3, 4, 5, 6, 7, 0, 1, 8, 9] (by decide) rfl
  exact q_vret B hr hP hD hS (u := adr [h, q1, q2, v3, v4, v5, v6, v7, q3, q4]) rfl ⟨rfl, rfl⟩ (Nat.le_of_ble_eq_true rfl) (Nat.le_of_ble_eq_true rfl) dX2_init_46
/-- the keeper's numbers and rows at its start -/
def kI0 : Nat → Int32 := (va_up (fun _ => 0) 6 (nI 30))
def kV0 : Nat → Nat → Int32 := (va_up (fun _ _ => 0) 2 (mf 6))
set_option maxHeartbeats 4000000 in
set_option maxRecDepth 100000 in
theorem c3_init (l : Launch) (D : va_G) (cI cZ cP : ClassId) (h : Nat) : q_C l yX3_init wsX3_init ({ frames := 2, cells := 8, slots := 120, locals := 32 }) D cI cZ cP [.ref h] [(h, .inr (3, [.null, .null, .null, .null, .null, .int 0, .int 0, .int 0]))] (S := Nat → Nat) (fun v b => v = none ∧ b 0 = h) (fun b => kq cI cZ cP b kI0 kV0 (fun _ => none) ++ cw cI b kI0 kV0) (fun _ => False) 8 120 := by
  refine q_of (cc := cX3_init) (maxL := 2) (ret := none) (by decide +kernel) rfl (Nat.le_of_ble_eq_true rfl) ?_
  intro p e s m below meth c A ls B hr htb hmn hP hD hS hl
  have hl : lv_has ls 2 [(0, .ref (h))] := hl
  have hi0 : ∀ w ∈ u_ws RX0 TX0 4, w ∈ wsX3_init := by decide +kernel
  have hi3 : ∀ w ∈ u_ws RX3 TX3 8, w ∈ wsX3_init := by decide +kernel
  refine lv_aload_n B.hx B.hb dX3_init_0 rfl (lv_at hl 0 rfl) ?_
  refine q_objI B (by decide +kernel) (by decide +kernel) (by decide +kernel) hl.1 dX3_init_1 ⟨(Nat.le_of_ble_eq_true rfl), (Nat.le_of_ble_eq_true rfl)⟩ ?_
  refine lv_aload_n B.hx B.hb dX3_init_4 rfl (lv_at hl 0 rfl) ?_
  refine lv_bipush (v := (nI 6)) B.hx B.hb dX3_init_5 (by decide) ?_
  refine q_newZ B hP hD hS (by decide +kernel) (N := 6) (by decide) rfl (Nat.le_of_ble_eq_true rfl) (Nat.le_of_ble_eq_true rfl) (Nat.le_of_ble_eq_true rfl) dX3_init_7 (fun q1 H hP hD hS => ?_)
  have hP : va_P D vwCl [(h, .inr (3, [.null, .null, .null, .null, .null, .int 0, .int 0, .int 0])), (q1, .inl (cZ, 6, .inl (fun _ => 0)))] H := hP
  have hD : va_D A [(h, .inr (3, [.null, .null, .null, .null, .null, .int 0, .int 0, .int 0])), (q1, .inl (cZ, 6, .inl (fun _ => 0)))] := hD
  refine q_putF B hP hD hS hmn (C := RX3) (ref := "PaperKeeper") (T := TX3) (N := 8) (ci := 3) hi3 rfl tyX3 tyX3_ok nmX3 0 rfl 0 (by decide) (by decide +kernel) rfl rfl rfl rfl (by rfl) (Nat.le_of_ble_eq_true rfl) dX3_init_9 (w' := [(h, .inr (3, [.ref (q1), .null, .null, .null, .null, .int 0, .int 0, .int 0])), (q1, .inl (cZ, 6, .inl (fun _ => 0)))]) rfl (fun H locs hP hD hS => ?_)
  refine lv_aload_n B.hx B.hb dX3_init_12 rfl (lv_at hl 0 rfl) ?_
  refine lv_bipush (v := (nI 6)) B.hx B.hb dX3_init_13 (by decide) ?_
  refine q_newZ B hP hD hS (by decide +kernel) (N := 6) (by decide) rfl (Nat.le_of_ble_eq_true rfl) (Nat.le_of_ble_eq_true rfl) (Nat.le_of_ble_eq_true rfl) dX3_init_15 (fun q2 H hP hD hS => ?_)
  have hP : va_P D vwCl [(h, .inr (3, [.ref (q1), .null, .null, .null, .null, .int 0, .int 0, .int 0])), (q1, .inl (cZ, 6, .inl (fun _ => 0))), (q2, .inl (cZ, 6, .inl (fun _ => 0)))] H := hP
  have hD : va_D A [(h, .inr (3, [.ref (q1), .null, .null, .null, .null, .int 0, .int 0, .int 0])), (q1, .inl (cZ, 6, .inl (fun _ => 0))), (q2, .inl (cZ, 6, .inl (fun _ => 0)))] := hD
  refine q_putF B hP hD hS hmn (C := RX3) (ref := "PaperKeeper") (T := TX3) (N := 8) (ci := 3) hi3 rfl tyX3 tyX3_ok nmX3 0 rfl 1 (by decide) (by decide +kernel) rfl rfl rfl rfl (by rfl) (Nat.le_of_ble_eq_true rfl) dX3_init_17 (w' := [(h, .inr (3, [.ref (q1), .ref (q2), .null, .null, .null, .int 0, .int 0, .int 0])), (q1, .inl (cZ, 6, .inl (fun _ => 0))), (q2, .inl (cZ, 6, .inl (fun _ => 0)))]) rfl (fun H locs hP hD hS => ?_)
  refine lv_aload_n B.hx B.hb dX3_init_20 rfl (lv_at hl 0 rfl) ?_
  refine lv_bipush (v := (nI 6)) B.hx B.hb dX3_init_21 (by decide) ?_
  refine q_newI B hP hD hS (by decide +kernel) (N := 6) (by decide) rfl (Nat.le_of_ble_eq_true rfl) (Nat.le_of_ble_eq_true rfl) (Nat.le_of_ble_eq_true rfl) dX3_init_23 (fun q3 H hP hD hS => ?_)
  have hP : va_P D vwCl [(h, .inr (3, [.ref (q1), .ref (q2), .null, .null, .null, .int 0, .int 0, .int 0])), (q1, .inl (cZ, 6, .inl (fun _ => 0))), (q2, .inl (cZ, 6, .inl (fun _ => 0))), (q3, .inl (cI, 6, .inl (fun _ => 0)))] H := hP
  have hD : va_D A [(h, .inr (3, [.ref (q1), .ref (q2), .null, .null, .null, .int 0, .int 0, .int 0])), (q1, .inl (cZ, 6, .inl (fun _ => 0))), (q2, .inl (cZ, 6, .inl (fun _ => 0))), (q3, .inl (cI, 6, .inl (fun _ => 0)))] := hD
  refine q_putF B hP hD hS hmn (C := RX3) (ref := "PaperKeeper") (T := TX3) (N := 8) (ci := 3) hi3 rfl tyX3 tyX3_ok nmX3 0 rfl 2 (by decide) (by decide +kernel) rfl rfl rfl rfl (by rfl) (Nat.le_of_ble_eq_true rfl) dX3_init_25 (w' := [(h, .inr (3, [.ref (q1), .ref (q2), .ref (q3), .null, .null, .int 0, .int 0, .int 0])), (q1, .inl (cZ, 6, .inl (fun _ => 0))), (q2, .inl (cZ, 6, .inl (fun _ => 0))), (q3, .inl (cI, 6, .inl (fun _ => 0)))]) rfl (fun H locs hP hD hS => ?_)
  refine lv_iconst (v := (nI 0)) B.hx B.hb dX3_init_28 (by decide) ?_
  refine lv_istore_n (lv' := [(1, .int (nI 0)), (0, .ref (h))]) B.hx B.hb dX3_init_29 rfl hl (by decide) rfl (fun ls hl => ?_)
  refine q_loopW (nL := 2) (fun i : Nat => i ≤ 6) (fun i : Nat => 6 - i) (fun i : Nat => [(1, .int (nI i)), (0, .ref h)]) (fun i : Nat => [(h, .inr (3, [.ref (q1), .ref (q2), .ref (q3), .null, .null, .int 0, .int 0, .int 0])), (q1, .inl (cZ, 6, .inl (fun _ => 0))), (q2, .inl (cZ, 6, .inl (fun _ => 0))), (q3, .inl (cI, 6, .inl (mf i)))]) 0 (Nat.zero_le _) (lv_sub hl [0, 1] rfl) (show va_P D vwCl [(h, .inr (3, [.ref (q1), .ref (q2), .ref (q3), .null, .null, .int 0, .int 0, .int 0])), (q1, .inl (cZ, 6, .inl (fun _ => 0))), (q2, .inl (cZ, 6, .inl (fun _ => 0))), (q3, .inl (cI, 6, .inl (mf 0)))] _ by rw [mf_0]; exact hP) (show va_D A [(h, .inr (3, [.ref (q1), .ref (q2), .ref (q3), .null, .null, .int 0, .int 0, .int 0])), (q1, .inl (cZ, 6, .inl (fun _ => 0))), (q2, .inl (cZ, 6, .inl (fun _ => 0))), (q3, .inl (cI, 6, .inl (mf 0)))] by rw [mf_0]; exact hD) hS ?_
  intro i hi ih ls H locs hl hP hD hS
  have hi : i ≤ 6 := hi
  have hl : lv_has ls 2 [(1, .int (nI i)), (0, .ref h)] := hl
  have hP : va_P D vwCl [(h, .inr (3, [.ref (q1), .ref (q2), .ref (q3), .null, .null, .int 0, .int 0, .int 0])), (q1, .inl (cZ, 6, .inl (fun _ => 0))), (q2, .inl (cZ, 6, .inl (fun _ => 0))), (q3, .inl (cI, 6, .inl (mf i)))] H := hP
  have hD : va_D A [(h, .inr (3, [.ref (q1), .ref (q2), .ref (q3), .null, .null, .int 0, .int 0, .int 0])), (q1, .inl (cZ, 6, .inl (fun _ => 0))), (q2, .inl (cZ, 6, .inl (fun _ => 0))), (q3, .inl (cI, 6, .inl (mf i)))] := hD
  refine lv_iload_n B.hx B.hb dX3_init_30 rfl (lv_at hl 0 rfl) ?_
  refine lv_bipush (v := (nI 6)) B.hx B.hb dX3_init_31 (by decide) ?_
  refine lv_icmp_ge (tgt := 49) B.hx B.hb dX3_init_33 (by decide) (fun c1 => ?_) (fun c1 => ?_)
  rotate_left
  · replace c1 := mt (nI_leI (by omega) (by omega)).mpr c1
    refine lv_aload_n B.hx B.hb dX3_init_36 rfl (lv_at hl 1 rfl) ?_
    refine q_get B hP (C := RX3) (ref := "PaperKeeper") (T := TX3) (N := 8) (ci := 3) hi3 rfl 0 rfl 2 (by decide) (by decide +kernel) rfl (v := .ref (q3)) rfl dX3_init_37 ?_
    refine lv_iload_n B.hx B.hb dX3_init_40 rfl (lv_at hl 0 rfl) ?_
    refine lv_iconst (v := (-1)) B.hx B.hb dX3_init_41 (by decide) ?_
    refine q_iast B hP hD hS 3 rfl (j := i) rfl (by omega) (by decide) dX3_init_42 (w' := [(h, .inr (3, [.ref (q1), .ref (q2), .ref (q3), .null, .null, .int 0, .int 0, .int 0])), (q1, .inl (cZ, 6, .inl (fun _ => 0))), (q2, .inl (cZ, 6, .inl (fun _ => 0))), (q3, .inl (cI, 6, .inl (mf (i + 1))))]) (by rw [mf_s]; rfl) (fun H locs hP hD hS => ?_)
    refine lv_iinc (v := nI (i + 1)) (lv' := [(1, .int (nI ((i + 1)))), (0, .ref (h))]) B.hx B.hb dX3_init_43 hl (k := 0) rfl (nI_1 _) (by decide) rfl (fun ls hl => ?_)
    refine lv_goto (tgt := 30) B.hx B.hb dX3_init_46 (by decide) ?_
    exact ih (i + 1) (by omega) (by omega) ls H locs (lv_sub hl [0, 1] rfl) hP hD hS
  replace c1 := (nI_leI (by omega) (by omega)).mp c1
  obtain rfl : i = 6 := by omega
  have hP : va_P D vwCl [(h, .inr (3, [.ref (q1), .ref (q2), .ref (q3), .null, .null, .int 0, .int 0, .int 0])), (q1, .inl (cZ, 6, .inl (fun _ => 0))), (q2, .inl (cZ, 6, .inl (fun _ => 0))), (q3, .inl (cI, 6, .inl (mf 6)))] H := hP
  have hD : va_D A [(h, .inr (3, [.ref (q1), .ref (q2), .ref (q3), .null, .null, .int 0, .int 0, .int 0])), (q1, .inl (cZ, 6, .inl (fun _ => 0))), (q2, .inl (cZ, 6, .inl (fun _ => 0))), (q3, .inl (cI, 6, .inl (mf 6)))] := hD
  refine lv_aload_n B.hx B.hb dX3_init_49 rfl (lv_at hl 1 rfl) ?_
  refine lv_bipush (v := (nI 8)) B.hx B.hb dX3_init_50 (by decide) ?_
  refine q_newP B hP hD hS (by decide +kernel) (N := 8) (by decide) rfl (Nat.le_of_ble_eq_true rfl) (Nat.le_of_ble_eq_true rfl) (Nat.le_of_ble_eq_true rfl) dX3_init_52 (fun q4 H hP hD hS => ?_)
  have hP : va_P D vwCl [(h, .inr (3, [.ref (q1), .ref (q2), .ref (q3), .null, .null, .int 0, .int 0, .int 0])), (q1, .inl (cZ, 6, .inl (fun _ => 0))), (q2, .inl (cZ, 6, .inl (fun _ => 0))), (q3, .inl (cI, 6, .inl (mf 6))), (q4, .inl (cP, 8, .inr (.inr (.inr (.inr (fun _ => none))))))] H := hP
  have hD : va_D A [(h, .inr (3, [.ref (q1), .ref (q2), .ref (q3), .null, .null, .int 0, .int 0, .int 0])), (q1, .inl (cZ, 6, .inl (fun _ => 0))), (q2, .inl (cZ, 6, .inl (fun _ => 0))), (q3, .inl (cI, 6, .inl (mf 6))), (q4, .inl (cP, 8, .inr (.inr (.inr (.inr (fun _ => none))))))] := hD
  refine q_putF B hP hD hS hmn (C := RX3) (ref := "PaperKeeper") (T := TX3) (N := 8) (ci := 3) hi3 rfl tyX3 tyX3_ok nmX3 0 rfl 3 (by decide) (by decide +kernel) rfl rfl rfl rfl (by rfl) (Nat.le_of_ble_eq_true rfl) dX3_init_55 (w' := [(h, .inr (3, [.ref (q1), .ref (q2), .ref (q3), .ref (q4), .null, .int 0, .int 0, .int 0])), (q1, .inl (cZ, 6, .inl (fun _ => 0))), (q2, .inl (cZ, 6, .inl (fun _ => 0))), (q3, .inl (cI, 6, .inl (mf 6))), (q4, .inl (cP, 8, .inr (.inr (.inr (.inr (fun _ => none))))))]) rfl (fun H locs hP hD hS => ?_)
  refine lv_aload_n B.hx B.hb dX3_init_58 rfl (lv_at hl 1 rfl) ?_
  refine q_new B hP hD hS (C := RX0) (T := TX0) (N := 4) (ci := 0) (fs := [.null, .null, .null, .int 0]) hi0 tyX0 tyX0_ok (by decide +kernel) (by decide +kernel) (by decide +kernel) rfl (fun j hj => by rcases (show j = 0 ∨ j = 1 ∨ j = 2 ∨ j = 3 by omega) with rfl | rfl | rfl | rfl <;> rfl) (Nat.le_of_ble_eq_true rfl) (Nat.le_of_ble_eq_true rfl) dX3_init_59 (fun q5 H hP hD hS => ?_)
  have hP : va_P D vwCl [(h, .inr (3, [.ref (q1), .ref (q2), .ref (q3), .ref (q4), .null, .int 0, .int 0, .int 0])), (q1, .inl (cZ, 6, .inl (fun _ => 0))), (q2, .inl (cZ, 6, .inl (fun _ => 0))), (q3, .inl (cI, 6, .inl (mf 6))), (q4, .inl (cP, 8, .inr (.inr (.inr (.inr (fun _ => none)))))), (q5, .inr (0, [.null, .null, .null, .int 0]))] H := hP
  have hD : va_D A [(h, .inr (3, [.ref (q1), .ref (q2), .ref (q3), .ref (q4), .null, .int 0, .int 0, .int 0])), (q1, .inl (cZ, 6, .inl (fun _ => 0))), (q2, .inl (cZ, 6, .inl (fun _ => 0))), (q3, .inl (cI, 6, .inl (mf 6))), (q4, .inl (cP, 8, .inr (.inr (.inr (.inr (fun _ => none)))))), (q5, .inr (0, [.null, .null, .null, .int 0]))] := hD
  refine lv_dup B.hx B.hb dX3_init_62 rfl ?_
  refine q_callI (As := []) (rest := [.ref (q5), .ref (h)]) B hP hD hS ((c0_init l D cI cZ cP q5).fl [(h, .inr (3, [.ref (q1), .ref (q2), .ref (q3), .ref (q4), .null, .int 0, .int 0, .int 0])), (q1, .inl (cZ, 6, .inl (fun _ => 0))), (q2, .inl (cZ, 6, .inl (fun _ => 0))), (q3, .inl (cI, 6, .inl (mf 6))), (q4, .inl (cP, 8, .inr (.inr (.inr (.inr (fun _ => none))))))]) ggX3_init_X0_init rfl rfl rfl (by decide +kernel) (by decide +kernel) (by decide +kernel) rfl (by decide +kernel) ⟨(Nat.le_of_ble_eq_true rfl), (Nat.le_of_ble_eq_true rfl)⟩ rfl hl.1 rfl (Nat.le_of_ble_eq_true rfl) dX3_init_63 ⟨(Nat.le_of_ble_eq_true rfl), (Nat.le_of_ble_eq_true rfl)⟩ (fun v u H locs hp hP hD hS => ?_)
  obtain ⟨rfl, hu⟩ := hp
  obtain ⟨v6, hv6⟩ : ∃ z, z = u 6 := ⟨_, rfl⟩
  obtain ⟨v7, hv7⟩ : ∃ z, z = u 7 := ⟨_, rfl⟩
  obtain ⟨v8, hv8⟩ : ∃ z, z = u 8 := ⟨_, rfl⟩
  simp only [cw] at hP hD
  rw [hu, ← hv6, ← hv7, ← hv8] at hP hD
  have hP : va_P D vwCl [(h, .inr (3, [.ref (q1), .ref (q2), .ref (q3), .ref (q4), .null, .int 0, .int 0, .int 0])), (q1, .inl (cZ, 6, .inl (fun _ => 0))), (q2, .inl (cZ, 6, .inl (fun _ => 0))), (q3, .inl (cI, 6, .inl (mf 6))), (q4, .inl (cP, 8, .inr (.inr (.inr (.inr (fun _ => none)))))), (q5, .inr (0, [.ref (v6), .ref (v7), .ref (v8), .int 0])), (v6, .inl (cI, 30, .inl (fun _ => 0))), (v7, .inl (cI, 30, .inl (fun _ => 0))), (v8, .inl (cI, 30, .inl (fun _ => 0)))] H := hP
  have hD : va_D A [(h, .inr (3, [.ref (q1), .ref (q2), .ref (q3), .ref (q4), .null, .int 0, .int 0, .int 0])), (q1, .inl (cZ, 6, .inl (fun _ => 0))), (q2, .inl (cZ, 6, .inl (fun _ => 0))), (q3, .inl (cI, 6, .inl (mf 6))), (q4, .inl (cP, 8, .inr (.inr (.inr (.inr (fun _ => none)))))), (q5, .inr (0, [.ref (v6), .ref (v7), .ref (v8), .int 0])), (v6, .inl (cI, 30, .inl (fun _ => 0))), (v7, .inl (cI, 30, .inl (fun _ => 0))), (v8, .inl (cI, 30, .inl (fun _ => 0)))] := hD
  refine q_putF B hP hD hS hmn (C := RX3) (ref := "PaperKeeper") (T := TX3) (N := 8) (ci := 3) hi3 rfl tyX3 tyX3_ok nmX3 0 rfl 4 (by decide) (by decide +kernel) rfl rfl rfl rfl (by rfl) (Nat.le_of_ble_eq_true rfl) dX3_init_66 (w' := [(h, .inr (3, [.ref (q1), .ref (q2), .ref (q3), .ref (q4), .ref (q5), .int 0, .int 0, .int 0])), (q1, .inl (cZ, 6, .inl (fun _ => 0))), (q2, .inl (cZ, 6, .inl (fun _ => 0))), (q3, .inl (cI, 6, .inl (mf 6))), (q4, .inl (cP, 8, .inr (.inr (.inr (.inr (fun _ => none)))))), (q5, .inr (0, [.ref (v6), .ref (v7), .ref (v8), .int 0])), (v6, .inl (cI, 30, .inl (fun _ => 0))), (v7, .inl (cI, 30, .inl (fun _ => 0))), (v8, .inl (cI, 30, .inl (fun _ => 0)))]) rfl (fun H locs hP hD hS => ?_)
  refine lv_aload_n B.hx B.hb dX3_init_69 rfl (lv_at hl 1 rfl) ?_
  refine lv_iconst (v := (nI 0)) B.hx B.hb dX3_init_70 (by decide) ?_
  refine q_put B hP hD hS (C := RX3) (ref := "PaperKeeper") (T := TX3) (N := 8) (ci := 3) hi3 rfl tyX3 tyX3_ok nmX3 0 rfl 5 (by decide) (by decide +kernel) rfl rfl rfl (by rfl) (Nat.le_of_ble_eq_true rfl) dX3_init_71 (w' := [(h, .inr (3, [.ref (q1), .ref (q2), .ref (q3), .ref (q4), .ref (q5), .int (nI 0), .int 0, .int 0])), (q1, .inl (cZ, 6, .inl (fun _ => 0))), (q2, .inl (cZ, 6, .inl (fun _ => 0))), (q3, .inl (cI, 6, .inl (mf 6))), (q4, .inl (cP, 8, .inr (.inr (.inr (.inr (fun _ => none)))))), (q5, .inr (0, [.ref (v6), .ref (v7), .ref (v8), .int 0])), (v6, .inl (cI, 30, .inl (fun _ => 0))), (v7, .inl (cI, 30, .inl (fun _ => 0))), (v8, .inl (cI, 30, .inl (fun _ => 0)))]) rfl (fun H locs hP hD hS => ?_)
  refine lv_aload_n B.hx B.hb dX3_init_74 rfl (lv_at hl 1 rfl) ?_
  refine lv_bipush (v := (nI 30)) B.hx B.hb dX3_init_75 (by decide) ?_
  refine q_put B hP hD hS (C := RX3) (ref := "PaperKeeper") (T := TX3) (N := 8) (ci := 3) hi3 rfl tyX3 tyX3_ok nmX3 0 rfl 6 (by decide) (by decide +kernel) rfl rfl rfl (by rfl) (Nat.le_of_ble_eq_true rfl) dX3_init_77 (w' := [(h, .inr (3, [.ref (q1), .ref (q2), .ref (q3), .ref (q4), .ref (q5), .int (nI 0), .int (nI 30), .int 0])), (q1, .inl (cZ, 6, .inl (fun _ => 0))), (q2, .inl (cZ, 6, .inl (fun _ => 0))), (q3, .inl (cI, 6, .inl (mf 6))), (q4, .inl (cP, 8, .inr (.inr (.inr (.inr (fun _ => none)))))), (q5, .inr (0, [.ref (v6), .ref (v7), .ref (v8), .int 0])), (v6, .inl (cI, 30, .inl (fun _ => 0))), (v7, .inl (cI, 30, .inl (fun _ => 0))), (v8, .inl (cI, 30, .inl (fun _ => 0)))]) rfl (fun H locs hP hD hS => ?_)
  refine lv_aload_n B.hx B.hb dX3_init_80 rfl (lv_at hl 1 rfl) ?_
  refine lv_iconst (v := (nI 0)) B.hx B.hb dX3_init_81 (by decide) ?_
  refine q_put B hP hD hS (C := RX3) (ref := "PaperKeeper") (T := TX3) (N := 8) (ci := 3) hi3 rfl tyX3 tyX3_ok nmX3 0 rfl 7 (by decide) (by decide +kernel) rfl rfl rfl (by rfl) (Nat.le_of_ble_eq_true rfl) dX3_init_82 (w' := [(h, .inr (3, [.ref (q1), .ref (q2), .ref (q3), .ref (q4), .ref (q5), .int (nI 0), .int (nI 30), .int (nI 0)])), (q1, .inl (cZ, 6, .inl (fun _ => 0))), (q2, .inl (cZ, 6, .inl (fun _ => 0))), (q3, .inl (cI, 6, .inl (mf 6))), (q4, .inl (cP, 8, .inr (.inr (.inr (.inr (fun _ => none)))))), (q5, .inr (0, [.ref (v6), .ref (v7), .ref (v8), .int 0])), (v6, .inl (cI, 30, .inl (fun _ => 0))), (v7, .inl (cI, 30, .inl (fun _ => 0))), (v8, .inl (cI, 30, .inl (fun _ => 0)))]) rfl (fun H locs hP hD hS => ?_)
  exact q_vret B hr hP hD hS (u := adr [h, q1, q2, q3, q4, q5, v6, v7, v8]) rfl ⟨rfl, rfl⟩ (Nat.le_of_ble_eq_true rfl) (Nat.le_of_ble_eq_true rfl) dX3_init_85
