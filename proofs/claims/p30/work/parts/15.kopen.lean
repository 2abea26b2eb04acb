/-! The keeper: open. -/
set_option maxHeartbeats 4000000 in
set_option maxRecDepth 100000 in
theorem c3_open (l : Launch) (hfl : l.stackTraces = false) (D : va_G) (cI cZ cP : ClassId) (b : Nat → Nat) (I : Nat → Int32) (V : Nat → Nat → Int32) (P : Nat → Option Nat) (n : Nat) (hn : I 5 = nI n) (hn8 : n ≤ 8) (x : Int32) (hx : x = 0 ∨ x = 1) : q_C l yX3_open wsX3_open ({ frames := 6, cells := 11, slots := 320, locals := 82 }) D cI cZ cP [.ref (b 0), .int x] (kq cI cZ cP b I V P ++ cw cI b I V) (S := (Nat → Nat)) (fun v _ => v = some (.int (nI n)) ∧ kOpen n = 0) (fun a => dw cI cZ a (va_up (fun _ => 0) 0 x) (fun _ _ => 0) ++ (ppw cI cZ a (va_up (fun _ => 0) 0 x) (fun _ _ => 0) ++ (kq cI cZ cP b (va_up I 5 (nI ((n + 1)))) V (va_up P n (some (a 0))) ++ cw cI b (va_up I 5 (nI ((n + 1)))) V))) (fun E => E = q_ISE ∧ kOpen n = 1) 11 320 := by
  refine q_of (cc := cX3_open) (maxL := 3) (ret := (some .int)) (by decide +kernel) rfl (Nat.le_of_ble_eq_true rfl) ?_
  intro p e s m below meth c A ls B hr htb hmn hP hD hS hl
  have hl : lv_has ls 3 [(0, .ref (b 0)), (1, .int x)] := hl
  have hi2 : ∀ w ∈ u_ws RX2 TX2 9, w ∈ wsX3_open := by decide +kernel
  have hi3 : ∀ w ∈ u_ws RX3 TX3 8, w ∈ wsX3_open := by decide +kernel
  refine lv_aload_n B.hx B.hb dX3_open_0 rfl (lv_at hl 0 rfl) ?_
  refine q_get B hP (C := RX3) (ref := "PaperKeeper") (T := TX3) (N := 8) (ci := 3) hi3 rfl 0 rfl 5 (by decide) (by decide +kernel) rfl (v := .int (I 5)) rfl dX3_open_1 ?_
  refine q_top (v2 := .int (nI n)) (congrArg Value.int hn) ?_
  refine lv_bipush (v := (nI 8)) B.hx B.hb dX3_open_4 (by decide) ?_
  refine lv_icmp_lt (tgt := 19) B.hx B.hb dX3_open_6 (by decide) (fun c1 => ?_) (fun c1 => ?_)
  · replace c1 := (nI_ltI (by omega) (by omega)).mp c1
    refine lv_aload_n B.hx B.hb dX3_open_19 rfl (lv_at hl 0 rfl) ?_
    refine q_get B hP (C := RX3) (ref := "PaperKeeper") (T := TX3) (N := 8) (ci := 3) hi3 rfl 0 rfl 5 (by decide) (by decide +kernel) rfl (v := .int (I 5)) rfl dX3_open_20 ?_
    refine q_top (v2 := .int (nI n)) (congrArg Value.int hn) ?_
    refine lv_istore_n (lv' := [(2, .int (nI n)), (0, .ref (b 0)), (1, .int x)]) B.hx B.hb dX3_open_23 rfl hl (by decide) rfl (fun ls hl => ?_)
    refine lv_aload_n B.hx B.hb dX3_open_24 rfl (lv_at hl 1 rfl) ?_
    refine q_get B hP (C := RX3) (ref := "PaperKeeper") (T := TX3) (N := 8) (ci := 3) hi3 rfl 0 rfl 3 (by decide) (by decide +kernel) rfl (v := .ref (b 4)) rfl dX3_open_25 ?_
    refine lv_iload_n B.hx B.hb dX3_open_28 rfl (lv_at hl 0 rfl) ?_
    have h89 : n < 8 := by omega
    refine q_new B hP hD hS (C := RX2) (T := TX2) (N := 9) (ci := 2) (fs := [.int 0, .null, .null, .null, .null, .int 0, .int 0, .int 0, .int 0]) hi2 tyX2 tyX2_ok (by decide +kernel) (by decide +kernel) (by decide +kernel) rfl (fun j hj => by rcases (show j = 0 ∨ j = 1 ∨ j = 2 ∨ j = 3 ∨ j = 4 ∨ j = 5 ∨ j = 6 ∨ j = 7 ∨ j = 8 by omega) with rfl | rfl | rfl | rfl | rfl | rfl | rfl | rfl | rfl <;> rfl) (Nat.le_of_ble_eq_true rfl) (Nat.le_of_ble_eq_true rfl) dX3_open_29 (fun q H hP hD hS => ?_)
    refine lv_dup B.hx B.hb dX3_open_32 rfl ?_
    refine lv_iload_n B.hx B.hb dX3_open_33 rfl (lv_at hl 2 rfl) ?_
    refine q_callI (n := 1) (As := [.int x]) (rest := [.ref q, .int (nI n), .ref (b 4)]) B hP hD hS ((c2_init l D cI cZ cP q x hx).fl (kq cI cZ cP b I V P ++ cw cI b I V)) ggX3_open_X2_init rfl rfl rfl (by decide +kernel) (by decide +kernel) (by decide +kernel) rfl (by decide +kernel) ⟨(Nat.le_of_ble_eq_true rfl), (Nat.le_of_ble_eq_true rfl)⟩ rfl hl.1 rfl (Nat.le_of_ble_eq_true rfl) dX3_open_34 ⟨(Nat.le_of_ble_eq_true rfl), (Nat.le_of_ble_eq_true rfl)⟩ (fun v a H locs hp hP1 hD1 hS => ?_)
    obtain ⟨rfl, rfl⟩ := hp
    have hP := q_Pperm (q_sw _ _ _ _) hP1
    have hD := q_Dperm (q_sw _ _ _ _) hD1
    have hP : va_P D vwCl (dw cI cZ a (va_up (fun _ => 0) 0 x) (fun _ _ => 0) ++ (ppw cI cZ a (va_up (fun _ => 0) 0 x) (fun _ _ => 0) ++ (kq cI cZ cP b I V P ++ cw cI b I V))) H := hP
    have hD : va_D A (dw cI cZ a (va_up (fun _ => 0) 0 x) (fun _ _ => 0) ++ (ppw cI cZ a (va_up (fun _ => 0) 0 x) (fun _ _ => 0) ++ (kq cI cZ cP b I V P ++ cw cI b I V))) := hD
    refine q_aast B hP hD hS 14 6 (j := n) rfl rfl rfl h89 (by decide) dX3_open_37 (w' := dw cI cZ a (va_up (fun _ => 0) 0 x) (fun _ _ => 0) ++ (ppw cI cZ a (va_up (fun _ => 0) 0 x) (fun _ _ => 0) ++ (kq cI cZ cP b I V (va_up P n (some (a 0))) ++ cw cI b I V))) rfl (fun H locs hP hD hS => ?_)
    refine lv_aload_n B.hx B.hb dX3_open_38 rfl (lv_at hl 1 rfl) ?_
    refine lv_dup B.hx B.hb dX3_open_39 rfl ?_
    refine q_get B hP (C := RX3) (ref := "PaperKeeper") (T := TX3) (N := 8) (ci := 3) hi3 rfl 10 rfl 5 (by decide) (by decide +kernel) rfl (v := .int (I 5)) rfl dX3_open_40 ?_
    refine q_top (v2 := .int (nI n)) (congrArg Value.int hn) ?_
    refine lv_iconst (v := (nI 1)) B.hx B.hb dX3_open_43 (by decide) ?_
    refine lv_iadd B.hx B.hb dX3_open_44 ?_
    refine q_top (v2 := .int (nI ((n + 1)))) (congrArg Value.int (nI_add _ _)) ?_
    refine q_put B hP hD hS (C := RX3) (ref := "PaperKeeper") (T := TX3) (N := 8) (ci := 3) hi3 rfl tyX3 tyX3_ok nmX3 10 rfl 5 (by decide) (by decide +kernel) rfl rfl rfl (by rfl) (Nat.le_of_ble_eq_true rfl) dX3_open_45 (w' := dw cI cZ a (va_up (fun _ => 0) 0 x) (fun _ _ => 0) ++ (ppw cI cZ a (va_up (fun _ => 0) 0 x) (fun _ _ => 0) ++ (kq cI cZ cP b (va_up I 5 (nI ((n + 1)))) V (va_up P n (some (a 0))) ++ cw cI b (va_up I 5 (nI ((n + 1)))) V))) rfl (fun H locs hP hD hS => ?_)
    refine lv_iload_n B.hx B.hb dX3_open_48 rfl (lv_at hl 0 rfl) ?_
    exact q_iret B hr hP hD hS (u := a) rfl ⟨rfl, by simp [kOpen, h89]⟩ (Nat.le_of_ble_eq_true rfl) (Nat.le_of_ble_eq_true rfl) dX3_open_49
  · replace c1 := mt (nI_ltI (by omega) (by omega)).mpr c1
    exact q_throw B hfl htb hP hS q_E_ISE (goodIn_app (goodIn_of [_, _] (by decide +kernel)) (goodIn_sub (fun w h => List.mem_cons_of_mem _ (List.mem_append_right _ h)) q_allg_ISE)) (List.mem_of_getElem? (i := 1) rfl) hl.1 dX3_open_9 dX3_open_12 dX3_open_13 dX3_open_15 dX3_open_18 ⟨(Nat.le_of_ble_eq_true rfl), (Nat.le_of_ble_eq_true rfl), (Nat.le_of_ble_eq_true rfl), (Nat.le_of_ble_eq_true rfl)⟩ ⟨rfl, by simp [kOpen, c1]⟩ (Nat.le_of_ble_eq_true rfl) (Nat.le_of_ble_eq_true rfl)
