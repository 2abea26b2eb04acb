/-! The keeper: its calls. -/
set_option maxHeartbeats 4000000 in
set_option maxRecDepth 100000 in
theorem c3_setRoles (l : Launch) (hfl : l.stackTraces = false) (D : va_G) (cI cZ cP : ClassId) (b : Nat → Nat) (I : Nat → Int32) (V : Nat → Nat → Int32) (P : Nat → Option Nat) (x r1 r2 : Int32) (hr1 : r1 = 0 ∨ r1 = 1) (hr2 : r2 = 0 ∨ r2 = 1) : q_C l yX3_setRoles wsX3_setRoles ({ frames := 8, cells := 1, slots := 6, locals := 124 }) D cI cZ cP [.ref (b 0), .int x, .int r1, .int r2] (kq cI cZ cP b I V P ++ cw cI b I V) (S := Unit) (fun v _ => v = none ∧ kSetRoles x = 0) (fun _ => kq cI cZ cP b I (va_up (va_up V 0 (upd (V 0) (ix x) r1)) 1 (upd (V 1) (ix x) r2)) P ++ cw cI b I (va_up (va_up V 0 (upd (V 0) (ix x) r1)) 1 (upd (V 1) (ix x) r2))) (fun E => E = q_IAE ∧ kSetRoles x = 1) 1 6 := by
  refine q_of (cc := cX3_setRoles) (maxL := 4) (ret := none) (by decide +kernel) rfl (Nat.le_of_ble_eq_true rfl) ?_
  intro p e s m below meth c A ls B hr htb hmn hP hD hS hl
  have hl : lv_has ls 4 [(0, .ref (b 0)), (1, .int x), (2, .int r1), (3, .int r2)] := hl
  have hi3 : ∀ w ∈ u_ws RX3 TX3 8, w ∈ wsX3_setRoles := by decide +kernel
  refine lv_iload_n B.hx B.hb dX3_setRoles_0 rfl (lv_at hl 1 rfl) ?_
  refine q_callS (As := [.int x]) (rest := []) B hP hD hS ((c3_checkPerson l hfl D cI cZ cP x).fr0 (kq cI cZ cP b I V P ++ cw cI b I V)) (cwS 1 B.hts gX3_setRoles_X3_checkPerson rfl rfl rfl (by decide +kernel) ⟨(Nat.le_of_ble_eq_true rfl), (Nat.le_of_ble_eq_true rfl)⟩) rfl hl.1 rfl (Nat.le_of_ble_eq_true rfl) dX3_setRoles_1 ⟨(Nat.le_of_ble_eq_true rfl), (Nat.le_of_ble_eq_true rfl)⟩ (fun E ce q9 H locs hx hP hS hce hcv hcl => ?_) (fun v u H locs hp hP hD hS => ?_)
  · exact q_xout B htb hP hS hce hcv hcl ⟨hx.1, by simp [kSetRoles, hx.2]⟩ (Nat.le_of_ble_eq_true rfl) (Nat.le_of_ble_eq_true rfl)
  · obtain ⟨rfl, hrg0⟩ := hp
    have hP : va_P D vwCl (kq cI cZ cP b I V P ++ cw cI b I V) H := hP
    have hD : va_D A (kq cI cZ cP b I V P ++ cw cI b I V) := hD
    obtain ⟨j2, hjj2, rfl⟩ := rg_j (by decide) hrg0
    have hixj2 : ix (nI j2) = j2 := ix_nI (by omega)
    have hnmj2 : ¬ nI j2 = -1 := nI_nm1 (by omega)
    refine lv_aload_n B.hx B.hb dX3_setRoles_4 rfl (lv_at hl 0 rfl) ?_
    refine q_get B hP (C := RX3) (ref := "PaperKeeper") (T := TX3) (N := 8) (ci := 3) hi3 rfl 0 rfl 0 (by decide) (by decide +kernel) rfl (v := .ref (b 1)) rfl dX3_setRoles_5 ?_
    refine lv_iload_n B.hx B.hb dX3_setRoles_8 rfl (lv_at hl 1 rfl) ?_
    refine lv_iload_n B.hx B.hb dX3_setRoles_9 rfl (lv_at hl 2 rfl) ?_
    refine q_zast B hP hD hS 1 rfl (j := j2) rfl (by omega) (by decide) (nar_b hr1) dX3_setRoles_10 (w' := kq cI cZ cP b I (va_up V 0 (upd (V 0) j2 r1)) P ++ cw cI b I (va_up V 0 (upd (V 0) j2 r1))) rfl (fun H locs hP hD hS => ?_)
    refine lv_aload_n B.hx B.hb dX3_setRoles_11 rfl (lv_at hl 0 rfl) ?_
    refine q_get B hP (C := RX3) (ref := "PaperKeeper") (T := TX3) (N := 8) (ci := 3) hi3 rfl 0 rfl 1 (by decide) (by decide +kernel) rfl (v := .ref (b 2)) rfl dX3_setRoles_12 ?_
    refine lv_iload_n B.hx B.hb dX3_setRoles_15 rfl (lv_at hl 1 rfl) ?_
    refine lv_iload_n B.hx B.hb dX3_setRoles_16 rfl (lv_at hl 3 rfl) ?_
    refine q_zast B hP hD hS 2 rfl (j := j2) rfl (by omega) (by decide) (nar_b hr2) dX3_setRoles_17 (w' := kq cI cZ cP b I (va_up (va_up V 0 (upd (V 0) j2 r1)) 1 (upd (V 1) j2 r2)) P ++ cw cI b I (va_up (va_up V 0 (upd (V 0) j2 r1)) 1 (upd (V 1) j2 r2))) rfl (fun H locs hP hD hS => ?_)
    exact q_vret B hr hP hD hS (u := ()) (by simp only [hixj2]) ⟨rfl, by simp [kSetRoles, hrg0, hixj2, hnmj2]⟩ (Nat.le_of_ble_eq_true rfl) (Nat.le_of_ble_eq_true rfl) dX3_setRoles_18
set_option maxHeartbeats 4000000 in
set_option maxRecDepth 100000 in
theorem c3_setDeputy (l : Launch) (hfl : l.stackTraces = false) (D : va_G) (cI cZ cP : ClassId) (b : Nat → Nat) (I : Nat → Int32) (V : Nat → Nat → Int32) (P : Nat → Option Nat) (x y : Int32) : q_C l yX3_setDeputy wsX3_setDeputy ({ frames := 8, cells := 3, slots := 18, locals := 124 }) D cI cZ cP [.ref (b 0), .int x, .int y] (kq cI cZ cP b I V P ++ cw cI b I V) (S := Unit) (fun v _ => v = some (.int (V 2 (ix x))) ∧ kSetDeputy x y = 0) (fun _ => kq cI cZ cP b I (va_up V 2 (upd (V 2) (ix x) y)) P ++ cw cI b I (va_up V 2 (upd (V 2) (ix x) y))) (fun E => E = q_IAE ∧ kSetDeputy x y = 1) 3 18 := by
  refine q_of (cc := cX3_setDeputy) (maxL := 4) (ret := (some .int)) (by decide +kernel) rfl (Nat.le_of_ble_eq_true rfl) ?_
  intro p e s m below meth c A ls B hr htb hmn hP hD hS hl
  have hl : lv_has ls 4 [(0, .ref (b 0)), (1, .int x), (2, .int y)] := hl
  have hi3 : ∀ w ∈ u_ws RX3 TX3 8, w ∈ wsX3_setDeputy := by decide +kernel
  refine lv_iload_n B.hx B.hb dX3_setDeputy_0 rfl (lv_at hl 1 rfl) ?_
  refine q_callS (As := [.int x]) (rest := []) B hP hD hS ((c3_checkPerson l hfl D cI cZ cP x).fr0 (kq cI cZ cP b I V P ++ cw cI b I V)) (cwS 1 B.hts gX3_setDeputy_X3_checkPerson rfl rfl rfl (by decide +kernel) ⟨(Nat.le_of_ble_eq_true rfl), (Nat.le_of_ble_eq_true rfl)⟩) rfl hl.1 rfl (Nat.le_of_ble_eq_true rfl) dX3_setDeputy_1 ⟨(Nat.le_of_ble_eq_true rfl), (Nat.le_of_ble_eq_true rfl)⟩ (fun E ce q9 H locs hx hP hS hce hcv hcl => ?_) (fun v u H locs hp hP hD hS => ?_)
  · exact q_xout B htb hP hS hce hcv hcl ⟨hx.1, by simp [kSetDeputy, hx.2]⟩ (Nat.le_of_ble_eq_true rfl) (Nat.le_of_ble_eq_true rfl)
  · obtain ⟨rfl, hrg0⟩ := hp
    have hP : va_P D vwCl (kq cI cZ cP b I V P ++ cw cI b I V) H := hP
    have hD : va_D A (kq cI cZ cP b I V P ++ cw cI b I V) := hD
    obtain ⟨j2, hjj2, rfl⟩ := rg_j (by decide) hrg0
    have hixj2 : ix (nI j2) = j2 := ix_nI (by omega)
    have hnmj2 : ¬ nI j2 = -1 := nI_nm1 (by omega)
    refine lv_iload_n B.hx B.hb dX3_setDeputy_4 rfl (lv_at hl 2 rfl) ?_
    refine lv_iconst (v := (-1)) B.hx B.hb dX3_setDeputy_5 (by decide) ?_
    refine lv_icmp_eq (tgt := 13) B.hx B.hb dX3_setDeputy_6 (by decide) (fun c1 => ?_) (fun c1 => ?_)
    · refine lv_iload_n B.hx B.hb dX3_setDeputy_13 rfl (lv_at hl 1 rfl) ?_
      refine lv_iload_n B.hx B.hb dX3_setDeputy_14 rfl (lv_at hl 2 rfl) ?_
      refine lv_icmp_ne (tgt := 28) B.hx B.hb dX3_setDeputy_15 (by decide) (fun c2 => ?_) (fun c2 => ?_)
      · refine lv_aload_n B.hx B.hb dX3_setDeputy_28 rfl (lv_at hl 0 rfl) ?_
        refine q_get B hP (C := RX3) (ref := "PaperKeeper") (T := TX3) (N := 8) (ci := 3) hi3 rfl 0 rfl 2 (by decide) (by decide +kernel) rfl (v := .ref (b 3)) rfl dX3_setDeputy_29 ?_
        refine lv_iload_n B.hx B.hb dX3_setDeputy_32 rfl (lv_at hl 1 rfl) ?_
        refine q_iald B hP 3 rfl (j := j2) rfl (by omega) (by decide) dX3_setDeputy_33 ?_
        refine lv_istore_n (lv' := [(3, .int ((V 2) j2)), (0, .ref (b 0)), (1, .int (nI j2)), (2, .int y)]) B.hx B.hb dX3_setDeputy_34 rfl hl (by decide) rfl (fun ls hl => ?_)
        refine lv_aload_n B.hx B.hb dX3_setDeputy_35 rfl (lv_at hl 1 rfl) ?_
        refine q_get B hP (C := RX3) (ref := "PaperKeeper") (T := TX3) (N := 8) (ci := 3) hi3 rfl 0 rfl 2 (by decide) (by decide +kernel) rfl (v := .ref (b 3)) rfl dX3_setDeputy_36 ?_
        refine lv_iload_n B.hx B.hb dX3_setDeputy_39 rfl (lv_at hl 2 rfl) ?_
        refine lv_iload_n B.hx B.hb dX3_setDeputy_40 rfl (lv_at hl 3 rfl) ?_
        refine q_iast B hP hD hS 3 rfl (j := j2) rfl (by omega) (by decide) dX3_setDeputy_41 (w' := kq cI cZ cP b I (va_up V 2 (upd (V 2) j2 y)) P ++ cw cI b I (va_up V 2 (upd (V 2) j2 y))) rfl (fun H locs hP hD hS => ?_)
        refine lv_iload_n B.hx B.hb dX3_setDeputy_42 rfl (lv_at hl 0 rfl) ?_
        exact q_iret B hr hP hD hS (u := ()) (by simp only [hixj2]) ⟨by rw [hixj2], by simp [kSetDeputy, hrg0, c1, c2, hixj2, hnmj2]⟩ (Nat.le_of_ble_eq_true rfl) (Nat.le_of_ble_eq_true rfl) dX3_setDeputy_43
      · exact q_throw B hfl htb hP hS q_E_IAE (goodIn_app (goodIn_of [_, _] (by decide +kernel)) (goodIn_sub (fun w h => List.mem_cons_of_mem _ (List.mem_append_right _ h)) q_allg_IAE)) (List.mem_of_getElem? (i := 0) rfl) hl.1 dX3_setDeputy_18 dX3_setDeputy_21 dX3_setDeputy_22 dX3_setDeputy_24 dX3_setDeputy_27 ⟨(Nat.le_of_ble_eq_true rfl), (Nat.le_of_ble_eq_true rfl), (Nat.le_of_ble_eq_true rfl), (Nat.le_of_ble_eq_true rfl)⟩ ⟨rfl, by simp [kSetDeputy, hrg0, c1, c2, hixj2, hnmj2]⟩ (Nat.le_of_ble_eq_true rfl) (Nat.le_of_ble_eq_true rfl)
    · refine lv_iload_n B.hx B.hb dX3_setDeputy_9 rfl (lv_at hl 2 rfl) ?_
      refine q_callS (As := [.int y]) (rest := []) B hP hD hS ((c3_checkPerson l hfl D cI cZ cP y).fr0 (kq cI cZ cP b I V P ++ cw cI b I V)) (cwS 1 B.hts gX3_setDeputy_X3_checkPerson rfl rfl rfl (by decide +kernel) ⟨(Nat.le_of_ble_eq_true rfl), (Nat.le_of_ble_eq_true rfl)⟩) rfl hl.1 rfl (Nat.le_of_ble_eq_true rfl) dX3_setDeputy_10 ⟨(Nat.le_of_ble_eq_true rfl), (Nat.le_of_ble_eq_true rfl)⟩ (fun E ce q9 H locs hx hP hS hce hcv hcl => ?_) (fun v u H locs hp hP hD hS => ?_)
      · exact q_xout B htb hP hS hce hcv hcl ⟨hx.1, by simp [kSetDeputy, hx.2, hrg0, c1, hixj2, hnmj2]⟩ (Nat.le_of_ble_eq_true rfl) (Nat.le_of_ble_eq_true rfl)
      · obtain ⟨rfl, hrg2⟩ := hp
        have hP : va_P D vwCl (kq cI cZ cP b I V P ++ cw cI b I V) H := hP
        have hD : va_D A (kq cI cZ cP b I V P ++ cw cI b I V) := hD
        refine lv_iload_n B.hx B.hb dX3_setDeputy_13 rfl (lv_at hl 1 rfl) ?_
        refine lv_iload_n B.hx B.hb dX3_setDeputy_14 rfl (lv_at hl 2 rfl) ?_
        refine lv_icmp_ne (tgt := 28) B.hx B.hb dX3_setDeputy_15 (by decide) (fun c3 => ?_) (fun c3 => ?_)
        · refine lv_aload_n B.hx B.hb dX3_setDeputy_28 rfl (lv_at hl 0 rfl) ?_
          refine q_get B hP (C := RX3) (ref := "PaperKeeper") (T := TX3) (N := 8) (ci := 3) hi3 rfl 0 rfl 2 (by decide) (by decide +kernel) rfl (v := .ref (b 3)) rfl dX3_setDeputy_29 ?_
          refine lv_iload_n B.hx B.hb dX3_setDeputy_32 rfl (lv_at hl 1 rfl) ?_
          refine q_iald B hP 3 rfl (j := j2) rfl (by omega) (by decide) dX3_setDeputy_33 ?_
          refine lv_istore_n (lv' := [(3, .int ((V 2) j2)), (0, .ref (b 0)), (1, .int (nI j2)), (2, .int y)]) B.hx B.hb dX3_setDeputy_34 rfl hl (by decide) rfl (fun ls hl => ?_)
          refine lv_aload_n B.hx B.hb dX3_setDeputy_35 rfl (lv_at hl 1 rfl) ?_
          refine q_get B hP (C := RX3) (ref := "PaperKeeper") (T := TX3) (N := 8) (ci := 3) hi3 rfl 0 rfl 2 (by decide) (by decide +kernel) rfl (v := .ref (b 3)) rfl dX3_setDeputy_36 ?_
          refine lv_iload_n B.hx B.hb dX3_setDeputy_39 rfl (lv_at hl 2 rfl) ?_
          refine lv_iload_n B.hx B.hb dX3_setDeputy_40 rfl (lv_at hl 3 rfl) ?_
          refine q_iast B hP hD hS 3 rfl (j := j2) rfl (by omega) (by decide) dX3_setDeputy_41 (w' := kq cI cZ cP b I (va_up V 2 (upd (V 2) j2 y)) P ++ cw cI b I (va_up V 2 (upd (V 2) j2 y))) rfl (fun H locs hP hD hS => ?_)
          refine lv_iload_n B.hx B.hb dX3_setDeputy_42 rfl (lv_at hl 0 rfl) ?_
          exact q_iret B hr hP hD hS (u := ()) (by simp only [hixj2]) ⟨by rw [hixj2], by simp [kSetDeputy, hrg0, c1, hrg2, c3, hixj2, hnmj2]⟩ (Nat.le_of_ble_eq_true rfl) (Nat.le_of_ble_eq_true rfl) dX3_setDeputy_43
        · exact q_throw B hfl htb hP hS q_E_IAE (goodIn_app (goodIn_of [_, _] (by decide +kernel)) (goodIn_sub (fun w h => List.mem_cons_of_mem _ (List.mem_append_right _ h)) q_allg_IAE)) (List.mem_of_getElem? (i := 0) rfl) hl.1 dX3_setDeputy_18 dX3_setDeputy_21 dX3_setDeputy_22 dX3_setDeputy_24 dX3_setDeputy_27 ⟨(Nat.le_of_ble_eq_true rfl), (Nat.le_of_ble_eq_true rfl), (Nat.le_of_ble_eq_true rfl), (Nat.le_of_ble_eq_true rfl)⟩ ⟨rfl, by simp [kSetDeputy, hrg0, c1, hrg2, c3, hixj2, hnmj2]⟩ (Nat.le_of_ble_eq_true rfl) (Nat.le_of_ble_eq_true rfl)
set_option maxHeartbeats 4000000 in
set_option maxRecDepth 100000 in
theorem c3_setInterval (l : Launch) (hfl : l.stackTraces = false) (D : va_G) (cI cZ cP : ClassId) (b : Nat → Nat) (I : Nat → Int32) (V : Nat → Nat → Int32) (P : Nat → Option Nat) (x : Int32) : q_C l yX3_setInterval wsX3_setInterval ({ frames := 7, cells := 1, slots := 6, locals := 104 }) D cI cZ cP [.ref (b 0), .int x] (kq cI cZ cP b I V P ++ cw cI b I V) (S := Unit) (fun v _ => v = some (.int (I 6)) ∧ kSetInterval x = 0) (fun _ => kq cI cZ cP b (va_up I 6 x) V P ++ cw cI b (va_up I 6 x) V) (fun E => E = q_IAE ∧ kSetInterval x = 1) 1 6 := by
  refine q_of (cc := cX3_setInterval) (maxL := 3) (ret := (some .int)) (by decide +kernel) rfl (Nat.le_of_ble_eq_true rfl) ?_
  intro p e s m below meth c A ls B hr htb hmn hP hD hS hl
  have hl : lv_has ls 3 [(0, .ref (b 0)), (1, .int x)] := hl
  have hi3 : ∀ w ∈ u_ws RX3 TX3 8, w ∈ wsX3_setInterval := by decide +kernel
  refine lv_iload_n B.hx B.hb dX3_setInterval_0 rfl (lv_at hl 1 rfl) ?_
  refine lv_iconst (v := (nI 1)) B.hx B.hb dX3_setInterval_1 (by decide) ?_
  refine lv_bipush (v := (nI 100)) B.hx B.hb dX3_setInterval_2 (by decide) ?_
  refine q_callS (As := [.int x, .int (nI 1), .int (nI 100)]) (rest := []) B hP hD hS ((c3_checkRange l hfl D cI cZ cP x (nI 1) (nI 100)).fr0 (kq cI cZ cP b I V P ++ cw cI b I V)) (cwS 3 B.hts gX3_setInterval_X3_checkRange rfl rfl rfl (by decide +kernel) ⟨(Nat.le_of_ble_eq_true rfl), (Nat.le_of_ble_eq_true rfl)⟩) rfl hl.1 rfl (Nat.le_of_ble_eq_true rfl) dX3_setInterval_4 ⟨(Nat.le_of_ble_eq_true rfl), (Nat.le_of_ble_eq_true rfl)⟩ (fun E ce q9 H locs hx hP hS hce hcv hcl => ?_) (fun v u H locs hp hP hD hS => ?_)
  · exact q_xout B htb hP hS hce hcv hcl ⟨hx.1, by simp [kSetInterval, hx.2]⟩ (Nat.le_of_ble_eq_true rfl) (Nat.le_of_ble_eq_true rfl)
  · obtain ⟨rfl, hrg0⟩ := hp
    have hP : va_P D vwCl (kq cI cZ cP b I V P ++ cw cI b I V) H := hP
    have hD : va_D A (kq cI cZ cP b I V P ++ cw cI b I V) := hD
    refine lv_aload_n B.hx B.hb dX3_setInterval_7 rfl (lv_at hl 0 rfl) ?_
    refine q_get B hP (C := RX3) (ref := "PaperKeeper") (T := TX3) (N := 8) (ci := 3) hi3 rfl 0 rfl 6 (by decide) (by decide +kernel) rfl (v := .int (I 6)) rfl dX3_setInterval_8 ?_
    refine lv_istore_n (lv' := [(2, .int (I 6)), (0, .ref (b 0)), (1, .int x)]) B.hx B.hb dX3_setInterval_11 rfl hl (by decide) rfl (fun ls hl => ?_)
    refine lv_aload_n B.hx B.hb dX3_setInterval_12 rfl (lv_at hl 1 rfl) ?_
    refine lv_iload_n B.hx B.hb dX3_setInterval_13 rfl (lv_at hl 2 rfl) ?_
    refine q_put B hP hD hS (C := RX3) (ref := "PaperKeeper") (T := TX3) (N := 8) (ci := 3) hi3 rfl tyX3 tyX3_ok nmX3 0 rfl 6 (by decide) (by decide +kernel) rfl rfl rfl (by rfl) (Nat.le_of_ble_eq_true rfl) dX3_setInterval_14 (w' := kq cI cZ cP b (va_up I 6 x) V P ++ cw cI b (va_up I 6 x) V) rfl (fun H locs hP hD hS => ?_)
    refine lv_iload_n B.hx B.hb dX3_setInterval_17 rfl (lv_at hl 0 rfl) ?_
    exact q_iret B hr hP hD hS (u := ()) rfl ⟨rfl, by simp [kSetInterval, hrg0]⟩ (Nat.le_of_ble_eq_true rfl) (Nat.le_of_ble_eq_true rfl) dX3_setInterval_18
set_option maxHeartbeats 4000000 in
set_option maxRecDepth 100000 in
theorem c3_draft (l : Launch) (hfl : l.stackTraces = false) (D : va_G) (cI cZ cP : ClassId) (b : Nat → Nat) (I : Nat → Int32) (V : Nat → Nat → Int32) (P : Nat → Option Nat) (a : Nat → Nat) (X : Nat → Int32) (Y : Nat → Nat → Int32) (j : Nat) (hj : j < 8) (hpj : P j = some (a 0)) (x y : Int32) : q_C l yX3_draft wsX3_draft ({ frames := 8, cells := 3, slots := 18, locals := 124 }) D cI cZ cP [.ref (b 0), .int (nI j), .int x, .int y] (dw cI cZ a X Y ++ (ppw cI cZ a X Y ++ (kq cI cZ cP b I V P ++ cw cI b I V))) (S := Unit) (fun v _ => v = none ∧ kDraft x y (X 2) = 0) (fun _ => dw cI cZ a (va_up (va_up (va_up (va_up (va_up (va_up (va_up X 2 (nI 1)) 5 x) 6 y) 7 ((nI 0) + nI 1)) 8 (nI 0)) 9 (nI 0)) 10 (nI 0)) (va_up (va_up (va_up Y 2 (zf (Y 2) 6)) 4 (zf (Y 4) 6)) 5 (zf (Y 5) 6)) ++ (ppw cI cZ a (va_up (va_up (va_up (va_up (va_up (va_up (va_up X 2 (nI 1)) 5 x) 6 y) 7 ((nI 0) + nI 1)) 8 (nI 0)) 9 (nI 0)) 10 (nI 0)) (va_up (va_up (va_up Y 2 (zf (Y 2) 6)) 4 (zf (Y 4) 6)) 5 (zf (Y 5) 6)) ++ (kq cI cZ cP b I V P ++ cw cI b I V))) (fun E => (E = q_IAE ∧ kDraft x y (X 2) = 2) ∨ (E = q_ISE ∧ kDraft x y (X 2) = 3)) 3 18 := by
  refine q_of (cc := cX3_draft) (maxL := 5) (ret := none) (by decide +kernel) rfl (Nat.le_of_ble_eq_true rfl) ?_
  intro p e s m below meth c A ls B hr htb hmn hP hD hS hl
  have hl : lv_has ls 5 [(0, .ref (b 0)), (1, .int (nI j)), (2, .int x), (3, .int y)] := hl
  have hi2 : ∀ w ∈ u_ws RX2 TX2 9, w ∈ wsX3_draft := by decide +kernel
  refine lv_aload_n B.hx B.hb dX3_draft_0 rfl (lv_at hl 0 rfl) ?_
  refine lv_iload_n B.hx B.hb dX3_draft_1 rfl (lv_at hl 1 rfl) ?_
  refine q_callV (As := [.int (nI j)]) (rest := []) B hP hD hS ((c3_paperAt l D cI cZ cP b I V P j (a 0) hj hpj).fl2 (dw cI cZ a X Y) (ppw cI cZ a X Y)) (cwV 1 B.hts gX3_draft_X3_paperAt rfl rfl rfl (by decide +kernel) ⟨(Nat.le_of_ble_eq_true rfl), (Nat.le_of_ble_eq_true rfl)⟩) 10 3 rfl rfl rfl rfl hl.1 rfl (Nat.le_of_ble_eq_true rfl) dX3_draft_2 ⟨(Nat.le_of_ble_eq_true rfl), (Nat.le_of_ble_eq_true rfl)⟩ (fun E ce q9 H locs hx => False.elim hx) (fun v u H locs hp hP hD hS => ?_)
  obtain rfl := hp
  have hP : va_P D vwCl (dw cI cZ a X Y ++ (ppw cI cZ a X Y ++ (kq cI cZ cP b I V P ++ cw cI b I V))) H := hP
  have hD : va_D A (dw cI cZ a X Y ++ (ppw cI cZ a X Y ++ (kq cI cZ cP b I V P ++ cw cI b I V))) := hD
  refine lv_astore (lv' := [(4, .ref (a 0)), (0, .ref (b 0)), (1, .int (nI j)), (2, .int x), (3, .int y)]) B.hx B.hb dX3_draft_5 hl (by decide) rfl (fun ls hl => ?_)
  refine lv_iload_n B.hx B.hb dX3_draft_7 rfl (lv_at hl 3 rfl) ?_
  refine q_callS (As := [.int x]) (rest := []) B hP hD hS ((c3_checkPerson l hfl D cI cZ cP x).fr0 (dw cI cZ a X Y ++ (ppw cI cZ a X Y ++ (kq cI cZ cP b I V P ++ cw cI b I V)))) (cwS 1 B.hts gX3_draft_X3_checkPerson rfl rfl rfl (by decide +kernel) ⟨(Nat.le_of_ble_eq_true rfl), (Nat.le_of_ble_eq_true rfl)⟩) rfl hl.1 rfl (Nat.le_of_ble_eq_true rfl) dX3_draft_8 ⟨(Nat.le_of_ble_eq_true rfl), (Nat.le_of_ble_eq_true rfl)⟩ (fun E ce q9 H locs hx hP hS hce hcv hcl => ?_) (fun v u H locs hp hP hD hS => ?_)
  · exact q_xout B htb hP hS hce hcv hcl (Or.inl ⟨hx.1, by simp [kDraft, hx.2]⟩) (Nat.le_of_ble_eq_true rfl) (Nat.le_of_ble_eq_true rfl)
  · obtain ⟨rfl, hrg0⟩ := hp
    have hP : va_P D vwCl (dw cI cZ a X Y ++ (ppw cI cZ a X Y ++ (kq cI cZ cP b I V P ++ cw cI b I V))) H := hP
    have hD : va_D A (dw cI cZ a X Y ++ (ppw cI cZ a X Y ++ (kq cI cZ cP b I V P ++ cw cI b I V))) := hD
    refine lv_iload_n B.hx B.hb dX3_draft_11 rfl (lv_at hl 4 rfl) ?_
    refine lv_iconst (v := (nI 0)) B.hx B.hb dX3_draft_12 (by decide) ?_
    refine lv_sipush (v := (nI 9999)) B.hx B.hb dX3_draft_13 (by decide) ?_
    refine q_callS (As := [.int y, .int (nI 0), .int (nI 9999)]) (rest := []) B hP hD hS ((c3_checkRange l hfl D cI cZ cP y (nI 0) (nI 9999)).fr0 (dw cI cZ a X Y ++ (ppw cI cZ a X Y ++ (kq cI cZ cP b I V P ++ cw cI b I V)))) (cwS 3 B.hts gX3_draft_X3_checkRange rfl rfl rfl (by decide +kernel) ⟨(Nat.le_of_ble_eq_true rfl), (Nat.le_of_ble_eq_true rfl)⟩) rfl hl.1 rfl (Nat.le_of_ble_eq_true rfl) dX3_draft_16 ⟨(Nat.le_of_ble_eq_true rfl), (Nat.le_of_ble_eq_true rfl)⟩ (fun E ce q9 H locs hx hP hS hce hcv hcl => ?_) (fun v u H locs hp hP hD hS => ?_)
    · exact q_xout B htb hP hS hce hcv hcl (Or.inl ⟨hx.1, by simp [kDraft, hx.2, hrg0]⟩) (Nat.le_of_ble_eq_true rfl) (Nat.le_of_ble_eq_true rfl)
    · obtain ⟨rfl, hrg1⟩ := hp
      have hP : va_P D vwCl (dw cI cZ a X Y ++ (ppw cI cZ a X Y ++ (kq cI cZ cP b I V P ++ cw cI b I V))) H := hP
      have hD : va_D A (dw cI cZ a X Y ++ (ppw cI cZ a X Y ++ (kq cI cZ cP b I V P ++ cw cI b I V))) := hD
      refine lv_aload B.hx B.hb dX3_draft_19 (lv_at hl 0 rfl) ?_
      refine q_get B hP (C := RX2) (ref := "PaperKeeper$Paper") (T := TX2) (N := 9) (ci := 2) hi2 rfl 6 rfl 6 (by decide) (by decide +kernel) rfl (v := .int (X 2)) rfl dX3_draft_21 ?_
      refine lv_if_eq (tgt := 37) B.hx B.hb dX3_draft_24 (by decide) (fun c1 => ?_) (fun c1 => ?_)
      · refine lv_aload B.hx B.hb dX3_draft_37 (lv_at hl 0 rfl) ?_
        refine lv_iconst (v := (nI 1)) B.hx B.hb dX3_draft_39 (by decide) ?_
        refine q_put B hP hD hS (C := RX2) (ref := "PaperKeeper$Paper") (T := TX2) (N := 9) (ci := 2) hi2 rfl tyX2 tyX2_ok nmX2 6 rfl 6 (by decide) (by decide +kernel) rfl rfl (by decide) (by decide) (Nat.le_of_ble_eq_true rfl) dX3_draft_40 (w' := dw cI cZ a (va_up X 2 (nI 1)) Y ++ (ppw cI cZ a (va_up X 2 (nI 1)) Y ++ (kq cI cZ cP b I V P ++ cw cI b I V))) rfl (fun H locs hP hD hS => ?_)
        refine lv_aload B.hx B.hb dX3_draft_43 (lv_at hl 0 rfl) ?_
        refine q_get B hP (C := RX2) (ref := "PaperKeeper$Paper") (T := TX2) (N := 9) (ci := 2) hi2 rfl 6 rfl 2 (by decide) (by decide +kernel) rfl (v := .ref (a 2)) rfl dX3_draft_45 ?_
        refine lv_iload_n B.hx B.hb dX3_draft_48 rfl (lv_at hl 3 rfl) ?_
        refine lv_iload_n B.hx B.hb dX3_draft_49 rfl (lv_at hl 4 rfl) ?_
        refine q_callV (As := [.int x, .int y]) (rest := []) B hP hD hS ((c1_begin l D cI cZ cP a (va_up X 2 (nI 1)) Y x y).fr (ppw cI cZ a (va_up X 2 (nI 1)) Y ++ (kq cI cZ cP b I V P ++ cw cI b I V))) (cwV 2 B.hts gX3_draft_X1_begin rfl rfl rfl (by decide +kernel) ⟨(Nat.le_of_ble_eq_true rfl), (Nat.le_of_ble_eq_true rfl)⟩) 0 1 rfl rfl rfl rfl hl.1 rfl (Nat.le_of_ble_eq_true rfl) dX3_draft_50 ⟨(Nat.le_of_ble_eq_true rfl), (Nat.le_of_ble_eq_true rfl)⟩ (fun E ce q9 H locs hx => False.elim hx) (fun v u H locs hp hP hD hS => ?_)
        obtain rfl := hp
        have hP : va_P D vwCl (dw cI cZ a (va_up (va_up (va_up (va_up (va_up (va_up (va_up X 2 (nI 1)) 5 x) 6 y) 7 ((nI 0) + nI 1)) 8 (nI 0)) 9 (nI 0)) 10 (nI 0)) (va_up (va_up (va_up Y 2 (zf (Y 2) 6)) 4 (zf (Y 4) 6)) 5 (zf (Y 5) 6)) ++ (ppw cI cZ a (va_up (va_up (va_up (va_up (va_up (va_up (va_up X 2 (nI 1)) 5 x) 6 y) 7 ((nI 0) + nI 1)) 8 (nI 0)) 9 (nI 0)) 10 (nI 0)) (va_up (va_up (va_up Y 2 (zf (Y 2) 6)) 4 (zf (Y 4) 6)) 5 (zf (Y 5) 6)) ++ (kq cI cZ cP b I V P ++ cw cI b I V))) H := hP
        have hD : va_D A (dw cI cZ a (va_up (va_up (va_up (va_up (va_up (va_up (va_up X 2 (nI 1)) 5 x) 6 y) 7 ((nI 0) + nI 1)) 8 (nI 0)) 9 (nI 0)) 10 (nI 0)) (va_up (va_up (va_up Y 2 (zf (Y 2) 6)) 4 (zf (Y 4) 6)) 5 (zf (Y 5) 6)) ++ (ppw cI cZ a (va_up (va_up (va_up (va_up (va_up (va_up (va_up X 2 (nI 1)) 5 x) 6 y) 7 ((nI 0) + nI 1)) 8 (nI 0)) 9 (nI 0)) 10 (nI 0)) (va_up (va_up (va_up Y 2 (zf (Y 2) 6)) 4 (zf (Y 4) 6)) 5 (zf (Y 5) 6)) ++ (kq cI cZ cP b I V P ++ cw cI b I V))) := hD
        exact q_vret B hr hP hD hS (u := ()) rfl ⟨rfl, by simp [kDraft, hrg0, hrg1, c1]⟩ (Nat.le_of_ble_eq_true rfl) (Nat.le_of_ble_eq_true rfl) dX3_draft_53
      · exact q_throw B hfl htb hP hS q_E_ISE (goodIn_app (goodIn_of [_, _] (by decide +kernel)) (goodIn_sub (fun w h => List.mem_cons_of_mem _ (List.mem_append_left _ (List.mem_append_left _ (List.mem_append_right _ h)))) q_allg_ISE)) (List.mem_of_getElem? (i := 3) rfl) hl.1 dX3_draft_27 dX3_draft_30 dX3_draft_31 dX3_draft_33 dX3_draft_36 ⟨(Nat.le_of_ble_eq_true rfl), (Nat.le_of_ble_eq_true rfl), (Nat.le_of_ble_eq_true rfl), (Nat.le_of_ble_eq_true rfl)⟩ (Or.inr ⟨rfl, by simp [kDraft, hrg0, hrg1, c1]⟩) (Nat.le_of_ble_eq_true rfl) (Nat.le_of_ble_eq_true rfl)
set_option maxHeartbeats 4000000 in
set_option maxRecDepth 100000 in
theorem c3_change (l : Launch) (hfl : l.stackTraces = false) (D : va_G) (cI cZ cP : ClassId) (b : Nat → Nat) (I : Nat → Int32) (V : Nat → Nat → Int32) (P : Nat → Option Nat) (a : Nat → Nat) (X : Nat → Int32) (Y : Nat → Nat → Int32) (j : Nat) (hj : j < 8) (hpj : P j = some (a 0)) (y : Int32) : q_C l yX3_change wsX3_change ({ frames := 7, cells := 3, slots := 18, locals := 104 }) D cI cZ cP [.ref (b 0), .int (nI j), .int y] (dw cI cZ a X Y ++ (ppw cI cZ a X Y ++ (kq cI cZ cP b I V P ++ cw cI b I V))) (S := Unit) (fun v _ => v = some (.int (X 7 + nI 1)) ∧ kChange y (X 2) (X 6) = 0) (fun _ => dw cI cZ a (va_up (va_up (va_up (va_up X 6 y) 7 ((X 7) + nI 1)) 9 (nI 0)) 10 (nI 0)) (va_up (va_up Y 2 (zf (Y 2) 6)) 5 (zf (Y 5) 6)) ++ (ppw cI cZ a (va_up (va_up (va_up (va_up X 6 y) 7 ((X 7) + nI 1)) 9 (nI 0)) 10 (nI 0)) (va_up (va_up Y 2 (zf (Y 2) 6)) 5 (zf (Y 5) 6)) ++ (kq cI cZ cP b I V P ++ cw cI b I V))) (fun E => (E = q_IAE ∧ kChange y (X 2) (X 6) = 2) ∨ (E = q_ISE ∧ kChange y (X 2) (X 6) = 3)) 3 18 := by
  refine q_of (cc := cX3_change) (maxL := 5) (ret := (some .int)) (by decide +kernel) rfl (Nat.le_of_ble_eq_true rfl) ?_
  intro p e s m below meth c A ls B hr htb hmn hP hD hS hl
  have hl : lv_has ls 5 [(0, .ref (b 0)), (1, .int (nI j)), (2, .int y)] := hl
  have hi1 : ∀ w ∈ u_ws RX1 TX1 12, w ∈ wsX3_change := by decide +kernel
  refine lv_aload_n B.hx B.hb dX3_change_0 rfl (lv_at hl 0 rfl) ?_
  refine lv_iload_n B.hx B.hb dX3_change_1 rfl (lv_at hl 1 rfl) ?_
  refine q_callV (As := [.int (nI j)]) (rest := []) B hP hD hS ((c3_paperAt l D cI cZ cP b I V P j (a 0) hj hpj).fl2 (dw cI cZ a X Y) (ppw cI cZ a X Y)) (cwV 1 B.hts gX3_change_X3_paperAt rfl rfl rfl (by decide +kernel) ⟨(Nat.le_of_ble_eq_true rfl), (Nat.le_of_ble_eq_true rfl)⟩) 10 3 rfl rfl rfl rfl hl.1 rfl (Nat.le_of_ble_eq_true rfl) dX3_change_2 ⟨(Nat.le_of_ble_eq_true rfl), (Nat.le_of_ble_eq_true rfl)⟩ (fun E ce q9 H locs hx => False.elim hx) (fun v u H locs hp hP hD hS => ?_)
  obtain rfl := hp
  have hP : va_P D vwCl (dw cI cZ a X Y ++ (ppw cI cZ a X Y ++ (kq cI cZ cP b I V P ++ cw cI b I V))) H := hP
  have hD : va_D A (dw cI cZ a X Y ++ (ppw cI cZ a X Y ++ (kq cI cZ cP b I V P ++ cw cI b I V))) := hD
  refine lv_astore_n (lv' := [(3, .ref (a 0)), (0, .ref (b 0)), (1, .int (nI j)), (2, .int y)]) B.hx B.hb dX3_change_5 rfl hl (by decide) rfl (fun ls hl => ?_)
  refine lv_iload_n B.hx B.hb dX3_change_6 rfl (lv_at hl 3 rfl) ?_
  refine lv_iconst (v := (nI 0)) B.hx B.hb dX3_change_7 (by decide) ?_
  refine lv_sipush (v := (nI 9999)) B.hx B.hb dX3_change_8 (by decide) ?_
  refine q_callS (As := [.int y, .int (nI 0), .int (nI 9999)]) (rest := []) B hP hD hS ((c3_checkRange l hfl D cI cZ cP y (nI 0) (nI 9999)).fr0 (dw cI cZ a X Y ++ (ppw cI cZ a X Y ++ (kq cI cZ cP b I V P ++ cw cI b I V)))) (cwS 3 B.hts gX3_change_X3_checkRange rfl rfl rfl (by decide +kernel) ⟨(Nat.le_of_ble_eq_true rfl), (Nat.le_of_ble_eq_true rfl)⟩) rfl hl.1 rfl (Nat.le_of_ble_eq_true rfl) dX3_change_11 ⟨(Nat.le_of_ble_eq_true rfl), (Nat.le_of_ble_eq_true rfl)⟩ (fun E ce q9 H locs hx hP hS hce hcv hcl => ?_) (fun v u H locs hp hP hD hS => ?_)
  · exact q_xout B htb hP hS hce hcv hcl (Or.inl ⟨hx.1, by simp [kChange, hx.2]⟩) (Nat.le_of_ble_eq_true rfl) (Nat.le_of_ble_eq_true rfl)
  · obtain ⟨rfl, hrg0⟩ := hp
    have hP : va_P D vwCl (dw cI cZ a X Y ++ (ppw cI cZ a X Y ++ (kq cI cZ cP b I V P ++ cw cI b I V))) H := hP
    have hD : va_D A (dw cI cZ a X Y ++ (ppw cI cZ a X Y ++ (kq cI cZ cP b I V P ++ cw cI b I V))) := hD
    refine lv_aload_n B.hx B.hb dX3_change_14 rfl (lv_at hl 0 rfl) ?_
    refine q_callS (As := [.ref (a 0)]) (rest := []) B hP hD hS ((c3_draftOf l hfl D cI cZ cP a X Y).fr2 (kq cI cZ cP b I V P ++ cw cI b I V)) (cwS 1 B.hts gX3_change_X3_draftOf rfl rfl rfl (by decide +kernel) ⟨(Nat.le_of_ble_eq_true rfl), (Nat.le_of_ble_eq_true rfl)⟩) rfl hl.1 rfl (Nat.le_of_ble_eq_true rfl) dX3_change_15 ⟨(Nat.le_of_ble_eq_true rfl), (Nat.le_of_ble_eq_true rfl)⟩ (fun E ce q9 H locs hx hP hS hce hcv hcl => ?_) (fun v u H locs hp hP hD hS => ?_)
    · exact q_xout B htb hP hS hce hcv hcl (Or.inr ⟨hx.1, by simp [kChange, hx.2, hrg0]⟩) (Nat.le_of_ble_eq_true rfl) (Nat.le_of_ble_eq_true rfl)
    · obtain ⟨rfl, hhd⟩ := hp
      have hP : va_P D vwCl (dw cI cZ a X Y ++ (ppw cI cZ a X Y ++ (kq cI cZ cP b I V P ++ cw cI b I V))) H := hP
      have hD : va_D A (dw cI cZ a X Y ++ (ppw cI cZ a X Y ++ (kq cI cZ cP b I V P ++ cw cI b I V))) := hD
      refine lv_astore (lv' := [(4, .ref (a 2)), (3, .ref (a 0)), (0, .ref (b 0)), (1, .int (nI j)), (2, .int y)]) B.hx B.hb dX3_change_18 hl (by decide) rfl (fun ls hl => ?_)
      refine lv_aload B.hx B.hb dX3_change_20 (lv_at hl 0 rfl) ?_
      refine q_get B hP (C := RX1) (ref := "PaperKeeper$Draft") (T := TX1) (N := 12) (ci := 1) hi1 rfl 0 rfl 6 (by decide) (by decide +kernel) rfl (v := .int (X 6)) rfl dX3_change_22 ?_
      refine lv_iload_n B.hx B.hb dX3_change_25 rfl (lv_at hl 4 rfl) ?_
      refine lv_icmp_ne (tgt := 39) B.hx B.hb dX3_change_26 (by decide) (fun c1 => ?_) (fun c1 => ?_)
      · refine lv_aload B.hx B.hb dX3_change_39 (lv_at hl 0 rfl) ?_
        refine lv_iload_n B.hx B.hb dX3_change_41 rfl (lv_at hl 4 rfl) ?_
        refine q_put B hP hD hS (C := RX1) (ref := "PaperKeeper$Draft") (T := TX1) (N := 12) (ci := 1) hi1 rfl tyX1 tyX1_ok nmX1 0 rfl 6 (by decide) (by decide +kernel) rfl rfl rfl (by rfl) (Nat.le_of_ble_eq_true rfl) dX3_change_42 (w' := dw cI cZ a (va_up X 6 y) Y ++ (ppw cI cZ a (va_up X 6 y) Y ++ (kq cI cZ cP b I V P ++ cw cI b I V))) rfl (fun H locs hP hD hS => ?_)
        refine lv_aload B.hx B.hb dX3_change_45 (lv_at hl 0 rfl) ?_
        refine q_callV (As := []) (rest := []) B hP hD hS ((c1_beginRound l D cI cZ cP a (va_up X 6 y) Y).fr (ppw cI cZ a (va_up X 6 y) Y ++ (kq cI cZ cP b I V P ++ cw cI b I V))) (cwV 0 B.hts gX3_change_X1_beginRound rfl rfl rfl (by decide +kernel) ⟨(Nat.le_of_ble_eq_true rfl), (Nat.le_of_ble_eq_true rfl)⟩) 0 1 rfl rfl rfl rfl hl.1 rfl (Nat.le_of_ble_eq_true rfl) dX3_change_47 ⟨(Nat.le_of_ble_eq_true rfl), (Nat.le_of_ble_eq_true rfl)⟩ (fun E ce q9 H locs hx => False.elim hx) (fun v u H locs hp hP hD hS => ?_)
        obtain rfl := hp
        have hP : va_P D vwCl (dw cI cZ a (va_up (va_up (va_up (va_up X 6 y) 7 ((X 7) + nI 1)) 9 (nI 0)) 10 (nI 0)) (va_up (va_up Y 2 (zf (Y 2) 6)) 5 (zf (Y 5) 6)) ++ (ppw cI cZ a (va_up (va_up (va_up (va_up X 6 y) 7 ((X 7) + nI 1)) 9 (nI 0)) 10 (nI 0)) (va_up (va_up Y 2 (zf (Y 2) 6)) 5 (zf (Y 5) 6)) ++ (kq cI cZ cP b I V P ++ cw cI b I V))) H := hP
        have hD : va_D A (dw cI cZ a (va_up (va_up (va_up (va_up X 6 y) 7 ((X 7) + nI 1)) 9 (nI 0)) 10 (nI 0)) (va_up (va_up Y 2 (zf (Y 2) 6)) 5 (zf (Y 5) 6)) ++ (ppw cI cZ a (va_up (va_up (va_up (va_up X 6 y) 7 ((X 7) + nI 1)) 9 (nI 0)) 10 (nI 0)) (va_up (va_up Y 2 (zf (Y 2) 6)) 5 (zf (Y 5) 6)) ++ (kq cI cZ cP b I V P ++ cw cI b I V))) := hD
        refine lv_aload B.hx B.hb dX3_change_50 (lv_at hl 0 rfl) ?_
        refine q_get B hP (C := RX1) (ref := "PaperKeeper$Draft") (T := TX1) (N := 12) (ci := 1) hi1 rfl 0 rfl 7 (by decide) (by decide +kernel) rfl (v := .int ((X 7) + nI 1)) rfl dX3_change_52 ?_
        exact q_iret B hr hP hD hS (u := ()) rfl ⟨rfl, by simp [kChange, hrg0, hhd, c1]⟩ (Nat.le_of_ble_eq_true rfl) (Nat.le_of_ble_eq_true rfl) dX3_change_55
      · exact q_throw B hfl htb hP hS q_E_ISE (goodIn_app (goodIn_of [_, _] (by decide +kernel)) (goodIn_sub (fun w h => List.mem_cons_of_mem _ (List.mem_append_left _ (List.mem_append_left _ (List.mem_append_right _ h)))) q_allg_ISE)) (List.mem_of_getElem? (i := 4) rfl) hl.1 dX3_change_29 dX3_change_32 dX3_change_33 dX3_change_35 dX3_change_38 ⟨(Nat.le_of_ble_eq_true rfl), (Nat.le_of_ble_eq_true rfl), (Nat.le_of_ble_eq_true rfl), (Nat.le_of_ble_eq_true rfl)⟩ (Or.inr ⟨rfl, by simp [kChange, hrg0, hhd, c1]⟩) (Nat.le_of_ble_eq_true rfl) (Nat.le_of_ble_eq_true rfl)
set_option maxHeartbeats 4000000 in
set_option maxRecDepth 100000 in
theorem c3_drop (l : Launch) (hfl : l.stackTraces = false) (D : va_G) (cI cZ cP : ClassId) (b : Nat → Nat) (I : Nat → Int32) (V : Nat → Nat → Int32) (P : Nat → Option Nat) (a : Nat → Nat) (X : Nat → Int32) (Y : Nat → Nat → Int32) (j : Nat) (hj : j < 8) (hpj : P j = some (a 0)) : q_C l yX3_drop wsX3_drop ({ frames := 7, cells := 1, slots := 6, locals := 102 }) D cI cZ cP [.ref (b 0), .int (nI j)] (dw cI cZ a X Y ++ (ppw cI cZ a X Y ++ (kq cI cZ cP b I V P ++ cw cI b I V))) (S := Unit) (fun v _ => v = some (.int (X 6)) ∧ kDrop (X 2) = 0) (fun _ => dw cI cZ a (va_up X 2 (nI 0)) Y ++ (ppw cI cZ a (va_up X 2 (nI 0)) Y ++ (kq cI cZ cP b I V P ++ cw cI b I V))) (fun E => E = q_ISE ∧ kDrop (X 2) = 2) 1 6 := by
  refine q_of (cc := cX3_drop) (maxL := 4) (ret := (some .int)) (by decide +kernel) rfl (Nat.le_of_ble_eq_true rfl) ?_
  intro p e s m below meth c A ls B hr htb hmn hP hD hS hl
  have hl : lv_has ls 4 [(0, .ref (b 0)), (1, .int (nI j))] := hl
  have hi1 : ∀ w ∈ u_ws RX1 TX1 12, w ∈ wsX3_drop := by decide +kernel
  have hi2 : ∀ w ∈ u_ws RX2 TX2 9, w ∈ wsX3_drop := by decide +kernel
  refine lv_aload_n B.hx B.hb dX3_drop_0 rfl (lv_at hl 0 rfl) ?_
  refine lv_iload_n B.hx B.hb dX3_drop_1 rfl (lv_at hl 1 rfl) ?_
  refine q_callV (As := [.int (nI j)]) (rest := []) B hP hD hS ((c3_paperAt l D cI cZ cP b I V P j (a 0) hj hpj).fl2 (dw cI cZ a X Y) (ppw cI cZ a X Y)) (cwV 1 B.hts gX3_drop_X3_paperAt rfl rfl rfl (by decide +kernel) ⟨(Nat.le_of_ble_eq_true rfl), (Nat.le_of_ble_eq_true rfl)⟩) 10 3 rfl rfl rfl rfl hl.1 rfl (Nat.le_of_ble_eq_true rfl) dX3_drop_2 ⟨(Nat.le_of_ble_eq_true rfl), (Nat.le_of_ble_eq_true rfl)⟩ (fun E ce q9 H locs hx => False.elim hx) (fun v u H locs hp hP hD hS => ?_)
  obtain rfl := hp
  have hP : va_P D vwCl (dw cI cZ a X Y ++ (ppw cI cZ a X Y ++ (kq cI cZ cP b I V P ++ cw cI b I V))) H := hP
  have hD : va_D A (dw cI cZ a X Y ++ (ppw cI cZ a X Y ++ (kq cI cZ cP b I V P ++ cw cI b I V))) := hD
  refine lv_astore_n (lv' := [(2, .ref (a 0)), (0, .ref (b 0)), (1, .int (nI j))]) B.hx B.hb dX3_drop_5 rfl hl (by decide) rfl (fun ls hl => ?_)
  refine lv_aload_n B.hx B.hb dX3_drop_6 rfl (lv_at hl 0 rfl) ?_
  refine q_callS (As := [.ref (a 0)]) (rest := []) B hP hD hS ((c3_draftOf l hfl D cI cZ cP a X Y).fr2 (kq cI cZ cP b I V P ++ cw cI b I V)) (cwS 1 B.hts gX3_drop_X3_draftOf rfl rfl rfl (by decide +kernel) ⟨(Nat.le_of_ble_eq_true rfl), (Nat.le_of_ble_eq_true rfl)⟩) rfl hl.1 rfl (Nat.le_of_ble_eq_true rfl) dX3_drop_7 ⟨(Nat.le_of_ble_eq_true rfl), (Nat.le_of_ble_eq_true rfl)⟩ (fun E ce q9 H locs hx hP hS hce hcv hcl => ?_) (fun v u H locs hp hP hD hS => ?_)
  · exact q_xout B htb hP hS hce hcv hcl ⟨hx.1, by simp [kDrop, hx.2]⟩ (Nat.le_of_ble_eq_true rfl) (Nat.le_of_ble_eq_true rfl)
  · obtain ⟨rfl, hhd⟩ := hp
    have hP : va_P D vwCl (dw cI cZ a X Y ++ (ppw cI cZ a X Y ++ (kq cI cZ cP b I V P ++ cw cI b I V))) H := hP
    have hD : va_D A (dw cI cZ a X Y ++ (ppw cI cZ a X Y ++ (kq cI cZ cP b I V P ++ cw cI b I V))) := hD
    refine lv_astore_n (lv' := [(3, .ref (a 2)), (2, .ref (a 0)), (0, .ref (b 0)), (1, .int (nI j))]) B.hx B.hb dX3_drop_10 rfl hl (by decide) rfl (fun ls hl => ?_)
    refine lv_aload_n B.hx B.hb dX3_drop_11 rfl (lv_at hl 1 rfl) ?_
    refine lv_iconst (v := (nI 0)) B.hx B.hb dX3_drop_12 (by decide) ?_
    refine q_put B hP hD hS (C := RX2) (ref := "PaperKeeper$Paper") (T := TX2) (N := 9) (ci := 2) hi2 rfl tyX2 tyX2_ok nmX2 6 rfl 6 (by decide) (by decide +kernel) rfl rfl (by decide) (by decide) (Nat.le_of_ble_eq_true rfl) dX3_drop_13 (w' := dw cI cZ a (va_up X 2 (nI 0)) Y ++ (ppw cI cZ a (va_up X 2 (nI 0)) Y ++ (kq cI cZ cP b I V P ++ cw cI b I V))) rfl (fun H locs hP hD hS => ?_)
    refine lv_aload_n B.hx B.hb dX3_drop_16 rfl (lv_at hl 0 rfl) ?_
    refine q_get B hP (C := RX1) (ref := "PaperKeeper$Draft") (T := TX1) (N := 12) (ci := 1) hi1 rfl 0 rfl 6 (by decide) (by decide +kernel) rfl (v := .int (X 6)) rfl dX3_drop_17 ?_
    exact q_iret B hr hP hD hS (u := ()) rfl ⟨rfl, by simp [kDrop, hhd]⟩ (Nat.le_of_ble_eq_true rfl) (Nat.le_of_ble_eq_true rfl) dX3_drop_20
set_option maxHeartbeats 4000000 in
set_option maxRecDepth 100000 in
theorem c3_reviewer (l : Launch) (hfl : l.stackTraces = false) (D : va_G) (cI cZ cP : ClassId) (b : Nat → Nat) (I : Nat → Int32) (V : Nat → Nat → Int32) (P : Nat → Option Nat) (a : Nat → Nat) (X : Nat → Int32) (Y : Nat → Nat → Int32) (j : Nat) (hj : j < 8) (hpj : P j = some (a 0)) (n k : Nat) (hW : wd X Y n k) (x : Int32) : q_C l yX3_reviewer wsX3_reviewer ({ frames := 8, cells := 3, slots := 18, locals := 124 }) D cI cZ cP [.ref (b 0), .int (nI j), .int x] (dw cI cZ a X Y ++ (ppw cI cZ a X Y ++ (kq cI cZ cP b I V P ++ cw cI b I V))) (S := Unit) (fun v _ => v = some (.int (nI (n + 1))) ∧ kReviewer x (X 2) (X 10) (X 5) (V 0 (ix x)) (pX (fun i => decide (Y 1 i = x)) n 0) n = 0) (fun _ => dw cI cZ a (va_up X 8 (nI ((n + 1)))) (va_up Y 1 (upd (Y 1) n x)) ++ (ppw cI cZ a (va_up X 8 (nI ((n + 1)))) (va_up Y 1 (upd (Y 1) n x)) ++ (kq cI cZ cP b I V P ++ cw cI b I V))) (fun E => (E = q_IAE ∧ kReviewer x (X 2) (X 10) (X 5) (V 0 (ix x)) (pX (fun i => decide (Y 1 i = x)) n 0) n = 2) ∨ (E = q_ISE ∧ kReviewer x (X 2) (X 10) (X 5) (V 0 (ix x)) (pX (fun i => decide (Y 1 i = x)) n 0) n = 3)) 3 18 := by
  refine q_of (cc := cX3_reviewer) (maxL := 5) (ret := (some .int)) (by decide +kernel) rfl (Nat.le_of_ble_eq_true rfl) ?_
  intro p e s m below meth c A ls B hr htb hmn hP hD hS hl
  have hl : lv_has ls 5 [(0, .ref (b 0)), (1, .int (nI j)), (2, .int x)] := hl
  have hi1 : ∀ w ∈ u_ws RX1 TX1 12, w ∈ wsX3_reviewer := by decide +kernel
  have hi3 : ∀ w ∈ u_ws RX3 TX3 8, w ∈ wsX3_reviewer := by decide +kernel
  obtain ⟨hn, hn4, hm, hm4, hv⟩ := id hW
  refine lv_aload_n B.hx B.hb dX3_reviewer_0 rfl (lv_at hl 0 rfl) ?_
  refine lv_iload_n B.hx B.hb dX3_reviewer_1 rfl (lv_at hl 1 rfl) ?_
  refine q_callV (As := [.int (nI j)]) (rest := []) B hP hD hS ((c3_paperAt l D cI cZ cP b I V P j (a 0) hj hpj).fl2 (dw cI cZ a X Y) (ppw cI cZ a X Y)) (cwV 1 B.hts gX3_reviewer_X3_paperAt rfl rfl rfl (by decide +kernel) ⟨(Nat.le_of_ble_eq_true rfl), (Nat.le_of_ble_eq_true rfl)⟩) 10 3 rfl rfl rfl rfl hl.1 rfl (Nat.le_of_ble_eq_true rfl) dX3_reviewer_2 ⟨(Nat.le_of_ble_eq_true rfl), (Nat.le_of_ble_eq_true rfl)⟩ (fun E ce q9 H locs hx => False.elim hx) (fun v u H locs hp hP hD hS => ?_)
  obtain rfl := hp
  have hP : va_P D vwCl (dw cI cZ a X Y ++ (ppw cI cZ a X Y ++ (kq cI cZ cP b I V P ++ cw cI b I V))) H := hP
  have hD : va_D A (dw cI cZ a X Y ++ (ppw cI cZ a X Y ++ (kq cI cZ cP b I V P ++ cw cI b I V))) := hD
  refine lv_astore_n (lv' := [(3, .ref (a 0)), (0, .ref (b 0)), (1, .int (nI j)), (2, .int x)]) B.hx B.hb dX3_reviewer_5 rfl hl (by decide) rfl (fun ls hl => ?_)
  refine lv_iload_n B.hx B.hb dX3_reviewer_6 rfl (lv_at hl 3 rfl) ?_
  refine q_callS (As := [.int x]) (rest := []) B hP hD hS ((c3_checkPerson l hfl D cI cZ cP x).fr0 (dw cI cZ a X Y ++ (ppw cI cZ a X Y ++ (kq cI cZ cP b I V P ++ cw cI b I V)))) (cwS 1 B.hts gX3_reviewer_X3_checkPerson rfl rfl rfl (by decide +kernel) ⟨(Nat.le_of_ble_eq_true rfl), (Nat.le_of_ble_eq_true rfl)⟩) rfl hl.1 rfl (Nat.le_of_ble_eq_true rfl) dX3_reviewer_7 ⟨(Nat.le_of_ble_eq_true rfl), (Nat.le_of_ble_eq_true rfl)⟩ (fun E ce q9 H locs hx hP hS hce hcv hcl => ?_) (fun v u H locs hp hP hD hS => ?_)
  · exact q_xout B htb hP hS hce hcv hcl (Or.inl ⟨hx.1, by simp [kReviewer, hx.2]⟩) (Nat.le_of_ble_eq_true rfl) (Nat.le_of_ble_eq_true rfl)
  · obtain ⟨rfl, hrg0⟩ := hp
    have hP : va_P D vwCl (dw cI cZ a X Y ++ (ppw cI cZ a X Y ++ (kq cI cZ cP b I V P ++ cw cI b I V))) H := hP
    have hD : va_D A (dw cI cZ a X Y ++ (ppw cI cZ a X Y ++ (kq cI cZ cP b I V P ++ cw cI b I V))) := hD
    obtain ⟨j2, hjj2, rfl⟩ := rg_j (by decide) hrg0
    have hixj2 : ix (nI j2) = j2 := ix_nI (by omega)
    have hnmj2 : ¬ nI j2 = -1 := nI_nm1 (by omega)
    refine lv_aload_n B.hx B.hb dX3_reviewer_10 rfl (lv_at hl 0 rfl) ?_
    refine q_callS (As := [.ref (a 0)]) (rest := []) B hP hD hS ((c3_draftOf l hfl D cI cZ cP a X Y).fr2 (kq cI cZ cP b I V P ++ cw cI b I V)) (cwS 1 B.hts gX3_reviewer_X3_draftOf rfl rfl rfl (by decide +kernel) ⟨(Nat.le_of_ble_eq_true rfl), (Nat.le_of_ble_eq_true rfl)⟩) rfl hl.1 rfl (Nat.le_of_ble_eq_true rfl) dX3_reviewer_11 ⟨(Nat.le_of_ble_eq_true rfl), (Nat.le_of_ble_eq_true rfl)⟩ (fun E ce q9 H locs hx hP hS hce hcv hcl => ?_) (fun v u H locs hp hP hD hS => ?_)
    · exact q_xout B htb hP hS hce hcv hcl (Or.inr ⟨hx.1, by simp [kReviewer, hx.2, hrg0, hixj2, hnmj2]⟩) (Nat.le_of_ble_eq_true rfl) (Nat.le_of_ble_eq_true rfl)
    · obtain ⟨rfl, hhd⟩ := hp
      have hP : va_P D vwCl (dw cI cZ a X Y ++ (ppw cI cZ a X Y ++ (kq cI cZ cP b I V P ++ cw cI b I V))) H := hP
      have hD : va_D A (dw cI cZ a X Y ++ (ppw cI cZ a X Y ++ (kq cI cZ cP b I V P ++ cw cI b I V))) := hD
      refine lv_astore (lv' := [(4, .ref (a 2)), (3, .ref (a 0)), (0, .ref (b 0)), (1, .int (nI j)), (2, .int (nI j2))]) B.hx B.hb dX3_reviewer_14 hl (by decide) rfl (fun ls hl => ?_)
      refine lv_aload B.hx B.hb dX3_reviewer_16 (lv_at hl 0 rfl) ?_
      refine q_get B hP (C := RX1) (ref := "PaperKeeper$Draft") (T := TX1) (N := 12) (ci := 1) hi1 rfl 0 rfl 10 (by decide) (by decide +kernel) rfl (v := .int (X 10)) rfl dX3_reviewer_18 ?_
      refine lv_if_eq (tgt := 34) B.hx B.hb dX3_reviewer_21 (by decide) (fun c1 => ?_) (fun c1 => ?_)
      · refine lv_iload_n B.hx B.hb dX3_reviewer_34 rfl (lv_at hl 4 rfl) ?_
        refine lv_aload B.hx B.hb dX3_reviewer_35 (lv_at hl 0 rfl) ?_
        refine q_get B hP (C := RX1) (ref := "PaperKeeper$Draft") (T := TX1) (N := 12) (ci := 1) hi1 rfl 0 rfl 5 (by decide) (by decide +kernel) rfl (v := .int (X 5)) rfl dX3_reviewer_37 ?_
        refine lv_icmp_eq (tgt := 52) B.hx B.hb dX3_reviewer_40 (by decide) (fun c2 => ?_) (fun c2 => ?_)
        · replace c2 := c2.symm
          exact q_throw B hfl htb hP hS q_E_ISE (goodIn_app (goodIn_of [_, _] (by decide +kernel)) (goodIn_sub (fun w h => List.mem_cons_of_mem _ (List.mem_append_left _ (List.mem_append_left _ (List.mem_append_right _ h)))) q_allg_ISE)) (List.mem_of_getElem? (i := 6) rfl) hl.1 dX3_reviewer_52 dX3_reviewer_55 dX3_reviewer_56 dX3_reviewer_58 dX3_reviewer_61 ⟨(Nat.le_of_ble_eq_true rfl), (Nat.le_of_ble_eq_true rfl), (Nat.le_of_ble_eq_true rfl), (Nat.le_of_ble_eq_true rfl)⟩ (Or.inr ⟨rfl, by simp [kReviewer, hrg0, hhd, c1, c2, hixj2, hnmj2]⟩) (Nat.le_of_ble_eq_true rfl) (Nat.le_of_ble_eq_true rfl)
        · refine lv_aload_n B.hx B.hb dX3_reviewer_43 rfl (lv_at hl 2 rfl) ?_
          refine q_get B hP (C := RX3) (ref := "PaperKeeper") (T := TX3) (N := 8) (ci := 3) hi3 rfl 10 rfl 0 (by decide) (by decide +kernel) rfl (v := .ref (b 1)) rfl dX3_reviewer_44 ?_
          refine lv_iload_n B.hx B.hb dX3_reviewer_47 rfl (lv_at hl 4 rfl) ?_
          refine q_zald B hP 11 rfl (j := j2) rfl (by omega) (by decide) dX3_reviewer_48 ?_
          refine lv_if_ne (tgt := 62) B.hx B.hb dX3_reviewer_49 (by decide) (fun c3 => ?_) (fun c3 => ?_)
          · refine lv_aload B.hx B.hb dX3_reviewer_62 (lv_at hl 0 rfl) ?_
            refine lv_iload_n B.hx B.hb dX3_reviewer_64 rfl (lv_at hl 4 rfl) ?_
            refine q_callV (As := [.int (nI j2)]) (rest := []) B hP hD hS ((c1_hasReviewer l D cI cZ cP a X Y (nI j2) n hn hn4).fr (ppw cI cZ a X Y ++ (kq cI cZ cP b I V P ++ cw cI b I V))) (cwV 1 B.hts gX3_reviewer_X1_hasReviewer rfl rfl rfl (by decide +kernel) ⟨(Nat.le_of_ble_eq_true rfl), (Nat.le_of_ble_eq_true rfl)⟩) 0 1 rfl rfl rfl rfl hl.1 rfl (Nat.le_of_ble_eq_true rfl) dX3_reviewer_65 ⟨(Nat.le_of_ble_eq_true rfl), (Nat.le_of_ble_eq_true rfl)⟩ (fun E ce q9 H locs hx => False.elim hx) (fun v u H locs hp hP hD hS => ?_)
            replace hp := q_if2 hp
            rcases hp with ⟨rfl, hnm⟩ | ⟨rfl, hnm⟩
            · have hP : va_P D vwCl (dw cI cZ a X Y ++ (ppw cI cZ a X Y ++ (kq cI cZ cP b I V P ++ cw cI b I V))) H := hP
              have hD : va_D A (dw cI cZ a X Y ++ (ppw cI cZ a X Y ++ (kq cI cZ cP b I V P ++ cw cI b I V))) := hD
              refine lv_if_ne (tgt := 80) B.hx B.hb dX3_reviewer_68 (by decide) (fun _ => ?_) (fun c4 => absurd c4 (by decide))
              exact q_throw B hfl htb hP hS q_E_ISE (goodIn_app (goodIn_of [_, _] (by decide +kernel)) (goodIn_sub (fun w h => List.mem_cons_of_mem _ (List.mem_append_left _ (List.mem_append_left _ (List.mem_append_right _ h)))) q_allg_ISE)) (List.mem_of_getElem? (i := 7) rfl) hl.1 dX3_reviewer_80 dX3_reviewer_83 dX3_reviewer_84 dX3_reviewer_86 dX3_reviewer_89 ⟨(Nat.le_of_ble_eq_true rfl), (Nat.le_of_ble_eq_true rfl), (Nat.le_of_ble_eq_true rfl), (Nat.le_of_ble_eq_true rfl)⟩ (Or.inr ⟨rfl, by simp [kReviewer, hrg0, hhd, c1, c2, c3, hnm, hixj2, hnmj2]⟩) (Nat.le_of_ble_eq_true rfl) (Nat.le_of_ble_eq_true rfl)
            · have hP : va_P D vwCl (dw cI cZ a X Y ++ (ppw cI cZ a X Y ++ (kq cI cZ cP b I V P ++ cw cI b I V))) H := hP
              have hD : va_D A (dw cI cZ a X Y ++ (ppw cI cZ a X Y ++ (kq cI cZ cP b I V P ++ cw cI b I V))) := hD
              refine lv_if_ne (tgt := 80) B.hx B.hb dX3_reviewer_68 (by decide) (fun c5 => absurd c5 (by decide)) (fun _ => ?_)
              refine lv_aload B.hx B.hb dX3_reviewer_71 (lv_at hl 0 rfl) ?_
              refine q_get B hP (C := RX1) (ref := "PaperKeeper$Draft") (T := TX1) (N := 12) (ci := 1) hi1 rfl 0 rfl 8 (by decide) (by decide +kernel) rfl (v := .int (X 8)) rfl dX3_reviewer_73 ?_
              refine q_top (v2 := .int (nI n)) (congrArg Value.int hn) ?_
              refine lv_iconst (v := (nI 4)) B.hx B.hb dX3_reviewer_76 (by decide) ?_
              refine lv_icmp_lt (tgt := 90) B.hx B.hb dX3_reviewer_77 (by decide) (fun c6 => ?_) (fun c6 => ?_)
              · replace c6 := (nI_ltI (by omega) (by omega)).mp c6
                refine lv_aload B.hx B.hb dX3_reviewer_90 (lv_at hl 0 rfl) ?_
                refine q_get B hP (C := RX1) (ref := "PaperKeeper$Draft") (T := TX1) (N := 12) (ci := 1) hi1 rfl 0 rfl 0 (by decide) (by decide +kernel) rfl (v := .ref (a 3)) rfl dX3_reviewer_92 ?_
                refine lv_aload B.hx B.hb dX3_reviewer_95 (lv_at hl 0 rfl) ?_
                refine q_get B hP (C := RX1) (ref := "PaperKeeper$Draft") (T := TX1) (N := 12) (ci := 1) hi1 rfl 0 rfl 8 (by decide) (by decide +kernel) rfl (v := .int (X 8)) rfl dX3_reviewer_97 ?_
                refine q_top (v2 := .int (nI n)) (congrArg Value.int hn) ?_
                refine lv_iload_n B.hx B.hb dX3_reviewer_100 rfl (lv_at hl 4 rfl) ?_
                refine q_iast B hP hD hS 1 rfl (j := n) rfl (by omega) (by decide) dX3_reviewer_101 (w' := dw cI cZ a X (va_up Y 1 (upd (Y 1) n (nI j2))) ++ (ppw cI cZ a X (va_up Y 1 (upd (Y 1) n (nI j2))) ++ (kq cI cZ cP b I V P ++ cw cI b I V))) rfl (fun H locs hP hD hS => ?_)
                refine lv_aload B.hx B.hb dX3_reviewer_102 (lv_at hl 0 rfl) ?_
                refine lv_dup B.hx B.hb dX3_reviewer_104 rfl ?_
                refine q_get B hP (C := RX1) (ref := "PaperKeeper$Draft") (T := TX1) (N := 12) (ci := 1) hi1 rfl 0 rfl 8 (by decide) (by decide +kernel) rfl (v := .int (X 8)) rfl dX3_reviewer_105 ?_
                refine q_top (v2 := .int (nI n)) (congrArg Value.int hn) ?_
                refine lv_iconst (v := (nI 1)) B.hx B.hb dX3_reviewer_108 (by decide) ?_
                refine lv_iadd B.hx B.hb dX3_reviewer_109 ?_
                refine q_top (v2 := .int (nI ((n + 1)))) (congrArg Value.int (nI_add _ _)) ?_
                refine q_put B hP hD hS (C := RX1) (ref := "PaperKeeper$Draft") (T := TX1) (N := 12) (ci := 1) hi1 rfl tyX1 tyX1_ok nmX1 0 rfl 8 (by decide) (by decide +kernel) rfl rfl rfl (by rfl) (Nat.le_of_ble_eq_true rfl) dX3_reviewer_110 (w' := dw cI cZ a (va_up X 8 (nI ((n + 1)))) (va_up Y 1 (upd (Y 1) n (nI j2))) ++ (ppw cI cZ a (va_up X 8 (nI ((n + 1)))) (va_up Y 1 (upd (Y 1) n (nI j2))) ++ (kq cI cZ cP b I V P ++ cw cI b I V))) rfl (fun H locs hP hD hS => ?_)
                refine lv_aload B.hx B.hb dX3_reviewer_113 (lv_at hl 0 rfl) ?_
                refine q_get B hP (C := RX1) (ref := "PaperKeeper$Draft") (T := TX1) (N := 12) (ci := 1) hi1 rfl 0 rfl 8 (by decide) (by decide +kernel) rfl (v := .int (nI ((n + 1)))) rfl dX3_reviewer_115 ?_
                exact q_iret B hr hP hD hS (u := ()) rfl ⟨rfl, by simp [kReviewer, hrg0, hhd, c1, c2, c3, hnm, c6, hixj2, hnmj2]⟩ (Nat.le_of_ble_eq_true rfl) (Nat.le_of_ble_eq_true rfl) dX3_reviewer_118
              · replace c6 := mt (nI_ltI (by omega) (by omega)).mpr c6
                exact q_throw B hfl htb hP hS q_E_ISE (goodIn_app (goodIn_of [_, _] (by decide +kernel)) (goodIn_sub (fun w h => List.mem_cons_of_mem _ (List.mem_append_left _ (List.mem_append_left _ (List.mem_append_right _ h)))) q_allg_ISE)) (List.mem_of_getElem? (i := 7) rfl) hl.1 dX3_reviewer_80 dX3_reviewer_83 dX3_reviewer_84 dX3_reviewer_86 dX3_reviewer_89 ⟨(Nat.le_of_ble_eq_true rfl), (Nat.le_of_ble_eq_true rfl), (Nat.le_of_ble_eq_true rfl), (Nat.le_of_ble_eq_true rfl)⟩ (Or.inr ⟨rfl, by simp [kReviewer, hrg0, hhd, c1, c2, c3, hnm, c6, hixj2, hnmj2]⟩) (Nat.le_of_ble_eq_true rfl) (Nat.le_of_ble_eq_true rfl)
          · exact q_throw B hfl htb hP hS q_E_ISE (goodIn_app (goodIn_of [_, _] (by decide +kernel)) (goodIn_sub (fun w h => List.mem_cons_of_mem _ (List.mem_append_left _ (List.mem_append_left _ (List.mem_append_right _ h)))) q_allg_ISE)) (List.mem_of_getElem? (i := 6) rfl) hl.1 dX3_reviewer_52 dX3_reviewer_55 dX3_reviewer_56 dX3_reviewer_58 dX3_reviewer_61 ⟨(Nat.le_of_ble_eq_true rfl), (Nat.le_of_ble_eq_true rfl), (Nat.le_of_ble_eq_true rfl), (Nat.le_of_ble_eq_true rfl)⟩ (Or.inr ⟨rfl, by simp [kReviewer, hrg0, hhd, c1, c2, c3, hixj2, hnmj2]⟩) (Nat.le_of_ble_eq_true rfl) (Nat.le_of_ble_eq_true rfl)
      · exact q_throw B hfl htb hP hS q_E_ISE (goodIn_app (goodIn_of [_, _] (by decide +kernel)) (goodIn_sub (fun w h => List.mem_cons_of_mem _ (List.mem_append_left _ (List.mem_append_left _ (List.mem_append_right _ h)))) q_allg_ISE)) (List.mem_of_getElem? (i := 5) rfl) hl.1 dX3_reviewer_24 dX3_reviewer_27 dX3_reviewer_28 dX3_reviewer_30 dX3_reviewer_33 ⟨(Nat.le_of_ble_eq_true rfl), (Nat.le_of_ble_eq_true rfl), (Nat.le_of_ble_eq_true rfl), (Nat.le_of_ble_eq_true rfl)⟩ (Or.inr ⟨rfl, by simp [kReviewer, hrg0, hhd, c1, hixj2, hnmj2]⟩) (Nat.le_of_ble_eq_true rfl) (Nat.le_of_ble_eq_true rfl)
set_option maxHeartbeats 4000000 in
set_option maxRecDepth 100000 in
theorem c3_reader (l : Launch) (hfl : l.stackTraces = false) (D : va_G) (cI cZ cP : ClassId) (b : Nat → Nat) (I : Nat → Int32) (V : Nat → Nat → Int32) (P : Nat → Option Nat) (a : Nat → Nat) (X : Nat → Int32) (Y : Nat → Nat → Int32) (j : Nat) (hj : j < 8) (hpj : P j = some (a 0)) (x : Int32) : q_C l yX3_reader wsX3_reader ({ frames := 8, cells := 3, slots := 18, locals := 124 }) D cI cZ cP [.ref (b 0), .int (nI j), .int x] (dw cI cZ a X Y ++ (ppw cI cZ a X Y ++ (kq cI cZ cP b I V P ++ cw cI b I V))) (S := Unit) (fun v _ => v = some (.int (nI (pN (fun i => decide (¬ (upd (Y 4) (ix x) (nI 1)) i = 0)) 6))) ∧ kReader x (X 2) (Y 4 (ix x)) = 0) (fun _ => dw cI cZ a X (va_up Y 4 (upd (Y 4) (ix x) (nI 1))) ++ (ppw cI cZ a X (va_up Y 4 (upd (Y 4) (ix x) (nI 1))) ++ (kq cI cZ cP b I V P ++ cw cI b I V))) (fun E => (E = q_IAE ∧ kReader x (X 2) (Y 4 (ix x)) = 2) ∨ (E = q_ISE ∧ kReader x (X 2) (Y 4 (ix x)) = 3)) 3 18 := by
  refine q_of (cc := cX3_reader) (maxL := 5) (ret := (some .int)) (by decide +kernel) rfl (Nat.le_of_ble_eq_true rfl) ?_
  intro p e s m below meth c A ls B hr htb hmn hP hD hS hl
  have hl : lv_has ls 5 [(0, .ref (b 0)), (1, .int (nI j)), (2, .int x)] := hl
  have hi1 : ∀ w ∈ u_ws RX1 TX1 12, w ∈ wsX3_reader := by decide +kernel
  refine lv_aload_n B.hx B.hb dX3_reader_0 rfl (lv_at hl 0 rfl) ?_
  refine lv_iload_n B.hx B.hb dX3_reader_1 rfl (lv_at hl 1 rfl) ?_
  refine q_callV (As := [.int (nI j)]) (rest := []) B hP hD hS ((c3_paperAt l D cI cZ cP b I V P j (a 0) hj hpj).fl2 (dw cI cZ a X Y) (ppw cI cZ a X Y)) (cwV 1 B.hts gX3_reader_X3_paperAt rfl rfl rfl (by decide +kernel) ⟨(Nat.le_of_ble_eq_true rfl), (Nat.le_of_ble_eq_true rfl)⟩) 10 3 rfl rfl rfl rfl hl.1 rfl (Nat.le_of_ble_eq_true rfl) dX3_reader_2 ⟨(Nat.le_of_ble_eq_true rfl), (Nat.le_of_ble_eq_true rfl)⟩ (fun E ce q9 H locs hx => False.elim hx) (fun v u H locs hp hP hD hS => ?_)
  obtain rfl := hp
  have hP : va_P D vwCl (dw cI cZ a X Y ++ (ppw cI cZ a X Y ++ (kq cI cZ cP b I V P ++ cw cI b I V))) H := hP
  have hD : va_D A (dw cI cZ a X Y ++ (ppw cI cZ a X Y ++ (kq cI cZ cP b I V P ++ cw cI b I V))) := hD
  refine lv_astore_n (lv' := [(3, .ref (a 0)), (0, .ref (b 0)), (1, .int (nI j)), (2, .int x)]) B.hx B.hb dX3_reader_5 rfl hl (by decide) rfl (fun ls hl => ?_)
  refine lv_iload_n B.hx B.hb dX3_reader_6 rfl (lv_at hl 3 rfl) ?_
  refine q_callS (As := [.int x]) (rest := []) B hP hD hS ((c3_checkPerson l hfl D cI cZ cP x).fr0 (dw cI cZ a X Y ++ (ppw cI cZ a X Y ++ (kq cI cZ cP b I V P ++ cw cI b I V)))) (cwS 1 B.hts gX3_reader_X3_checkPerson rfl rfl rfl (by decide +kernel) ⟨(Nat.le_of_ble_eq_true rfl), (Nat.le_of_ble_eq_true rfl)⟩) rfl hl.1 rfl (Nat.le_of_ble_eq_true rfl) dX3_reader_7 ⟨(Nat.le_of_ble_eq_true rfl), (Nat.le_of_ble_eq_true rfl)⟩ (fun E ce q9 H locs hx hP hS hce hcv hcl => ?_) (fun v u H locs hp hP hD hS => ?_)
  · exact q_xout B htb hP hS hce hcv hcl (Or.inl ⟨hx.1, by simp [kReader, hx.2]⟩) (Nat.le_of_ble_eq_true rfl) (Nat.le_of_ble_eq_true rfl)
  · obtain ⟨rfl, hrg0⟩ := hp
    have hP : va_P D vwCl (dw cI cZ a X Y ++ (ppw cI cZ a X Y ++ (kq cI cZ cP b I V P ++ cw cI b I V))) H := hP
    have hD : va_D A (dw cI cZ a X Y ++ (ppw cI cZ a X Y ++ (kq cI cZ cP b I V P ++ cw cI b I V))) := hD
    obtain ⟨j2, hjj2, rfl⟩ := rg_j (by decide) hrg0
    have hixj2 : ix (nI j2) = j2 := ix_nI (by omega)
    have hnmj2 : ¬ nI j2 = -1 := nI_nm1 (by omega)
    refine lv_aload_n B.hx B.hb dX3_reader_10 rfl (lv_at hl 0 rfl) ?_
    refine q_callS (As := [.ref (a 0)]) (rest := []) B hP hD hS ((c3_draftOf l hfl D cI cZ cP a X Y).fr2 (kq cI cZ cP b I V P ++ cw cI b I V)) (cwS 1 B.hts gX3_reader_X3_draftOf rfl rfl rfl (by decide +kernel) ⟨(Nat.le_of_ble_eq_true rfl), (Nat.le_of_ble_eq_true rfl)⟩) rfl hl.1 rfl (Nat.le_of_ble_eq_true rfl) dX3_reader_11 ⟨(Nat.le_of_ble_eq_true rfl), (Nat.le_of_ble_eq_true rfl)⟩ (fun E ce q9 H locs hx hP hS hce hcv hcl => ?_) (fun v u H locs hp hP hD hS => ?_)
    · exact q_xout B htb hP hS hce hcv hcl (Or.inr ⟨hx.1, by simp [kReader, hx.2, hrg0, hixj2, hnmj2]⟩) (Nat.le_of_ble_eq_true rfl) (Nat.le_of_ble_eq_true rfl)
    · obtain ⟨rfl, hhd⟩ := hp
      have hP : va_P D vwCl (dw cI cZ a X Y ++ (ppw cI cZ a X Y ++ (kq cI cZ cP b I V P ++ cw cI b I V))) H := hP
      have hD : va_D A (dw cI cZ a X Y ++ (ppw cI cZ a X Y ++ (kq cI cZ cP b I V P ++ cw cI b I V))) := hD
      refine lv_astore (lv' := [(4, .ref (a 2)), (3, .ref (a 0)), (0, .ref (b 0)), (1, .int (nI j)), (2, .int (nI j2))]) B.hx B.hb dX3_reader_14 hl (by decide) rfl (fun ls hl => ?_)
      refine lv_aload B.hx B.hb dX3_reader_16 (lv_at hl 0 rfl) ?_
      refine q_get B hP (C := RX1) (ref := "PaperKeeper$Draft") (T := TX1) (N := 12) (ci := 1) hi1 rfl 0 rfl 3 (by decide) (by decide +kernel) rfl (v := .ref (a 6)) rfl dX3_reader_18 ?_
      refine lv_iload_n B.hx B.hb dX3_reader_21 rfl (lv_at hl 4 rfl) ?_
      refine q_zald B hP 4 rfl (j := j2) rfl (by omega) (by decide) dX3_reader_22 ?_
      refine lv_if_eq (tgt := 36) B.hx B.hb dX3_reader_23 (by decide) (fun c1 => ?_) (fun c1 => ?_)
      · refine lv_aload B.hx B.hb dX3_reader_36 (lv_at hl 0 rfl) ?_
        refine q_get B hP (C := RX1) (ref := "PaperKeeper$Draft") (T := TX1) (N := 12) (ci := 1) hi1 rfl 0 rfl 3 (by decide) (by decide +kernel) rfl (v := .ref (a 6)) rfl dX3_reader_38 ?_
        refine lv_iload_n B.hx B.hb dX3_reader_41 rfl (lv_at hl 4 rfl) ?_
        refine lv_iconst (v := (nI 1)) B.hx B.hb dX3_reader_42 (by decide) ?_
        refine q_zast B hP hD hS 4 rfl (j := j2) rfl (by omega) (by decide) (by decide) dX3_reader_43 (w' := dw cI cZ a X (va_up Y 4 (upd (Y 4) j2 (nI 1))) ++ (ppw cI cZ a X (va_up Y 4 (upd (Y 4) j2 (nI 1))) ++ (kq cI cZ cP b I V P ++ cw cI b I V))) rfl (fun H locs hP hD hS => ?_)
        refine lv_aload B.hx B.hb dX3_reader_44 (lv_at hl 0 rfl) ?_
        refine q_get B hP (C := RX1) (ref := "PaperKeeper$Draft") (T := TX1) (N := 12) (ci := 1) hi1 rfl 0 rfl 3 (by decide) (by decide +kernel) rfl (v := .ref (a 6)) rfl dX3_reader_46 ?_
        refine q_callS (As := [.ref (a 6)]) (rest := []) B hP hD hS (c3_countOf l D cI cZ cP (dw cI cZ a X (va_up Y 4 (upd (Y 4) j2 (nI 1))) ++ (ppw cI cZ a X (va_up Y 4 (upd (Y 4) j2 (nI 1))) ++ (kq cI cZ cP b I V P ++ cw cI b I V))) 4 (a 6) 6 (upd (Y 4) j2 (nI 1)) rfl (by decide)) (cwS 1 B.hts gX3_reader_X3_countOf rfl rfl rfl (by decide +kernel) ⟨(Nat.le_of_ble_eq_true rfl), (Nat.le_of_ble_eq_true rfl)⟩) rfl hl.1 rfl (Nat.le_of_ble_eq_true rfl) dX3_reader_49 ⟨(Nat.le_of_ble_eq_true rfl), (Nat.le_of_ble_eq_true rfl)⟩ (fun E ce q9 H locs hx => False.elim hx) (fun v u H locs hp hP hD hS => ?_)
        obtain rfl := hp
        have hP : va_P D vwCl (dw cI cZ a X (va_up Y 4 (upd (Y 4) j2 (nI 1))) ++ (ppw cI cZ a X (va_up Y 4 (upd (Y 4) j2 (nI 1))) ++ (kq cI cZ cP b I V P ++ cw cI b I V))) H := hP
        have hD : va_D A (dw cI cZ a X (va_up Y 4 (upd (Y 4) j2 (nI 1))) ++ (ppw cI cZ a X (va_up Y 4 (upd (Y 4) j2 (nI 1))) ++ (kq cI cZ cP b I V P ++ cw cI b I V))) := hD
        exact q_iret B hr hP hD hS (u := ()) (by simp only [hixj2]) ⟨by rw [hixj2], by simp [kReader, hrg0, hhd, c1, hixj2, hnmj2]⟩ (Nat.le_of_ble_eq_true rfl) (Nat.le_of_ble_eq_true rfl) dX3_reader_52
      · exact q_throw B hfl htb hP hS q_E_ISE (goodIn_app (goodIn_of [_, _] (by decide +kernel)) (goodIn_sub (fun w h => List.mem_cons_of_mem _ (List.mem_append_left _ (List.mem_append_left _ (List.mem_append_right _ h)))) q_allg_ISE)) (List.mem_of_getElem? (i := 8) rfl) hl.1 dX3_reader_26 dX3_reader_29 dX3_reader_30 dX3_reader_32 dX3_reader_35 ⟨(Nat.le_of_ble_eq_true rfl), (Nat.le_of_ble_eq_true rfl), (Nat.le_of_ble_eq_true rfl), (Nat.le_of_ble_eq_true rfl)⟩ (Or.inr ⟨rfl, by simp [kReader, hrg0, hhd, c1, hixj2, hnmj2]⟩) (Nat.le_of_ble_eq_true rfl) (Nat.le_of_ble_eq_true rfl)
set_option maxHeartbeats 4000000 in
set_option maxRecDepth 100000 in
theorem c3_review (l : Launch) (hfl : l.stackTraces = false) (D : va_G) (cI cZ cP : ClassId) (b : Nat → Nat) (I : Nat → Int32) (V : Nat → Nat → Int32) (P : Nat → Option Nat) (a : Nat → Nat) (X : Nat → Int32) (Y : Nat → Nat → Int32) (j : Nat) (hj : j < 8) (hpj : P j = some (a 0)) (n k : Nat) (hW : wd X Y n k) (x r : Int32) (hk : ¬ r = 0 → kReview x (X 2) (pX (fun i => decide (Y 1 i = x)) n 0) (Y 2 (ix x)) (X 0) (dNR Y n) = 0 → k < 4) : q_C l yX3_review wsX3_review ({ frames := 8, cells := 4, slots := 24, locals := 124 }) D cI cZ cP [.ref (b 0), .int (nI j), .int x, .int r] (dw cI cZ a X Y ++ (ppw cI cZ a X Y ++ (kq cI cZ cP b I V P ++ cw cI b I V))) (S := Unit) (fun v _ => v = some (.int (if r = 0 then -1 else nI k)) ∧ kReview x (X 2) (pX (fun i => decide (Y 1 i = x)) n 0) (Y 2 (ix x)) (X 0) (dNR Y n) = 0) (fun _ => dw cI cZ a (if r = 0 then X else va_up X 9 (nI (k + 1))) (if r = 0 then va_up Y 2 (upd (Y 2) (ix x) (nI 1)) else va_up (va_up Y 2 (upd (Y 2) (ix x) (nI 1))) 3 (upd (Y 3) k (nI 0))) ++ (ppw cI cZ a (if r = 0 then X else va_up X 9 (nI (k + 1))) (if r = 0 then va_up Y 2 (upd (Y 2) (ix x) (nI 1)) else va_up (va_up Y 2 (upd (Y 2) (ix x) (nI 1))) 3 (upd (Y 3) k (nI 0))) ++ (kq cI cZ cP b I V P ++ cw cI b I V))) (fun E => (E = q_IAE ∧ kReview x (X 2) (pX (fun i => decide (Y 1 i = x)) n 0) (Y 2 (ix x)) (X 0) (dNR Y n) = 2) ∨ (E = q_ISE ∧ kReview x (X 2) (pX (fun i => decide (Y 1 i = x)) n 0) (Y 2 (ix x)) (X 0) (dNR Y n) = 3)) 4 24 := by
  refine q_of (cc := cX3_review) (maxL := 6) (ret := (some .int)) (by decide +kernel) rfl (Nat.le_of_ble_eq_true rfl) ?_
  intro p e s m below meth c A ls B hr htb hmn hP hD hS hl
  have hl : lv_has ls 6 [(0, .ref (b 0)), (1, .int (nI j)), (2, .int x), (3, .int r)] := hl
  have hi1 : ∀ w ∈ u_ws RX1 TX1 12, w ∈ wsX3_review := by decide +kernel
  have hi2 : ∀ w ∈ u_ws RX2 TX2 9, w ∈ wsX3_review := by decide +kernel
  obtain ⟨hn, hn4, hm, hm4, hv⟩ := id hW
  refine lv_aload_n B.hx B.hb dX3_review_0 rfl (lv_at hl 0 rfl) ?_
  refine lv_iload_n B.hx B.hb dX3_review_1 rfl (lv_at hl 1 rfl) ?_
  refine q_callV (As := [.int (nI j)]) (rest := []) B hP hD hS ((c3_paperAt l D cI cZ cP b I V P j (a 0) hj hpj).fl2 (dw cI cZ a X Y) (ppw cI cZ a X Y)) (cwV 1 B.hts gX3_review_X3_paperAt rfl rfl rfl (by decide +kernel) ⟨(Nat.le_of_ble_eq_true rfl), (Nat.le_of_ble_eq_true rfl)⟩) 10 3 rfl rfl rfl rfl hl.1 rfl (Nat.le_of_ble_eq_true rfl) dX3_review_2 ⟨(Nat.le_of_ble_eq_true rfl), (Nat.le_of_ble_eq_true rfl)⟩ (fun E ce q9 H locs hx => False.elim hx) (fun v u H locs hp hP hD hS => ?_)
  obtain rfl := hp
  have hP : va_P D vwCl (dw cI cZ a X Y ++ (ppw cI cZ a X Y ++ (kq cI cZ cP b I V P ++ cw cI b I V))) H := hP
  have hD : va_D A (dw cI cZ a X Y ++ (ppw cI cZ a X Y ++ (kq cI cZ cP b I V P ++ cw cI b I V))) := hD
  refine lv_astore (lv' := [(4, .ref (a 0)), (0, .ref (b 0)), (1, .int (nI j)), (2, .int x), (3, .int r)]) B.hx B.hb dX3_review_5 hl (by decide) rfl (fun ls hl => ?_)
  refine lv_iload_n B.hx B.hb dX3_review_7 rfl (lv_at hl 3 rfl) ?_
  refine q_callS (As := [.int x]) (rest := []) B hP hD hS ((c3_checkPerson l hfl D cI cZ cP x).fr0 (dw cI cZ a X Y ++ (ppw cI cZ a X Y ++ (kq cI cZ cP b I V P ++ cw cI b I V)))) (cwS 1 B.hts gX3_review_X3_checkPerson rfl rfl rfl (by decide +kernel) ⟨(Nat.le_of_ble_eq_true rfl), (Nat.le_of_ble_eq_true rfl)⟩) rfl hl.1 rfl (Nat.le_of_ble_eq_true rfl) dX3_review_8 ⟨(Nat.le_of_ble_eq_true rfl), (Nat.le_of_ble_eq_true rfl)⟩ (fun E ce q9 H locs hx hP hS hce hcv hcl => ?_) (fun v u H locs hp hP hD hS => ?_)
  · exact q_xout B htb hP hS hce hcv hcl (Or.inl ⟨hx.1, by simp [kReview, hx.2]⟩) (Nat.le_of_ble_eq_true rfl) (Nat.le_of_ble_eq_true rfl)
  · obtain ⟨rfl, hrg0⟩ := hp
    have hP : va_P D vwCl (dw cI cZ a X Y ++ (ppw cI cZ a X Y ++ (kq cI cZ cP b I V P ++ cw cI b I V))) H := hP
    have hD : va_D A (dw cI cZ a X Y ++ (ppw cI cZ a X Y ++ (kq cI cZ cP b I V P ++ cw cI b I V))) := hD
    obtain ⟨j2, hjj2, rfl⟩ := rg_j (by decide) hrg0
    have hixj2 : ix (nI j2) = j2 := ix_nI (by omega)
    have hnmj2 : ¬ nI j2 = -1 := nI_nm1 (by omega)
    refine lv_aload B.hx B.hb dX3_review_11 (lv_at hl 0 rfl) ?_
    refine q_callS (As := [.ref (a 0)]) (rest := []) B hP hD hS ((c3_draftOf l hfl D cI cZ cP a X Y).fr2 (kq cI cZ cP b I V P ++ cw cI b I V)) (cwS 1 B.hts gX3_review_X3_draftOf rfl rfl rfl (by decide +kernel) ⟨(Nat.le_of_ble_eq_true rfl), (Nat.le_of_ble_eq_true rfl)⟩) rfl hl.1 rfl (Nat.le_of_ble_eq_true rfl) dX3_review_13 ⟨(Nat.le_of_ble_eq_true rfl), (Nat.le_of_ble_eq_true rfl)⟩ (fun E ce q9 H locs hx hP hS hce hcv hcl => ?_) (fun v u H locs hp hP hD hS => ?_)
    · exact q_xout B htb hP hS hce hcv hcl (Or.inr ⟨hx.1, by simp [kReview, hx.2, hrg0, hixj2, hnmj2]⟩) (Nat.le_of_ble_eq_true rfl) (Nat.le_of_ble_eq_true rfl)
    · obtain ⟨rfl, hhd⟩ := hp
      have hP : va_P D vwCl (dw cI cZ a X Y ++ (ppw cI cZ a X Y ++ (kq cI cZ cP b I V P ++ cw cI b I V))) H := hP
      have hD : va_D A (dw cI cZ a X Y ++ (ppw cI cZ a X Y ++ (kq cI cZ cP b I V P ++ cw cI b I V))) := hD
      refine lv_astore (lv' := [(5, .ref (a 2)), (4, .ref (a 0)), (0, .ref (b 0)), (1, .int (nI j)), (2, .int (nI j2)), (3, .int r)]) B.hx B.hb dX3_review_16 hl (by decide) rfl (fun ls hl => ?_)
      refine lv_aload B.hx B.hb dX3_review_18 (lv_at hl 0 rfl) ?_
      refine lv_iload_n B.hx B.hb dX3_review_20 rfl (lv_at hl 4 rfl) ?_
      refine q_callV (As := [.int (nI j2)]) (rest := []) B hP hD hS ((c1_hasReviewer l D cI cZ cP a X Y (nI j2) n hn hn4).fr (ppw cI cZ a X Y ++ (kq cI cZ cP b I V P ++ cw cI b I V))) (cwV 1 B.hts gX3_review_X1_hasReviewer rfl rfl rfl (by decide +kernel) ⟨(Nat.le_of_ble_eq_true rfl), (Nat.le_of_ble_eq_true rfl)⟩) 0 1 rfl rfl rfl rfl hl.1 rfl (Nat.le_of_ble_eq_true rfl) dX3_review_21 ⟨(Nat.le_of_ble_eq_true rfl), (Nat.le_of_ble_eq_true rfl)⟩ (fun E ce q9 H locs hx => False.elim hx) (fun v u H locs hp hP hD hS => ?_)
      replace hp := q_if2 hp
      rcases hp with ⟨rfl, hnm⟩ | ⟨rfl, hnm⟩
      · have hP : va_P D vwCl (dw cI cZ a X Y ++ (ppw cI cZ a X Y ++ (kq cI cZ cP b I V P ++ cw cI b I V))) H := hP
        have hD : va_D A (dw cI cZ a X Y ++ (ppw cI cZ a X Y ++ (kq cI cZ cP b I V P ++ cw cI b I V))) := hD
        refine lv_if_eq (tgt := 37) B.hx B.hb dX3_review_24 (by decide) (fun c1 => absurd c1 (by decide)) (fun _ => ?_)
        refine lv_aload B.hx B.hb dX3_review_27 (lv_at hl 0 rfl) ?_
        refine q_get B hP (C := RX1) (ref := "PaperKeeper$Draft") (T := TX1) (N := 12) (ci := 1) hi1 rfl 0 rfl 1 (by decide) (by decide +kernel) rfl (v := .ref (a 4)) rfl dX3_review_29 ?_
        refine lv_iload_n B.hx B.hb dX3_review_32 rfl (lv_at hl 4 rfl) ?_
        refine q_zald B hP 2 rfl (j := j2) rfl (by omega) (by decide) dX3_review_33 ?_
        refine lv_if_eq (tgt := 47) B.hx B.hb dX3_review_34 (by decide) (fun c2 => ?_) (fun c2 => ?_)
        · refine lv_aload B.hx B.hb dX3_review_47 (lv_at hl 1 rfl) ?_
          refine q_get B hP (C := RX2) (ref := "PaperKeeper$Paper") (T := TX2) (N := 9) (ci := 2) hi2 rfl 6 rfl 0 (by decide) (by decide +kernel) rfl (v := .int (X 0)) rfl dX3_review_49 ?_
          refine lv_if_eq (tgt := 74) B.hx B.hb dX3_review_52 (by decide) (fun c3 => ?_) (fun c3 => ?_)
          · refine lv_aload B.hx B.hb dX3_review_74 (lv_at hl 0 rfl) ?_
            refine q_get B hP (C := RX1) (ref := "PaperKeeper$Draft") (T := TX1) (N := 12) (ci := 1) hi1 rfl 0 rfl 1 (by decide) (by decide +kernel) rfl (v := .ref (a 4)) rfl dX3_review_76 ?_
            refine lv_iload_n B.hx B.hb dX3_review_79 rfl (lv_at hl 4 rfl) ?_
            refine lv_iconst (v := (nI 1)) B.hx B.hb dX3_review_80 (by decide) ?_
            refine q_zast B hP hD hS 2 rfl (j := j2) rfl (by omega) (by decide) (by decide) dX3_review_81 (w' := dw cI cZ a X (va_up Y 2 (upd (Y 2) j2 (nI 1))) ++ (ppw cI cZ a X (va_up Y 2 (upd (Y 2) j2 (nI 1))) ++ (kq cI cZ cP b I V P ++ cw cI b I V))) rfl (fun H locs hP hD hS => ?_)
            refine lv_iload_n B.hx B.hb dX3_review_82 rfl (lv_at hl 5 rfl) ?_
            refine lv_if_eq (tgt := 94) B.hx B.hb dX3_review_83 (by decide) (fun c4 => ?_) (fun c4 => ?_)
            · refine lv_iconst (v := (-1)) B.hx B.hb dX3_review_94 (by decide) ?_
              exact q_iret B hr hP hD hS (u := ()) (by simp only [if_pos c4, hixj2]) ⟨by rw [if_pos c4], by simp [kReview, hrg0, hhd, hnm, c2, c3, c4, hixj2, hnmj2]⟩ (Nat.le_of_ble_eq_true rfl) (Nat.le_of_ble_eq_true rfl) dX3_review_95
            · refine lv_aload B.hx B.hb dX3_review_86 (lv_at hl 0 rfl) ?_
              refine q_callV (As := []) (rest := []) B hP hD hS ((c1_addRemark l D cI cZ cP a X (va_up Y 2 (upd (Y 2) j2 (nI 1))) k hm (hk c4 (by simp [kReview, hrg0, hhd, hnm, c2, c3, c4, hixj2, hnmj2]))).fr (ppw cI cZ a X (va_up Y 2 (upd (Y 2) j2 (nI 1))) ++ (kq cI cZ cP b I V P ++ cw cI b I V))) (cwV 0 B.hts gX3_review_X1_addRemark rfl rfl rfl (by decide +kernel) ⟨(Nat.le_of_ble_eq_true rfl), (Nat.le_of_ble_eq_true rfl)⟩) 0 1 rfl rfl rfl rfl hl.1 rfl (Nat.le_of_ble_eq_true rfl) dX3_review_88 ⟨(Nat.le_of_ble_eq_true rfl), (Nat.le_of_ble_eq_true rfl)⟩ (fun E ce q9 H locs hx => False.elim hx) (fun v u H locs hp hP hD hS => ?_)
              obtain rfl := hp
              have hP : va_P D vwCl (dw cI cZ a (va_up X 9 (nI ((k + 1)))) (va_up (va_up Y 2 (upd (Y 2) j2 (nI 1))) 3 (upd (Y 3) k (nI 0))) ++ (ppw cI cZ a (va_up X 9 (nI ((k + 1)))) (va_up (va_up Y 2 (upd (Y 2) j2 (nI 1))) 3 (upd (Y 3) k (nI 0))) ++ (kq cI cZ cP b I V P ++ cw cI b I V))) H := hP
              have hD : va_D A (dw cI cZ a (va_up X 9 (nI ((k + 1)))) (va_up (va_up Y 2 (upd (Y 2) j2 (nI 1))) 3 (upd (Y 3) k (nI 0))) ++ (ppw cI cZ a (va_up X 9 (nI ((k + 1)))) (va_up (va_up Y 2 (upd (Y 2) j2 (nI 1))) 3 (upd (Y 3) k (nI 0))) ++ (kq cI cZ cP b I V P ++ cw cI b I V))) := hD
              refine lv_goto (tgt := 95) B.hx B.hb dX3_review_91 (by decide) ?_
              exact q_iret B hr hP hD hS (u := ()) (by simp only [if_neg c4, hixj2]) ⟨by rw [if_neg c4], by simp [kReview, hrg0, hhd, hnm, c2, c3, c4, hixj2, hnmj2]⟩ (Nat.le_of_ble_eq_true rfl) (Nat.le_of_ble_eq_true rfl) dX3_review_95
          · refine lv_aload B.hx B.hb dX3_review_55 (lv_at hl 0 rfl) ?_
            refine q_callV (As := []) (rest := []) B hP hD hS ((c1_nextReviewer l D cI cZ cP a X Y n k hW).fr (ppw cI cZ a X Y ++ (kq cI cZ cP b I V P ++ cw cI b I V))) (cwV 0 B.hts gX3_review_X1_nextReviewer rfl rfl rfl (by decide +kernel) ⟨(Nat.le_of_ble_eq_true rfl), (Nat.le_of_ble_eq_true rfl)⟩) 0 1 rfl rfl rfl rfl hl.1 rfl (Nat.le_of_ble_eq_true rfl) dX3_review_57 ⟨(Nat.le_of_ble_eq_true rfl), (Nat.le_of_ble_eq_true rfl)⟩ (fun E ce q9 H locs hx => False.elim hx) (fun v u H locs hp hP hD hS => ?_)
            obtain rfl := hp
            have hP : va_P D vwCl (dw cI cZ a X Y ++ (ppw cI cZ a X Y ++ (kq cI cZ cP b I V P ++ cw cI b I V))) H := hP
            have hD : va_D A (dw cI cZ a X Y ++ (ppw cI cZ a X Y ++ (kq cI cZ cP b I V P ++ cw cI b I V))) := hD
            refine lv_iload_n B.hx B.hb dX3_review_60 rfl (lv_at hl 4 rfl) ?_
            refine lv_icmp_eq (tgt := 74) B.hx B.hb dX3_review_61 (by decide) (fun c5 => ?_) (fun c5 => ?_)
            · refine lv_aload B.hx B.hb dX3_review_74 (lv_at hl 0 rfl) ?_
              refine q_get B hP (C := RX1) (ref := "PaperKeeper$Draft") (T := TX1) (N := 12) (ci := 1) hi1 rfl 0 rfl 1 (by decide) (by decide +kernel) rfl (v := .ref (a 4)) rfl dX3_review_76 ?_
              refine lv_iload_n B.hx B.hb dX3_review_79 rfl (lv_at hl 4 rfl) ?_
              refine lv_iconst (v := (nI 1)) B.hx B.hb dX3_review_80 (by decide) ?_
              refine q_zast B hP hD hS 2 rfl (j := j2) rfl (by omega) (by decide) (by decide) dX3_review_81 (w' := dw cI cZ a X (va_up Y 2 (upd (Y 2) j2 (nI 1))) ++ (ppw cI cZ a X (va_up Y 2 (upd (Y 2) j2 (nI 1))) ++ (kq cI cZ cP b I V P ++ cw cI b I V))) rfl (fun H locs hP hD hS => ?_)
              refine lv_iload_n B.hx B.hb dX3_review_82 rfl (lv_at hl 5 rfl) ?_
              refine lv_if_eq (tgt := 94) B.hx B.hb dX3_review_83 (by decide) (fun c6 => ?_) (fun c6 => ?_)
              · refine lv_iconst (v := (-1)) B.hx B.hb dX3_review_94 (by decide) ?_
                exact q_iret B hr hP hD hS (u := ()) (by simp only [if_pos c6, hixj2]) ⟨by rw [if_pos c6], by simp [kReview, hrg0, hhd, hnm, c2, c3, c5, c6, hixj2, hnmj2]⟩ (Nat.le_of_ble_eq_true rfl) (Nat.le_of_ble_eq_true rfl) dX3_review_95
              · refine lv_aload B.hx B.hb dX3_review_86 (lv_at hl 0 rfl) ?_
                refine q_callV (As := []) (rest := []) B hP hD hS ((c1_addRemark l D cI cZ cP a X (va_up Y 2 (upd (Y 2) j2 (nI 1))) k hm (hk c6 (by simp [kReview, hrg0, hhd, hnm, c2, c3, c5, c6, hixj2, hnmj2]))).fr (ppw cI cZ a X (va_up Y 2 (upd (Y 2) j2 (nI 1))) ++ (kq cI cZ cP b I V P ++ cw cI b I V))) (cwV 0 B.hts gX3_review_X1_addRemark rfl rfl rfl (by decide +kernel) ⟨(Nat.le_of_ble_eq_true rfl), (Nat.le_of_ble_eq_true rfl)⟩) 0 1 rfl rfl rfl rfl hl.1 rfl (Nat.le_of_ble_eq_true rfl) dX3_review_88 ⟨(Nat.le_of_ble_eq_true rfl), (Nat.le_of_ble_eq_true rfl)⟩ (fun E ce q9 H locs hx => False.elim hx) (fun v u H locs hp hP hD hS => ?_)
                obtain rfl := hp
                have hP : va_P D vwCl (dw cI cZ a (va_up X 9 (nI ((k + 1)))) (va_up (va_up Y 2 (upd (Y 2) j2 (nI 1))) 3 (upd (Y 3) k (nI 0))) ++ (ppw cI cZ a (va_up X 9 (nI ((k + 1)))) (va_up (va_up Y 2 (upd (Y 2) j2 (nI 1))) 3 (upd (Y 3) k (nI 0))) ++ (kq cI cZ cP b I V P ++ cw cI b I V))) H := hP
                have hD : va_D A (dw cI cZ a (va_up X 9 (nI ((k + 1)))) (va_up (va_up Y 2 (upd (Y 2) j2 (nI 1))) 3 (upd (Y 3) k (nI 0))) ++ (ppw cI cZ a (va_up X 9 (nI ((k + 1)))) (va_up (va_up Y 2 (upd (Y 2) j2 (nI 1))) 3 (upd (Y 3) k (nI 0))) ++ (kq cI cZ cP b I V P ++ cw cI b I V))) := hD
                refine lv_goto (tgt := 95) B.hx B.hb dX3_review_91 (by decide) ?_
                exact q_iret B hr hP hD hS (u := ()) (by simp only [if_neg c6, hixj2]) ⟨by rw [if_neg c6], by simp [kReview, hrg0, hhd, hnm, c2, c3, c5, c6, hixj2, hnmj2]⟩ (Nat.le_of_ble_eq_true rfl) (Nat.le_of_ble_eq_true rfl) dX3_review_95
            · exact q_throw B hfl htb hP hS q_E_ISE (goodIn_app (goodIn_of [_, _] (by decide +kernel)) (goodIn_sub (fun w h => List.mem_cons_of_mem _ (List.mem_append_left _ (List.mem_append_left _ (List.mem_append_right _ h)))) q_allg_ISE)) (List.mem_of_getElem? (i := 10) rfl) hl.1 dX3_review_64 dX3_review_67 dX3_review_68 dX3_review_70 dX3_review_73 ⟨(Nat.le_of_ble_eq_true rfl), (Nat.le_of_ble_eq_true rfl), (Nat.le_of_ble_eq_true rfl), (Nat.le_of_ble_eq_true rfl)⟩ (Or.inr ⟨rfl, by simp [kReview, hrg0, hhd, hnm, c2, c3, c5, hixj2, hnmj2]⟩) (Nat.le_of_ble_eq_true rfl) (Nat.le_of_ble_eq_true rfl)
        · exact q_throw B hfl htb hP hS q_E_ISE (goodIn_app (goodIn_of [_, _] (by decide +kernel)) (goodIn_sub (fun w h => List.mem_cons_of_mem _ (List.mem_append_left _ (List.mem_append_left _ (List.mem_append_right _ h)))) q_allg_ISE)) (List.mem_of_getElem? (i := 9) rfl) hl.1 dX3_review_37 dX3_review_40 dX3_review_41 dX3_review_43 dX3_review_46 ⟨(Nat.le_of_ble_eq_true rfl), (Nat.le_of_ble_eq_true rfl), (Nat.le_of_ble_eq_true rfl), (Nat.le_of_ble_eq_true rfl)⟩ (Or.inr ⟨rfl, by simp [kReview, hrg0, hhd, hnm, c2, hixj2, hnmj2]⟩) (Nat.le_of_ble_eq_true rfl) (Nat.le_of_ble_eq_true rfl)
      · have hP : va_P D vwCl (dw cI cZ a X Y ++ (ppw cI cZ a X Y ++ (kq cI cZ cP b I V P ++ cw cI b I V))) H := hP
        have hD : va_D A (dw cI cZ a X Y ++ (ppw cI cZ a X Y ++ (kq cI cZ cP b I V P ++ cw cI b I V))) := hD
        refine lv_if_eq (tgt := 37) B.hx B.hb dX3_review_24 (by decide) (fun _ => ?_) (fun c7 => absurd c7 (by decide))
        exact q_throw B hfl htb hP hS q_E_ISE (goodIn_app (goodIn_of [_, _] (by decide +kernel)) (goodIn_sub (fun w h => List.mem_cons_of_mem _ (List.mem_append_left _ (List.mem_append_left _ (List.mem_append_right _ h)))) q_allg_ISE)) (List.mem_of_getElem? (i := 9) rfl) hl.1 dX3_review_37 dX3_review_40 dX3_review_41 dX3_review_43 dX3_review_46 ⟨(Nat.le_of_ble_eq_true rfl), (Nat.le_of_ble_eq_true rfl), (Nat.le_of_ble_eq_true rfl), (Nat.le_of_ble_eq_true rfl)⟩ (Or.inr ⟨rfl, by simp [kReview, hrg0, hhd, hnm, hixj2, hnmj2]⟩) (Nat.le_of_ble_eq_true rfl) (Nat.le_of_ble_eq_true rfl)
set_option maxHeartbeats 4000000 in
set_option maxRecDepth 100000 in
theorem c3_answer (l : Launch) (hfl : l.stackTraces = false) (D : va_G) (cI cZ cP : ClassId) (b : Nat → Nat) (I : Nat → Int32) (V : Nat → Nat → Int32) (P : Nat → Option Nat) (a : Nat → Nat) (X : Nat → Int32) (Y : Nat → Nat → Int32) (j : Nat) (hj : j < 8) (hpj : P j = some (a 0)) (n k : Nat) (hW : wd X Y n k) (r : Int32) : q_C l yX3_answer wsX3_answer ({ frames := 7, cells := 3, slots := 18, locals := 102 }) D cI cZ cP [.ref (b 0), .int (nI j), .int r] (dw cI cZ a X Y ++ (ppw cI cZ a X Y ++ (kq cI cZ cP b I V P ++ cw cI b I V))) (S := Unit) (fun v _ => v = some (.int (nI (pN (fun i => decide ((upd (Y 3) (ix r) (nI 1)) i = 0)) k))) ∧ kAnswer r (X 2) k (Y 3 (ix r)) = 0) (fun _ => dw cI cZ a X (va_up Y 3 (upd (Y 3) (ix r) (nI 1))) ++ (ppw cI cZ a X (va_up Y 3 (upd (Y 3) (ix r) (nI 1))) ++ (kq cI cZ cP b I V P ++ cw cI b I V))) (fun E => (E = q_IOB ∧ kAnswer r (X 2) k (Y 3 (ix r)) = 1) ∨ (E = q_ISE ∧ kAnswer r (X 2) k (Y 3 (ix r)) = 2)) 3 18 := by
  refine q_of (cc := cX3_answer) (maxL := 5) (ret := (some .int)) (by decide +kernel) rfl (Nat.le_of_ble_eq_true rfl) ?_
  intro p e s m below meth c A ls B hr htb hmn hP hD hS hl
  have hl : lv_has ls 5 [(0, .ref (b 0)), (1, .int (nI j)), (2, .int r)] := hl
  have hi1 : ∀ w ∈ u_ws RX1 TX1 12, w ∈ wsX3_answer := by decide +kernel
  obtain ⟨hn, hn4, hm, hm4, hv⟩ := id hW
  refine lv_aload_n B.hx B.hb dX3_answer_0 rfl (lv_at hl 0 rfl) ?_
  refine lv_iload_n B.hx B.hb dX3_answer_1 rfl (lv_at hl 1 rfl) ?_
  refine q_callV (As := [.int (nI j)]) (rest := []) B hP hD hS ((c3_paperAt l D cI cZ cP b I V P j (a 0) hj hpj).fl2 (dw cI cZ a X Y) (ppw cI cZ a X Y)) (cwV 1 B.hts gX3_answer_X3_paperAt rfl rfl rfl (by decide +kernel) ⟨(Nat.le_of_ble_eq_true rfl), (Nat.le_of_ble_eq_true rfl)⟩) 10 3 rfl rfl rfl rfl hl.1 rfl (Nat.le_of_ble_eq_true rfl) dX3_answer_2 ⟨(Nat.le_of_ble_eq_true rfl), (Nat.le_of_ble_eq_true rfl)⟩ (fun E ce q9 H locs hx => False.elim hx) (fun v u H locs hp hP hD hS => ?_)
  obtain rfl := hp
  have hP : va_P D vwCl (dw cI cZ a X Y ++ (ppw cI cZ a X Y ++ (kq cI cZ cP b I V P ++ cw cI b I V))) H := hP
  have hD : va_D A (dw cI cZ a X Y ++ (ppw cI cZ a X Y ++ (kq cI cZ cP b I V P ++ cw cI b I V))) := hD
  refine lv_astore_n (lv' := [(3, .ref (a 0)), (0, .ref (b 0)), (1, .int (nI j)), (2, .int r)]) B.hx B.hb dX3_answer_5 rfl hl (by decide) rfl (fun ls hl => ?_)
  refine lv_aload_n B.hx B.hb dX3_answer_6 rfl (lv_at hl 0 rfl) ?_
  refine q_callS (As := [.ref (a 0)]) (rest := []) B hP hD hS ((c3_draftOf l hfl D cI cZ cP a X Y).fr2 (kq cI cZ cP b I V P ++ cw cI b I V)) (cwS 1 B.hts gX3_answer_X3_draftOf rfl rfl rfl (by decide +kernel) ⟨(Nat.le_of_ble_eq_true rfl), (Nat.le_of_ble_eq_true rfl)⟩) rfl hl.1 rfl (Nat.le_of_ble_eq_true rfl) dX3_answer_7 ⟨(Nat.le_of_ble_eq_true rfl), (Nat.le_of_ble_eq_true rfl)⟩ (fun E ce q9 H locs hx hP hS hce hcv hcl => ?_) (fun v u H locs hp hP hD hS => ?_)
  · exact q_xout B htb hP hS hce hcv hcl (Or.inr ⟨hx.1, by simp [kAnswer, inr, hx.2]⟩) (Nat.le_of_ble_eq_true rfl) (Nat.le_of_ble_eq_true rfl)
  · obtain ⟨rfl, hhd⟩ := hp
    have hP : va_P D vwCl (dw cI cZ a X Y ++ (ppw cI cZ a X Y ++ (kq cI cZ cP b I V P ++ cw cI b I V))) H := hP
    have hD : va_D A (dw cI cZ a X Y ++ (ppw cI cZ a X Y ++ (kq cI cZ cP b I V P ++ cw cI b I V))) := hD
    refine lv_astore (lv' := [(4, .ref (a 2)), (3, .ref (a 0)), (0, .ref (b 0)), (1, .int (nI j)), (2, .int r)]) B.hx B.hb dX3_answer_10 hl (by decide) rfl (fun ls hl => ?_)
    refine lv_iload_n B.hx B.hb dX3_answer_12 rfl (lv_at hl 4 rfl) ?_
    refine lv_if_lt (tgt := 25) B.hx B.hb dX3_answer_13 (by decide) (fun c1 => ?_) (fun c1 => ?_)
    · exact q_throw B hfl htb hP hS q_E_IOB (goodIn_app (goodIn_of [_, _] (by decide +kernel)) (goodIn_sub (fun w h => List.mem_cons_of_mem _ (List.mem_append_left _ (List.mem_append_right _ h))) q_allg_IOB)) (List.mem_of_getElem? (i := 11) rfl) hl.1 dX3_answer_25 dX3_answer_28 dX3_answer_29 dX3_answer_31 dX3_answer_34 ⟨(Nat.le_of_ble_eq_true rfl), (Nat.le_of_ble_eq_true rfl), (Nat.le_of_ble_eq_true rfl), (Nat.le_of_ble_eq_true rfl)⟩ (Or.inl ⟨rfl, by simp [kAnswer, inr, hhd, c1]⟩) (Nat.le_of_ble_eq_true rfl) (Nat.le_of_ble_eq_true rfl)
    · refine lv_iload_n B.hx B.hb dX3_answer_16 rfl (lv_at hl 4 rfl) ?_
      refine lv_aload B.hx B.hb dX3_answer_17 (lv_at hl 0 rfl) ?_
      refine q_get B hP (C := RX1) (ref := "PaperKeeper$Draft") (T := TX1) (N := 12) (ci := 1) hi1 rfl 0 rfl 9 (by decide) (by decide +kernel) rfl (v := .int (X 9)) rfl dX3_answer_19 ?_
      refine q_top (v2 := .int (nI k)) (congrArg Value.int hm) ?_
      refine lv_icmp_lt (tgt := 35) B.hx B.hb dX3_answer_22 (by decide) (fun c2 => ?_) (fun c2 => ?_)
      · obtain ⟨jr, hjjr, rfl⟩ := inr_of (n := k) (by omega) c1 c2
        have hixjr : ix (nI jr) = jr := ix_nI (by omega)
        refine lv_aload B.hx B.hb dX3_answer_35 (lv_at hl 0 rfl) ?_
        refine q_get B hP (C := RX1) (ref := "PaperKeeper$Draft") (T := TX1) (N := 12) (ci := 1) hi1 rfl 0 rfl 2 (by decide) (by decide +kernel) rfl (v := .ref (a 5)) rfl dX3_answer_37 ?_
        refine lv_iload_n B.hx B.hb dX3_answer_40 rfl (lv_at hl 4 rfl) ?_
        refine q_zald B hP 3 rfl (j := jr) rfl (by omega) (by decide) dX3_answer_41 ?_
        refine lv_if_eq (tgt := 55) B.hx B.hb dX3_answer_42 (by decide) (fun c3 => ?_) (fun c3 => ?_)
        · refine lv_aload B.hx B.hb dX3_answer_55 (lv_at hl 0 rfl) ?_
          refine q_get B hP (C := RX1) (ref := "PaperKeeper$Draft") (T := TX1) (N := 12) (ci := 1) hi1 rfl 0 rfl 2 (by decide) (by decide +kernel) rfl (v := .ref (a 5)) rfl dX3_answer_57 ?_
          refine lv_iload_n B.hx B.hb dX3_answer_60 rfl (lv_at hl 4 rfl) ?_
          refine lv_iconst (v := (nI 1)) B.hx B.hb dX3_answer_61 (by decide) ?_
          refine q_zast B hP hD hS 3 rfl (j := jr) rfl (by omega) (by decide) (by decide) dX3_answer_62 (w' := dw cI cZ a X (va_up Y 3 (upd (Y 3) jr (nI 1))) ++ (ppw cI cZ a X (va_up Y 3 (upd (Y 3) jr (nI 1))) ++ (kq cI cZ cP b I V P ++ cw cI b I V))) rfl (fun H locs hP hD hS => ?_)
          refine lv_aload B.hx B.hb dX3_answer_63 (lv_at hl 0 rfl) ?_
          refine q_callV (As := []) (rest := []) B hP hD hS ((c1_openRemarks l D cI cZ cP a X (va_up Y 3 (upd (Y 3) jr (nI 1))) k hm hm4).fr (ppw cI cZ a X (va_up Y 3 (upd (Y 3) jr (nI 1))) ++ (kq cI cZ cP b I V P ++ cw cI b I V))) (cwV 0 B.hts gX3_answer_X1_openRemarks rfl rfl rfl (by decide +kernel) ⟨(Nat.le_of_ble_eq_true rfl), (Nat.le_of_ble_eq_true rfl)⟩) 0 1 rfl rfl rfl rfl hl.1 rfl (Nat.le_of_ble_eq_true rfl) dX3_answer_65 ⟨(Nat.le_of_ble_eq_true rfl), (Nat.le_of_ble_eq_true rfl)⟩ (fun E ce q9 H locs hx => False.elim hx) (fun v u H locs hp hP hD hS => ?_)
          obtain rfl := hp
          have hP : va_P D vwCl (dw cI cZ a X (va_up Y 3 (upd (Y 3) jr (nI 1))) ++ (ppw cI cZ a X (va_up Y 3 (upd (Y 3) jr (nI 1))) ++ (kq cI cZ cP b I V P ++ cw cI b I V))) H := hP
          have hD : va_D A (dw cI cZ a X (va_up Y 3 (upd (Y 3) jr (nI 1))) ++ (ppw cI cZ a X (va_up Y 3 (upd (Y 3) jr (nI 1))) ++ (kq cI cZ cP b I V P ++ cw cI b I V))) := hD
          exact q_iret B hr hP hD hS (u := ()) (by simp only [hixjr]) ⟨by rw [hixjr]; rfl, by simp [kAnswer, inr, hhd, c1, c2, c3, hixjr]⟩ (Nat.le_of_ble_eq_true rfl) (Nat.le_of_ble_eq_true rfl) dX3_answer_68
        · exact q_throw B hfl htb hP hS q_E_ISE (goodIn_app (goodIn_of [_, _] (by decide +kernel)) (goodIn_sub (fun w h => List.mem_cons_of_mem _ (List.mem_append_right _ h)) q_allg_ISE)) (List.mem_of_getElem? (i := 12) rfl) hl.1 dX3_answer_45 dX3_answer_48 dX3_answer_49 dX3_answer_51 dX3_answer_54 ⟨(Nat.le_of_ble_eq_true rfl), (Nat.le_of_ble_eq_true rfl), (Nat.le_of_ble_eq_true rfl), (Nat.le_of_ble_eq_true rfl)⟩ (Or.inr ⟨rfl, by simp [kAnswer, inr, hhd, c1, c2, c3, hixjr]⟩) (Nat.le_of_ble_eq_true rfl) (Nat.le_of_ble_eq_true rfl)
      · exact q_throw B hfl htb hP hS q_E_IOB (goodIn_app (goodIn_of [_, _] (by decide +kernel)) (goodIn_sub (fun w h => List.mem_cons_of_mem _ (List.mem_append_left _ (List.mem_append_right _ h))) q_allg_IOB)) (List.mem_of_getElem? (i := 11) rfl) hl.1 dX3_answer_25 dX3_answer_28 dX3_answer_29 dX3_answer_31 dX3_answer_34 ⟨(Nat.le_of_ble_eq_true rfl), (Nat.le_of_ble_eq_true rfl), (Nat.le_of_ble_eq_true rfl), (Nat.le_of_ble_eq_true rfl)⟩ (Or.inl ⟨rfl, by simp [kAnswer, inr, hhd, c1, c2]⟩) (Nat.le_of_ble_eq_true rfl) (Nat.le_of_ble_eq_true rfl)
set_option maxHeartbeats 4000000 in
set_option maxRecDepth 100000 in
theorem c3_approve (l : Launch) (hfl : l.stackTraces = false) (D : va_G) (cI cZ cP : ClassId) (b : Nat → Nat) (I : Nat → Int32) (V : Nat → Nat → Int32) (P : Nat → Option Nat) (a : Nat → Nat) (X : Nat → Int32) (Y : Nat → Nat → Int32) (j : Nat) (hj : j < 8) (hpj : P j = some (a 0)) (n k : Nat) (hW : wd X Y n k) (hb : ∀ i, i < 6 → V 1 i = 0 ∨ V 1 i = 1) (x y : Int32) : q_C l yX3_approve wsX3_approve ({ frames := 8, cells := 4, slots := 24, locals := 124 }) D cI cZ cP [.ref (b 0), .int (nI j), .int x, .int y] (dw cI cZ a X Y ++ (ppw cI cZ a X Y ++ (kq cI cZ cP b I V P ++ cw cI b I V))) (S := Unit) (fun v _ => v = none ∧ kApprove x y (I 7) (X 2) (stp n (dNR Y n) (dOR Y k) (X 10) (dNC Y)) (X 5) (ca (V 1) (V 2) (ix x) 6) = 0) (fun _ => dw cI cZ a (va_up (va_up X 10 (nI 1)) 11 y) Y ++ (ppw cI cZ a (va_up (va_up X 10 (nI 1)) 11 y) Y ++ (kq cI cZ cP b I V P ++ cw cI b I V))) (fun E => (E = q_IAE ∧ kApprove x y (I 7) (X 2) (stp n (dNR Y n) (dOR Y k) (X 10) (dNC Y)) (X 5) (ca (V 1) (V 2) (ix x) 6) = 2) ∨ (E = q_ISE ∧ kApprove x y (I 7) (X 2) (stp n (dNR Y n) (dOR Y k) (X 10) (dNC Y)) (X 5) (ca (V 1) (V 2) (ix x) 6) = 3)) 4 24 := by
  refine q_of (cc := cX3_approve) (maxL := 6) (ret := none) (by decide +kernel) rfl (Nat.le_of_ble_eq_true rfl) ?_
  intro p e s m below meth c A ls B hr htb hmn hP hD hS hl
  have hl : lv_has ls 6 [(0, .ref (b 0)), (1, .int (nI j)), (2, .int x), (3, .int y)] := hl
  have hi1 : ∀ w ∈ u_ws RX1 TX1 12, w ∈ wsX3_approve := by decide +kernel
  have hi3 : ∀ w ∈ u_ws RX3 TX3 8, w ∈ wsX3_approve := by decide +kernel
  obtain ⟨hn, hn4, hm, hm4, hv⟩ := id hW
  refine lv_aload_n B.hx B.hb dX3_approve_0 rfl (lv_at hl 0 rfl) ?_
  refine lv_iload_n B.hx B.hb dX3_approve_1 rfl (lv_at hl 1 rfl) ?_
  refine q_callV (As := [.int (nI j)]) (rest := []) B hP hD hS ((c3_paperAt l D cI cZ cP b I V P j (a 0) hj hpj).fl2 (dw cI cZ a X Y) (ppw cI cZ a X Y)) (cwV 1 B.hts gX3_approve_X3_paperAt rfl rfl rfl (by decide +kernel) ⟨(Nat.le_of_ble_eq_true rfl), (Nat.le_of_ble_eq_true rfl)⟩) 10 3 rfl rfl rfl rfl hl.1 rfl (Nat.le_of_ble_eq_true rfl) dX3_approve_2 ⟨(Nat.le_of_ble_eq_true rfl), (Nat.le_of_ble_eq_true rfl)⟩ (fun E ce q9 H locs hx => False.elim hx) (fun v u H locs hp hP hD hS => ?_)
  obtain rfl := hp
  have hP : va_P D vwCl (dw cI cZ a X Y ++ (ppw cI cZ a X Y ++ (kq cI cZ cP b I V P ++ cw cI b I V))) H := hP
  have hD : va_D A (dw cI cZ a X Y ++ (ppw cI cZ a X Y ++ (kq cI cZ cP b I V P ++ cw cI b I V))) := hD
  refine lv_astore (lv' := [(4, .ref (a 0)), (0, .ref (b 0)), (1, .int (nI j)), (2, .int x), (3, .int y)]) B.hx B.hb dX3_approve_5 hl (by decide) rfl (fun ls hl => ?_)
  refine lv_iload_n B.hx B.hb dX3_approve_7 rfl (lv_at hl 3 rfl) ?_
  refine q_callS (As := [.int x]) (rest := []) B hP hD hS ((c3_checkPerson l hfl D cI cZ cP x).fr0 (dw cI cZ a X Y ++ (ppw cI cZ a X Y ++ (kq cI cZ cP b I V P ++ cw cI b I V)))) (cwS 1 B.hts gX3_approve_X3_checkPerson rfl rfl rfl (by decide +kernel) ⟨(Nat.le_of_ble_eq_true rfl), (Nat.le_of_ble_eq_true rfl)⟩) rfl hl.1 rfl (Nat.le_of_ble_eq_true rfl) dX3_approve_8 ⟨(Nat.le_of_ble_eq_true rfl), (Nat.le_of_ble_eq_true rfl)⟩ (fun E ce q9 H locs hx hP hS hce hcv hcl => ?_) (fun v u H locs hp hP hD hS => ?_)
  · exact q_xout B htb hP hS hce hcv hcl (Or.inl ⟨hx.1, by simp [kApprove, hx.2]⟩) (Nat.le_of_ble_eq_true rfl) (Nat.le_of_ble_eq_true rfl)
  · obtain ⟨rfl, hrg0⟩ := hp
    have hP : va_P D vwCl (dw cI cZ a X Y ++ (ppw cI cZ a X Y ++ (kq cI cZ cP b I V P ++ cw cI b I V))) H := hP
    have hD : va_D A (dw cI cZ a X Y ++ (ppw cI cZ a X Y ++ (kq cI cZ cP b I V P ++ cw cI b I V))) := hD
    obtain ⟨j2, hjj2, rfl⟩ := rg_j (by decide) hrg0
    have hixj2 : ix (nI j2) = j2 := ix_nI (by omega)
    have hnmj2 : ¬ nI j2 = -1 := nI_nm1 (by omega)
    refine lv_iload_n B.hx B.hb dX3_approve_11 rfl (lv_at hl 4 rfl) ?_
    refine lv_aload_n B.hx B.hb dX3_approve_12 rfl (lv_at hl 1 rfl) ?_
    refine q_get B hP (C := RX3) (ref := "PaperKeeper") (T := TX3) (N := 8) (ci := 3) hi3 rfl 10 rfl 7 (by decide) (by decide +kernel) rfl (v := .int (I 7)) rfl dX3_approve_13 ?_
    refine lv_iconst (v := (nI 1)) B.hx B.hb dX3_approve_16 (by decide) ?_
    refine lv_iadd B.hx B.hb dX3_approve_17 ?_
    refine lv_sipush (v := (nI 1000)) B.hx B.hb dX3_approve_18 (by decide) ?_
    refine q_callS (As := [.int y, .int ((I 7) + (nI 1)), .int (nI 1000)]) (rest := []) B hP hD hS ((c3_checkRange l hfl D cI cZ cP y ((I 7) + (nI 1)) (nI 1000)).fr0 (dw cI cZ a X Y ++ (ppw cI cZ a X Y ++ (kq cI cZ cP b I V P ++ cw cI b I V)))) (cwS 3 B.hts gX3_approve_X3_checkRange rfl rfl rfl (by decide +kernel) ⟨(Nat.le_of_ble_eq_true rfl), (Nat.le_of_ble_eq_true rfl)⟩) rfl hl.1 rfl (Nat.le_of_ble_eq_true rfl) dX3_approve_21 ⟨(Nat.le_of_ble_eq_true rfl), (Nat.le_of_ble_eq_true rfl)⟩ (fun E ce q9 H locs hx hP hS hce hcv hcl => ?_) (fun v u H locs hp hP hD hS => ?_)
    · exact q_xout B htb hP hS hce hcv hcl (Or.inl ⟨hx.1, by simp [kApprove, hx.2, hrg0, hixj2, hnmj2]⟩) (Nat.le_of_ble_eq_true rfl) (Nat.le_of_ble_eq_true rfl)
    · obtain ⟨rfl, hrg1⟩ := hp
      have hP : va_P D vwCl (dw cI cZ a X Y ++ (ppw cI cZ a X Y ++ (kq cI cZ cP b I V P ++ cw cI b I V))) H := hP
      have hD : va_D A (dw cI cZ a X Y ++ (ppw cI cZ a X Y ++ (kq cI cZ cP b I V P ++ cw cI b I V))) := hD
      refine lv_aload B.hx B.hb dX3_approve_24 (lv_at hl 0 rfl) ?_
      refine q_callS (As := [.ref (a 0)]) (rest := []) B hP hD hS ((c3_draftOf l hfl D cI cZ cP a X Y).fr2 (kq cI cZ cP b I V P ++ cw cI b I V)) (cwS 1 B.hts gX3_approve_X3_draftOf rfl rfl rfl (by decide +kernel) ⟨(Nat.le_of_ble_eq_true rfl), (Nat.le_of_ble_eq_true rfl)⟩) rfl hl.1 rfl (Nat.le_of_ble_eq_true rfl) dX3_approve_26 ⟨(Nat.le_of_ble_eq_true rfl), (Nat.le_of_ble_eq_true rfl)⟩ (fun E ce q9 H locs hx hP hS hce hcv hcl => ?_) (fun v u H locs hp hP hD hS => ?_)
      · exact q_xout B htb hP hS hce hcv hcl (Or.inr ⟨hx.1, by simp [kApprove, hx.2, hrg0, hrg1, hixj2, hnmj2]⟩) (Nat.le_of_ble_eq_true rfl) (Nat.le_of_ble_eq_true rfl)
      · obtain ⟨rfl, hhd⟩ := hp
        have hP : va_P D vwCl (dw cI cZ a X Y ++ (ppw cI cZ a X Y ++ (kq cI cZ cP b I V P ++ cw cI b I V))) H := hP
        have hD : va_D A (dw cI cZ a X Y ++ (ppw cI cZ a X Y ++ (kq cI cZ cP b I V P ++ cw cI b I V))) := hD
        refine lv_astore (lv' := [(5, .ref (a 2)), (4, .ref (a 0)), (0, .ref (b 0)), (1, .int (nI j)), (2, .int (nI j2)), (3, .int y)]) B.hx B.hb dX3_approve_29 hl (by decide) rfl (fun ls hl => ?_)
        refine lv_aload B.hx B.hb dX3_approve_31 (lv_at hl 0 rfl) ?_
        refine q_callV (As := []) (rest := []) B hP hD hS ((c1_nextStep l D cI cZ cP a X Y n k hW).fr (ppw cI cZ a X Y ++ (kq cI cZ cP b I V P ++ cw cI b I V))) (cwV 0 B.hts gX3_approve_X1_nextStep rfl rfl rfl (by decide +kernel) ⟨(Nat.le_of_ble_eq_true rfl), (Nat.le_of_ble_eq_true rfl)⟩) 0 1 rfl rfl rfl rfl hl.1 rfl (Nat.le_of_ble_eq_true rfl) dX3_approve_33 ⟨(Nat.le_of_ble_eq_true rfl), (Nat.le_of_ble_eq_true rfl)⟩ (fun E ce q9 H locs hx => False.elim hx) (fun v u H locs hp hP hD hS => ?_)
        obtain rfl := hp
        have hP : va_P D vwCl (dw cI cZ a X Y ++ (ppw cI cZ a X Y ++ (kq cI cZ cP b I V P ++ cw cI b I V))) H := hP
        have hD : va_D A (dw cI cZ a X Y ++ (ppw cI cZ a X Y ++ (kq cI cZ cP b I V P ++ cw cI b I V))) := hD
        refine lv_iconst (v := (nI 3)) B.hx B.hb dX3_approve_36 (by decide) ?_
        refine lv_icmp_eq (tgt := 50) B.hx B.hb dX3_approve_37 (by decide) (fun c1 => ?_) (fun c1 => ?_)
        · refine lv_iload_n B.hx B.hb dX3_approve_50 rfl (lv_at hl 4 rfl) ?_
          refine lv_aload B.hx B.hb dX3_approve_51 (lv_at hl 0 rfl) ?_
          refine q_get B hP (C := RX1) (ref := "PaperKeeper$Draft") (T := TX1) (N := 12) (ci := 1) hi1 rfl 0 rfl 5 (by decide) (by decide +kernel) rfl (v := .int (X 5)) rfl dX3_approve_53 ?_
          refine lv_icmp_eq (tgt := 67) B.hx B.hb dX3_approve_56 (by decide) (fun c2 => ?_) (fun c2 => ?_)
          · replace c2 := c2.symm
            exact q_throw B hfl htb hP hS q_E_ISE (goodIn_app (goodIn_of [_, _] (by decide +kernel)) (goodIn_sub (fun w h => List.mem_cons_of_mem _ (List.mem_append_left _ (List.mem_append_left _ (List.mem_append_right _ h)))) q_allg_ISE)) (List.mem_of_getElem? (i := 14) rfl) hl.1 dX3_approve_67 dX3_approve_70 dX3_approve_71 dX3_approve_73 dX3_approve_76 ⟨(Nat.le_of_ble_eq_true rfl), (Nat.le_of_ble_eq_true rfl), (Nat.le_of_ble_eq_true rfl), (Nat.le_of_ble_eq_true rfl)⟩ (Or.inr ⟨rfl, by simp [kApprove, hrg0, hrg1, hhd, c1, c2, hixj2, hnmj2]⟩) (Nat.le_of_ble_eq_true rfl) (Nat.le_of_ble_eq_true rfl)
          · refine lv_aload_n B.hx B.hb dX3_approve_59 rfl (lv_at hl 2 rfl) ?_
            refine lv_iload_n B.hx B.hb dX3_approve_60 rfl (lv_at hl 4 rfl) ?_
            refine q_callV (As := [.int (nI j2)]) (rest := []) B hP hD hS ((c3_canApprove l D cI cZ cP b I V P j2 hjj2 hb).fl2 (dw cI cZ a X Y) (ppw cI cZ a X Y)) (cwV 1 B.hts gX3_approve_X3_canApprove rfl rfl rfl (by decide +kernel) ⟨(Nat.le_of_ble_eq_true rfl), (Nat.le_of_ble_eq_true rfl)⟩) 10 3 rfl rfl rfl rfl hl.1 rfl (Nat.le_of_ble_eq_true rfl) dX3_approve_61 ⟨(Nat.le_of_ble_eq_true rfl), (Nat.le_of_ble_eq_true rfl)⟩ (fun E ce q9 H locs hx => False.elim hx) (fun v u H locs hp hP hD hS => ?_)
            replace hp := q_if2 hp
            rcases hp with ⟨rfl, hca⟩ | ⟨rfl, hca⟩
            · have hP : va_P D vwCl (dw cI cZ a X Y ++ (ppw cI cZ a X Y ++ (kq cI cZ cP b I V P ++ cw cI b I V))) H := hP
              have hD : va_D A (dw cI cZ a X Y ++ (ppw cI cZ a X Y ++ (kq cI cZ cP b I V P ++ cw cI b I V))) := hD
              refine lv_if_ne (tgt := 77) B.hx B.hb dX3_approve_64 (by decide) (fun _ => ?_) (fun c3 => absurd c3 (by decide))
              refine lv_aload B.hx B.hb dX3_approve_77 (lv_at hl 0 rfl) ?_
              refine lv_iconst (v := (nI 1)) B.hx B.hb dX3_approve_79 (by decide) ?_
              refine q_put B hP hD hS (C := RX1) (ref := "PaperKeeper$Draft") (T := TX1) (N := 12) (ci := 1) hi1 rfl tyX1 tyX1_ok nmX1 0 rfl 10 (by decide) (by decide +kernel) rfl rfl (by decide) (by decide) (Nat.le_of_ble_eq_true rfl) dX3_approve_80 (w' := dw cI cZ a (va_up X 10 (nI 1)) Y ++ (ppw cI cZ a (va_up X 10 (nI 1)) Y ++ (kq cI cZ cP b I V P ++ cw cI b I V))) rfl (fun H locs hP hD hS => ?_)
              refine lv_aload B.hx B.hb dX3_approve_83 (lv_at hl 0 rfl) ?_
              refine lv_iload_n B.hx B.hb dX3_approve_85 rfl (lv_at hl 5 rfl) ?_
              refine q_put B hP hD hS (C := RX1) (ref := "PaperKeeper$Draft") (T := TX1) (N := 12) (ci := 1) hi1 rfl tyX1 tyX1_ok nmX1 0 rfl 11 (by decide) (by decide +kernel) rfl rfl rfl (by rfl) (Nat.le_of_ble_eq_true rfl) dX3_approve_86 (w' := dw cI cZ a (va_up (va_up X 10 (nI 1)) 11 y) Y ++ (ppw cI cZ a (va_up (va_up X 10 (nI 1)) 11 y) Y ++ (kq cI cZ cP b I V P ++ cw cI b I V))) rfl (fun H locs hP hD hS => ?_)
              exact q_vret B hr hP hD hS (u := ()) rfl ⟨rfl, by simp [kApprove, hrg0, hrg1, hhd, c1, c2, hca, hixj2, hnmj2]⟩ (Nat.le_of_ble_eq_true rfl) (Nat.le_of_ble_eq_true rfl) dX3_approve_89
            · have hP : va_P D vwCl (dw cI cZ a X Y ++ (ppw cI cZ a X Y ++ (kq cI cZ cP b I V P ++ cw cI b I V))) H := hP
              have hD : va_D A (dw cI cZ a X Y ++ (ppw cI cZ a X Y ++ (kq cI cZ cP b I V P ++ cw cI b I V))) := hD
              refine lv_if_ne (tgt := 77) B.hx B.hb dX3_approve_64 (by decide) (fun c4 => absurd c4 (by decide)) (fun _ => ?_)
              exact q_throw B hfl htb hP hS q_E_ISE (goodIn_app (goodIn_of [_, _] (by decide +kernel)) (goodIn_sub (fun w h => List.mem_cons_of_mem _ (List.mem_append_left _ (List.mem_append_left _ (List.mem_append_right _ h)))) q_allg_ISE)) (List.mem_of_getElem? (i := 14) rfl) hl.1 dX3_approve_67 dX3_approve_70 dX3_approve_71 dX3_approve_73 dX3_approve_76 ⟨(Nat.le_of_ble_eq_true rfl), (Nat.le_of_ble_eq_true rfl), (Nat.le_of_ble_eq_true rfl), (Nat.le_of_ble_eq_true rfl)⟩ (Or.inr ⟨rfl, by simp [kApprove, hrg0, hrg1, hhd, c1, c2, hca, hixj2, hnmj2]⟩) (Nat.le_of_ble_eq_true rfl) (Nat.le_of_ble_eq_true rfl)
        · exact q_throw B hfl htb hP hS q_E_ISE (goodIn_app (goodIn_of [_, _] (by decide +kernel)) (goodIn_sub (fun w h => List.mem_cons_of_mem _ (List.mem_append_left _ (List.mem_append_left _ (List.mem_append_right _ h)))) q_allg_ISE)) (List.mem_of_getElem? (i := 13) rfl) hl.1 dX3_approve_40 dX3_approve_43 dX3_approve_44 dX3_approve_46 dX3_approve_49 ⟨(Nat.le_of_ble_eq_true rfl), (Nat.le_of_ble_eq_true rfl), (Nat.le_of_ble_eq_true rfl), (Nat.le_of_ble_eq_true rfl)⟩ (Or.inr ⟨rfl, by simp [kApprove, hrg0, hrg1, hhd, c1, hixj2, hnmj2]⟩) (Nat.le_of_ble_eq_true rfl) (Nat.le_of_ble_eq_true rfl)
set_option maxHeartbeats 4000000 in
set_option maxRecDepth 100000 in
theorem c3_confirm (l : Launch) (hfl : l.stackTraces = false) (D : va_G) (cI cZ cP : ClassId) (b : Nat → Nat) (I : Nat → Int32) (V : Nat → Nat → Int32) (P : Nat → Option Nat) (a : Nat → Nat) (X : Nat → Int32) (Y : Nat → Nat → Int32) (j : Nat) (hj : j < 8) (hpj : P j = some (a 0)) (x : Int32) : q_C l yX3_confirm wsX3_confirm ({ frames := 8, cells := 3, slots := 18, locals := 124 }) D cI cZ cP [.ref (b 0), .int (nI j), .int x] (dw cI cZ a X Y ++ (ppw cI cZ a X Y ++ (kq cI cZ cP b I V P ++ cw cI b I V))) (S := Unit) (fun v _ => v = some (.int (nI (pN (fun i => decide (¬ Y 4 i = 0)) 6) - nI (pN (fun i => decide (¬ (upd (Y 5) (ix x) (nI 1)) i = 0)) 6))) ∧ kConfirm x (X 2) (X 10) (Y 4 (ix x)) (Y 5 (ix x)) = 0) (fun _ => dw cI cZ a X (va_up Y 5 (upd (Y 5) (ix x) (nI 1))) ++ (ppw cI cZ a X (va_up Y 5 (upd (Y 5) (ix x) (nI 1))) ++ (kq cI cZ cP b I V P ++ cw cI b I V))) (fun E => (E = q_IAE ∧ kConfirm x (X 2) (X 10) (Y 4 (ix x)) (Y 5 (ix x)) = 2) ∨ (E = q_ISE ∧ kConfirm x (X 2) (X 10) (Y 4 (ix x)) (Y 5 (ix x)) = 3)) 3 18 := by
  refine q_of (cc := cX3_confirm) (maxL := 5) (ret := (some .int)) (by decide +kernel) rfl (Nat.le_of_ble_eq_true rfl) ?_
  intro p e s m below meth c A ls B hr htb hmn hP hD hS hl
  have hl : lv_has ls 5 [(0, .ref (b 0)), (1, .int (nI j)), (2, .int x)] := hl
  have hi1 : ∀ w ∈ u_ws RX1 TX1 12, w ∈ wsX3_confirm := by decide +kernel
  refine lv_aload_n B.hx B.hb dX3_confirm_0 rfl (lv_at hl 0 rfl) ?_
  refine lv_iload_n B.hx B.hb dX3_confirm_1 rfl (lv_at hl 1 rfl) ?_
  refine q_callV (As := [.int (nI j)]) (rest := []) B hP hD hS ((c3_paperAt l D cI cZ cP b I V P j (a 0) hj hpj).fl2 (dw cI cZ a X Y) (ppw cI cZ a X Y)) (cwV 1 B.hts gX3_confirm_X3_paperAt rfl rfl rfl (by decide +kernel) ⟨(Nat.le_of_ble_eq_true rfl), (Nat.le_of_ble_eq_true rfl)⟩) 10 3 rfl rfl rfl rfl hl.1 rfl (Nat.le_of_ble_eq_true rfl) dX3_confirm_2 ⟨(Nat.le_of_ble_eq_true rfl), (Nat.le_of_ble_eq_true rfl)⟩ (fun E ce q9 H locs hx => False.elim hx) (fun v u H locs hp hP hD hS => ?_)
  obtain rfl := hp
  have hP : va_P D vwCl (dw cI cZ a X Y ++ (ppw cI cZ a X Y ++ (kq cI cZ cP b I V P ++ cw cI b I V))) H := hP
  have hD : va_D A (dw cI cZ a X Y ++ (ppw cI cZ a X Y ++ (kq cI cZ cP b I V P ++ cw cI b I V))) := hD
  refine lv_astore_n (lv' := [(3, .ref (a 0)), (0, .ref (b 0)), (1, .int (nI j)), (2, .int x)]) B.hx B.hb dX3_confirm_5 rfl hl (by decide) rfl (fun ls hl => ?_)
  refine lv_iload_n B.hx B.hb dX3_confirm_6 rfl (lv_at hl 3 rfl) ?_
  refine q_callS (As := [.int x]) (rest := []) B hP hD hS ((c3_checkPerson l hfl D cI cZ cP x).fr0 (dw cI cZ a X Y ++ (ppw cI cZ a X Y ++ (kq cI cZ cP b I V P ++ cw cI b I V)))) (cwS 1 B.hts gX3_confirm_X3_checkPerson rfl rfl rfl (by decide +kernel) ⟨(Nat.le_of_ble_eq_true rfl), (Nat.le_of_ble_eq_true rfl)⟩) rfl hl.1 rfl (Nat.le_of_ble_eq_true rfl) dX3_confirm_7 ⟨(Nat.le_of_ble_eq_true rfl), (Nat.le_of_ble_eq_true rfl)⟩ (fun E ce q9 H locs hx hP hS hce hcv hcl => ?_) (fun v u H locs hp hP hD hS => ?_)
  · exact q_xout B htb hP hS hce hcv hcl (Or.inl ⟨hx.1, by simp [kConfirm, hx.2]⟩) (Nat.le_of_ble_eq_true rfl) (Nat.le_of_ble_eq_true rfl)
  · obtain ⟨rfl, hrg0⟩ := hp
    have hP : va_P D vwCl (dw cI cZ a X Y ++ (ppw cI cZ a X Y ++ (kq cI cZ cP b I V P ++ cw cI b I V))) H := hP
    have hD : va_D A (dw cI cZ a X Y ++ (ppw cI cZ a X Y ++ (kq cI cZ cP b I V P ++ cw cI b I V))) := hD
    obtain ⟨j2, hjj2, rfl⟩ := rg_j (by decide) hrg0
    have hixj2 : ix (nI j2) = j2 := ix_nI (by omega)
    have hnmj2 : ¬ nI j2 = -1 := nI_nm1 (by omega)
    refine lv_aload_n B.hx B.hb dX3_confirm_10 rfl (lv_at hl 0 rfl) ?_
    refine q_callS (As := [.ref (a 0)]) (rest := []) B hP hD hS ((c3_draftOf l hfl D cI cZ cP a X Y).fr2 (kq cI cZ cP b I V P ++ cw cI b I V)) (cwS 1 B.hts gX3_confirm_X3_draftOf rfl rfl rfl (by decide +kernel) ⟨(Nat.le_of_ble_eq_true rfl), (Nat.le_of_ble_eq_true rfl)⟩) rfl hl.1 rfl (Nat.le_of_ble_eq_true rfl) dX3_confirm_11 ⟨(Nat.le_of_ble_eq_true rfl), (Nat.le_of_ble_eq_true rfl)⟩ (fun E ce q9 H locs hx hP hS hce hcv hcl => ?_) (fun v u H locs hp hP hD hS => ?_)
    · exact q_xout B htb hP hS hce hcv hcl (Or.inr ⟨hx.1, by simp [kConfirm, hx.2, hrg0, hixj2, hnmj2]⟩) (Nat.le_of_ble_eq_true rfl) (Nat.le_of_ble_eq_true rfl)
    · obtain ⟨rfl, hhd⟩ := hp
      have hP : va_P D vwCl (dw cI cZ a X Y ++ (ppw cI cZ a X Y ++ (kq cI cZ cP b I V P ++ cw cI b I V))) H := hP
      have hD : va_D A (dw cI cZ a X Y ++ (ppw cI cZ a X Y ++ (kq cI cZ cP b I V P ++ cw cI b I V))) := hD
      refine lv_astore (lv' := [(4, .ref (a 2)), (3, .ref (a 0)), (0, .ref (b 0)), (1, .int (nI j)), (2, .int (nI j2))]) B.hx B.hb dX3_confirm_14 hl (by decide) rfl (fun ls hl => ?_)
      refine lv_aload B.hx B.hb dX3_confirm_16 (lv_at hl 0 rfl) ?_
      refine q_get B hP (C := RX1) (ref := "PaperKeeper$Draft") (T := TX1) (N := 12) (ci := 1) hi1 rfl 0 rfl 10 (by decide) (by decide +kernel) rfl (v := .int (X 10)) rfl dX3_confirm_18 ?_
      refine lv_if_ne (tgt := 34) B.hx B.hb dX3_confirm_21 (by decide) (fun c1 => ?_) (fun c1 => ?_)
      · refine lv_aload B.hx B.hb dX3_confirm_34 (lv_at hl 0 rfl) ?_
        refine q_get B hP (C := RX1) (ref := "PaperKeeper$Draft") (T := TX1) (N := 12) (ci := 1) hi1 rfl 0 rfl 3 (by decide) (by decide +kernel) rfl (v := .ref (a 6)) rfl dX3_confirm_36 ?_
        refine lv_iload_n B.hx B.hb dX3_confirm_39 rfl (lv_at hl 4 rfl) ?_
        refine q_zald B hP 4 rfl (j := j2) rfl (by omega) (by decide) dX3_confirm_40 ?_
        refine lv_if_eq (tgt := 54) B.hx B.hb dX3_confirm_41 (by decide) (fun c2 => ?_) (fun c2 => ?_)
        · exact q_throw B hfl htb hP hS q_E_ISE (goodIn_app (goodIn_of [_, _] (by decide +kernel)) (goodIn_sub (fun w h => List.mem_cons_of_mem _ (List.mem_append_left _ (List.mem_append_left _ (List.mem_append_right _ h)))) q_allg_ISE)) (List.mem_of_getElem? (i := 16) rfl) hl.1 dX3_confirm_54 dX3_confirm_57 dX3_confirm_58 dX3_confirm_60 dX3_confirm_63 ⟨(Nat.le_of_ble_eq_true rfl), (Nat.le_of_ble_eq_true rfl), (Nat.le_of_ble_eq_true rfl), (Nat.le_of_ble_eq_true rfl)⟩ (Or.inr ⟨rfl, by simp [kConfirm, hrg0, hhd, c1, c2, hixj2, hnmj2]⟩) (Nat.le_of_ble_eq_true rfl) (Nat.le_of_ble_eq_true rfl)
        · refine lv_aload B.hx B.hb dX3_confirm_44 (lv_at hl 0 rfl) ?_
          refine q_get B hP (C := RX1) (ref := "PaperKeeper$Draft") (T := TX1) (N := 12) (ci := 1) hi1 rfl 0 rfl 4 (by decide) (by decide +kernel) rfl (v := .ref (a 7)) rfl dX3_confirm_46 ?_
          refine lv_iload_n B.hx B.hb dX3_confirm_49 rfl (lv_at hl 4 rfl) ?_
          refine q_zald B hP 5 rfl (j := j2) rfl (by omega) (by decide) dX3_confirm_50 ?_
          refine lv_if_eq (tgt := 64) B.hx B.hb dX3_confirm_51 (by decide) (fun c3 => ?_) (fun c3 => ?_)
          · refine lv_aload B.hx B.hb dX3_confirm_64 (lv_at hl 0 rfl) ?_
            refine q_get B hP (C := RX1) (ref := "PaperKeeper$Draft") (T := TX1) (N := 12) (ci := 1) hi1 rfl 0 rfl 4 (by decide) (by decide +kernel) rfl (v := .ref (a 7)) rfl dX3_confirm_66 ?_
            refine lv_iload_n B.hx B.hb dX3_confirm_69 rfl (lv_at hl 4 rfl) ?_
            refine lv_iconst (v := (nI 1)) B.hx B.hb dX3_confirm_70 (by decide) ?_
            refine q_zast B hP hD hS 5 rfl (j := j2) rfl (by omega) (by decide) (by decide) dX3_confirm_71 (w' := dw cI cZ a X (va_up Y 5 (upd (Y 5) j2 (nI 1))) ++ (ppw cI cZ a X (va_up Y 5 (upd (Y 5) j2 (nI 1))) ++ (kq cI cZ cP b I V P ++ cw cI b I V))) rfl (fun H locs hP hD hS => ?_)
            refine lv_aload B.hx B.hb dX3_confirm_72 (lv_at hl 0 rfl) ?_
            refine q_get B hP (C := RX1) (ref := "PaperKeeper$Draft") (T := TX1) (N := 12) (ci := 1) hi1 rfl 0 rfl 3 (by decide) (by decide +kernel) rfl (v := .ref (a 6)) rfl dX3_confirm_74 ?_
            refine q_callS (As := [.ref (a 6)]) (rest := []) B hP hD hS (c3_countOf l D cI cZ cP (dw cI cZ a X (va_up Y 5 (upd (Y 5) j2 (nI 1))) ++ (ppw cI cZ a X (va_up Y 5 (upd (Y 5) j2 (nI 1))) ++ (kq cI cZ cP b I V P ++ cw cI b I V))) 4 (a 6) 6 (Y 4) rfl (by decide)) (cwS 1 B.hts gX3_confirm_X3_countOf rfl rfl rfl (by decide +kernel) ⟨(Nat.le_of_ble_eq_true rfl), (Nat.le_of_ble_eq_true rfl)⟩) rfl hl.1 rfl (Nat.le_of_ble_eq_true rfl) dX3_confirm_77 ⟨(Nat.le_of_ble_eq_true rfl), (Nat.le_of_ble_eq_true rfl)⟩ (fun E ce q9 H locs hx => False.elim hx) (fun v u H locs hp hP hD hS => ?_)
            obtain rfl := hp
            have hP : va_P D vwCl (dw cI cZ a X (va_up Y 5 (upd (Y 5) j2 (nI 1))) ++ (ppw cI cZ a X (va_up Y 5 (upd (Y 5) j2 (nI 1))) ++ (kq cI cZ cP b I V P ++ cw cI b I V))) H := hP
            have hD : va_D A (dw cI cZ a X (va_up Y 5 (upd (Y 5) j2 (nI 1))) ++ (ppw cI cZ a X (va_up Y 5 (upd (Y 5) j2 (nI 1))) ++ (kq cI cZ cP b I V P ++ cw cI b I V))) := hD
            refine lv_aload B.hx B.hb dX3_confirm_80 (lv_at hl 0 rfl) ?_
            refine q_get B hP (C := RX1) (ref := "PaperKeeper$Draft") (T := TX1) (N := 12) (ci := 1) hi1 rfl 0 rfl 4 (by decide) (by decide +kernel) rfl (v := .ref (a 7)) rfl dX3_confirm_82 ?_
            refine q_callS (As := [.ref (a 7)]) (rest := [.int (nI ((pN (fun i => decide (¬ (Y 4) i = 0)) 6)))]) B hP hD hS (c3_countOf l D cI cZ cP (dw cI cZ a X (va_up Y 5 (upd (Y 5) j2 (nI 1))) ++ (ppw cI cZ a X (va_up Y 5 (upd (Y 5) j2 (nI 1))) ++ (kq cI cZ cP b I V P ++ cw cI b I V))) 5 (a 7) 6 (upd (Y 5) j2 (nI 1)) rfl (by decide)) (cwS 1 B.hts gX3_confirm_X3_countOf rfl rfl rfl (by decide +kernel) ⟨(Nat.le_of_ble_eq_true rfl), (Nat.le_of_ble_eq_true rfl)⟩) rfl hl.1 rfl (Nat.le_of_ble_eq_true rfl) dX3_confirm_85 ⟨(Nat.le_of_ble_eq_true rfl), (Nat.le_of_ble_eq_true rfl)⟩ (fun E ce q9 H locs hx => False.elim hx) (fun v u H locs hp hP hD hS => ?_)
            obtain rfl := hp
            have hP : va_P D vwCl (dw cI cZ a X (va_up Y 5 (upd (Y 5) j2 (nI 1))) ++ (ppw cI cZ a X (va_up Y 5 (upd (Y 5) j2 (nI 1))) ++ (kq cI cZ cP b I V P ++ cw cI b I V))) H := hP
            have hD : va_D A (dw cI cZ a X (va_up Y 5 (upd (Y 5) j2 (nI 1))) ++ (ppw cI cZ a X (va_up Y 5 (upd (Y 5) j2 (nI 1))) ++ (kq cI cZ cP b I V P ++ cw cI b I V))) := hD
            refine lv_isub B.hx B.hb dX3_confirm_88 ?_
            exact q_iret B hr hP hD hS (u := ()) (by simp only [hixj2]) ⟨by rw [hixj2], by simp [kConfirm, hrg0, hhd, c1, c2, c3, hixj2, hnmj2]⟩ (Nat.le_of_ble_eq_true rfl) (Nat.le_of_ble_eq_true rfl) dX3_confirm_89
          · exact q_throw B hfl htb hP hS q_E_ISE (goodIn_app (goodIn_of [_, _] (by decide +kernel)) (goodIn_sub (fun w h => List.mem_cons_of_mem _ (List.mem_append_left _ (List.mem_append_left _ (List.mem_append_right _ h)))) q_allg_ISE)) (List.mem_of_getElem? (i := 16) rfl) hl.1 dX3_confirm_54 dX3_confirm_57 dX3_confirm_58 dX3_confirm_60 dX3_confirm_63 ⟨(Nat.le_of_ble_eq_true rfl), (Nat.le_of_ble_eq_true rfl), (Nat.le_of_ble_eq_true rfl), (Nat.le_of_ble_eq_true rfl)⟩ (Or.inr ⟨rfl, by simp [kConfirm, hrg0, hhd, c1, c2, c3, hixj2, hnmj2]⟩) (Nat.le_of_ble_eq_true rfl) (Nat.le_of_ble_eq_true rfl)
      · exact q_throw B hfl htb hP hS q_E_ISE (goodIn_app (goodIn_of [_, _] (by decide +kernel)) (goodIn_sub (fun w h => List.mem_cons_of_mem _ (List.mem_append_left _ (List.mem_append_left _ (List.mem_append_right _ h)))) q_allg_ISE)) (List.mem_of_getElem? (i := 15) rfl) hl.1 dX3_confirm_24 dX3_confirm_27 dX3_confirm_28 dX3_confirm_30 dX3_confirm_33 ⟨(Nat.le_of_ble_eq_true rfl), (Nat.le_of_ble_eq_true rfl), (Nat.le_of_ble_eq_true rfl), (Nat.le_of_ble_eq_true rfl)⟩ (Or.inr ⟨rfl, by simp [kConfirm, hrg0, hhd, c1, hixj2, hnmj2]⟩) (Nat.le_of_ble_eq_true rfl) (Nat.le_of_ble_eq_true rfl)
set_option maxHeartbeats 4000000 in
set_option maxRecDepth 100000 in
theorem c3_look (l : Launch) (hfl : l.stackTraces = false) (D : va_G) (cI cZ cP : ClassId) (b : Nat → Nat) (I : Nat → Int32) (V : Nat → Nat → Int32) (P : Nat → Option Nat) (a : Nat → Nat) (X : Nat → Int32) (Y : Nat → Nat → Int32) (j : Nat) (hj : j < 8) (hpj : P j = some (a 0)) (w : Nat) (hw1 : X 1 = nI w) (hw2 : w ≤ 128) : q_C l yX3_look wsX3_look ({ frames := 7, cells := 1, slots := 6, locals := 102 }) D cI cZ cP [.ref (b 0), .int (nI j)] (dw cI cZ a X Y ++ (ppw cI cZ a X Y ++ (kq cI cZ cP b I V P ++ cw cI b I V))) (S := Unit) (fun v _ => v = some (.int (nl w (X 3) (I 7) (X 4) (I 6))) ∧ kLook w = 0) (fun _ => dw cI cZ a (va_up (va_up X 3 (nI 0)) 4 (I 7)) Y ++ (ppw cI cZ a (va_up (va_up X 3 (nI 0)) 4 (I 7)) Y ++ (kq cI cZ cP b I V P ++ cw cI b I V))) (fun E => E = q_ISE ∧ kLook w = 2) 1 6 := by
  refine q_of (cc := cX3_look) (maxL := 4) (ret := (some .boolean)) (by decide +kernel) rfl (Nat.le_of_ble_eq_true rfl) ?_
  intro p e s m below meth c A ls B hr htb hmn hP hD hS hl
  have hl : lv_has ls 4 [(0, .ref (b 0)), (1, .int (nI j))] := hl
  have hi3 : ∀ w ∈ u_ws RX3 TX3 8, w ∈ wsX3_look := by decide +kernel
  refine lv_aload_n B.hx B.hb dX3_look_0 rfl (lv_at hl 0 rfl) ?_
  refine lv_iload_n B.hx B.hb dX3_look_1 rfl (lv_at hl 1 rfl) ?_
  refine q_callV (As := [.int (nI j)]) (rest := []) B hP hD hS ((c3_paperAt l D cI cZ cP b I V P j (a 0) hj hpj).fl2 (dw cI cZ a X Y) (ppw cI cZ a X Y)) (cwV 1 B.hts gX3_look_X3_paperAt rfl rfl rfl (by decide +kernel) ⟨(Nat.le_of_ble_eq_true rfl), (Nat.le_of_ble_eq_true rfl)⟩) 10 3 rfl rfl rfl rfl hl.1 rfl (Nat.le_of_ble_eq_true rfl) dX3_look_2 ⟨(Nat.le_of_ble_eq_true rfl), (Nat.le_of_ble_eq_true rfl)⟩ (fun E ce q9 H locs hx => False.elim hx) (fun v u H locs hp hP hD hS => ?_)
  obtain rfl := hp
  have hP : va_P D vwCl (dw cI cZ a X Y ++ (ppw cI cZ a X Y ++ (kq cI cZ cP b I V P ++ cw cI b I V))) H := hP
  have hD : va_D A (dw cI cZ a X Y ++ (ppw cI cZ a X Y ++ (kq cI cZ cP b I V P ++ cw cI b I V))) := hD
  refine lv_astore_n (lv' := [(2, .ref (a 0)), (0, .ref (b 0)), (1, .int (nI j))]) B.hx B.hb dX3_look_5 rfl hl (by decide) rfl (fun ls hl => ?_)
  refine lv_aload_n B.hx B.hb dX3_look_6 rfl (lv_at hl 0 rfl) ?_
  refine q_callS (As := [.ref (a 0)]) (rest := []) B hP hD hS ((c3_checkInForce l hfl D cI cZ cP a X Y w hw1 hw2).fr2 (kq cI cZ cP b I V P ++ cw cI b I V)) (cwS 1 B.hts gX3_look_X3_checkInForce rfl rfl rfl (by decide +kernel) ⟨(Nat.le_of_ble_eq_true rfl), (Nat.le_of_ble_eq_true rfl)⟩) rfl hl.1 rfl (Nat.le_of_ble_eq_true rfl) dX3_look_7 ⟨(Nat.le_of_ble_eq_true rfl), (Nat.le_of_ble_eq_true rfl)⟩ (fun E ce q9 H locs hx hP hS hce hcv hcl => ?_) (fun v u H locs hp hP hD hS => ?_)
  · exact q_xout B htb hP hS hce hcv hcl ⟨hx.1, by simp [kLook, hx.2]⟩ (Nat.le_of_ble_eq_true rfl) (Nat.le_of_ble_eq_true rfl)
  · obtain ⟨rfl, hw0⟩ := hp
    have hP : va_P D vwCl (dw cI cZ a X Y ++ (ppw cI cZ a X Y ++ (kq cI cZ cP b I V P ++ cw cI b I V))) H := hP
    have hD : va_D A (dw cI cZ a X Y ++ (ppw cI cZ a X Y ++ (kq cI cZ cP b I V P ++ cw cI b I V))) := hD
    refine lv_aload_n B.hx B.hb dX3_look_10 rfl (lv_at hl 0 rfl) ?_
    refine lv_aload_n B.hx B.hb dX3_look_11 rfl (lv_at hl 1 rfl) ?_
    refine q_get B hP (C := RX3) (ref := "PaperKeeper") (T := TX3) (N := 8) (ci := 3) hi3 rfl 10 rfl 7 (by decide) (by decide +kernel) rfl (v := .int (I 7)) rfl dX3_look_12 ?_
    refine lv_aload_n B.hx B.hb dX3_look_15 rfl (lv_at hl 1 rfl) ?_
    refine q_get B hP (C := RX3) (ref := "PaperKeeper") (T := TX3) (N := 8) (ci := 3) hi3 rfl 10 rfl 6 (by decide) (by decide +kernel) rfl (v := .int (I 6)) rfl dX3_look_16 ?_
    refine q_callV (As := [.int (I 7), .int (I 6)]) (rest := []) B hP hD hS ((c2_needsLook l D cI cZ cP a X Y w hw1 hw2 (I 7) (I 6)).fr2 (kq cI cZ cP b I V P ++ cw cI b I V)) (cwV 2 B.hts gX3_look_X2_needsLook rfl rfl rfl (by decide +kernel) ⟨(Nat.le_of_ble_eq_true rfl), (Nat.le_of_ble_eq_true rfl)⟩) 6 2 rfl rfl rfl rfl hl.1 rfl (Nat.le_of_ble_eq_true rfl) dX3_look_19 ⟨(Nat.le_of_ble_eq_true rfl), (Nat.le_of_ble_eq_true rfl)⟩ (fun E ce q9 H locs hx => False.elim hx) (fun v u H locs hp hP hD hS => ?_)
    obtain rfl := hp
    have hP : va_P D vwCl (dw cI cZ a X Y ++ (ppw cI cZ a X Y ++ (kq cI cZ cP b I V P ++ cw cI b I V))) H := hP
    have hD : va_D A (dw cI cZ a X Y ++ (ppw cI cZ a X Y ++ (kq cI cZ cP b I V P ++ cw cI b I V))) := hD
    refine lv_istore_n (lv' := [(3, .int (nl w (X 3) (I 7) (X 4) (I 6))), (2, .ref (a 0)), (0, .ref (b 0)), (1, .int (nI j))]) B.hx B.hb dX3_look_22 rfl hl (by decide) rfl (fun ls hl => ?_)
    refine lv_aload_n B.hx B.hb dX3_look_23 rfl (lv_at hl 1 rfl) ?_
    refine lv_aload_n B.hx B.hb dX3_look_24 rfl (lv_at hl 2 rfl) ?_
    refine q_get B hP (C := RX3) (ref := "PaperKeeper") (T := TX3) (N := 8) (ci := 3) hi3 rfl 10 rfl 7 (by decide) (by decide +kernel) rfl (v := .int (I 7)) rfl dX3_look_25 ?_
    refine q_callV (As := [.int (I 7)]) (rest := []) B hP hD hS ((c2_restartInterval l D cI cZ cP a X Y (I 7)).fr2 (kq cI cZ cP b I V P ++ cw cI b I V)) (cwV 1 B.hts gX3_look_X2_restartInterval rfl rfl rfl (by decide +kernel) ⟨(Nat.le_of_ble_eq_true rfl), (Nat.le_of_ble_eq_true rfl)⟩) 6 2 rfl rfl rfl rfl hl.1 rfl (Nat.le_of_ble_eq_true rfl) dX3_look_28 ⟨(Nat.le_of_ble_eq_true rfl), (Nat.le_of_ble_eq_true rfl)⟩ (fun E ce q9 H locs hx => False.elim hx) (fun v u H locs hp hP hD hS => ?_)
    obtain rfl := hp
    have hP : va_P D vwCl (dw cI cZ a (va_up (va_up X 3 (nI 0)) 4 (I 7)) Y ++ (ppw cI cZ a (va_up (va_up X 3 (nI 0)) 4 (I 7)) Y ++ (kq cI cZ cP b I V P ++ cw cI b I V))) H := hP
    have hD : va_D A (dw cI cZ a (va_up (va_up X 3 (nI 0)) 4 (I 7)) Y ++ (ppw cI cZ a (va_up (va_up X 3 (nI 0)) 4 (I 7)) Y ++ (kq cI cZ cP b I V P ++ cw cI b I V))) := hD
    refine lv_iload_n B.hx B.hb dX3_look_31 rfl (lv_at hl 0 rfl) ?_
    exact q_zret B hr hP hD hS (nl_z _ _ _ _ _) (u := ()) rfl ⟨rfl, by simp [kLook, hw0]⟩ (Nat.le_of_ble_eq_true rfl) (Nat.le_of_ble_eq_true rfl) dX3_look_32
set_option maxHeartbeats 4000000 in
set_option maxRecDepth 100000 in
theorem c3_isDue (l : Launch) (D : va_G) (cI cZ cP : ClassId) (b : Nat → Nat) (I : Nat → Int32) (V : Nat → Nat → Int32) (P : Nat → Option Nat) (a : Nat → Nat) (X : Nat → Int32) (Y : Nat → Nat → Int32) (j : Nat) (hj : j < 8) (hpj : P j = some (a 0)) (w : Nat) (hw1 : X 1 = nI w) (hw2 : w ≤ 128) : q_C l yX3_isDue wsX3_isDue ({ frames := 1, cells := 0, slots := 0, locals := 22 }) D cI cZ cP [.ref (b 0), .int (nI j)] (dw cI cZ a X Y ++ (ppw cI cZ a X Y ++ (kq cI cZ cP b I V P ++ cw cI b I V))) (S := Unit) (fun v _ => v = some (.int (nl w (X 3) (I 7) (X 4) (I 6)))) (fun _ => dw cI cZ a X Y ++ (ppw cI cZ a X Y ++ (kq cI cZ cP b I V P ++ cw cI b I V))) (fun _ => False) 0 0 := by
  refine q_of (cc := cX3_isDue) (maxL := 2) (ret := (some .boolean)) (by decide +kernel) rfl (Nat.le_of_ble_eq_true rfl) ?_
  intro p e s m below meth c A ls B hr htb hmn hP hD hS hl
  have hl : lv_has ls 2 [(0, .ref (b 0)), (1, .int (nI j))] := hl
  have hi3 : ∀ w ∈ u_ws RX3 TX3 8, w ∈ wsX3_isDue := by decide +kernel
  refine lv_aload_n B.hx B.hb dX3_isDue_0 rfl (lv_at hl 0 rfl) ?_
  refine lv_iload_n B.hx B.hb dX3_isDue_1 rfl (lv_at hl 1 rfl) ?_
  refine q_callV (As := [.int (nI j)]) (rest := []) B hP hD hS ((c3_paperAt l D cI cZ cP b I V P j (a 0) hj hpj).fl2 (dw cI cZ a X Y) (ppw cI cZ a X Y)) (cwV 1 B.hts gX3_isDue_X3_paperAt rfl rfl rfl (by decide +kernel) ⟨(Nat.le_of_ble_eq_true rfl), (Nat.le_of_ble_eq_true rfl)⟩) 10 3 rfl rfl rfl rfl hl.1 rfl (Nat.le_of_ble_eq_true rfl) dX3_isDue_2 ⟨(Nat.le_of_ble_eq_true rfl), (Nat.le_of_ble_eq_true rfl)⟩ (fun E ce q9 H locs hx => False.elim hx) (fun v u H locs hp hP hD hS => ?_)
  obtain rfl := hp
  have hP : va_P D vwCl (dw cI cZ a X Y ++ (ppw cI cZ a X Y ++ (kq cI cZ cP b I V P ++ cw cI b I V))) H := hP
  have hD : va_D A (dw cI cZ a X Y ++ (ppw cI cZ a X Y ++ (kq cI cZ cP b I V P ++ cw cI b I V))) := hD
  refine lv_aload_n B.hx B.hb dX3_isDue_5 rfl (lv_at hl 0 rfl) ?_
  refine q_get B hP (C := RX3) (ref := "PaperKeeper") (T := TX3) (N := 8) (ci := 3) hi3 rfl 10 rfl 7 (by decide) (by decide +kernel) rfl (v := .int (I 7)) rfl dX3_isDue_6 ?_
  refine lv_aload_n B.hx B.hb dX3_isDue_9 rfl (lv_at hl 0 rfl) ?_
  refine q_get B hP (C := RX3) (ref := "PaperKeeper") (T := TX3) (N := 8) (ci := 3) hi3 rfl 10 rfl 6 (by decide) (by decide +kernel) rfl (v := .int (I 6)) rfl dX3_isDue_10 ?_
  refine q_callV (As := [.int (I 7), .int (I 6)]) (rest := []) B hP hD hS ((c2_needsLook l D cI cZ cP a X Y w hw1 hw2 (I 7) (I 6)).fr2 (kq cI cZ cP b I V P ++ cw cI b I V)) (cwV 2 B.hts gX3_isDue_X2_needsLook rfl rfl rfl (by decide +kernel) ⟨(Nat.le_of_ble_eq_true rfl), (Nat.le_of_ble_eq_true rfl)⟩) 6 2 rfl rfl rfl rfl hl.1 rfl (Nat.le_of_ble_eq_true rfl) dX3_isDue_13 ⟨(Nat.le_of_ble_eq_true rfl), (Nat.le_of_ble_eq_true rfl)⟩ (fun E ce q9 H locs hx => False.elim hx) (fun v u H locs hp hP hD hS => ?_)
  obtain rfl := hp
  have hP : va_P D vwCl (dw cI cZ a X Y ++ (ppw cI cZ a X Y ++ (kq cI cZ cP b I V P ++ cw cI b I V))) H := hP
  have hD : va_D A (dw cI cZ a X Y ++ (ppw cI cZ a X Y ++ (kq cI cZ cP b I V P ++ cw cI b I V))) := hD
  exact q_zret B hr hP hD hS (nl_z _ _ _ _ _) (u := ()) rfl rfl (Nat.le_of_ble_eq_true rfl) (Nat.le_of_ble_eq_true rfl) dX3_isDue_16
set_option maxHeartbeats 4000000 in
set_option maxRecDepth 100000 in
theorem c3_copy (l : Launch) (hfl : l.stackTraces = false) (D : va_G) (cI cZ cP : ClassId) (b : Nat → Nat) (I : Nat → Int32) (V : Nat → Nat → Int32) (P : Nat → Option Nat) (a : Nat → Nat) (X : Nat → Int32) (Y : Nat → Nat → Int32) (j : Nat) (hj : j < 8) (hpj : P j = some (a 0)) (w : Nat) (hw1 : X 1 = nI w) (hw2 : w ≤ 128) (q : Nat) (hq : I 3 = nI q) (hq2 : q ≤ 30) (x : Int32) : q_C l yX3_copy wsX3_copy ({ frames := 7, cells := 3, slots := 18, locals := 104 }) D cI cZ cP [.ref (b 0), .int (nI j), .int x] (dw cI cZ a X Y ++ (ppw cI cZ a X Y ++ (kq cI cZ cP b I V P ++ cw cI b I V))) (S := Unit) (fun v _ => v = some (.int (nI q)) ∧ kCopy x w q = 0) (fun _ => dw cI cZ a X Y ++ (ppw cI cZ a X Y ++ (kq cI cZ cP b (va_up I 3 (nI ((q + 1)))) (va_up (va_up (va_up V 10 (upd (V 10) q (nI j))) 11 (upd (V 11) q (vn w))) 12 (upd (V 12) q x)) P ++ cw cI b (va_up I 3 (nI ((q + 1)))) (va_up (va_up (va_up V 10 (upd (V 10) q (nI j))) 11 (upd (V 11) q (vn w))) 12 (upd (V 12) q x))))) (fun E => (E = q_IAE ∧ kCopy x w q = 2) ∨ (E = q_ISE ∧ kCopy x w q = 3)) 3 18 := by
  refine q_of (cc := cX3_copy) (maxL := 4) (ret := (some .int)) (by decide +kernel) rfl (Nat.le_of_ble_eq_true rfl) ?_
  intro p e s m below meth c A ls B hr htb hmn hP hD hS hl
  have hl : lv_has ls 4 [(0, .ref (b 0)), (1, .int (nI j)), (2, .int x)] := hl
  have hi0 : ∀ w ∈ u_ws RX0 TX0 4, w ∈ wsX3_copy := by decide +kernel
  have hi3 : ∀ w ∈ u_ws RX3 TX3 8, w ∈ wsX3_copy := by decide +kernel
  refine lv_aload_n B.hx B.hb dX3_copy_0 rfl (lv_at hl 0 rfl) ?_
  refine lv_iload_n B.hx B.hb dX3_copy_1 rfl (lv_at hl 1 rfl) ?_
  refine q_callV (As := [.int (nI j)]) (rest := []) B hP hD hS ((c3_paperAt l D cI cZ cP b I V P j (a 0) hj hpj).fl2 (dw cI cZ a X Y) (ppw cI cZ a X Y)) (cwV 1 B.hts gX3_copy_X3_paperAt rfl rfl rfl (by decide +kernel) ⟨(Nat.le_of_ble_eq_true rfl), (Nat.le_of_ble_eq_true rfl)⟩) 10 3 rfl rfl rfl rfl hl.1 rfl (Nat.le_of_ble_eq_true rfl) dX3_copy_2 ⟨(Nat.le_of_ble_eq_true rfl), (Nat.le_of_ble_eq_true rfl)⟩ (fun E ce q9 H locs hx => False.elim hx) (fun v u H locs hp hP hD hS => ?_)
  obtain rfl := hp
  have hP : va_P D vwCl (dw cI cZ a X Y ++ (ppw cI cZ a X Y ++ (kq cI cZ cP b I V P ++ cw cI b I V))) H := hP
  have hD : va_D A (dw cI cZ a X Y ++ (ppw cI cZ a X Y ++ (kq cI cZ cP b I V P ++ cw cI b I V))) := hD
  refine lv_astore_n (lv' := [(3, .ref (a 0)), (0, .ref (b 0)), (1, .int (nI j)), (2, .int x)]) B.hx B.hb dX3_copy_5 rfl hl (by decide) rfl (fun ls hl => ?_)
  refine lv_iload_n B.hx B.hb dX3_copy_6 rfl (lv_at hl 3 rfl) ?_
  refine lv_iconst (v := (nI 0)) B.hx B.hb dX3_copy_7 (by decide) ?_
  refine lv_bipush (v := (nI 9)) B.hx B.hb dX3_copy_8 (by decide) ?_
  refine q_callS (As := [.int x, .int (nI 0), .int (nI 9)]) (rest := []) B hP hD hS ((c3_checkRange l hfl D cI cZ cP x (nI 0) (nI 9)).fr0 (dw cI cZ a X Y ++ (ppw cI cZ a X Y ++ (kq cI cZ cP b I V P ++ cw cI b I V)))) (cwS 3 B.hts gX3_copy_X3_checkRange rfl rfl rfl (by decide +kernel) ⟨(Nat.le_of_ble_eq_true rfl), (Nat.le_of_ble_eq_true rfl)⟩) rfl hl.1 rfl (Nat.le_of_ble_eq_true rfl) dX3_copy_10 ⟨(Nat.le_of_ble_eq_true rfl), (Nat.le_of_ble_eq_true rfl)⟩ (fun E ce q9 H locs hx hP hS hce hcv hcl => ?_) (fun v u H locs hp hP hD hS => ?_)
  · exact q_xout B htb hP hS hce hcv hcl (Or.inl ⟨hx.1, by simp [kCopy, hx.2]⟩) (Nat.le_of_ble_eq_true rfl) (Nat.le_of_ble_eq_true rfl)
  · obtain ⟨rfl, hrg0⟩ := hp
    have hP : va_P D vwCl (dw cI cZ a X Y ++ (ppw cI cZ a X Y ++ (kq cI cZ cP b I V P ++ cw cI b I V))) H := hP
    have hD : va_D A (dw cI cZ a X Y ++ (ppw cI cZ a X Y ++ (kq cI cZ cP b I V P ++ cw cI b I V))) := hD
    refine lv_aload_n B.hx B.hb dX3_copy_13 rfl (lv_at hl 0 rfl) ?_
    refine q_callS (As := [.ref (a 0)]) (rest := []) B hP hD hS ((c3_checkInForce l hfl D cI cZ cP a X Y w hw1 hw2).fr2 (kq cI cZ cP b I V P ++ cw cI b I V)) (cwS 1 B.hts gX3_copy_X3_checkInForce rfl rfl rfl (by decide +kernel) ⟨(Nat.le_of_ble_eq_true rfl), (Nat.le_of_ble_eq_true rfl)⟩) rfl hl.1 rfl (Nat.le_of_ble_eq_true rfl) dX3_copy_14 ⟨(Nat.le_of_ble_eq_true rfl), (Nat.le_of_ble_eq_true rfl)⟩ (fun E ce q9 H locs hx hP hS hce hcv hcl => ?_) (fun v u H locs hp hP hD hS => ?_)
    · exact q_xout B htb hP hS hce hcv hcl (Or.inr ⟨hx.1, by simp [kCopy, hx.2, hrg0]⟩) (Nat.le_of_ble_eq_true rfl) (Nat.le_of_ble_eq_true rfl)
    · obtain ⟨rfl, hw0⟩ := hp
      have hP : va_P D vwCl (dw cI cZ a X Y ++ (ppw cI cZ a X Y ++ (kq cI cZ cP b I V P ++ cw cI b I V))) H := hP
      have hD : va_D A (dw cI cZ a X Y ++ (ppw cI cZ a X Y ++ (kq cI cZ cP b I V P ++ cw cI b I V))) := hD
      refine lv_aload_n B.hx B.hb dX3_copy_17 rfl (lv_at hl 1 rfl) ?_
      refine q_get B hP (C := RX3) (ref := "PaperKeeper") (T := TX3) (N := 8) (ci := 3) hi3 rfl 10 rfl 4 (by decide) (by decide +kernel) rfl (v := .ref (b 5)) rfl dX3_copy_18 ?_
      refine q_get B hP (C := RX0) (ref := "PaperKeeper$Copies") (T := TX0) (N := 4) (ci := 0) hi0 rfl 15 rfl 3 (by decide) (by decide +kernel) rfl (v := .int (I 3)) rfl dX3_copy_21 ?_
      refine q_top (v2 := .int (nI q)) (congrArg Value.int hq) ?_
      refine lv_bipush (v := (nI 30)) B.hx B.hb dX3_copy_24 (by decide) ?_
      refine lv_icmp_lt (tgt := 39) B.hx B.hb dX3_copy_26 (by decide) (fun c1 => ?_) (fun c1 => ?_)
      · replace c1 := (nI_ltI (by omega) (by omega)).mp c1
        refine lv_aload_n B.hx B.hb dX3_copy_39 rfl (lv_at hl 1 rfl) ?_
        refine q_get B hP (C := RX3) (ref := "PaperKeeper") (T := TX3) (N := 8) (ci := 3) hi3 rfl 10 rfl 4 (by decide) (by decide +kernel) rfl (v := .ref (b 5)) rfl dX3_copy_40 ?_
        refine lv_iload_n B.hx B.hb dX3_copy_43 rfl (lv_at hl 2 rfl) ?_
        refine lv_aload_n B.hx B.hb dX3_copy_44 rfl (lv_at hl 0 rfl) ?_
        refine q_callV (As := []) (rest := [.int (nI j), .ref (b 5)]) B hP hD hS ((c2_newest l D cI cZ cP a X Y w hw1).fr2 (kq cI cZ cP b I V P ++ cw cI b I V)) (cwV 0 B.hts gX3_copy_X2_newest rfl rfl rfl (by decide +kernel) ⟨(Nat.le_of_ble_eq_true rfl), (Nat.le_of_ble_eq_true rfl)⟩) 6 2 rfl rfl rfl rfl hl.1 rfl (Nat.le_of_ble_eq_true rfl) dX3_copy_45 ⟨(Nat.le_of_ble_eq_true rfl), (Nat.le_of_ble_eq_true rfl)⟩ (fun E ce q9 H locs hx => False.elim hx) (fun v u H locs hp hP hD hS => ?_)
        obtain rfl := hp
        have hP : va_P D vwCl (dw cI cZ a X Y ++ (ppw cI cZ a X Y ++ (kq cI cZ cP b I V P ++ cw cI b I V))) H := hP
        have hD : va_D A (dw cI cZ a X Y ++ (ppw cI cZ a X Y ++ (kq cI cZ cP b I V P ++ cw cI b I V))) := hD
        refine lv_iload_n B.hx B.hb dX3_copy_48 rfl (lv_at hl 3 rfl) ?_
        refine q_callV (As := [.int (nI j), .int (vn w), .int x]) (rest := []) B hP hD hS ((c0_add l D cI cZ cP b I V q hq (by omega) (nI j) (vn w) x).fl3 (dw cI cZ a X Y) (ppw cI cZ a X Y) (kq cI cZ cP b I V P)) (cwV 3 B.hts gX3_copy_X0_add rfl rfl rfl (by decide +kernel) ⟨(Nat.le_of_ble_eq_true rfl), (Nat.le_of_ble_eq_true rfl)⟩) 15 0 rfl rfl rfl rfl hl.1 rfl (Nat.le_of_ble_eq_true rfl) dX3_copy_49 ⟨(Nat.le_of_ble_eq_true rfl), (Nat.le_of_ble_eq_true rfl)⟩ (fun E ce q9 H locs hx => False.elim hx) (fun v u H locs hp hP hD hS => ?_)
        obtain rfl := hp
        have hP : va_P D vwCl (dw cI cZ a X Y ++ (ppw cI cZ a X Y ++ (kq cI cZ cP b (va_up I 3 (nI ((q + 1)))) (va_up (va_up (va_up V 10 (upd (V 10) q (nI j))) 11 (upd (V 11) q (vn w))) 12 (upd (V 12) q x)) P ++ cw cI b (va_up I 3 (nI ((q + 1)))) (va_up (va_up (va_up V 10 (upd (V 10) q (nI j))) 11 (upd (V 11) q (vn w))) 12 (upd (V 12) q x))))) H := hP
        have hD : va_D A (dw cI cZ a X Y ++ (ppw cI cZ a X Y ++ (kq cI cZ cP b (va_up I 3 (nI ((q + 1)))) (va_up (va_up (va_up V 10 (upd (V 10) q (nI j))) 11 (upd (V 11) q (vn w))) 12 (upd (V 12) q x)) P ++ cw cI b (va_up I 3 (nI ((q + 1)))) (va_up (va_up (va_up V 10 (upd (V 10) q (nI j))) 11 (upd (V 11) q (vn w))) 12 (upd (V 12) q x))))) := hD
        exact q_iret B hr hP hD hS (u := ()) rfl ⟨rfl, by simp [kCopy, hrg0, hw0, c1]⟩ (Nat.le_of_ble_eq_true rfl) (Nat.le_of_ble_eq_true rfl) dX3_copy_52
      · replace c1 := mt (nI_ltI (by omega) (by omega)).mpr c1
        exact q_throw B hfl htb hP hS q_E_ISE (goodIn_app (goodIn_of [_, _] (by decide +kernel)) (goodIn_sub (fun w h => List.mem_cons_of_mem _ (List.mem_append_left _ (List.mem_append_left _ (List.mem_append_right _ h)))) q_allg_ISE)) (List.mem_of_getElem? (i := 18) rfl) hl.1 dX3_copy_29 dX3_copy_32 dX3_copy_33 dX3_copy_35 dX3_copy_38 ⟨(Nat.le_of_ble_eq_true rfl), (Nat.le_of_ble_eq_true rfl), (Nat.le_of_ble_eq_true rfl), (Nat.le_of_ble_eq_true rfl)⟩ (Or.inr ⟨rfl, by simp [kCopy, hrg0, hw0, c1]⟩) (Nat.le_of_ble_eq_true rfl) (Nat.le_of_ble_eq_true rfl)
set_option maxHeartbeats 4000000 in
set_option maxRecDepth 100000 in
theorem c3_takeDown (l : Launch) (hfl : l.stackTraces = false) (D : va_G) (cI cZ cP : ClassId) (b : Nat → Nat) (I : Nat → Int32) (V : Nat → Nat → Int32) (P : Nat → Option Nat) (q : Nat) (hq : I 3 = nI q) (hq2 : q ≤ 30) (x : Int32) : q_C l yX3_takeDown wsX3_takeDown ({ frames := 6, cells := 1, slots := 6, locals := 82 }) D cI cZ cP [.ref (b 0), .int x] (kq cI cZ cP b I V P ++ cw cI b I V) (S := Unit) (fun v _ => v = some (.int (V 12 (ix x))) ∧ kTakeDown x q (V 12 (ix x)) = 0) (fun _ => kq cI cZ cP b I (va_up V 12 (upd (V 12) (ix x) (-1))) P ++ cw cI b I (va_up V 12 (upd (V 12) (ix x) (-1)))) (fun E => E = q_IOB ∧ kTakeDown x q (V 12 (ix x)) = 1) 1 6 := by
  refine q_of (cc := cX3_takeDown) (maxL := 3) (ret := (some .int)) (by decide +kernel) rfl (Nat.le_of_ble_eq_true rfl) ?_
  intro p e s m below meth c A ls B hr htb hmn hP hD hS hl
  have hl : lv_has ls 3 [(0, .ref (b 0)), (1, .int x)] := hl
  have hi0 : ∀ w ∈ u_ws RX0 TX0 4, w ∈ wsX3_takeDown := by decide +kernel
  have hi3 : ∀ w ∈ u_ws RX3 TX3 8, w ∈ wsX3_takeDown := by decide +kernel
  refine lv_iload_n B.hx B.hb dX3_takeDown_0 rfl (lv_at hl 1 rfl) ?_
  refine lv_if_lt (tgt := 28) B.hx B.hb dX3_takeDown_1 (by decide) (fun c1 => ?_) (fun c1 => ?_)
  · exact q_throw B hfl htb hP hS q_E_IOB (goodIn_app (goodIn_of [_, _] (by decide +kernel)) (goodIn_sub (fun w h => List.mem_cons_of_mem _ (List.mem_append_right _ h)) q_allg_IOB)) (List.mem_of_getElem? (i := 19) rfl) hl.1 dX3_takeDown_28 dX3_takeDown_31 dX3_takeDown_32 dX3_takeDown_34 dX3_takeDown_37 ⟨(Nat.le_of_ble_eq_true rfl), (Nat.le_of_ble_eq_true rfl), (Nat.le_of_ble_eq_true rfl), (Nat.le_of_ble_eq_true rfl)⟩ ⟨rfl, by simp [kTakeDown, inr, c1]⟩ (Nat.le_of_ble_eq_true rfl) (Nat.le_of_ble_eq_true rfl)
  · refine lv_iload_n B.hx B.hb dX3_takeDown_4 rfl (lv_at hl 1 rfl) ?_
    refine lv_aload_n B.hx B.hb dX3_takeDown_5 rfl (lv_at hl 0 rfl) ?_
    refine q_get B hP (C := RX3) (ref := "PaperKeeper") (T := TX3) (N := 8) (ci := 3) hi3 rfl 0 rfl 4 (by decide) (by decide +kernel) rfl (v := .ref (b 5)) rfl dX3_takeDown_6 ?_
    refine q_get B hP (C := RX0) (ref := "PaperKeeper$Copies") (T := TX0) (N := 4) (ci := 0) hi0 rfl 5 rfl 3 (by decide) (by decide +kernel) rfl (v := .int (I 3)) rfl dX3_takeDown_9 ?_
    refine q_top (v2 := .int (nI q)) (congrArg Value.int hq) ?_
    refine lv_icmp_ge (tgt := 28) B.hx B.hb dX3_takeDown_12 (by decide) (fun c2 => ?_) (fun c2 => ?_)
    · replace c2 := inr_nn c2
      exact q_throw B hfl htb hP hS q_E_IOB (goodIn_app (goodIn_of [_, _] (by decide +kernel)) (goodIn_sub (fun w h => List.mem_cons_of_mem _ (List.mem_append_right _ h)) q_allg_IOB)) (List.mem_of_getElem? (i := 19) rfl) hl.1 dX3_takeDown_28 dX3_takeDown_31 dX3_takeDown_32 dX3_takeDown_34 dX3_takeDown_37 ⟨(Nat.le_of_ble_eq_true rfl), (Nat.le_of_ble_eq_true rfl), (Nat.le_of_ble_eq_true rfl), (Nat.le_of_ble_eq_true rfl)⟩ ⟨rfl, by simp [kTakeDown, inr, c1, c2]⟩ (Nat.le_of_ble_eq_true rfl) (Nat.le_of_ble_eq_true rfl)
    · obtain ⟨jx, hjjx, rfl⟩ := inr_of (n := q) (by omega) c1 (inr_no c1 c2)
      have hixjx : ix (nI jx) = jx := ix_nI (by omega)
      refine lv_aload_n B.hx B.hb dX3_takeDown_15 rfl (lv_at hl 0 rfl) ?_
      refine q_get B hP (C := RX3) (ref := "PaperKeeper") (T := TX3) (N := 8) (ci := 3) hi3 rfl 0 rfl 4 (by decide) (by decide +kernel) rfl (v := .ref (b 5)) rfl dX3_takeDown_16 ?_
      refine q_get B hP (C := RX0) (ref := "PaperKeeper$Copies") (T := TX0) (N := 4) (ci := 0) hi0 rfl 5 rfl 2 (by decide) (by decide +kernel) rfl (v := .ref (b 8)) rfl dX3_takeDown_19 ?_
      refine lv_iload_n B.hx B.hb dX3_takeDown_22 rfl (lv_at hl 1 rfl) ?_
      refine q_iald B hP 8 rfl (j := jx) rfl (by omega) (by decide) dX3_takeDown_23 ?_
      refine lv_iconst (v := (-1)) B.hx B.hb dX3_takeDown_24 (by decide) ?_
      refine lv_icmp_ne (tgt := 38) B.hx B.hb dX3_takeDown_25 (by decide) (fun c3 => ?_) (fun c3 => ?_)
      · refine lv_aload_n B.hx B.hb dX3_takeDown_38 rfl (lv_at hl 0 rfl) ?_
        refine q_get B hP (C := RX3) (ref := "PaperKeeper") (T := TX3) (N := 8) (ci := 3) hi3 rfl 0 rfl 4 (by decide) (by decide +kernel) rfl (v := .ref (b 5)) rfl dX3_takeDown_39 ?_
        refine q_get B hP (C := RX0) (ref := "PaperKeeper$Copies") (T := TX0) (N := 4) (ci := 0) hi0 rfl 5 rfl 2 (by decide) (by decide +kernel) rfl (v := .ref (b 8)) rfl dX3_takeDown_42 ?_
        refine lv_iload_n B.hx B.hb dX3_takeDown_45 rfl (lv_at hl 1 rfl) ?_
        refine q_iald B hP 8 rfl (j := jx) rfl (by omega) (by decide) dX3_takeDown_46 ?_
        refine lv_istore_n (lv' := [(2, .int ((V 12) jx)), (0, .ref (b 0)), (1, .int (nI jx))]) B.hx B.hb dX3_takeDown_47 rfl hl (by decide) rfl (fun ls hl => ?_)
        refine lv_aload_n B.hx B.hb dX3_takeDown_48 rfl (lv_at hl 1 rfl) ?_
        refine q_get B hP (C := RX3) (ref := "PaperKeeper") (T := TX3) (N := 8) (ci := 3) hi3 rfl 0 rfl 4 (by decide) (by decide +kernel) rfl (v := .ref (b 5)) rfl dX3_takeDown_49 ?_
        refine q_get B hP (C := RX0) (ref := "PaperKeeper$Copies") (T := TX0) (N := 4) (ci := 0) hi0 rfl 5 rfl 2 (by decide) (by decide +kernel) rfl (v := .ref (b 8)) rfl dX3_takeDown_52 ?_
        refine lv_iload_n B.hx B.hb dX3_takeDown_55 rfl (lv_at hl 2 rfl) ?_
        refine lv_iconst (v := (-1)) B.hx B.hb dX3_takeDown_56 (by decide) ?_
        refine q_iast B hP hD hS 8 rfl (j := jx) rfl (by omega) (by decide) dX3_takeDown_57 (w' := kq cI cZ cP b I (va_up V 12 (upd (V 12) jx (-1))) P ++ cw cI b I (va_up V 12 (upd (V 12) jx (-1)))) rfl (fun H locs hP hD hS => ?_)
        refine lv_iload_n B.hx B.hb dX3_takeDown_58 rfl (lv_at hl 0 rfl) ?_
        exact q_iret B hr hP hD hS (u := ()) (by simp only [hixjx]) ⟨by rw [hixjx], by simp [kTakeDown, inr, c1, c2, c3, hixjx]⟩ (Nat.le_of_ble_eq_true rfl) (Nat.le_of_ble_eq_true rfl) dX3_takeDown_59
      · exact q_throw B hfl htb hP hS q_E_IOB (goodIn_app (goodIn_of [_, _] (by decide +kernel)) (goodIn_sub (fun w h => List.mem_cons_of_mem _ (List.mem_append_right _ h)) q_allg_IOB)) (List.mem_of_getElem? (i := 19) rfl) hl.1 dX3_takeDown_28 dX3_takeDown_31 dX3_takeDown_32 dX3_takeDown_34 dX3_takeDown_37 ⟨(Nat.le_of_ble_eq_true rfl), (Nat.le_of_ble_eq_true rfl), (Nat.le_of_ble_eq_true rfl), (Nat.le_of_ble_eq_true rfl)⟩ ⟨rfl, by simp [kTakeDown, inr, c1, c2, c3, hixjx]⟩ (Nat.le_of_ble_eq_true rfl) (Nat.le_of_ble_eq_true rfl)
set_option maxHeartbeats 4000000 in
set_option maxRecDepth 100000 in
theorem c3_outOfDate (l : Launch) (D : va_G) (cI cZ cP : ClassId) (b : Nat → Nat) (I : Nat → Int32) (V : Nat → Nat → Int32) (P : Nat → Option Nat) (a : Nat → Nat) (X : Nat → Int32) (Y : Nat → Nat → Int32) (j : Nat) (hj : j < 8) (hpj : P j = some (a 0)) (w : Nat) (hw1 : X 1 = nI w) (hw2 : w ≤ 128) (q : Nat) (hq : I 3 = nI q) (hq2 : q ≤ 30) : q_C l yX3_outOfDate wsX3_outOfDate ({ frames := 1, cells := 0, slots := 0, locals := 24 }) D cI cZ cP [.ref (b 0), .int (nI j)] (dw cI cZ a X Y ++ (ppw cI cZ a X Y ++ (kq cI cZ cP b I V P ++ cw cI b I V))) (S := Unit) (fun v _ => v = some (.int (nI (pN (fun i => decide (¬ (V 12) i = -1) && decide ((V 10) i = (nI j)) && decide (¬ (V 11) i = (vn w))) q)))) (fun _ => dw cI cZ a X Y ++ (ppw cI cZ a X Y ++ (kq cI cZ cP b I V P ++ cw cI b I V))) (fun _ => False) 0 0 := by
  refine q_of (cc := cX3_outOfDate) (maxL := 2) (ret := (some .int)) (by decide +kernel) rfl (Nat.le_of_ble_eq_true rfl) ?_
  intro p e s m below meth c A ls B hr htb hmn hP hD hS hl
  have hl : lv_has ls 2 [(0, .ref (b 0)), (1, .int (nI j))] := hl
  have hi3 : ∀ w ∈ u_ws RX3 TX3 8, w ∈ wsX3_outOfDate := by decide +kernel
  refine lv_aload_n B.hx B.hb dX3_outOfDate_0 rfl (lv_at hl 0 rfl) ?_
  refine q_get B hP (C := RX3) (ref := "PaperKeeper") (T := TX3) (N := 8) (ci := 3) hi3 rfl 10 rfl 4 (by decide) (by decide +kernel) rfl (v := .ref (b 5)) rfl dX3_outOfDate_1 ?_
  refine lv_iload_n B.hx B.hb dX3_outOfDate_4 rfl (lv_at hl 1 rfl) ?_
  refine lv_aload_n B.hx B.hb dX3_outOfDate_5 rfl (lv_at hl 0 rfl) ?_
  refine lv_iload_n B.hx B.hb dX3_outOfDate_6 rfl (lv_at hl 1 rfl) ?_
  refine q_callV (As := [.int (nI j)]) (rest := [.int (nI j), .ref (b 5)]) B hP hD hS ((c3_paperAt l D cI cZ cP b I V P j (a 0) hj hpj).fl2 (dw cI cZ a X Y) (ppw cI cZ a X Y)) (cwV 1 B.hts gX3_outOfDate_X3_paperAt rfl rfl rfl (by decide +kernel) ⟨(Nat.le_of_ble_eq_true rfl), (Nat.le_of_ble_eq_true rfl)⟩) 10 3 rfl rfl rfl rfl hl.1 rfl (Nat.le_of_ble_eq_true rfl) dX3_outOfDate_7 ⟨(Nat.le_of_ble_eq_true rfl), (Nat.le_of_ble_eq_true rfl)⟩ (fun E ce q9 H locs hx => False.elim hx) (fun v u H locs hp hP hD hS => ?_)
  obtain rfl := hp
  have hP : va_P D vwCl (dw cI cZ a X Y ++ (ppw cI cZ a X Y ++ (kq cI cZ cP b I V P ++ cw cI b I V))) H := hP
  have hD : va_D A (dw cI cZ a X Y ++ (ppw cI cZ a X Y ++ (kq cI cZ cP b I V P ++ cw cI b I V))) := hD
  refine q_callV (As := []) (rest := [.int (nI j), .ref (b 5)]) B hP hD hS ((c2_newest l D cI cZ cP a X Y w hw1).fr2 (kq cI cZ cP b I V P ++ cw cI b I V)) (cwV 0 B.hts gX3_outOfDate_X2_newest rfl rfl rfl (by decide +kernel) ⟨(Nat.le_of_ble_eq_true rfl), (Nat.le_of_ble_eq_true rfl)⟩) 6 2 rfl rfl rfl rfl hl.1 rfl (Nat.le_of_ble_eq_true rfl) dX3_outOfDate_10 ⟨(Nat.le_of_ble_eq_true rfl), (Nat.le_of_ble_eq_true rfl)⟩ (fun E ce q9 H locs hx => False.elim hx) (fun v u H locs hp hP hD hS => ?_)
  obtain rfl := hp
  have hP : va_P D vwCl (dw cI cZ a X Y ++ (ppw cI cZ a X Y ++ (kq cI cZ cP b I V P ++ cw cI b I V))) H := hP
  have hD : va_D A (dw cI cZ a X Y ++ (ppw cI cZ a X Y ++ (kq cI cZ cP b I V P ++ cw cI b I V))) := hD
  refine q_callV (As := [.int (nI j), .int (vn w)]) (rest := []) B hP hD hS ((c0_countOld l D cI cZ cP b I V q hq hq2 (nI j) (vn w)).fl3 (dw cI cZ a X Y) (ppw cI cZ a X Y) (kq cI cZ cP b I V P)) (cwV 2 B.hts gX3_outOfDate_X0_countOld rfl rfl rfl (by decide +kernel) ⟨(Nat.le_of_ble_eq_true rfl), (Nat.le_of_ble_eq_true rfl)⟩) 15 0 rfl rfl rfl rfl hl.1 rfl (Nat.le_of_ble_eq_true rfl) dX3_outOfDate_13 ⟨(Nat.le_of_ble_eq_true rfl), (Nat.le_of_ble_eq_true rfl)⟩ (fun E ce q9 H locs hx => False.elim hx) (fun v u H locs hp hP hD hS => ?_)
  obtain rfl := hp
  have hP : va_P D vwCl (dw cI cZ a X Y ++ (ppw cI cZ a X Y ++ (kq cI cZ cP b I V P ++ cw cI b I V))) H := hP
  have hD : va_D A (dw cI cZ a X Y ++ (ppw cI cZ a X Y ++ (kq cI cZ cP b I V P ++ cw cI b I V))) := hD
  exact q_iret B hr hP hD hS (u := ()) rfl rfl (Nat.le_of_ble_eq_true rfl) (Nat.le_of_ble_eq_true rfl) dX3_outOfDate_16
set_option maxHeartbeats 4000000 in
set_option maxRecDepth 100000 in
theorem c3_day (l : Launch) (D : va_G) (cI cZ cP : ClassId) (b : Nat → Nat) (I : Nat → Int32) (V : Nat → Nat → Int32) (P : Nat → Option Nat) : q_C l yX3_day wsX3_day ({ frames := 0, cells := 0, slots := 0, locals := 0 }) D cI cZ cP [.ref (b 0)] (kq cI cZ cP b I V P ++ cw cI b I V) (S := Unit) (fun v _ => v = some (.int (I 7))) (fun _ => kq cI cZ cP b I V P ++ cw cI b I V) (fun _ => False) 0 0 := by
  refine q_of (cc := cX3_day) (maxL := 1) (ret := (some .int)) (by decide +kernel) rfl (Nat.le_of_ble_eq_true rfl) ?_
  intro p e s m below meth c A ls B hr htb hmn hP hD hS hl
  have hl : lv_has ls 1 [(0, .ref (b 0))] := hl
  have hi3 : ∀ w ∈ u_ws RX3 TX3 8, w ∈ wsX3_day := by decide +kernel
  refine lv_aload_n B.hx B.hb dX3_day_0 rfl (lv_at hl 0 rfl) ?_
  refine q_get B hP (C := RX3) (ref := "PaperKeeper") (T := TX3) (N := 8) (ci := 3) hi3 rfl 0 rfl 7 (by decide) (by decide +kernel) rfl (v := .int (I 7)) rfl dX3_day_1 ?_
  exact q_iret B hr hP hD hS (u := ()) rfl rfl (Nat.le_of_ble_eq_true rfl) (Nat.le_of_ble_eq_true rfl) dX3_day_4
set_option maxHeartbeats 4000000 in
set_option maxRecDepth 100000 in
theorem c3_step (l : Launch) (D : va_G) (cI cZ cP : ClassId) (b : Nat → Nat) (I : Nat → Int32) (V : Nat → Nat → Int32) (P : Nat → Option Nat) (a : Nat → Nat) (X : Nat → Int32) (Y : Nat → Nat → Int32) (j : Nat) (hj : j < 8) (hpj : P j = some (a 0)) (n k : Nat) (hW : wd X Y n k) : q_C l yX3_step wsX3_step ({ frames := 2, cells := 0, slots := 0, locals := 42 }) D cI cZ cP [.ref (b 0), .int (nI j)] (dw cI cZ a X Y ++ (ppw cI cZ a X Y ++ (kq cI cZ cP b I V P ++ cw cI b I V))) (S := Unit) (fun v _ => v = some (.int (if X 2 = 0 then nI 0 else (stp n (dNR Y n) (dOR Y k) (X 10) (dNC Y))))) (fun _ => dw cI cZ a X Y ++ (ppw cI cZ a X Y ++ (kq cI cZ cP b I V P ++ cw cI b I V))) (fun _ => False) 0 0 := by
  refine q_of (cc := cX3_step) (maxL := 3) (ret := (some .int)) (by decide +kernel) rfl (Nat.le_of_ble_eq_true rfl) ?_
  intro p e s m below meth c A ls B hr htb hmn hP hD hS hl
  have hl : lv_has ls 3 [(0, .ref (b 0)), (1, .int (nI j))] := hl
  have hi2 : ∀ w ∈ u_ws RX2 TX2 9, w ∈ wsX3_step := by decide +kernel
  obtain ⟨hn, hn4, hm, hm4, hv⟩ := id hW
  refine lv_aload_n B.hx B.hb dX3_step_0 rfl (lv_at hl 0 rfl) ?_
  refine lv_iload_n B.hx B.hb dX3_step_1 rfl (lv_at hl 1 rfl) ?_
  refine q_callV (As := [.int (nI j)]) (rest := []) B hP hD hS ((c3_paperAt l D cI cZ cP b I V P j (a 0) hj hpj).fl2 (dw cI cZ a X Y) (ppw cI cZ a X Y)) (cwV 1 B.hts gX3_step_X3_paperAt rfl rfl rfl (by decide +kernel) ⟨(Nat.le_of_ble_eq_true rfl), (Nat.le_of_ble_eq_true rfl)⟩) 10 3 rfl rfl rfl rfl hl.1 rfl (Nat.le_of_ble_eq_true rfl) dX3_step_2 ⟨(Nat.le_of_ble_eq_true rfl), (Nat.le_of_ble_eq_true rfl)⟩ (fun E ce q9 H locs hx => False.elim hx) (fun v u H locs hp hP hD hS => ?_)
  obtain rfl := hp
  have hP : va_P D vwCl (dw cI cZ a X Y ++ (ppw cI cZ a X Y ++ (kq cI cZ cP b I V P ++ cw cI b I V))) H := hP
  have hD : va_D A (dw cI cZ a X Y ++ (ppw cI cZ a X Y ++ (kq cI cZ cP b I V P ++ cw cI b I V))) := hD
  refine lv_astore_n (lv' := [(2, .ref (a 0)), (0, .ref (b 0)), (1, .int (nI j))]) B.hx B.hb dX3_step_5 rfl hl (by decide) rfl (fun ls hl => ?_)
  refine lv_aload_n B.hx B.hb dX3_step_6 rfl (lv_at hl 0 rfl) ?_
  refine q_get B hP (C := RX2) (ref := "PaperKeeper$Paper") (T := TX2) (N := 9) (ci := 2) hi2 rfl 6 rfl 6 (by decide) (by decide +kernel) rfl (v := .int (X 2)) rfl dX3_step_7 ?_
  refine lv_if_eq (tgt := 23) B.hx B.hb dX3_step_10 (by decide) (fun c1 => ?_) (fun c1 => ?_)
  · refine lv_iconst (v := (nI 0)) B.hx B.hb dX3_step_23 (by decide) ?_
    exact q_iret B hr hP hD hS (u := ()) rfl (by rw [if_pos c1]) (Nat.le_of_ble_eq_true rfl) (Nat.le_of_ble_eq_true rfl) dX3_step_24
  · refine lv_aload_n B.hx B.hb dX3_step_13 rfl (lv_at hl 0 rfl) ?_
    refine q_get B hP (C := RX2) (ref := "PaperKeeper$Paper") (T := TX2) (N := 9) (ci := 2) hi2 rfl 6 rfl 2 (by decide) (by decide +kernel) rfl (v := .ref (a 2)) rfl dX3_step_14 ?_
    refine q_callV (As := []) (rest := []) B hP hD hS ((c1_nextStep l D cI cZ cP a X Y n k hW).fr (ppw cI cZ a X Y ++ (kq cI cZ cP b I V P ++ cw cI b I V))) (cwV 0 B.hts gX3_step_X1_nextStep rfl rfl rfl (by decide +kernel) ⟨(Nat.le_of_ble_eq_true rfl), (Nat.le_of_ble_eq_true rfl)⟩) 0 1 rfl rfl rfl rfl hl.1 rfl (Nat.le_of_ble_eq_true rfl) dX3_step_17 ⟨(Nat.le_of_ble_eq_true rfl), (Nat.le_of_ble_eq_true rfl)⟩ (fun E ce q9 H locs hx => False.elim hx) (fun v u H locs hp hP hD hS => ?_)
    obtain rfl := hp
    have hP : va_P D vwCl (dw cI cZ a X Y ++ (ppw cI cZ a X Y ++ (kq cI cZ cP b I V P ++ cw cI b I V))) H := hP
    have hD : va_D A (dw cI cZ a X Y ++ (ppw cI cZ a X Y ++ (kq cI cZ cP b I V P ++ cw cI b I V))) := hD
    refine lv_goto (tgt := 24) B.hx B.hb dX3_step_20 (by decide) ?_
    exact q_iret B hr hP hD hS (u := ()) rfl (by rw [if_neg c1]) (Nat.le_of_ble_eq_true rfl) (Nat.le_of_ble_eq_true rfl) dX3_step_24
set_option maxHeartbeats 4000000 in
set_option maxRecDepth 100000 in
theorem c3_waitsFor (l : Launch) (D : va_G) (cI cZ cP : ClassId) (b : Nat → Nat) (I : Nat → Int32) (V : Nat → Nat → Int32) (P : Nat → Option Nat) (a : Nat → Nat) (X : Nat → Int32) (Y : Nat → Nat → Int32) (j : Nat) (hj : j < 8) (hpj : P j = some (a 0)) (n k : Nat) (hW : wd X Y n k) : q_C l yX3_waitsFor wsX3_waitsFor ({ frames := 3, cells := 0, slots := 0, locals := 62 }) D cI cZ cP [.ref (b 0), .int (nI j)] (dw cI cZ a X Y ++ (ppw cI cZ a X Y ++ (kq cI cZ cP b I V P ++ cw cI b I V))) (S := Unit) (fun v _ => v = some (.int (if X 2 = 0 then -1 else prs (stp n (dNR Y n) (dOR Y k) (X 10) (dNC Y)) (dNR Y n) (X 5) (dNC Y)))) (fun _ => dw cI cZ a X Y ++ (ppw cI cZ a X Y ++ (kq cI cZ cP b I V P ++ cw cI b I V))) (fun _ => False) 0 0 := by
  refine q_of (cc := cX3_waitsFor) (maxL := 3) (ret := (some .int)) (by decide +kernel) rfl (Nat.le_of_ble_eq_true rfl) ?_
  intro p e s m below meth c A ls B hr htb hmn hP hD hS hl
  have hl : lv_has ls 3 [(0, .ref (b 0)), (1, .int (nI j))] := hl
  have hi2 : ∀ w ∈ u_ws RX2 TX2 9, w ∈ wsX3_waitsFor := by decide +kernel
  obtain ⟨hn, hn4, hm, hm4, hv⟩ := id hW
  refine lv_aload_n B.hx B.hb dX3_waitsFor_0 rfl (lv_at hl 0 rfl) ?_
  refine lv_iload_n B.hx B.hb dX3_waitsFor_1 rfl (lv_at hl 1 rfl) ?_
  refine q_callV (As := [.int (nI j)]) (rest := []) B hP hD hS ((c3_paperAt l D cI cZ cP b I V P j (a 0) hj hpj).fl2 (dw cI cZ a X Y) (ppw cI cZ a X Y)) (cwV 1 B.hts gX3_waitsFor_X3_paperAt rfl rfl rfl (by decide +kernel) ⟨(Nat.le_of_ble_eq_true rfl), (Nat.le_of_ble_eq_true rfl)⟩) 10 3 rfl rfl rfl rfl hl.1 rfl (Nat.le_of_ble_eq_true rfl) dX3_waitsFor_2 ⟨(Nat.le_of_ble_eq_true rfl), (Nat.le_of_ble_eq_true rfl)⟩ (fun E ce q9 H locs hx => False.elim hx) (fun v u H locs hp hP hD hS => ?_)
  obtain rfl := hp
  have hP : va_P D vwCl (dw cI cZ a X Y ++ (ppw cI cZ a X Y ++ (kq cI cZ cP b I V P ++ cw cI b I V))) H := hP
  have hD : va_D A (dw cI cZ a X Y ++ (ppw cI cZ a X Y ++ (kq cI cZ cP b I V P ++ cw cI b I V))) := hD
  refine lv_astore_n (lv' := [(2, .ref (a 0)), (0, .ref (b 0)), (1, .int (nI j))]) B.hx B.hb dX3_waitsFor_5 rfl hl (by decide) rfl (fun ls hl => ?_)
  refine lv_aload_n B.hx B.hb dX3_waitsFor_6 rfl (lv_at hl 0 rfl) ?_
  refine q_get B hP (C := RX2) (ref := "PaperKeeper$Paper") (T := TX2) (N := 9) (ci := 2) hi2 rfl 6 rfl 6 (by decide) (by decide +kernel) rfl (v := .int (X 2)) rfl dX3_waitsFor_7 ?_
  refine lv_if_eq (tgt := 23) B.hx B.hb dX3_waitsFor_10 (by decide) (fun c1 => ?_) (fun c1 => ?_)
  · refine lv_iconst (v := (-1)) B.hx B.hb dX3_waitsFor_23 (by decide) ?_
    exact q_iret B hr hP hD hS (u := ()) rfl (by rw [if_pos c1]) (Nat.le_of_ble_eq_true rfl) (Nat.le_of_ble_eq_true rfl) dX3_waitsFor_24
  · refine lv_aload_n B.hx B.hb dX3_waitsFor_13 rfl (lv_at hl 0 rfl) ?_
    refine q_get B hP (C := RX2) (ref := "PaperKeeper$Paper") (T := TX2) (N := 9) (ci := 2) hi2 rfl 6 rfl 2 (by decide) (by decide +kernel) rfl (v := .ref (a 2)) rfl dX3_waitsFor_14 ?_
    refine q_callV (As := []) (rest := []) B hP hD hS ((c1_nextPerson l D cI cZ cP a X Y n k hW).fr (ppw cI cZ a X Y ++ (kq cI cZ cP b I V P ++ cw cI b I V))) (cwV 0 B.hts gX3_waitsFor_X1_nextPerson rfl rfl rfl (by decide +kernel) ⟨(Nat.le_of_ble_eq_true rfl), (Nat.le_of_ble_eq_true rfl)⟩) 0 1 rfl rfl rfl rfl hl.1 rfl (Nat.le_of_ble_eq_true rfl) dX3_waitsFor_17 ⟨(Nat.le_of_ble_eq_true rfl), (Nat.le_of_ble_eq_true rfl)⟩ (fun E ce q9 H locs hx => False.elim hx) (fun v u H locs hp hP hD hS => ?_)
    obtain rfl := hp
    have hP : va_P D vwCl (dw cI cZ a X Y ++ (ppw cI cZ a X Y ++ (kq cI cZ cP b I V P ++ cw cI b I V))) H := hP
    have hD : va_D A (dw cI cZ a X Y ++ (ppw cI cZ a X Y ++ (kq cI cZ cP b I V P ++ cw cI b I V))) := hD
    refine lv_goto (tgt := 24) B.hx B.hb dX3_waitsFor_20 (by decide) ?_
    exact q_iret B hr hP hD hS (u := ()) rfl (by rw [if_neg c1]) (Nat.le_of_ble_eq_true rfl) (Nat.le_of_ble_eq_true rfl) dX3_waitsFor_24
set_option maxHeartbeats 4000000 in
set_option maxRecDepth 100000 in
theorem c3_inForce (l : Launch) (D : va_G) (cI cZ cP : ClassId) (b : Nat → Nat) (I : Nat → Int32) (V : Nat → Nat → Int32) (P : Nat → Option Nat) (a : Nat → Nat) (X : Nat → Int32) (Y : Nat → Nat → Int32) (j : Nat) (hj : j < 8) (hpj : P j = some (a 0)) (w : Nat) (hw1 : X 1 = nI w) (hw2 : w ≤ 128) : q_C l yX3_inForce wsX3_inForce ({ frames := 1, cells := 0, slots := 0, locals := 22 }) D cI cZ cP [.ref (b 0), .int (nI j)] (dw cI cZ a X Y ++ (ppw cI cZ a X Y ++ (kq cI cZ cP b I V P ++ cw cI b I V))) (S := Unit) (fun v _ => v = some (.int (vn w))) (fun _ => dw cI cZ a X Y ++ (ppw cI cZ a X Y ++ (kq cI cZ cP b I V P ++ cw cI b I V))) (fun _ => False) 0 0 := by
  refine q_of (cc := cX3_inForce) (maxL := 2) (ret := (some .int)) (by decide +kernel) rfl (Nat.le_of_ble_eq_true rfl) ?_
  intro p e s m below meth c A ls B hr htb hmn hP hD hS hl
  have hl : lv_has ls 2 [(0, .ref (b 0)), (1, .int (nI j))] := hl
  refine lv_aload_n B.hx B.hb dX3_inForce_0 rfl (lv_at hl 0 rfl) ?_
  refine lv_iload_n B.hx B.hb dX3_inForce_1 rfl (lv_at hl 1 rfl) ?_
  refine q_callV (As := [.int (nI j)]) (rest := []) B hP hD hS ((c3_paperAt l D cI cZ cP b I V P j (a 0) hj hpj).fl2 (dw cI cZ a X Y) (ppw cI cZ a X Y)) (cwV 1 B.hts gX3_inForce_X3_paperAt rfl rfl rfl (by decide +kernel) ⟨(Nat.le_of_ble_eq_true rfl), (Nat.le_of_ble_eq_true rfl)⟩) 10 3 rfl rfl rfl rfl hl.1 rfl (Nat.le_of_ble_eq_true rfl) dX3_inForce_2 ⟨(Nat.le_of_ble_eq_true rfl), (Nat.le_of_ble_eq_true rfl)⟩ (fun E ce q9 H locs hx => False.elim hx) (fun v u H locs hp hP hD hS => ?_)
  obtain rfl := hp
  have hP : va_P D vwCl (dw cI cZ a X Y ++ (ppw cI cZ a X Y ++ (kq cI cZ cP b I V P ++ cw cI b I V))) H := hP
  have hD : va_D A (dw cI cZ a X Y ++ (ppw cI cZ a X Y ++ (kq cI cZ cP b I V P ++ cw cI b I V))) := hD
  refine q_callV (As := []) (rest := []) B hP hD hS ((c2_newest l D cI cZ cP a X Y w hw1).fr2 (kq cI cZ cP b I V P ++ cw cI b I V)) (cwV 0 B.hts gX3_inForce_X2_newest rfl rfl rfl (by decide +kernel) ⟨(Nat.le_of_ble_eq_true rfl), (Nat.le_of_ble_eq_true rfl)⟩) 6 2 rfl rfl rfl rfl hl.1 rfl (Nat.le_of_ble_eq_true rfl) dX3_inForce_5 ⟨(Nat.le_of_ble_eq_true rfl), (Nat.le_of_ble_eq_true rfl)⟩ (fun E ce q9 H locs hx => False.elim hx) (fun v u H locs hp hP hD hS => ?_)
  obtain rfl := hp
  have hP : va_P D vwCl (dw cI cZ a X Y ++ (ppw cI cZ a X Y ++ (kq cI cZ cP b I V P ++ cw cI b I V))) H := hP
  have hD : va_D A (dw cI cZ a X Y ++ (ppw cI cZ a X Y ++ (kq cI cZ cP b I V P ++ cw cI b I V))) := hD
  exact q_iret B hr hP hD hS (u := ()) rfl rfl (Nat.le_of_ble_eq_true rfl) (Nat.le_of_ble_eq_true rfl) dX3_inForce_8
set_option maxHeartbeats 4000000 in
set_option maxRecDepth 100000 in
theorem c3_text (l : Launch) (D : va_G) (cI cZ cP : ClassId) (b : Nat → Nat) (I : Nat → Int32) (V : Nat → Nat → Int32) (P : Nat → Option Nat) (a : Nat → Nat) (X : Nat → Int32) (Y : Nat → Nat → Int32) (j : Nat) (hj : j < 8) (hpj : P j = some (a 0)) (w : Nat) (hw1 : X 1 = nI w) (hw2 : w ≤ 128) : q_C l yX3_text wsX3_text ({ frames := 1, cells := 0, slots := 0, locals := 22 }) D cI cZ cP [.ref (b 0), .int (nI j)] (dw cI cZ a X Y ++ (ppw cI cZ a X Y ++ (kq cI cZ cP b I V P ++ cw cI b I V))) (S := Unit) (fun v _ => v = some (.int (if w = 0 then -1 else Y 6 (w - 1)))) (fun _ => dw cI cZ a X Y ++ (ppw cI cZ a X Y ++ (kq cI cZ cP b I V P ++ cw cI b I V))) (fun _ => False) 0 0 := by
  refine q_of (cc := cX3_text) (maxL := 4) (ret := (some .int)) (by decide +kernel) rfl (Nat.le_of_ble_eq_true rfl) ?_
  intro p e s m below meth c A ls B hr htb hmn hP hD hS hl
  have hl : lv_has ls 4 [(0, .ref (b 0)), (1, .int (nI j))] := hl
  have hi2 : ∀ w ∈ u_ws RX2 TX2 9, w ∈ wsX3_text := by decide +kernel
  refine lv_aload_n B.hx B.hb dX3_text_0 rfl (lv_at hl 0 rfl) ?_
  refine lv_iload_n B.hx B.hb dX3_text_1 rfl (lv_at hl 1 rfl) ?_
  refine q_callV (As := [.int (nI j)]) (rest := []) B hP hD hS ((c3_paperAt l D cI cZ cP b I V P j (a 0) hj hpj).fl2 (dw cI cZ a X Y) (ppw cI cZ a X Y)) (cwV 1 B.hts gX3_text_X3_paperAt rfl rfl rfl (by decide +kernel) ⟨(Nat.le_of_ble_eq_true rfl), (Nat.le_of_ble_eq_true rfl)⟩) 10 3 rfl rfl rfl rfl hl.1 rfl (Nat.le_of_ble_eq_true rfl) dX3_text_2 ⟨(Nat.le_of_ble_eq_true rfl), (Nat.le_of_ble_eq_true rfl)⟩ (fun E ce q9 H locs hx => False.elim hx) (fun v u H locs hp hP hD hS => ?_)
  obtain rfl := hp
  have hP : va_P D vwCl (dw cI cZ a X Y ++ (ppw cI cZ a X Y ++ (kq cI cZ cP b I V P ++ cw cI b I V))) H := hP
  have hD : va_D A (dw cI cZ a X Y ++ (ppw cI cZ a X Y ++ (kq cI cZ cP b I V P ++ cw cI b I V))) := hD
  refine lv_astore_n (lv' := [(2, .ref (a 0)), (0, .ref (b 0)), (1, .int (nI j))]) B.hx B.hb dX3_text_5 rfl hl (by decide) rfl (fun ls hl => ?_)
  refine lv_aload_n B.hx B.hb dX3_text_6 rfl (lv_at hl 0 rfl) ?_
  refine q_callV (As := []) (rest := []) B hP hD hS ((c2_newest l D cI cZ cP a X Y w hw1).fr2 (kq cI cZ cP b I V P ++ cw cI b I V)) (cwV 0 B.hts gX3_text_X2_newest rfl rfl rfl (by decide +kernel) ⟨(Nat.le_of_ble_eq_true rfl), (Nat.le_of_ble_eq_true rfl)⟩) 6 2 rfl rfl rfl rfl hl.1 rfl (Nat.le_of_ble_eq_true rfl) dX3_text_7 ⟨(Nat.le_of_ble_eq_true rfl), (Nat.le_of_ble_eq_true rfl)⟩ (fun E ce q9 H locs hx => False.elim hx) (fun v u H locs hp hP hD hS => ?_)
  obtain rfl := hp
  have hP : va_P D vwCl (dw cI cZ a X Y ++ (ppw cI cZ a X Y ++ (kq cI cZ cP b I V P ++ cw cI b I V))) H := hP
  have hD : va_D A (dw cI cZ a X Y ++ (ppw cI cZ a X Y ++ (kq cI cZ cP b I V P ++ cw cI b I V))) := hD
  refine lv_istore_n (lv' := [(3, .int (vn w)), (2, .ref (a 0)), (0, .ref (b 0)), (1, .int (nI j))]) B.hx B.hb dX3_text_10 rfl hl (by decide) rfl (fun ls hl => ?_)
  refine lv_iload_n B.hx B.hb dX3_text_11 rfl (lv_at hl 0 rfl) ?_
  cases w with
  | zero =>
    have hl : lv_has ls 4 [(3, .int (-1)), (2, .ref (a 0)), (0, .ref (b 0)), (1, .int (nI j))] := hl
    refine q_top (v2 := .int (-1)) rfl ?_
    refine lv_if_ge (tgt := 19) B.hx B.hb dX3_text_12 (by decide) (fun c1 => absurd c1 (by decide)) (fun _ => ?_)
    refine lv_iconst (v := (-1)) B.hx B.hb dX3_text_15 (by decide) ?_
    refine lv_goto (tgt := 25) B.hx B.hb dX3_text_16 (by decide) ?_
    exact q_iret B hr hP hD hS (u := ()) rfl rfl (Nat.le_of_ble_eq_true rfl) (Nat.le_of_ble_eq_true rfl) dX3_text_25
  | succ k =>
    have hl : lv_has ls 4 [(3, .int (nI k)), (2, .ref (a 0)), (0, .ref (b 0)), (1, .int (nI j))] := hl
    refine q_top (v2 := .int (nI k)) rfl ?_
    refine lv_if_ge (tgt := 19) B.hx B.hb dX3_text_12 (by decide) (fun _ => ?_) (fun c2 => absurd (nI_pos' (by omega)) c2)
    refine lv_aload_n B.hx B.hb dX3_text_19 rfl (lv_at hl 1 rfl) ?_
    refine q_get B hP (C := RX2) (ref := "PaperKeeper$Paper") (T := TX2) (N := 9) (ci := 2) hi2 rfl 6 rfl 3 (by decide) (by decide +kernel) rfl (v := .ref (a 8)) rfl dX3_text_20 ?_
    refine lv_iload_n B.hx B.hb dX3_text_23 rfl (lv_at hl 0 rfl) ?_
    refine q_iald B hP 8 rfl (j := k) rfl (by omega) (by decide) dX3_text_24 ?_
    exact q_iret B hr hP hD hS (u := ()) rfl rfl (Nat.le_of_ble_eq_true rfl) (Nat.le_of_ble_eq_true rfl) dX3_text_25
set_option maxHeartbeats 4000000 in
set_option maxRecDepth 100000 in
theorem c3_inForceOn (l : Launch) (hfl : l.stackTraces = false) (D : va_G) (cI cZ cP : ClassId) (b : Nat → Nat) (I : Nat → Int32) (V : Nat → Nat → Int32) (P : Nat → Option Nat) (a : Nat → Nat) (X : Nat → Int32) (Y : Nat → Nat → Int32) (j : Nat) (hj : j < 8) (hpj : P j = some (a 0)) (w : Nat) (hw1 : X 1 = nI w) (hw2 : w ≤ 128) (y : Int32) : q_C l yX3_inForceOn wsX3_inForceOn ({ frames := 7, cells := 1, slots := 6, locals := 104 }) D cI cZ cP [.ref (b 0), .int (nI j), .int y] (dw cI cZ a X Y ++ (ppw cI cZ a X Y ++ (kq cI cZ cP b I V P ++ cw cI b I V))) (S := Unit) (fun v _ => v = some (.int (pL (fun i => decide (¬ y < Y 7 i)) nI w)) ∧ kInForceOn y (I 7) = 0) (fun _ => dw cI cZ a X Y ++ (ppw cI cZ a X Y ++ (kq cI cZ cP b I V P ++ cw cI b I V))) (fun E => E = q_IAE ∧ kInForceOn y (I 7) = 2) 1 6 := by
  refine q_of (cc := cX3_inForceOn) (maxL := 4) (ret := (some .int)) (by decide +kernel) rfl (Nat.le_of_ble_eq_true rfl) ?_
  intro p e s m below meth c A ls B hr htb hmn hP hD hS hl
  have hl : lv_has ls 4 [(0, .ref (b 0)), (1, .int (nI j)), (2, .int y)] := hl
  have hi3 : ∀ w ∈ u_ws RX3 TX3 8, w ∈ wsX3_inForceOn := by decide +kernel
  refine lv_aload_n B.hx B.hb dX3_inForceOn_0 rfl (lv_at hl 0 rfl) ?_
  refine lv_iload_n B.hx B.hb dX3_inForceOn_1 rfl (lv_at hl 1 rfl) ?_
  refine q_callV (As := [.int (nI j)]) (rest := []) B hP hD hS ((c3_paperAt l D cI cZ cP b I V P j (a 0) hj hpj).fl2 (dw cI cZ a X Y) (ppw cI cZ a X Y)) (cwV 1 B.hts gX3_inForceOn_X3_paperAt rfl rfl rfl (by decide +kernel) ⟨(Nat.le_of_ble_eq_true rfl), (Nat.le_of_ble_eq_true rfl)⟩) 10 3 rfl rfl rfl rfl hl.1 rfl (Nat.le_of_ble_eq_true rfl) dX3_inForceOn_2 ⟨(Nat.le_of_ble_eq_true rfl), (Nat.le_of_ble_eq_true rfl)⟩ (fun E ce q9 H locs hx => False.elim hx) (fun v u H locs hp hP hD hS => ?_)
  obtain rfl := hp
  have hP : va_P D vwCl (dw cI cZ a X Y ++ (ppw cI cZ a X Y ++ (kq cI cZ cP b I V P ++ cw cI b I V))) H := hP
  have hD : va_D A (dw cI cZ a X Y ++ (ppw cI cZ a X Y ++ (kq cI cZ cP b I V P ++ cw cI b I V))) := hD
  refine lv_astore_n (lv' := [(3, .ref (a 0)), (0, .ref (b 0)), (1, .int (nI j)), (2, .int y)]) B.hx B.hb dX3_inForceOn_5 rfl hl (by decide) rfl (fun ls hl => ?_)
  refine lv_iload_n B.hx B.hb dX3_inForceOn_6 rfl (lv_at hl 3 rfl) ?_
  refine lv_iconst (v := (nI 0)) B.hx B.hb dX3_inForceOn_7 (by decide) ?_
  refine lv_aload_n B.hx B.hb dX3_inForceOn_8 rfl (lv_at hl 1 rfl) ?_
  refine q_get B hP (C := RX3) (ref := "PaperKeeper") (T := TX3) (N := 8) (ci := 3) hi3 rfl 10 rfl 7 (by decide) (by decide +kernel) rfl (v := .int (I 7)) rfl dX3_inForceOn_9 ?_
  refine q_callS (As := [.int y, .int (nI 0), .int (I 7)]) (rest := []) B hP hD hS ((c3_checkRange l hfl D cI cZ cP y (nI 0) (I 7)).fr0 (dw cI cZ a X Y ++ (ppw cI cZ a X Y ++ (kq cI cZ cP b I V P ++ cw cI b I V)))) (cwS 3 B.hts gX3_inForceOn_X3_checkRange rfl rfl rfl (by decide +kernel) ⟨(Nat.le_of_ble_eq_true rfl), (Nat.le_of_ble_eq_true rfl)⟩) rfl hl.1 rfl (Nat.le_of_ble_eq_true rfl) dX3_inForceOn_12 ⟨(Nat.le_of_ble_eq_true rfl), (Nat.le_of_ble_eq_true rfl)⟩ (fun E ce q9 H locs hx hP hS hce hcv hcl => ?_) (fun v u H locs hp hP hD hS => ?_)
  · exact q_xout B htb hP hS hce hcv hcl ⟨hx.1, by simp [kInForceOn, hx.2]⟩ (Nat.le_of_ble_eq_true rfl) (Nat.le_of_ble_eq_true rfl)
  · obtain ⟨rfl, hrg0⟩ := hp
    have hP : va_P D vwCl (dw cI cZ a X Y ++ (ppw cI cZ a X Y ++ (kq cI cZ cP b I V P ++ cw cI b I V))) H := hP
    have hD : va_D A (dw cI cZ a X Y ++ (ppw cI cZ a X Y ++ (kq cI cZ cP b I V P ++ cw cI b I V))) := hD
    refine lv_aload_n B.hx B.hb dX3_inForceOn_15 rfl (lv_at hl 0 rfl) ?_
    refine lv_iload_n B.hx B.hb dX3_inForceOn_16 rfl (lv_at hl 3 rfl) ?_
    refine q_callV (As := [.int y]) (rest := []) B hP hD hS ((c2_versionOn l D cI cZ cP a X Y w hw1 hw2 y).fr2 (kq cI cZ cP b I V P ++ cw cI b I V)) (cwV 1 B.hts gX3_inForceOn_X2_versionOn rfl rfl rfl (by decide +kernel) ⟨(Nat.le_of_ble_eq_true rfl), (Nat.le_of_ble_eq_true rfl)⟩) 6 2 rfl rfl rfl rfl hl.1 rfl (Nat.le_of_ble_eq_true rfl) dX3_inForceOn_17 ⟨(Nat.le_of_ble_eq_true rfl), (Nat.le_of_ble_eq_true rfl)⟩ (fun E ce q9 H locs hx => False.elim hx) (fun v u H locs hp hP hD hS => ?_)
    obtain rfl := hp
    have hP : va_P D vwCl (dw cI cZ a X Y ++ (ppw cI cZ a X Y ++ (kq cI cZ cP b I V P ++ cw cI b I V))) H := hP
    have hD : va_D A (dw cI cZ a X Y ++ (ppw cI cZ a X Y ++ (kq cI cZ cP b I V P ++ cw cI b I V))) := hD
    exact q_iret B hr hP hD hS (u := ()) rfl ⟨rfl, by simp [kInForceOn, hrg0]⟩ (Nat.le_of_ble_eq_true rfl) (Nat.le_of_ble_eq_true rfl) dX3_inForceOn_20
set_option maxHeartbeats 4000000 in
set_option maxRecDepth 100000 in
theorem c3_since (l : Launch) (hfl : l.stackTraces = false) (D : va_G) (cI cZ cP : ClassId) (b : Nat → Nat) (I : Nat → Int32) (V : Nat → Nat → Int32) (P : Nat → Option Nat) (a : Nat → Nat) (X : Nat → Int32) (Y : Nat → Nat → Int32) (j : Nat) (hj : j < 8) (hpj : P j = some (a 0)) (w : Nat) (hw1 : X 1 = nI w) (hw2 : w ≤ 128) (y : Int32) : q_C l yX3_since wsX3_since ({ frames := 6, cells := 1, slots := 6, locals := 82 }) D cI cZ cP [.ref (b 0), .int (nI j), .int y] (dw cI cZ a X Y ++ (ppw cI cZ a X Y ++ (kq cI cZ cP b I V P ++ cw cI b I V))) (S := Unit) (fun v _ => v = some (.int (Y 7 (ix y))) ∧ kSince y w = 0) (fun _ => dw cI cZ a X Y ++ (ppw cI cZ a X Y ++ (kq cI cZ cP b I V P ++ cw cI b I V))) (fun E => E = q_IOB ∧ kSince y w = 1) 1 6 := by
  refine q_of (cc := cX3_since) (maxL := 4) (ret := (some .int)) (by decide +kernel) rfl (Nat.le_of_ble_eq_true rfl) ?_
  intro p e s m below meth c A ls B hr htb hmn hP hD hS hl
  have hl : lv_has ls 4 [(0, .ref (b 0)), (1, .int (nI j)), (2, .int y)] := hl
  have hi2 : ∀ w ∈ u_ws RX2 TX2 9, w ∈ wsX3_since := by decide +kernel
  refine lv_aload_n B.hx B.hb dX3_since_0 rfl (lv_at hl 0 rfl) ?_
  refine lv_iload_n B.hx B.hb dX3_since_1 rfl (lv_at hl 1 rfl) ?_
  refine q_callV (As := [.int (nI j)]) (rest := []) B hP hD hS ((c3_paperAt l D cI cZ cP b I V P j (a 0) hj hpj).fl2 (dw cI cZ a X Y) (ppw cI cZ a X Y)) (cwV 1 B.hts gX3_since_X3_paperAt rfl rfl rfl (by decide +kernel) ⟨(Nat.le_of_ble_eq_true rfl), (Nat.le_of_ble_eq_true rfl)⟩) 10 3 rfl rfl rfl rfl hl.1 rfl (Nat.le_of_ble_eq_true rfl) dX3_since_2 ⟨(Nat.le_of_ble_eq_true rfl), (Nat.le_of_ble_eq_true rfl)⟩ (fun E ce q9 H locs hx => False.elim hx) (fun v u H locs hp hP hD hS => ?_)
  obtain rfl := hp
  have hP : va_P D vwCl (dw cI cZ a X Y ++ (ppw cI cZ a X Y ++ (kq cI cZ cP b I V P ++ cw cI b I V))) H := hP
  have hD : va_D A (dw cI cZ a X Y ++ (ppw cI cZ a X Y ++ (kq cI cZ cP b I V P ++ cw cI b I V))) := hD
  refine lv_astore_n (lv' := [(3, .ref (a 0)), (0, .ref (b 0)), (1, .int (nI j)), (2, .int y)]) B.hx B.hb dX3_since_5 rfl hl (by decide) rfl (fun ls hl => ?_)
  refine lv_iload_n B.hx B.hb dX3_since_6 rfl (lv_at hl 3 rfl) ?_
  refine lv_if_lt (tgt := 18) B.hx B.hb dX3_since_7 (by decide) (fun c1 => ?_) (fun c1 => ?_)
  · exact q_throw B hfl htb hP hS q_E_IOB (goodIn_app (goodIn_of [_, _] (by decide +kernel)) (goodIn_sub (fun w h => List.mem_cons_of_mem _ (List.mem_append_right _ h)) q_allg_IOB)) (List.mem_of_getElem? (i := 20) rfl) hl.1 dX3_since_18 dX3_since_21 dX3_since_22 dX3_since_24 dX3_since_27 ⟨(Nat.le_of_ble_eq_true rfl), (Nat.le_of_ble_eq_true rfl), (Nat.le_of_ble_eq_true rfl), (Nat.le_of_ble_eq_true rfl)⟩ ⟨rfl, by simp [kSince, inr, c1]⟩ (Nat.le_of_ble_eq_true rfl) (Nat.le_of_ble_eq_true rfl)
  · refine lv_iload_n B.hx B.hb dX3_since_10 rfl (lv_at hl 3 rfl) ?_
    refine lv_aload_n B.hx B.hb dX3_since_11 rfl (lv_at hl 0 rfl) ?_
    refine q_get B hP (C := RX2) (ref := "PaperKeeper$Paper") (T := TX2) (N := 9) (ci := 2) hi2 rfl 6 rfl 5 (by decide) (by decide +kernel) rfl (v := .int (X 1)) rfl dX3_since_12 ?_
    refine q_top (v2 := .int (nI w)) (congrArg Value.int hw1) ?_
    refine lv_icmp_lt (tgt := 28) B.hx B.hb dX3_since_15 (by decide) (fun c2 => ?_) (fun c2 => ?_)
    · obtain ⟨jy, hjjy, rfl⟩ := inr_of (n := w) (by omega) c1 c2
      have hixjy : ix (nI jy) = jy := ix_nI (by omega)
      refine lv_aload_n B.hx B.hb dX3_since_28 rfl (lv_at hl 0 rfl) ?_
      refine q_get B hP (C := RX2) (ref := "PaperKeeper$Paper") (T := TX2) (N := 9) (ci := 2) hi2 rfl 6 rfl 4 (by decide) (by decide +kernel) rfl (v := .ref (a 9)) rfl dX3_since_29 ?_
      refine lv_iload_n B.hx B.hb dX3_since_32 rfl (lv_at hl 3 rfl) ?_
      refine q_iald B hP 9 rfl (j := jy) rfl (by omega) (by decide) dX3_since_33 ?_
      exact q_iret B hr hP hD hS (u := ()) (by simp only [hixjy]) ⟨by rw [hixjy], by simp [kSince, inr, c1, c2, hixjy]⟩ (Nat.le_of_ble_eq_true rfl) (Nat.le_of_ble_eq_true rfl) dX3_since_34
    · exact q_throw B hfl htb hP hS q_E_IOB (goodIn_app (goodIn_of [_, _] (by decide +kernel)) (goodIn_sub (fun w h => List.mem_cons_of_mem _ (List.mem_append_right _ h)) q_allg_IOB)) (List.mem_of_getElem? (i := 20) rfl) hl.1 dX3_since_18 dX3_since_21 dX3_since_22 dX3_since_24 dX3_since_27 ⟨(Nat.le_of_ble_eq_true rfl), (Nat.le_of_ble_eq_true rfl), (Nat.le_of_ble_eq_true rfl), (Nat.le_of_ble_eq_true rfl)⟩ ⟨rfl, by simp [kSince, inr, c1, c2]⟩ (Nat.le_of_ble_eq_true rfl) (Nat.le_of_ble_eq_true rfl)
set_option maxHeartbeats 4000000 in
set_option maxRecDepth 100000 in
theorem c3_hang (l : Launch) (hfl : l.stackTraces = false) (D : va_G) (cI cZ cP : ClassId) (b : Nat → Nat) (I : Nat → Int32) (V : Nat → Nat → Int32) (P : Nat → Option Nat) (a : Nat → Nat) (X : Nat → Int32) (Y : Nat → Nat → Int32) (j : Nat) (hj : j < 8) (hpj : P j = some (a 0)) (o r : Nat) (ho : o < 8) (hpo : P o = some r) : q_C l yX3_hang wsX3_hang ({ frames := 6, cells := 1, slots := 6, locals := 82 }) D cI cZ cP [.ref (b 0), .int (nI j), .int (nI o)] (dw cI cZ a X Y ++ (ppw cI cZ a X Y ++ (kq cI cZ cP b I V P ++ cw cI b I V))) (S := Unit) (fun v _ => v = some (.int (nI (pN (fun i => decide (¬ (upd (Y 0) o (nI 1)) i = 0)) 8))) ∧ kHang (nI j) (nI o) = 0) (fun _ => dw cI cZ a X (va_up Y 0 (upd (Y 0) o (nI 1))) ++ (ppw cI cZ a X (va_up Y 0 (upd (Y 0) o (nI 1))) ++ (kq cI cZ cP b I V P ++ cw cI b I V))) (fun E => E = q_IAE ∧ kHang (nI j) (nI o) = 2) 1 6 := by
  refine q_of (cc := cX3_hang) (maxL := 4) (ret := (some .int)) (by decide +kernel) rfl (Nat.le_of_ble_eq_true rfl) ?_
  intro p e s m below meth c A ls B hr htb hmn hP hD hS hl
  have hl : lv_has ls 4 [(0, .ref (b 0)), (1, .int (nI j)), (2, .int (nI o))] := hl
  have hi2 : ∀ w ∈ u_ws RX2 TX2 9, w ∈ wsX3_hang := by decide +kernel
  refine lv_aload_n B.hx B.hb dX3_hang_0 rfl (lv_at hl 0 rfl) ?_
  refine lv_iload_n B.hx B.hb dX3_hang_1 rfl (lv_at hl 1 rfl) ?_
  refine q_callV (As := [.int (nI j)]) (rest := []) B hP hD hS ((c3_paperAt l D cI cZ cP b I V P j (a 0) hj hpj).fl2 (dw cI cZ a X Y) (ppw cI cZ a X Y)) (cwV 1 B.hts gX3_hang_X3_paperAt rfl rfl rfl (by decide +kernel) ⟨(Nat.le_of_ble_eq_true rfl), (Nat.le_of_ble_eq_true rfl)⟩) 10 3 rfl rfl rfl rfl hl.1 rfl (Nat.le_of_ble_eq_true rfl) dX3_hang_2 ⟨(Nat.le_of_ble_eq_true rfl), (Nat.le_of_ble_eq_true rfl)⟩ (fun E ce q9 H locs hx => False.elim hx) (fun v u H locs hp hP hD hS => ?_)
  obtain rfl := hp
  have hP : va_P D vwCl (dw cI cZ a X Y ++ (ppw cI cZ a X Y ++ (kq cI cZ cP b I V P ++ cw cI b I V))) H := hP
  have hD : va_D A (dw cI cZ a X Y ++ (ppw cI cZ a X Y ++ (kq cI cZ cP b I V P ++ cw cI b I V))) := hD
  refine lv_astore_n (lv' := [(3, .ref (a 0)), (0, .ref (b 0)), (1, .int (nI j)), (2, .int (nI o))]) B.hx B.hb dX3_hang_5 rfl hl (by decide) rfl (fun ls hl => ?_)
  refine lv_aload_n B.hx B.hb dX3_hang_6 rfl (lv_at hl 1 rfl) ?_
  refine lv_iload_n B.hx B.hb dX3_hang_7 rfl (lv_at hl 3 rfl) ?_
  refine q_callV (As := [.int (nI o)]) (rest := []) B hP hD hS ((c3_paperAt l D cI cZ cP b I V P o r ho hpo).fl2 (dw cI cZ a X Y) (ppw cI cZ a X Y)) (cwV 1 B.hts gX3_hang_X3_paperAt rfl rfl rfl (by decide +kernel) ⟨(Nat.le_of_ble_eq_true rfl), (Nat.le_of_ble_eq_true rfl)⟩) 10 3 rfl rfl rfl rfl hl.1 rfl (Nat.le_of_ble_eq_true rfl) dX3_hang_8 ⟨(Nat.le_of_ble_eq_true rfl), (Nat.le_of_ble_eq_true rfl)⟩ (fun E ce q9 H locs hx => False.elim hx) (fun v u H locs hp hP hD hS => ?_)
  obtain rfl := hp
  have hP : va_P D vwCl (dw cI cZ a X Y ++ (ppw cI cZ a X Y ++ (kq cI cZ cP b I V P ++ cw cI b I V))) H := hP
  have hD : va_D A (dw cI cZ a X Y ++ (ppw cI cZ a X Y ++ (kq cI cZ cP b I V P ++ cw cI b I V))) := hD
  refine lv_pop B.hx B.hb dX3_hang_11 rfl ?_
  refine lv_iload_n B.hx B.hb dX3_hang_12 rfl (lv_at hl 2 rfl) ?_
  refine lv_iload_n B.hx B.hb dX3_hang_13 rfl (lv_at hl 3 rfl) ?_
  refine lv_icmp_ne (tgt := 27) B.hx B.hb dX3_hang_14 (by decide) (fun c1 => ?_) (fun c1 => ?_)
  · replace c1 := mt (nI_eq (by omega) (by omega)).mpr c1
    have hne : ¬ nI j = nI o := mt (nI_eq (by omega) (by omega)).mp c1
    refine lv_aload_n B.hx B.hb dX3_hang_27 rfl (lv_at hl 0 rfl) ?_
    refine q_get B hP (C := RX2) (ref := "PaperKeeper$Paper") (T := TX2) (N := 9) (ci := 2) hi2 rfl 6 rfl 1 (by decide) (by decide +kernel) rfl (v := .ref (a 1)) rfl dX3_hang_28 ?_
    refine lv_iload_n B.hx B.hb dX3_hang_31 rfl (lv_at hl 3 rfl) ?_
    refine lv_iconst (v := (nI 1)) B.hx B.hb dX3_hang_32 (by decide) ?_
    refine q_zast B hP hD hS 7 rfl (j := o) rfl (by omega) (by decide) (by decide) dX3_hang_33 (w' := dw cI cZ a X (va_up Y 0 (upd (Y 0) o (nI 1))) ++ (ppw cI cZ a X (va_up Y 0 (upd (Y 0) o (nI 1))) ++ (kq cI cZ cP b I V P ++ cw cI b I V))) rfl (fun H locs hP hD hS => ?_)
    refine lv_aload_n B.hx B.hb dX3_hang_34 rfl (lv_at hl 0 rfl) ?_
    refine q_get B hP (C := RX2) (ref := "PaperKeeper$Paper") (T := TX2) (N := 9) (ci := 2) hi2 rfl 6 rfl 1 (by decide) (by decide +kernel) rfl (v := .ref (a 1)) rfl dX3_hang_35 ?_
    refine q_callS (As := [.ref (a 1)]) (rest := []) B hP hD hS (c3_countOf l D cI cZ cP (dw cI cZ a X (va_up Y 0 (upd (Y 0) o (nI 1))) ++ (ppw cI cZ a X (va_up Y 0 (upd (Y 0) o (nI 1))) ++ (kq cI cZ cP b I V P ++ cw cI b I V))) 7 (a 1) 8 (upd (Y 0) o (nI 1)) rfl (by decide)) (cwS 1 B.hts gX3_hang_X3_countOf rfl rfl rfl (by decide +kernel) ⟨(Nat.le_of_ble_eq_true rfl), (Nat.le_of_ble_eq_true rfl)⟩) rfl hl.1 rfl (Nat.le_of_ble_eq_true rfl) dX3_hang_38 ⟨(Nat.le_of_ble_eq_true rfl), (Nat.le_of_ble_eq_true rfl)⟩ (fun E ce q9 H locs hx => False.elim hx) (fun v u H locs hp hP hD hS => ?_)
    obtain rfl := hp
    have hP : va_P D vwCl (dw cI cZ a X (va_up Y 0 (upd (Y 0) o (nI 1))) ++ (ppw cI cZ a X (va_up Y 0 (upd (Y 0) o (nI 1))) ++ (kq cI cZ cP b I V P ++ cw cI b I V))) H := hP
    have hD : va_D A (dw cI cZ a X (va_up Y 0 (upd (Y 0) o (nI 1))) ++ (ppw cI cZ a X (va_up Y 0 (upd (Y 0) o (nI 1))) ++ (kq cI cZ cP b I V P ++ cw cI b I V))) := hD
    exact q_iret B hr hP hD hS (u := ()) rfl ⟨rfl, by simp [kHang, c1, hne]⟩ (Nat.le_of_ble_eq_true rfl) (Nat.le_of_ble_eq_true rfl) dX3_hang_41
  · replace c1 := (nI_eq (by omega) (by omega)).mp c1
    exact q_throw B hfl htb hP hS q_E_IAE (goodIn_app (goodIn_of [_, _] (by decide +kernel)) (goodIn_sub (fun w h => List.mem_cons_of_mem _ (List.mem_append_left _ (List.mem_append_right _ h))) q_allg_IAE)) (List.mem_of_getElem? (i := 2) rfl) hl.1 dX3_hang_17 dX3_hang_20 dX3_hang_21 dX3_hang_23 dX3_hang_26 ⟨(Nat.le_of_ble_eq_true rfl), (Nat.le_of_ble_eq_true rfl), (Nat.le_of_ble_eq_true rfl), (Nat.le_of_ble_eq_true rfl)⟩ ⟨rfl, by simp [kHang, c1]⟩ (Nat.le_of_ble_eq_true rfl) (Nat.le_of_ble_eq_true rfl)
set_option maxHeartbeats 4000000 in
set_option maxRecDepth 100000 in
theorem c3_draft_no (l : Launch) (hfl : l.stackTraces = false) (D : va_G) (cI cZ cP : ClassId) (b : Nat → Nat) (I : Nat → Int32) (V : Nat → Nat → Int32) (P : Nat → Option Nat) (x y z : Int32) (hno : nop P x) : q_C l yX3_draft wsX3_draft ({ frames := 7, cells := 1, slots := 6, locals := 104 }) D cI cZ cP [.ref (b 0), .int x, .int y, .int z] (kq cI cZ cP b I V P ++ cw cI b I V) (S := Unit) (fun _ _ => False) (fun _ => kq cI cZ cP b I V P ++ cw cI b I V) (fun E => E = q_IOB) 1 6 := by
  refine q_of (cc := cX3_draft) (maxL := 5) (ret := none) (by decide +kernel) rfl (Nat.le_of_ble_eq_true rfl) ?_
  intro p e s m below meth c A ls B hr htb hmn hP hD hS hl
  have hl : lv_has ls 5 [(0, .ref (b 0)), (1, .int x), (2, .int y), (3, .int z)] := hl
  refine lv_aload_n B.hx B.hb dX3_draft_0 rfl (lv_at hl 0 rfl) ?_
  refine lv_iload_n B.hx B.hb dX3_draft_1 rfl (lv_at hl 1 rfl) ?_
  refine q_callV (As := [.int x]) (rest := []) B hP hD hS (c3_paperAt_no l hfl D cI cZ cP b I V P x hno) (cwV 1 B.hts gX3_draft_X3_paperAt rfl rfl rfl (by decide +kernel) ⟨(Nat.le_of_ble_eq_true rfl), (Nat.le_of_ble_eq_true rfl)⟩) 0 3 rfl rfl rfl rfl hl.1 rfl (Nat.le_of_ble_eq_true rfl) dX3_draft_2 ⟨(Nat.le_of_ble_eq_true rfl), (Nat.le_of_ble_eq_true rfl)⟩ (fun E ce q9 H locs hx hP hS hce hcv hcl => ?_) (fun v u H locs hp hP hD hS => ?_)
  · exact q_xout B htb hP hS hce hcv hcl hx (Nat.le_of_ble_eq_true rfl) (Nat.le_of_ble_eq_true rfl)
  · exact False.elim hp
set_option maxHeartbeats 4000000 in
set_option maxRecDepth 100000 in
theorem c3_change_no (l : Launch) (hfl : l.stackTraces = false) (D : va_G) (cI cZ cP : ClassId) (b : Nat → Nat) (I : Nat → Int32) (V : Nat → Nat → Int32) (P : Nat → Option Nat) (x y : Int32) (hno : nop P x) : q_C l yX3_change wsX3_change ({ frames := 7, cells := 1, slots := 6, locals := 104 }) D cI cZ cP [.ref (b 0), .int x, .int y] (kq cI cZ cP b I V P ++ cw cI b I V) (S := Unit) (fun _ _ => False) (fun _ => kq cI cZ cP b I V P ++ cw cI b I V) (fun E => E = q_IOB) 1 6 := by
  refine q_of (cc := cX3_change) (maxL := 5) (ret := (some .int)) (by decide +kernel) rfl (Nat.le_of_ble_eq_true rfl) ?_
  intro p e s m below meth c A ls B hr htb hmn hP hD hS hl
  have hl : lv_has ls 5 [(0, .ref (b 0)), (1, .int x), (2, .int y)] := hl
  refine lv_aload_n B.hx B.hb dX3_change_0 rfl (lv_at hl 0 rfl) ?_
  refine lv_iload_n B.hx B.hb dX3_change_1 rfl (lv_at hl 1 rfl) ?_
  refine q_callV (As := [.int x]) (rest := []) B hP hD hS (c3_paperAt_no l hfl D cI cZ cP b I V P x hno) (cwV 1 B.hts gX3_change_X3_paperAt rfl rfl rfl (by decide +kernel) ⟨(Nat.le_of_ble_eq_true rfl), (Nat.le_of_ble_eq_true rfl)⟩) 0 3 rfl rfl rfl rfl hl.1 rfl (Nat.le_of_ble_eq_true rfl) dX3_change_2 ⟨(Nat.le_of_ble_eq_true rfl), (Nat.le_of_ble_eq_true rfl)⟩ (fun E ce q9 H locs hx hP hS hce hcv hcl => ?_) (fun v u H locs hp hP hD hS => ?_)
  · exact q_xout B htb hP hS hce hcv hcl hx (Nat.le_of_ble_eq_true rfl) (Nat.le_of_ble_eq_true rfl)
  · exact False.elim hp
set_option maxHeartbeats 4000000 in
set_option maxRecDepth 100000 in
theorem c3_drop_no (l : Launch) (hfl : l.stackTraces = false) (D : va_G) (cI cZ cP : ClassId) (b : Nat → Nat) (I : Nat → Int32) (V : Nat → Nat → Int32) (P : Nat → Option Nat) (x : Int32) (hno : nop P x) : q_C l yX3_drop wsX3_drop ({ frames := 7, cells := 1, slots := 6, locals := 104 }) D cI cZ cP [.ref (b 0), .int x] (kq cI cZ cP b I V P ++ cw cI b I V) (S := Unit) (fun _ _ => False) (fun _ => kq cI cZ cP b I V P ++ cw cI b I V) (fun E => E = q_IOB) 1 6 := by
  refine q_of (cc := cX3_drop) (maxL := 4) (ret := (some .int)) (by decide +kernel) rfl (Nat.le_of_ble_eq_true rfl) ?_
  intro p e s m below meth c A ls B hr htb hmn hP hD hS hl
  have hl : lv_has ls 4 [(0, .ref (b 0)), (1, .int x)] := hl
  refine lv_aload_n B.hx B.hb dX3_drop_0 rfl (lv_at hl 0 rfl) ?_
  refine lv_iload_n B.hx B.hb dX3_drop_1 rfl (lv_at hl 1 rfl) ?_
  refine q_callV (As := [.int x]) (rest := []) B hP hD hS (c3_paperAt_no l hfl D cI cZ cP b I V P x hno) (cwV 1 B.hts gX3_drop_X3_paperAt rfl rfl rfl (by decide +kernel) ⟨(Nat.le_of_ble_eq_true rfl), (Nat.le_of_ble_eq_true rfl)⟩) 0 3 rfl rfl rfl rfl hl.1 rfl (Nat.le_of_ble_eq_true rfl) dX3_drop_2 ⟨(Nat.le_of_ble_eq_true rfl), (Nat.le_of_ble_eq_true rfl)⟩ (fun E ce q9 H locs hx hP hS hce hcv hcl => ?_) (fun v u H locs hp hP hD hS => ?_)
  · exact q_xout B htb hP hS hce hcv hcl hx (Nat.le_of_ble_eq_true rfl) (Nat.le_of_ble_eq_true rfl)
  · exact False.elim hp
set_option maxHeartbeats 4000000 in
set_option maxRecDepth 100000 in
theorem c3_reviewer_no (l : Launch) (hfl : l.stackTraces = false) (D : va_G) (cI cZ cP : ClassId) (b : Nat → Nat) (I : Nat → Int32) (V : Nat → Nat → Int32) (P : Nat → Option Nat) (x y : Int32) (hno : nop P x) : q_C l yX3_reviewer wsX3_reviewer ({ frames := 7, cells := 1, slots := 6, locals := 104 }) D cI cZ cP [.ref (b 0), .int x, .int y] (kq cI cZ cP b I V P ++ cw cI b I V) (S := Unit) (fun _ _ => False) (fun _ => kq cI cZ cP b I V P ++ cw cI b I V) (fun E => E = q_IOB) 1 6 := by
  refine q_of (cc := cX3_reviewer) (maxL := 5) (ret := (some .int)) (by decide +kernel) rfl (Nat.le_of_ble_eq_true rfl) ?_
  intro p e s m below meth c A ls B hr htb hmn hP hD hS hl
  have hl : lv_has ls 5 [(0, .ref (b 0)), (1, .int x), (2, .int y)] := hl
  refine lv_aload_n B.hx B.hb dX3_reviewer_0 rfl (lv_at hl 0 rfl) ?_
  refine lv_iload_n B.hx B.hb dX3_reviewer_1 rfl (lv_at hl 1 rfl) ?_
  refine q_callV (As := [.int x]) (rest := []) B hP hD hS (c3_paperAt_no l hfl D cI cZ cP b I V P x hno) (cwV 1 B.hts gX3_reviewer_X3_paperAt rfl rfl rfl (by decide +kernel) ⟨(Nat.le_of_ble_eq_true rfl), (Nat.le_of_ble_eq_true rfl)⟩) 0 3 rfl rfl rfl rfl hl.1 rfl (Nat.le_of_ble_eq_true rfl) dX3_reviewer_2 ⟨(Nat.le_of_ble_eq_true rfl), (Nat.le_of_ble_eq_true rfl)⟩ (fun E ce q9 H locs hx hP hS hce hcv hcl => ?_) (fun v u H locs hp hP hD hS => ?_)
  · exact q_xout B htb hP hS hce hcv hcl hx (Nat.le_of_ble_eq_true rfl) (Nat.le_of_ble_eq_true rfl)
  · exact False.elim hp
set_option maxHeartbeats 4000000 in
set_option maxRecDepth 100000 in
theorem c3_reader_no (l : Launch) (hfl : l.stackTraces = false) (D : va_G) (cI cZ cP : ClassId) (b : Nat → Nat) (I : Nat → Int32) (V : Nat → Nat → Int32) (P : Nat → Option Nat) (x y : Int32) (hno : nop P x) : q_C l yX3_reader wsX3_reader ({ frames := 7, cells := 1, slots := 6, locals := 104 }) D cI cZ cP [.ref (b 0), .int x, .int y] (kq cI cZ cP b I V P ++ cw cI b I V) (S := Unit) (fun _ _ => False) (fun _ => kq cI cZ cP b I V P ++ cw cI b I V) (fun E => E = q_IOB) 1 6 := by
  refine q_of (cc := cX3_reader) (maxL := 5) (ret := (some .int)) (by decide +kernel) rfl (Nat.le_of_ble_eq_true rfl) ?_
  intro p e s m below meth c A ls B hr htb hmn hP hD hS hl
  have hl : lv_has ls 5 [(0, .ref (b 0)), (1, .int x), (2, .int y)] := hl
  refine lv_aload_n B.hx B.hb dX3_reader_0 rfl (lv_at hl 0 rfl) ?_
  refine lv_iload_n B.hx B.hb dX3_reader_1 rfl (lv_at hl 1 rfl) ?_
  refine q_callV (As := [.int x]) (rest := []) B hP hD hS (c3_paperAt_no l hfl D cI cZ cP b I V P x hno) (cwV 1 B.hts gX3_reader_X3_paperAt rfl rfl rfl (by decide +kernel) ⟨(Nat.le_of_ble_eq_true rfl), (Nat.le_of_ble_eq_true rfl)⟩) 0 3 rfl rfl rfl rfl hl.1 rfl (Nat.le_of_ble_eq_true rfl) dX3_reader_2 ⟨(Nat.le_of_ble_eq_true rfl), (Nat.le_of_ble_eq_true rfl)⟩ (fun E ce q9 H locs hx hP hS hce hcv hcl => ?_) (fun v u H locs hp hP hD hS => ?_)
  · exact q_xout B htb hP hS hce hcv hcl hx (Nat.le_of_ble_eq_true rfl) (Nat.le_of_ble_eq_true rfl)
  · exact False.elim hp
set_option maxHeartbeats 4000000 in
set_option maxRecDepth 100000 in
theorem c3_review_no (l : Launch) (hfl : l.stackTraces = false) (D : va_G) (cI cZ cP : ClassId) (b : Nat → Nat) (I : Nat → Int32) (V : Nat → Nat → Int32) (P : Nat → Option Nat) (x y z : Int32) (hno : nop P x) : q_C l yX3_review wsX3_review ({ frames := 7, cells := 1, slots := 6, locals := 104 }) D cI cZ cP [.ref (b 0), .int x, .int y, .int z] (kq cI cZ cP b I V P ++ cw cI b I V) (S := Unit) (fun _ _ => False) (fun _ => kq cI cZ cP b I V P ++ cw cI b I V) (fun E => E = q_IOB) 1 6 := by
  refine q_of (cc := cX3_review) (maxL := 6) (ret := (some .int)) (by decide +kernel) rfl (Nat.le_of_ble_eq_true rfl) ?_
  intro p e s m below meth c A ls B hr htb hmn hP hD hS hl
  have hl : lv_has ls 6 [(0, .ref (b 0)), (1, .int x), (2, .int y), (3, .int z)] := hl
  refine lv_aload_n B.hx B.hb dX3_review_0 rfl (lv_at hl 0 rfl) ?_
  refine lv_iload_n B.hx B.hb dX3_review_1 rfl (lv_at hl 1 rfl) ?_
  refine q_callV (As := [.int x]) (rest := []) B hP hD hS (c3_paperAt_no l hfl D cI cZ cP b I V P x hno) (cwV 1 B.hts gX3_review_X3_paperAt rfl rfl rfl (by decide +kernel) ⟨(Nat.le_of_ble_eq_true rfl), (Nat.le_of_ble_eq_true rfl)⟩) 0 3 rfl rfl rfl rfl hl.1 rfl (Nat.le_of_ble_eq_true rfl) dX3_review_2 ⟨(Nat.le_of_ble_eq_true rfl), (Nat.le_of_ble_eq_true rfl)⟩ (fun E ce q9 H locs hx hP hS hce hcv hcl => ?_) (fun v u H locs hp hP hD hS => ?_)
  · exact q_xout B htb hP hS hce hcv hcl hx (Nat.le_of_ble_eq_true rfl) (Nat.le_of_ble_eq_true rfl)
  · exact False.elim hp
set_option maxHeartbeats 4000000 in
set_option maxRecDepth 100000 in
theorem c3_answer_no (l : Launch) (hfl : l.stackTraces = false) (D : va_G) (cI cZ cP : ClassId) (b : Nat → Nat) (I : Nat → Int32) (V : Nat → Nat → Int32) (P : Nat → Option Nat) (x y : Int32) (hno : nop P x) : q_C l yX3_answer wsX3_answer ({ frames := 7, cells := 1, slots := 6, locals := 104 }) D cI cZ cP [.ref (b 0), .int x, .int y] (kq cI cZ cP b I V P ++ cw cI b I V) (S := Unit) (fun _ _ => False) (fun _ => kq cI cZ cP b I V P ++ cw cI b I V) (fun E => E = q_IOB) 1 6 := by
  refine q_of (cc := cX3_answer) (maxL := 5) (ret := (some .int)) (by decide +kernel) rfl (Nat.le_of_ble_eq_true rfl) ?_
  intro p e s m below meth c A ls B hr htb hmn hP hD hS hl
  have hl : lv_has ls 5 [(0, .ref (b 0)), (1, .int x), (2, .int y)] := hl
  refine lv_aload_n B.hx B.hb dX3_answer_0 rfl (lv_at hl 0 rfl) ?_
  refine lv_iload_n B.hx B.hb dX3_answer_1 rfl (lv_at hl 1 rfl) ?_
  refine q_callV (As := [.int x]) (rest := []) B hP hD hS (c3_paperAt_no l hfl D cI cZ cP b I V P x hno) (cwV 1 B.hts gX3_answer_X3_paperAt rfl rfl rfl (by decide +kernel) ⟨(Nat.le_of_ble_eq_true rfl), (Nat.le_of_ble_eq_true rfl)⟩) 0 3 rfl rfl rfl rfl hl.1 rfl (Nat.le_of_ble_eq_true rfl) dX3_answer_2 ⟨(Nat.le_of_ble_eq_true rfl), (Nat.le_of_ble_eq_true rfl)⟩ (fun E ce q9 H locs hx hP hS hce hcv hcl => ?_) (fun v u H locs hp hP hD hS => ?_)
  · exact q_xout B htb hP hS hce hcv hcl hx (Nat.le_of_ble_eq_true rfl) (Nat.le_of_ble_eq_true rfl)
  · exact False.elim hp
set_option maxHeartbeats 4000000 in
set_option maxRecDepth 100000 in
theorem c3_approve_no (l : Launch) (hfl : l.stackTraces = false) (D : va_G) (cI cZ cP : ClassId) (b : Nat → Nat) (I : Nat → Int32) (V : Nat → Nat → Int32) (P : Nat → Option Nat) (x y z : Int32) (hno : nop P x) : q_C l yX3_approve wsX3_approve ({ frames := 7, cells := 1, slots := 6, locals := 104 }) D cI cZ cP [.ref (b 0), .int x, .int y, .int z] (kq cI cZ cP b I V P ++ cw cI b I V) (S := Unit) (fun _ _ => False) (fun _ => kq cI cZ cP b I V P ++ cw cI b I V) (fun E => E = q_IOB) 1 6 := by
  refine q_of (cc := cX3_approve) (maxL := 6) (ret := none) (by decide +kernel) rfl (Nat.le_of_ble_eq_true rfl) ?_
  intro p e s m below meth c A ls B hr htb hmn hP hD hS hl
  have hl : lv_has ls 6 [(0, .ref (b 0)), (1, .int x), (2, .int y), (3, .int z)] := hl
  refine lv_aload_n B.hx B.hb dX3_approve_0 rfl (lv_at hl 0 rfl) ?_
  refine lv_iload_n B.hx B.hb dX3_approve_1 rfl (lv_at hl 1 rfl) ?_
  refine q_callV (As := [.int x]) (rest := []) B hP hD hS (c3_paperAt_no l hfl D cI cZ cP b I V P x hno) (cwV 1 B.hts gX3_approve_X3_paperAt rfl rfl rfl (by decide +kernel) ⟨(Nat.le_of_ble_eq_true rfl), (Nat.le_of_ble_eq_true rfl)⟩) 0 3 rfl rfl rfl rfl hl.1 rfl (Nat.le_of_ble_eq_true rfl) dX3_approve_2 ⟨(Nat.le_of_ble_eq_true rfl), (Nat.le_of_ble_eq_true rfl)⟩ (fun E ce q9 H locs hx hP hS hce hcv hcl => ?_) (fun v u H locs hp hP hD hS => ?_)
  · exact q_xout B htb hP hS hce hcv hcl hx (Nat.le_of_ble_eq_true rfl) (Nat.le_of_ble_eq_true rfl)
  · exact False.elim hp
set_option maxHeartbeats 4000000 in
set_option maxRecDepth 100000 in
theorem c3_confirm_no (l : Launch) (hfl : l.stackTraces = false) (D : va_G) (cI cZ cP : ClassId) (b : Nat → Nat) (I : Nat → Int32) (V : Nat → Nat → Int32) (P : Nat → Option Nat) (x y : Int32) (hno : nop P x) : q_C l yX3_confirm wsX3_confirm ({ frames := 7, cells := 1, slots := 6, locals := 104 }) D cI cZ cP [.ref (b 0), .int x, .int y] (kq cI cZ cP b I V P ++ cw cI b I V) (S := Unit) (fun _ _ => False) (fun _ => kq cI cZ cP b I V P ++ cw cI b I V) (fun E => E = q_IOB) 1 6 := by
  refine q_of (cc := cX3_confirm) (maxL := 5) (ret := (some .int)) (by decide +kernel) rfl (Nat.le_of_ble_eq_true rfl) ?_
  intro p e s m below meth c A ls B hr htb hmn hP hD hS hl
  have hl : lv_has ls 5 [(0, .ref (b 0)), (1, .int x), (2, .int y)] := hl
  refine lv_aload_n B.hx B.hb dX3_confirm_0 rfl (lv_at hl 0 rfl) ?_
  refine lv_iload_n B.hx B.hb dX3_confirm_1 rfl (lv_at hl 1 rfl) ?_
  refine q_callV (As := [.int x]) (rest := []) B hP hD hS (c3_paperAt_no l hfl D cI cZ cP b I V P x hno) (cwV 1 B.hts gX3_confirm_X3_paperAt rfl rfl rfl (by decide +kernel) ⟨(Nat.le_of_ble_eq_true rfl), (Nat.le_of_ble_eq_true rfl)⟩) 0 3 rfl rfl rfl rfl hl.1 rfl (Nat.le_of_ble_eq_true rfl) dX3_confirm_2 ⟨(Nat.le_of_ble_eq_true rfl), (Nat.le_of_ble_eq_true rfl)⟩ (fun E ce q9 H locs hx hP hS hce hcv hcl => ?_) (fun v u H locs hp hP hD hS => ?_)
  · exact q_xout B htb hP hS hce hcv hcl hx (Nat.le_of_ble_eq_true rfl) (Nat.le_of_ble_eq_true rfl)
  · exact False.elim hp
set_option maxHeartbeats 4000000 in
set_option maxRecDepth 100000 in
theorem c3_look_no (l : Launch) (hfl : l.stackTraces = false) (D : va_G) (cI cZ cP : ClassId) (b : Nat → Nat) (I : Nat → Int32) (V : Nat → Nat → Int32) (P : Nat → Option Nat) (x : Int32) (hno : nop P x) : q_C l yX3_look wsX3_look ({ frames := 7, cells := 1, slots := 6, locals := 104 }) D cI cZ cP [.ref (b 0), .int x] (kq cI cZ cP b I V P ++ cw cI b I V) (S := Unit) (fun _ _ => False) (fun _ => kq cI cZ cP b I V P ++ cw cI b I V) (fun E => E = q_IOB) 1 6 := by
  refine q_of (cc := cX3_look) (maxL := 4) (ret := (some .boolean)) (by decide +kernel) rfl (Nat.le_of_ble_eq_true rfl) ?_
  intro p e s m below meth c A ls B hr htb hmn hP hD hS hl
  have hl : lv_has ls 4 [(0, .ref (b 0)), (1, .int x)] := hl
  refine lv_aload_n B.hx B.hb dX3_look_0 rfl (lv_at hl 0 rfl) ?_
  refine lv_iload_n B.hx B.hb dX3_look_1 rfl (lv_at hl 1 rfl) ?_
  refine q_callV (As := [.int x]) (rest := []) B hP hD hS (c3_paperAt_no l hfl D cI cZ cP b I V P x hno) (cwV 1 B.hts gX3_look_X3_paperAt rfl rfl rfl (by decide +kernel) ⟨(Nat.le_of_ble_eq_true rfl), (Nat.le_of_ble_eq_true rfl)⟩) 0 3 rfl rfl rfl rfl hl.1 rfl (Nat.le_of_ble_eq_true rfl) dX3_look_2 ⟨(Nat.le_of_ble_eq_true rfl), (Nat.le_of_ble_eq_true rfl)⟩ (fun E ce q9 H locs hx hP hS hce hcv hcl => ?_) (fun v u H locs hp hP hD hS => ?_)
  · exact q_xout B htb hP hS hce hcv hcl hx (Nat.le_of_ble_eq_true rfl) (Nat.le_of_ble_eq_true rfl)
  · exact False.elim hp
set_option maxHeartbeats 4000000 in
set_option maxRecDepth 100000 in
theorem c3_isDue_no (l : Launch) (hfl : l.stackTraces = false) (D : va_G) (cI cZ cP : ClassId) (b : Nat → Nat) (I : Nat → Int32) (V : Nat → Nat → Int32) (P : Nat → Option Nat) (x : Int32) (hno : nop P x) : q_C l yX3_isDue wsX3_isDue ({ frames := 7, cells := 1, slots := 6, locals := 104 }) D cI cZ cP [.ref (b 0), .int x] (kq cI cZ cP b I V P ++ cw cI b I V) (S := Unit) (fun _ _ => False) (fun _ => kq cI cZ cP b I V P ++ cw cI b I V) (fun E => E = q_IOB) 1 6 := by
  refine q_of (cc := cX3_isDue) (maxL := 2) (ret := (some .boolean)) (by decide +kernel) rfl (Nat.le_of_ble_eq_true rfl) ?_
  intro p e s m below meth c A ls B hr htb hmn hP hD hS hl
  have hl : lv_has ls 2 [(0, .ref (b 0)), (1, .int x)] := hl
  refine lv_aload_n B.hx B.hb dX3_isDue_0 rfl (lv_at hl 0 rfl) ?_
  refine lv_iload_n B.hx B.hb dX3_isDue_1 rfl (lv_at hl 1 rfl) ?_
  refine q_callV (As := [.int x]) (rest := []) B hP hD hS (c3_paperAt_no l hfl D cI cZ cP b I V P x hno) (cwV 1 B.hts gX3_isDue_X3_paperAt rfl rfl rfl (by decide +kernel) ⟨(Nat.le_of_ble_eq_true rfl), (Nat.le_of_ble_eq_true rfl)⟩) 0 3 rfl rfl rfl rfl hl.1 rfl (Nat.le_of_ble_eq_true rfl) dX3_isDue_2 ⟨(Nat.le_of_ble_eq_true rfl), (Nat.le_of_ble_eq_true rfl)⟩ (fun E ce q9 H locs hx hP hS hce hcv hcl => ?_) (fun v u H locs hp hP hD hS => ?_)
  · exact q_xout B htb hP hS hce hcv hcl hx (Nat.le_of_ble_eq_true rfl) (Nat.le_of_ble_eq_true rfl)
  · exact False.elim hp
set_option maxHeartbeats 4000000 in
set_option maxRecDepth 100000 in
theorem c3_copy_no (l : Launch) (hfl : l.stackTraces = false) (D : va_G) (cI cZ cP : ClassId) (b : Nat → Nat) (I : Nat → Int32) (V : Nat → Nat → Int32) (P : Nat → Option Nat) (x y : Int32) (hno : nop P x) : q_C l yX3_copy wsX3_copy ({ frames := 7, cells := 1, slots := 6, locals := 104 }) D cI cZ cP [.ref (b 0), .int x, .int y] (kq cI cZ cP b I V P ++ cw cI b I V) (S := Unit) (fun _ _ => False) (fun _ => kq cI cZ cP b I V P ++ cw cI b I V) (fun E => E = q_IOB) 1 6 := by
  refine q_of (cc := cX3_copy) (maxL := 4) (ret := (some .int)) (by decide +kernel) rfl (Nat.le_of_ble_eq_true rfl) ?_
  intro p e s m below meth c A ls B hr htb hmn hP hD hS hl
  have hl : lv_has ls 4 [(0, .ref (b 0)), (1, .int x), (2, .int y)] := hl
  refine lv_aload_n B.hx B.hb dX3_copy_0 rfl (lv_at hl 0 rfl) ?_
  refine lv_iload_n B.hx B.hb dX3_copy_1 rfl (lv_at hl 1 rfl) ?_
  refine q_callV (As := [.int x]) (rest := []) B hP hD hS (c3_paperAt_no l hfl D cI cZ cP b I V P x hno) (cwV 1 B.hts gX3_copy_X3_paperAt rfl rfl rfl (by decide +kernel) ⟨(Nat.le_of_ble_eq_true rfl), (Nat.le_of_ble_eq_true rfl)⟩) 0 3 rfl rfl rfl rfl hl.1 rfl (Nat.le_of_ble_eq_true rfl) dX3_copy_2 ⟨(Nat.le_of_ble_eq_true rfl), (Nat.le_of_ble_eq_true rfl)⟩ (fun E ce q9 H locs hx hP hS hce hcv hcl => ?_) (fun v u H locs hp hP hD hS => ?_)
  · exact q_xout B htb hP hS hce hcv hcl hx (Nat.le_of_ble_eq_true rfl) (Nat.le_of_ble_eq_true rfl)
  · exact False.elim hp
set_option maxHeartbeats 4000000 in
set_option maxRecDepth 100000 in
theorem c3_outOfDate_no (l : Launch) (hfl : l.stackTraces = false) (D : va_G) (cI cZ cP : ClassId) (b : Nat → Nat) (I : Nat → Int32) (V : Nat → Nat → Int32) (P : Nat → Option Nat) (x : Int32) (hno : nop P x) : q_C l yX3_outOfDate wsX3_outOfDate ({ frames := 7, cells := 1, slots := 6, locals := 104 }) D cI cZ cP [.ref (b 0), .int x] (kq cI cZ cP b I V P ++ cw cI b I V) (S := Unit) (fun _ _ => False) (fun _ => kq cI cZ cP b I V P ++ cw cI b I V) (fun E => E = q_IOB) 1 6 := by
  refine q_of (cc := cX3_outOfDate) (maxL := 2) (ret := (some .int)) (by decide +kernel) rfl (Nat.le_of_ble_eq_true rfl) ?_
  intro p e s m below meth c A ls B hr htb hmn hP hD hS hl
  have hl : lv_has ls 2 [(0, .ref (b 0)), (1, .int x)] := hl
  have hi3 : ∀ w ∈ u_ws RX3 TX3 8, w ∈ wsX3_outOfDate := by decide +kernel
  refine lv_aload_n B.hx B.hb dX3_outOfDate_0 rfl (lv_at hl 0 rfl) ?_
  refine q_get B hP (C := RX3) (ref := "PaperKeeper") (T := TX3) (N := 8) (ci := 3) hi3 rfl 0 rfl 4 (by decide) (by decide +kernel) rfl (v := .ref (b 5)) rfl dX3_outOfDate_1 ?_
  refine lv_iload_n B.hx B.hb dX3_outOfDate_4 rfl (lv_at hl 1 rfl) ?_
  refine lv_aload_n B.hx B.hb dX3_outOfDate_5 rfl (lv_at hl 0 rfl) ?_
  refine lv_iload_n B.hx B.hb dX3_outOfDate_6 rfl (lv_at hl 1 rfl) ?_
  refine q_callV (As := [.int x]) (rest := [.int x, .ref (b 5)]) B hP hD hS (c3_paperAt_no l hfl D cI cZ cP b I V P x hno) (cwV 1 B.hts gX3_outOfDate_X3_paperAt rfl rfl rfl (by decide +kernel) ⟨(Nat.le_of_ble_eq_true rfl), (Nat.le_of_ble_eq_true rfl)⟩) 0 3 rfl rfl rfl rfl hl.1 rfl (Nat.le_of_ble_eq_true rfl) dX3_outOfDate_7 ⟨(Nat.le_of_ble_eq_true rfl), (Nat.le_of_ble_eq_true rfl)⟩ (fun E ce q9 H locs hx hP hS hce hcv hcl => ?_) (fun v u H locs hp hP hD hS => ?_)
  · exact q_xout B htb hP hS hce hcv hcl hx (Nat.le_of_ble_eq_true rfl) (Nat.le_of_ble_eq_true rfl)
  · exact False.elim hp
set_option maxHeartbeats 4000000 in
set_option maxRecDepth 100000 in
theorem c3_step_no (l : Launch) (hfl : l.stackTraces = false) (D : va_G) (cI cZ cP : ClassId) (b : Nat → Nat) (I : Nat → Int32) (V : Nat → Nat → Int32) (P : Nat → Option Nat) (x : Int32) (hno : nop P x) : q_C l yX3_step wsX3_step ({ frames := 7, cells := 1, slots := 6, locals := 104 }) D cI cZ cP [.ref (b 0), .int x] (kq cI cZ cP b I V P ++ cw cI b I V) (S := Unit) (fun _ _ => False) (fun _ => kq cI cZ cP b I V P ++ cw cI b I V) (fun E => E = q_IOB) 1 6 := by
  refine q_of (cc := cX3_step) (maxL := 3) (ret := (some .int)) (by decide +kernel) rfl (Nat.le_of_ble_eq_true rfl) ?_
  intro p e s m below meth c A ls B hr htb hmn hP hD hS hl
  have hl : lv_has ls 3 [(0, .ref (b 0)), (1, .int x)] := hl
  refine lv_aload_n B.hx B.hb dX3_step_0 rfl (lv_at hl 0 rfl) ?_
  refine lv_iload_n B.hx B.hb dX3_step_1 rfl (lv_at hl 1 rfl) ?_
  refine q_callV (As := [.int x]) (rest := []) B hP hD hS (c3_paperAt_no l hfl D cI cZ cP b I V P x hno) (cwV 1 B.hts gX3_step_X3_paperAt rfl rfl rfl (by decide +kernel) ⟨(Nat.le_of_ble_eq_true rfl), (Nat.le_of_ble_eq_true rfl)⟩) 0 3 rfl rfl rfl rfl hl.1 rfl (Nat.le_of_ble_eq_true rfl) dX3_step_2 ⟨(Nat.le_of_ble_eq_true rfl), (Nat.le_of_ble_eq_true rfl)⟩ (fun E ce q9 H locs hx hP hS hce hcv hcl => ?_) (fun v u H locs hp hP hD hS => ?_)
  · exact q_xout B htb hP hS hce hcv hcl hx (Nat.le_of_ble_eq_true rfl) (Nat.le_of_ble_eq_true rfl)
  · exact False.elim hp
set_option maxHeartbeats 4000000 in
set_option maxRecDepth 100000 in
theorem c3_waitsFor_no (l : Launch) (hfl : l.stackTraces = false) (D : va_G) (cI cZ cP : ClassId) (b : Nat → Nat) (I : Nat → Int32) (V : Nat → Nat → Int32) (P : Nat → Option Nat) (x : Int32) (hno : nop P x) : q_C l yX3_waitsFor wsX3_waitsFor ({ frames := 7, cells := 1, slots := 6, locals := 104 }) D cI cZ cP [.ref (b 0), .int x] (kq cI cZ cP b I V P ++ cw cI b I V) (S := Unit) (fun _ _ => False) (fun _ => kq cI cZ cP b I V P ++ cw cI b I V) (fun E => E = q_IOB) 1 6 := by
  refine q_of (cc := cX3_waitsFor) (maxL := 3) (ret := (some .int)) (by decide +kernel) rfl (Nat.le_of_ble_eq_true rfl) ?_
  intro p e s m below meth c A ls B hr htb hmn hP hD hS hl
  have hl : lv_has ls 3 [(0, .ref (b 0)), (1, .int x)] := hl
  refine lv_aload_n B.hx B.hb dX3_waitsFor_0 rfl (lv_at hl 0 rfl) ?_
  refine lv_iload_n B.hx B.hb dX3_waitsFor_1 rfl (lv_at hl 1 rfl) ?_
  refine q_callV (As := [.int x]) (rest := []) B hP hD hS (c3_paperAt_no l hfl D cI cZ cP b I V P x hno) (cwV 1 B.hts gX3_waitsFor_X3_paperAt rfl rfl rfl (by decide +kernel) ⟨(Nat.le_of_ble_eq_true rfl), (Nat.le_of_ble_eq_true rfl)⟩) 0 3 rfl rfl rfl rfl hl.1 rfl (Nat.le_of_ble_eq_true rfl) dX3_waitsFor_2 ⟨(Nat.le_of_ble_eq_true rfl), (Nat.le_of_ble_eq_true rfl)⟩ (fun E ce q9 H locs hx hP hS hce hcv hcl => ?_) (fun v u H locs hp hP hD hS => ?_)
  · exact q_xout B htb hP hS hce hcv hcl hx (Nat.le_of_ble_eq_true rfl) (Nat.le_of_ble_eq_true rfl)
  · exact False.elim hp
set_option maxHeartbeats 4000000 in
set_option maxRecDepth 100000 in
theorem c3_inForce_no (l : Launch) (hfl : l.stackTraces = false) (D : va_G) (cI cZ cP : ClassId) (b : Nat → Nat) (I : Nat → Int32) (V : Nat → Nat → Int32) (P : Nat → Option Nat) (x : Int32) (hno : nop P x) : q_C l yX3_inForce wsX3_inForce ({ frames := 7, cells := 1, slots := 6, locals := 104 }) D cI cZ cP [.ref (b 0), .int x] (kq cI cZ cP b I V P ++ cw cI b I V) (S := Unit) (fun _ _ => False) (fun _ => kq cI cZ cP b I V P ++ cw cI b I V) (fun E => E = q_IOB) 1 6 := by
  refine q_of (cc := cX3_inForce) (maxL := 2) (ret := (some .int)) (by decide +kernel) rfl (Nat.le_of_ble_eq_true rfl) ?_
  intro p e s m below meth c A ls B hr htb hmn hP hD hS hl
  have hl : lv_has ls 2 [(0, .ref (b 0)), (1, .int x)] := hl
  refine lv_aload_n B.hx B.hb dX3_inForce_0 rfl (lv_at hl 0 rfl) ?_
  refine lv_iload_n B.hx B.hb dX3_inForce_1 rfl (lv_at hl 1 rfl) ?_
  refine q_callV (As := [.int x]) (rest := []) B hP hD hS (c3_paperAt_no l hfl D cI cZ cP b I V P x hno) (cwV 1 B.hts gX3_inForce_X3_paperAt rfl rfl rfl (by decide +kernel) ⟨(Nat.le_of_ble_eq_true rfl), (Nat.le_of_ble_eq_true rfl)⟩) 0 3 rfl rfl rfl rfl hl.1 rfl (Nat.le_of_ble_eq_true rfl) dX3_inForce_2 ⟨(Nat.le_of_ble_eq_true rfl), (Nat.le_of_ble_eq_true rfl)⟩ (fun E ce q9 H locs hx hP hS hce hcv hcl => ?_) (fun v u H locs hp hP hD hS => ?_)
  · exact q_xout B htb hP hS hce hcv hcl hx (Nat.le_of_ble_eq_true rfl) (Nat.le_of_ble_eq_true rfl)
  · exact False.elim hp
set_option maxHeartbeats 4000000 in
set_option maxRecDepth 100000 in
theorem c3_text_no (l : Launch) (hfl : l.stackTraces = false) (D : va_G) (cI cZ cP : ClassId) (b : Nat → Nat) (I : Nat → Int32) (V : Nat → Nat → Int32) (P : Nat → Option Nat) (x : Int32) (hno : nop P x) : q_C l yX3_text wsX3_text ({ frames := 7, cells := 1, slots := 6, locals := 104 }) D cI cZ cP [.ref (b 0), .int x] (kq cI cZ cP b I V P ++ cw cI b I V) (S := Unit) (fun _ _ => False) (fun _ => kq cI cZ cP b I V P ++ cw cI b I V) (fun E => E = q_IOB) 1 6 := by
  refine q_of (cc := cX3_text) (maxL := 4) (ret := (some .int)) (by decide +kernel) rfl (Nat.le_of_ble_eq_true rfl) ?_
  intro p e s m below meth c A ls B hr htb hmn hP hD hS hl
  have hl : lv_has ls 4 [(0, .ref (b 0)), (1, .int x)] := hl
  refine lv_aload_n B.hx B.hb dX3_text_0 rfl (lv_at hl 0 rfl) ?_
  refine lv_iload_n B.hx B.hb dX3_text_1 rfl (lv_at hl 1 rfl) ?_
  refine q_callV (As := [.int x]) (rest := []) B hP hD hS (c3_paperAt_no l hfl D cI cZ cP b I V P x hno) (cwV 1 B.hts gX3_text_X3_paperAt rfl rfl rfl (by decide +kernel) ⟨(Nat.le_of_ble_eq_true rfl), (Nat.le_of_ble_eq_true rfl)⟩) 0 3 rfl rfl rfl rfl hl.1 rfl (Nat.le_of_ble_eq_true rfl) dX3_text_2 ⟨(Nat.le_of_ble_eq_true rfl), (Nat.le_of_ble_eq_true rfl)⟩ (fun E ce q9 H locs hx hP hS hce hcv hcl => ?_) (fun v u H locs hp hP hD hS => ?_)
  · exact q_xout B htb hP hS hce hcv hcl hx (Nat.le_of_ble_eq_true rfl) (Nat.le_of_ble_eq_true rfl)
  · exact False.elim hp
set_option maxHeartbeats 4000000 in
set_option maxRecDepth 100000 in
theorem c3_inForceOn_no (l : Launch) (hfl : l.stackTraces = false) (D : va_G) (cI cZ cP : ClassId) (b : Nat → Nat) (I : Nat → Int32) (V : Nat → Nat → Int32) (P : Nat → Option Nat) (x y : Int32) (hno : nop P x) : q_C l yX3_inForceOn wsX3_inForceOn ({ frames := 7, cells := 1, slots := 6, locals := 104 }) D cI cZ cP [.ref (b 0), .int x, .int y] (kq cI cZ cP b I V P ++ cw cI b I V) (S := Unit) (fun _ _ => False) (fun _ => kq cI cZ cP b I V P ++ cw cI b I V) (fun E => E = q_IOB) 1 6 := by
  refine q_of (cc := cX3_inForceOn) (maxL := 4) (ret := (some .int)) (by decide +kernel) rfl (Nat.le_of_ble_eq_true rfl) ?_
  intro p e s m below meth c A ls B hr htb hmn hP hD hS hl
  have hl : lv_has ls 4 [(0, .ref (b 0)), (1, .int x), (2, .int y)] := hl
  refine lv_aload_n B.hx B.hb dX3_inForceOn_0 rfl (lv_at hl 0 rfl) ?_
  refine lv_iload_n B.hx B.hb dX3_inForceOn_1 rfl (lv_at hl 1 rfl) ?_
  refine q_callV (As := [.int x]) (rest := []) B hP hD hS (c3_paperAt_no l hfl D cI cZ cP b I V P x hno) (cwV 1 B.hts gX3_inForceOn_X3_paperAt rfl rfl rfl (by decide +kernel) ⟨(Nat.le_of_ble_eq_true rfl), (Nat.le_of_ble_eq_true rfl)⟩) 0 3 rfl rfl rfl rfl hl.1 rfl (Nat.le_of_ble_eq_true rfl) dX3_inForceOn_2 ⟨(Nat.le_of_ble_eq_true rfl), (Nat.le_of_ble_eq_true rfl)⟩ (fun E ce q9 H locs hx hP hS hce hcv hcl => ?_) (fun v u H locs hp hP hD hS => ?_)
  · exact q_xout B htb hP hS hce hcv hcl hx (Nat.le_of_ble_eq_true rfl) (Nat.le_of_ble_eq_true rfl)
  · exact False.elim hp
set_option maxHeartbeats 4000000 in
set_option maxRecDepth 100000 in
theorem c3_since_no (l : Launch) (hfl : l.stackTraces = false) (D : va_G) (cI cZ cP : ClassId) (b : Nat → Nat) (I : Nat → Int32) (V : Nat → Nat → Int32) (P : Nat → Option Nat) (x y : Int32) (hno : nop P x) : q_C l yX3_since wsX3_since ({ frames := 7, cells := 1, slots := 6, locals := 104 }) D cI cZ cP [.ref (b 0), .int x, .int y] (kq cI cZ cP b I V P ++ cw cI b I V) (S := Unit) (fun _ _ => False) (fun _ => kq cI cZ cP b I V P ++ cw cI b I V) (fun E => E = q_IOB) 1 6 := by
  refine q_of (cc := cX3_since) (maxL := 4) (ret := (some .int)) (by decide +kernel) rfl (Nat.le_of_ble_eq_true rfl) ?_
  intro p e s m below meth c A ls B hr htb hmn hP hD hS hl
  have hl : lv_has ls 4 [(0, .ref (b 0)), (1, .int x), (2, .int y)] := hl
  refine lv_aload_n B.hx B.hb dX3_since_0 rfl (lv_at hl 0 rfl) ?_
  refine lv_iload_n B.hx B.hb dX3_since_1 rfl (lv_at hl 1 rfl) ?_
  refine q_callV (As := [.int x]) (rest := []) B hP hD hS (c3_paperAt_no l hfl D cI cZ cP b I V P x hno) (cwV 1 B.hts gX3_since_X3_paperAt rfl rfl rfl (by decide +kernel) ⟨(Nat.le_of_ble_eq_true rfl), (Nat.le_of_ble_eq_true rfl)⟩) 0 3 rfl rfl rfl rfl hl.1 rfl (Nat.le_of_ble_eq_true rfl) dX3_since_2 ⟨(Nat.le_of_ble_eq_true rfl), (Nat.le_of_ble_eq_true rfl)⟩ (fun E ce q9 H locs hx hP hS hce hcv hcl => ?_) (fun v u H locs hp hP hD hS => ?_)
  · exact q_xout B htb hP hS hce hcv hcl hx (Nat.le_of_ble_eq_true rfl) (Nat.le_of_ble_eq_true rfl)
  · exact False.elim hp
set_option maxHeartbeats 4000000 in
set_option maxRecDepth 100000 in
theorem c3_hang_no (l : Launch) (hfl : l.stackTraces = false) (D : va_G) (cI cZ cP : ClassId) (b : Nat → Nat) (I : Nat → Int32) (V : Nat → Nat → Int32) (P : Nat → Option Nat) (x y : Int32) (hno : nop P x) : q_C l yX3_hang wsX3_hang ({ frames := 7, cells := 1, slots := 6, locals := 104 }) D cI cZ cP [.ref (b 0), .int x, .int y] (kq cI cZ cP b I V P ++ cw cI b I V) (S := Unit) (fun _ _ => False) (fun _ => kq cI cZ cP b I V P ++ cw cI b I V) (fun E => E = q_IOB) 1 6 := by
  refine q_of (cc := cX3_hang) (maxL := 4) (ret := (some .int)) (by decide +kernel) rfl (Nat.le_of_ble_eq_true rfl) ?_
  intro p e s m below meth c A ls B hr htb hmn hP hD hS hl
  have hl : lv_has ls 4 [(0, .ref (b 0)), (1, .int x), (2, .int y)] := hl
  refine lv_aload_n B.hx B.hb dX3_hang_0 rfl (lv_at hl 0 rfl) ?_
  refine lv_iload_n B.hx B.hb dX3_hang_1 rfl (lv_at hl 1 rfl) ?_
  refine q_callV (As := [.int x]) (rest := []) B hP hD hS (c3_paperAt_no l hfl D cI cZ cP b I V P x hno) (cwV 1 B.hts gX3_hang_X3_paperAt rfl rfl rfl (by decide +kernel) ⟨(Nat.le_of_ble_eq_true rfl), (Nat.le_of_ble_eq_true rfl)⟩) 0 3 rfl rfl rfl rfl hl.1 rfl (Nat.le_of_ble_eq_true rfl) dX3_hang_2 ⟨(Nat.le_of_ble_eq_true rfl), (Nat.le_of_ble_eq_true rfl)⟩ (fun E ce q9 H locs hx hP hS hce hcv hcl => ?_) (fun v u H locs hp hP hD hS => ?_)
  · exact q_xout B htb hP hS hce hcv hcl hx (Nat.le_of_ble_eq_true rfl) (Nat.le_of_ble_eq_true rfl)
  · exact False.elim hp
set_option maxHeartbeats 4000000 in
set_option maxRecDepth 100000 in
theorem c3_hang_no2 (l : Launch) (hfl : l.stackTraces = false) (D : va_G) (cI cZ cP : ClassId) (b : Nat → Nat) (I : Nat → Int32) (V : Nat → Nat → Int32) (P : Nat → Option Nat) (j r : Nat) (hj : j < 8) (hpj : P j = some r) (y : Int32) (hno : nop P y) : q_C l yX3_hang wsX3_hang ({ frames := 7, cells := 1, slots := 6, locals := 104 }) D cI cZ cP [.ref (b 0), .int (nI j), .int y] (kq cI cZ cP b I V P ++ cw cI b I V) (S := Unit) (fun _ _ => False) (fun _ => kq cI cZ cP b I V P ++ cw cI b I V) (fun E => E = q_IOB) 1 6 := by
  refine q_of (cc := cX3_hang) (maxL := 4) (ret := (some .int)) (by decide +kernel) rfl (Nat.le_of_ble_eq_true rfl) ?_
  intro p e s m below meth c A ls B hr htb hmn hP hD hS hl
  have hl : lv_has ls 4 [(0, .ref (b 0)), (1, .int (nI j)), (2, .int y)] := hl
  refine lv_aload_n B.hx B.hb dX3_hang_0 rfl (lv_at hl 0 rfl) ?_
  refine lv_iload_n B.hx B.hb dX3_hang_1 rfl (lv_at hl 1 rfl) ?_
  refine q_callV (As := [.int (nI j)]) (rest := []) B hP hD hS (c3_paperAt l D cI cZ cP b I V P j r hj hpj) (cwV 1 B.hts gX3_hang_X3_paperAt rfl rfl rfl (by decide +kernel) ⟨(Nat.le_of_ble_eq_true rfl), (Nat.le_of_ble_eq_true rfl)⟩) 0 3 rfl rfl rfl rfl hl.1 rfl (Nat.le_of_ble_eq_true rfl) dX3_hang_2 ⟨(Nat.le_of_ble_eq_true rfl), (Nat.le_of_ble_eq_true rfl)⟩ (fun E ce q9 H locs hx => False.elim hx) (fun v u H locs hp hP hD hS => ?_)
  obtain rfl := hp
  have hP : va_P D vwCl (kq cI cZ cP b I V P ++ cw cI b I V) H := hP
  have hD : va_D A (kq cI cZ cP b I V P ++ cw cI b I V) := hD
  refine lv_astore_n (lv' := [(3, .ref (r)), (0, .ref (b 0)), (1, .int (nI j)), (2, .int y)]) B.hx B.hb dX3_hang_5 rfl hl (by decide) rfl (fun ls hl => ?_)
  refine lv_aload_n B.hx B.hb dX3_hang_6 rfl (lv_at hl 1 rfl) ?_
  refine lv_iload_n B.hx B.hb dX3_hang_7 rfl (lv_at hl 3 rfl) ?_
  refine q_callV (As := [.int y]) (rest := []) B hP hD hS (c3_paperAt_no l hfl D cI cZ cP b I V P y hno) (cwV 1 B.hts gX3_hang_X3_paperAt rfl rfl rfl (by decide +kernel) ⟨(Nat.le_of_ble_eq_true rfl), (Nat.le_of_ble_eq_true rfl)⟩) 0 3 rfl rfl rfl rfl hl.1 rfl (Nat.le_of_ble_eq_true rfl) dX3_hang_8 ⟨(Nat.le_of_ble_eq_true rfl), (Nat.le_of_ble_eq_true rfl)⟩ (fun E ce q9 H locs hx hP hS hce hcv hcl => ?_) (fun v u H locs hp hP hD hS => ?_)
  · exact q_xout B htb hP hS hce hcv hcl hx (Nat.le_of_ble_eq_true rfl) (Nat.le_of_ble_eq_true rfl)
  · exact False.elim hp
