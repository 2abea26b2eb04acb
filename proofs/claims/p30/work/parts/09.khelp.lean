/-! The keeper: what its methods call. -/
set_option maxHeartbeats 4000000 in
set_option maxRecDepth 100000 in
theorem c3_countOf (l : Launch) (D : va_G) (cI cZ cP : ClassId) (w : va_W) (q0 a L : Nat) (f : Nat → Int32) (ha : w[q0]? = some (a, .inl (cZ, L, .inl f))) (hL : L < 2 ^ 30) : q_C l yX3_countOf wsX3_countOf ({ frames := 0, cells := 0, slots := 0, locals := 0 }) D cI cZ cP [.ref a] w (S := Unit) (fun v _ => v = some (.int (nI (pN (fun i => decide (¬ f i = 0)) L)))) (fun _ => w) (fun _ => False) 0 0 := by
  refine q_of (cc := cX3_countOf) (maxL := 3) (ret := (some .int)) (by decide +kernel) rfl (Nat.le_of_ble_eq_true rfl) ?_
  intro p e s m below meth c A ls B hr htb hmn hP hD hS hl
  have hl : lv_has ls 3 [(0, .ref a)] := hl
  refine lv_iconst (v := nI 0) B.hx B.hb dX3_countOf_0 (by decide) ?_
  refine lv_istore_n (lv' := [(1, .int (nI 0)), (0, .ref a)]) B.hx B.hb dX3_countOf_1 rfl hl (by decide) rfl (fun ls hl => ?_)
  refine lv_iconst (v := nI 0) B.hx B.hb dX3_countOf_2 (by decide) ?_
  refine lv_istore_n (lv' := [(2, .int (nI 0)), (1, .int (nI 0)), (0, .ref a)]) B.hx B.hb dX3_countOf_3 rfl hl (by decide) rfl (fun ls hl => ?_)
  refine q_loop (nL := 3) (fun i : Nat => i ≤ L) (fun i : Nat => L - i) (fun i : Nat => [(2, .int (nI i)), (1, .int (nI (pN (fun i => decide (¬ f i = 0)) i))), (0, .ref a)]) 0 (Nat.zero_le _) (lv_sub hl [0, 1, 2] rfl) ?_
  intro i hi ih ls hl
  have hi : i ≤ L := hi
  have hl : lv_has ls 3 [(2, .int (nI i)), (1, .int (nI (pN (fun i => decide (¬ f i = 0)) i))), (0, .ref a)] := hl
  refine lv_iload_n B.hx B.hb dX3_countOf_4 rfl (lv_at hl 0 rfl) ?_
  refine lv_aload_n B.hx B.hb dX3_countOf_5 rfl (lv_at hl 2 rfl) ?_
  refine va_alen B.hx B.hb B.hK hP q0 1 ha rfl (v := nI L) rfl dX3_countOf_6 ?_
  refine lv_icmp_ge (tgt := 25) B.hx B.hb dX3_countOf_7 (by decide) (fun c1 => ?_) (fun c1 => ?_)
  · replace c1 := (nI_leI (by omega) (by omega)).mp c1
    refine lv_iload_n B.hx B.hb dX3_countOf_25 rfl (lv_at hl 1 rfl) ?_
    exact q_iret B hr hP hD hS (u := ()) rfl (by rw [show L = i by omega]) (Nat.le_of_ble_eq_true rfl) (Nat.le_of_ble_eq_true rfl) dX3_countOf_26
  · replace c1 := mt (nI_leI (by omega) (by omega)).mpr c1
    refine lv_aload_n B.hx B.hb dX3_countOf_10 rfl (lv_at hl 2 rfl) ?_
    refine lv_iload_n B.hx B.hb dX3_countOf_11 rfl (lv_at hl 0 rfl) ?_
    refine q_zald B hP q0 ha (j := i) rfl (by omega) (by omega) dX3_countOf_12 ?_
    refine lv_if_eq (tgt := 19) B.hx B.hb dX3_countOf_13 (by decide) (fun c2 => ?_) (fun c2 => ?_)
    · have hl : lv_has ls 3 [(2, .int (nI i)), (1, .int (nI (pN (fun i => decide (¬ f i = 0)) (i + 1)))), (0, .ref a)] := by rw [pN_no (ok := fun i => decide (¬ f i = 0)) (i := i) (by simp [c2])]; exact hl
      refine lv_iinc (v := nI (i + 1)) (lv' := [(2, .int (nI (i + 1))), (1, .int (nI (pN (fun i => decide (¬ f i = 0)) (i + 1)))), (0, .ref a)]) B.hx B.hb dX3_countOf_19 hl (k := 0) rfl (nI_1 _) (by decide) rfl (fun ls hl => ?_)
      refine lv_goto (tgt := 4) B.hx B.hb dX3_countOf_22 (by decide) ?_
      exact ih (i + 1) (by omega) (by omega) ls (lv_sub hl [0, 1, 2] rfl)
    · refine lv_iinc (v := nI (pN (fun i => decide (¬ f i = 0)) (i + 1))) (lv' := [(1, .int (nI (pN (fun i => decide (¬ f i = 0)) (i + 1)))), (2, .int (nI i)), (0, .ref a)]) B.hx B.hb dX3_countOf_16 hl (k := 1) rfl (by rw [pN_yes (ok := fun i => decide (¬ f i = 0)) (i := i) (by simp [c2])]; exact nI_1 _) (by decide) rfl (fun ls hl => ?_)
      refine lv_iinc (v := nI (i + 1)) (lv' := [(2, .int (nI (i + 1))), (1, .int (nI (pN (fun i => decide (¬ f i = 0)) (i + 1)))), (0, .ref a)]) B.hx B.hb dX3_countOf_19 hl (k := 1) rfl (nI_1 _) (by decide) rfl (fun ls hl => ?_)
      refine lv_goto (tgt := 4) B.hx B.hb dX3_countOf_22 (by decide) ?_
      exact ih (i + 1) (by omega) (by omega) ls (lv_sub hl [0, 1, 2] rfl)
set_option maxHeartbeats 4000000 in
set_option maxRecDepth 100000 in
theorem c3_checkRange (l : Launch) (hfl : l.stackTraces = false) (D : va_G) (cI cZ cP : ClassId) (x lo hi : Int32) : q_C l yX3_checkRange wsX3_checkRange ({ frames := 6, cells := 1, slots := 6, locals := 82 }) D cI cZ cP [.int x, .int lo, .int hi] (([] : va_W)) (S := Unit) (fun v _ => v = none ∧ rg x lo hi = true) (fun _ => ([] : va_W)) (fun E => E = q_IAE ∧ rg x lo hi = false) 1 6 := by
  refine q_of (cc := cX3_checkRange) (maxL := 3) (ret := none) (by decide +kernel) rfl (Nat.le_of_ble_eq_true rfl) ?_
  intro p e s m below meth c A ls B hr htb hmn hP hD hS hl
  have hl : lv_has ls 3 [(0, .int x), (1, .int lo), (2, .int hi)] := hl
  refine lv_iload_n B.hx B.hb dX3_checkRange_0 rfl (lv_at hl 0 rfl) ?_
  refine lv_iload_n B.hx B.hb dX3_checkRange_1 rfl (lv_at hl 1 rfl) ?_
  refine lv_icmp_lt (tgt := 10) B.hx B.hb dX3_checkRange_2 (by decide) (fun c1 => ?_) (fun c1 => ?_)
  · exact q_throw B hfl htb hP hS q_E_IAE (goodIn_app (goodIn_of [_, _] (by decide +kernel)) (goodIn_sub (fun w h => List.mem_cons_of_mem _ (List.mem_append_right _ h)) q_allg_IAE)) (List.mem_of_getElem? (i := 21) rfl) hl.1 dX3_checkRange_10 dX3_checkRange_13 dX3_checkRange_14 dX3_checkRange_16 dX3_checkRange_19 ⟨(Nat.le_of_ble_eq_true rfl), (Nat.le_of_ble_eq_true rfl), (Nat.le_of_ble_eq_true rfl), (Nat.le_of_ble_eq_true rfl)⟩ ⟨rfl, rg_lo c1⟩ (Nat.le_of_ble_eq_true rfl) (Nat.le_of_ble_eq_true rfl)
  · refine lv_iload_n B.hx B.hb dX3_checkRange_5 rfl (lv_at hl 0 rfl) ?_
    refine lv_iload_n B.hx B.hb dX3_checkRange_6 rfl (lv_at hl 2 rfl) ?_
    refine lv_icmp_le (tgt := 20) B.hx B.hb dX3_checkRange_7 (by decide) (fun c2 => ?_) (fun c2 => ?_)
    · exact q_vret B hr hP hD hS (u := ()) rfl ⟨rfl, rg_le c1 c2⟩ (Nat.le_of_ble_eq_true rfl) (Nat.le_of_ble_eq_true rfl) dX3_checkRange_20
    · exact q_throw B hfl htb hP hS q_E_IAE (goodIn_app (goodIn_of [_, _] (by decide +kernel)) (goodIn_sub (fun w h => List.mem_cons_of_mem _ (List.mem_append_right _ h)) q_allg_IAE)) (List.mem_of_getElem? (i := 21) rfl) hl.1 dX3_checkRange_10 dX3_checkRange_13 dX3_checkRange_14 dX3_checkRange_16 dX3_checkRange_19 ⟨(Nat.le_of_ble_eq_true rfl), (Nat.le_of_ble_eq_true rfl), (Nat.le_of_ble_eq_true rfl), (Nat.le_of_ble_eq_true rfl)⟩ ⟨rfl, rg_nle c2⟩ (Nat.le_of_ble_eq_true rfl) (Nat.le_of_ble_eq_true rfl)
set_option maxHeartbeats 4000000 in
set_option maxRecDepth 100000 in
theorem c3_checkPerson (l : Launch) (hfl : l.stackTraces = false) (D : va_G) (cI cZ cP : ClassId) (x : Int32) : q_C l yX3_checkPerson wsX3_checkPerson ({ frames := 7, cells := 1, slots := 6, locals := 104 }) D cI cZ cP [.int x] (([] : va_W)) (S := Unit) (fun v _ => v = none ∧ rg x (nI 0) (nI 5) = true) (fun _ => ([] : va_W)) (fun E => E = q_IAE ∧ rg x (nI 0) (nI 5) = false) 1 6 := by
  refine q_of (cc := cX3_checkPerson) (maxL := 1) (ret := none) (by decide +kernel) rfl (Nat.le_of_ble_eq_true rfl) ?_
  intro p e s m below meth c A ls B hr htb hmn hP hD hS hl
  have hl : lv_has ls 1 [(0, .int x)] := hl
  refine lv_iload_n B.hx B.hb dX3_checkPerson_0 rfl (lv_at hl 0 rfl) ?_
  refine lv_iconst (v := (nI 0)) B.hx B.hb dX3_checkPerson_1 (by decide) ?_
  refine lv_iconst (v := (nI 5)) B.hx B.hb dX3_checkPerson_2 (by decide) ?_
  refine q_callS (As := [.int x, .int (nI 0), .int (nI 5)]) (rest := []) B hP hD hS ((c3_checkRange l hfl D cI cZ cP x (nI 0) (nI 5)).fr0 (([] : va_W))) (cwS 3 B.hts gX3_checkPerson_X3_checkRange rfl rfl rfl (by decide +kernel) ⟨(Nat.le_of_ble_eq_true rfl), (Nat.le_of_ble_eq_true rfl)⟩) rfl hl.1 rfl (Nat.le_of_ble_eq_true rfl) dX3_checkPerson_3 ⟨(Nat.le_of_ble_eq_true rfl), (Nat.le_of_ble_eq_true rfl)⟩ (fun E ce q9 H locs hx hP hS hce hcv hcl => ?_) (fun v u H locs hp hP hD hS => ?_)
  · exact q_xout B htb hP hS hce hcv hcl hx (Nat.le_of_ble_eq_true rfl) (Nat.le_of_ble_eq_true rfl)
  · obtain ⟨rfl, hrg0⟩ := hp
    have hP : va_P D vwCl (([] : va_W)) H := hP
    have hD : va_D A (([] : va_W)) := hD
    exact q_vret B hr hP hD hS (u := ()) rfl ⟨rfl, hrg0⟩ (Nat.le_of_ble_eq_true rfl) (Nat.le_of_ble_eq_true rfl) dX3_checkPerson_6
set_option maxHeartbeats 4000000 in
set_option maxRecDepth 100000 in
theorem c3_checkInForce (l : Launch) (hfl : l.stackTraces = false) (D : va_G) (cI cZ cP : ClassId) (a : Nat → Nat) (X : Nat → Int32) (Y : Nat → Nat → Int32) (w : Nat) (hw1 : X 1 = nI w) (hw2 : w ≤ 128) : q_C l yX3_checkInForce wsX3_checkInForce ({ frames := 6, cells := 1, slots := 6, locals := 82 }) D cI cZ cP [.ref (a 0)] (dw cI cZ a X Y ++ ppw cI cZ a X Y) (S := Unit) (fun v _ => v = none ∧ ¬ w = 0) (fun _ => dw cI cZ a X Y ++ ppw cI cZ a X Y) (fun E => E = q_ISE ∧ w = 0) 1 6 := by
  refine q_of (cc := cX3_checkInForce) (maxL := 1) (ret := none) (by decide +kernel) rfl (Nat.le_of_ble_eq_true rfl) ?_
  intro p e s m below meth c A ls B hr htb hmn hP hD hS hl
  have hl : lv_has ls 1 [(0, .ref (a 0))] := hl
  refine lv_aload_n B.hx B.hb dX3_checkInForce_0 rfl (lv_at hl 0 rfl) ?_
  refine q_callV (As := []) (rest := []) B hP hD hS (c2_newest l D cI cZ cP a X Y w hw1) (cwV 0 B.hts gX3_checkInForce_X2_newest rfl rfl rfl (by decide +kernel) ⟨(Nat.le_of_ble_eq_true rfl), (Nat.le_of_ble_eq_true rfl)⟩) 6 2 rfl rfl rfl rfl hl.1 rfl (Nat.le_of_ble_eq_true rfl) dX3_checkInForce_1 ⟨(Nat.le_of_ble_eq_true rfl), (Nat.le_of_ble_eq_true rfl)⟩ (fun E ce q9 H locs hx => False.elim hx) (fun v u H locs hp hP hD hS => ?_)
  obtain rfl := hp
  have hP : va_P D vwCl (dw cI cZ a X Y ++ ppw cI cZ a X Y) H := hP
  have hD : va_D A (dw cI cZ a X Y ++ ppw cI cZ a X Y) := hD
  refine lv_iconst (v := (-1)) B.hx B.hb dX3_checkInForce_4 (by decide) ?_
  refine lv_icmp_ne (tgt := 18) B.hx B.hb dX3_checkInForce_5 (by decide) (fun c1 => ?_) (fun c1 => ?_)
  · exact q_vret B hr hP hD hS (u := ()) rfl ⟨rfl, mt (vn_m1 (by omega)).mpr c1⟩ (Nat.le_of_ble_eq_true rfl) (Nat.le_of_ble_eq_true rfl) dX3_checkInForce_18
  · exact q_throw B hfl htb hP hS q_E_ISE (goodIn_app (goodIn_of [_, _] (by decide +kernel)) (goodIn_sub (fun w h => List.mem_cons_of_mem _ (List.mem_append_right _ h)) q_allg_ISE)) (List.mem_of_getElem? (i := 22) rfl) hl.1 dX3_checkInForce_8 dX3_checkInForce_11 dX3_checkInForce_12 dX3_checkInForce_14 dX3_checkInForce_17 ⟨(Nat.le_of_ble_eq_true rfl), (Nat.le_of_ble_eq_true rfl), (Nat.le_of_ble_eq_true rfl), (Nat.le_of_ble_eq_true rfl)⟩ ⟨rfl, (vn_m1 (by omega)).mp c1⟩ (Nat.le_of_ble_eq_true rfl) (Nat.le_of_ble_eq_true rfl)
set_option maxHeartbeats 4000000 in
set_option maxRecDepth 100000 in
theorem c3_draftOf (l : Launch) (hfl : l.stackTraces = false) (D : va_G) (cI cZ cP : ClassId) (a : Nat → Nat) (X : Nat → Int32) (Y : Nat → Nat → Int32) : q_C l yX3_draftOf wsX3_draftOf ({ frames := 6, cells := 1, slots := 6, locals := 82 }) D cI cZ cP [.ref (a 0)] (dw cI cZ a X Y ++ ppw cI cZ a X Y) (S := Unit) (fun v _ => v = some (.ref (a 2)) ∧ ¬ X 2 = 0) (fun _ => dw cI cZ a X Y ++ ppw cI cZ a X Y) (fun E => E = q_ISE ∧ X 2 = 0) 1 6 := by
  refine q_of (cc := cX3_draftOf) (maxL := 1) (ret := (some (.object "PaperKeeper$Draft"))) (by decide +kernel) rfl (Nat.le_of_ble_eq_true rfl) ?_
  intro p e s m below meth c A ls B hr htb hmn hP hD hS hl
  have hl : lv_has ls 1 [(0, .ref (a 0))] := hl
  have hi2 : ∀ w ∈ u_ws RX2 TX2 9, w ∈ wsX3_draftOf := by decide +kernel
  refine lv_aload_n B.hx B.hb dX3_draftOf_0 rfl (lv_at hl 0 rfl) ?_
  refine q_get B hP (C := RX2) (ref := "PaperKeeper$Paper") (T := TX2) (N := 9) (ci := 2) hi2 rfl 6 rfl 6 (by decide) (by decide +kernel) rfl (v := .int (X 2)) rfl dX3_draftOf_1 ?_
  refine lv_if_ne (tgt := 17) B.hx B.hb dX3_draftOf_4 (by decide) (fun c1 => ?_) (fun c1 => ?_)
  · refine lv_aload_n B.hx B.hb dX3_draftOf_17 rfl (lv_at hl 0 rfl) ?_
    refine q_get B hP (C := RX2) (ref := "PaperKeeper$Paper") (T := TX2) (N := 9) (ci := 2) hi2 rfl 6 rfl 2 (by decide) (by decide +kernel) rfl (v := .ref (a 2)) rfl dX3_draftOf_18 ?_
    exact q_aret B hr hP hD hS (u := ()) rfl ⟨rfl, c1⟩ (Nat.le_of_ble_eq_true rfl) (Nat.le_of_ble_eq_true rfl) dX3_draftOf_21
  · exact q_throw B hfl htb hP hS q_E_ISE (goodIn_app (goodIn_of [_, _] (by decide +kernel)) (goodIn_sub (fun w h => List.mem_cons_of_mem _ (List.mem_append_right _ h)) q_allg_ISE)) (List.mem_of_getElem? (i := 24) rfl) hl.1 dX3_draftOf_7 dX3_draftOf_10 dX3_draftOf_11 dX3_draftOf_13 dX3_draftOf_16 ⟨(Nat.le_of_ble_eq_true rfl), (Nat.le_of_ble_eq_true rfl), (Nat.le_of_ble_eq_true rfl), (Nat.le_of_ble_eq_true rfl)⟩ ⟨rfl, c1⟩ (Nat.le_of_ble_eq_true rfl) (Nat.le_of_ble_eq_true rfl)
set_option maxHeartbeats 4000000 in
set_option maxRecDepth 100000 in
theorem c3_paperAt (l : Launch) (D : va_G) (cI cZ cP : ClassId) (b : Nat → Nat) (I : Nat → Int32) (V : Nat → Nat → Int32) (P : Nat → Option Nat) (j r : Nat) (hj : j < 8) (hpj : P j = some r) : q_C l yX3_paperAt wsX3_paperAt ({ frames := 0, cells := 0, slots := 0, locals := 0 }) D cI cZ cP [.ref (b 0), .int (nI j)] (kq cI cZ cP b I V P ++ cw cI b I V) (S := Unit) (fun v _ => v = some (.ref r)) (fun _ => kq cI cZ cP b I V P ++ cw cI b I V) (fun _ => False) 0 0 := by
  refine q_of (cc := cX3_paperAt) (maxL := 3) (ret := (some (.object "PaperKeeper$Paper"))) (by decide +kernel) rfl (Nat.le_of_ble_eq_true rfl) ?_
  intro p e s m below meth c A ls B hr htb hmn hP hD hS hl
  have hl : lv_has ls 3 [(0, .ref (b 0)), (1, .int (nI j))] := hl
  have hi3 : ∀ w ∈ u_ws RX3 TX3 8, w ∈ wsX3_paperAt := by decide +kernel
  refine lv_iload_n B.hx B.hb dX3_paperAt_0 rfl (lv_at hl 1 rfl) ?_
  refine lv_if_lt (tgt := 19) B.hx B.hb dX3_paperAt_1 (by decide) (fun c1 => absurd c1 (nI_pos (by omega))) (fun _ => ?_)
  refine lv_iload_n B.hx B.hb dX3_paperAt_4 rfl (lv_at hl 1 rfl) ?_
  refine lv_bipush (v := (nI 8)) B.hx B.hb dX3_paperAt_5 (by decide) ?_
  refine lv_icmp_ge (tgt := 19) B.hx B.hb dX3_paperAt_7 (by decide) (fun c2 => absurd c2 (mt (nI_leI (by omega) (by omega)).mp (by omega))) (fun _ => ?_)
  refine lv_aload_n B.hx B.hb dX3_paperAt_10 rfl (lv_at hl 0 rfl) ?_
  refine q_get B hP (C := RX3) (ref := "PaperKeeper") (T := TX3) (N := 8) (ci := 3) hi3 rfl 0 rfl 3 (by decide) (by decide +kernel) rfl (v := .ref (b 4)) rfl dX3_paperAt_11 ?_
  refine lv_iload_n B.hx B.hb dX3_paperAt_14 rfl (lv_at hl 1 rfl) ?_
  refine q_aald B hP 4 rfl (j := j) rfl (by omega) (by decide) dX3_paperAt_15 ?_
  refine q_top (v2 := .ref (r)) (by rw [hpj]; rfl) ?_
  refine lv_goto (tgt := 20) B.hx B.hb dX3_paperAt_16 (by decide) ?_
  refine lv_astore_n (lv' := [(2, .ref (r)), (0, .ref (b 0)), (1, .int (nI j))]) B.hx B.hb dX3_paperAt_20 rfl hl (by decide) rfl (fun ls hl => ?_)
  refine lv_aload_n B.hx B.hb dX3_paperAt_21 rfl (lv_at hl 0 rfl) ?_
  refine lv_ifnonnull (tgt := 35) B.hx B.hb dX3_paperAt_22 (by decide) ?_
  refine lv_aload_n B.hx B.hb dX3_paperAt_35 rfl (lv_at hl 0 rfl) ?_
  exact q_aret B hr hP hD hS (u := ()) rfl rfl (Nat.le_of_ble_eq_true rfl) (Nat.le_of_ble_eq_true rfl) dX3_paperAt_36
set_option maxHeartbeats 4000000 in
set_option maxRecDepth 100000 in
theorem c3_paperAt_no (l : Launch) (hfl : l.stackTraces = false) (D : va_G) (cI cZ cP : ClassId) (b : Nat → Nat) (I : Nat → Int32) (V : Nat → Nat → Int32) (P : Nat → Option Nat) (x : Int32) (hno : nop P x) : q_C l yX3_paperAt wsX3_paperAt ({ frames := 6, cells := 1, slots := 6, locals := 82 }) D cI cZ cP [.ref (b 0), .int x] (kq cI cZ cP b I V P ++ cw cI b I V) (S := Unit) (fun _ _ => False) (fun _ => kq cI cZ cP b I V P ++ cw cI b I V) (fun E => E = q_IOB) 1 6 := by
  refine q_of (cc := cX3_paperAt) (maxL := 3) (ret := (some (.object "PaperKeeper$Paper"))) (by decide +kernel) rfl (Nat.le_of_ble_eq_true rfl) ?_
  intro p e s m below meth c A ls B hr htb hmn hP hD hS hl
  have hl : lv_has ls 3 [(0, .ref (b 0)), (1, .int x)] := hl
  have hi3 : ∀ w ∈ u_ws RX3 TX3 8, w ∈ wsX3_paperAt := by decide +kernel
  refine lv_iload_n B.hx B.hb dX3_paperAt_0 rfl (lv_at hl 1 rfl) ?_
  refine lv_if_lt (tgt := 19) B.hx B.hb dX3_paperAt_1 (by decide) (fun c1 => ?_) (fun c1 => ?_)
  · refine lv_null B.hx B.hb dX3_paperAt_19 ?_
    refine lv_astore_nN (lv' := [(2, .null), (0, .ref (b 0)), (1, .int x)]) B.hx B.hb dX3_paperAt_20 rfl hl (by decide) rfl (fun ls hl => ?_)
    refine lv_aload_nN B.hx B.hb dX3_paperAt_21 rfl (lv_at hl 0 rfl) ?_
    refine lv_ifnonnullN B.hx B.hb dX3_paperAt_22 ?_
    exact q_throw B hfl htb hP hS q_E_IOB (goodIn_app (goodIn_of [_, _] (by decide +kernel)) (goodIn_sub (fun w h => List.mem_cons_of_mem _ (List.mem_append_right _ h)) q_allg_IOB)) (List.mem_of_getElem? (i := 23) rfl) hl.1 dX3_paperAt_25 dX3_paperAt_28 dX3_paperAt_29 dX3_paperAt_31 dX3_paperAt_34 ⟨(Nat.le_of_ble_eq_true rfl), (Nat.le_of_ble_eq_true rfl), (Nat.le_of_ble_eq_true rfl), (Nat.le_of_ble_eq_true rfl)⟩ rfl (Nat.le_of_ble_eq_true rfl) (Nat.le_of_ble_eq_true rfl)
  · refine lv_iload_n B.hx B.hb dX3_paperAt_4 rfl (lv_at hl 1 rfl) ?_
    refine lv_bipush (v := (nI 8)) B.hx B.hb dX3_paperAt_5 (by decide) ?_
    refine lv_icmp_ge (tgt := 19) B.hx B.hb dX3_paperAt_7 (by decide) (fun c2 => ?_) (fun c2 => ?_)
    · refine lv_null B.hx B.hb dX3_paperAt_19 ?_
      refine lv_astore_nN (lv' := [(2, .null), (0, .ref (b 0)), (1, .int x)]) B.hx B.hb dX3_paperAt_20 rfl hl (by decide) rfl (fun ls hl => ?_)
      refine lv_aload_nN B.hx B.hb dX3_paperAt_21 rfl (lv_at hl 0 rfl) ?_
      refine lv_ifnonnullN B.hx B.hb dX3_paperAt_22 ?_
      exact q_throw B hfl htb hP hS q_E_IOB (goodIn_app (goodIn_of [_, _] (by decide +kernel)) (goodIn_sub (fun w h => List.mem_cons_of_mem _ (List.mem_append_right _ h)) q_allg_IOB)) (List.mem_of_getElem? (i := 23) rfl) hl.1 dX3_paperAt_25 dX3_paperAt_28 dX3_paperAt_29 dX3_paperAt_31 dX3_paperAt_34 ⟨(Nat.le_of_ble_eq_true rfl), (Nat.le_of_ble_eq_true rfl), (Nat.le_of_ble_eq_true rfl), (Nat.le_of_ble_eq_true rfl)⟩ rfl (Nat.le_of_ble_eq_true rfl) (Nat.le_of_ble_eq_true rfl)
    · obtain ⟨j, hj, rfl⟩ := inr_of (n := 8) (by decide) c1 (inr_no c1 c2)
      refine lv_aload_n B.hx B.hb dX3_paperAt_10 rfl (lv_at hl 0 rfl) ?_
      refine q_get B hP (C := RX3) (ref := "PaperKeeper") (T := TX3) (N := 8) (ci := 3) hi3 rfl 0 rfl 3 (by decide) (by decide +kernel) rfl (v := .ref (b 4)) rfl dX3_paperAt_11 ?_
      refine lv_iload_n B.hx B.hb dX3_paperAt_14 rfl (lv_at hl 1 rfl) ?_
      refine q_aald B hP 4 rfl (j := j) rfl (by omega) (by decide) dX3_paperAt_15 ?_
      refine q_top (v2 := .null) (by rw [hno j hj rfl]; rfl) ?_
      refine lv_goto (tgt := 20) B.hx B.hb dX3_paperAt_16 (by decide) ?_
      refine lv_astore_nN (lv' := [(2, .null), (0, .ref (b 0)), (1, .int (nI j))]) B.hx B.hb dX3_paperAt_20 rfl hl (by decide) rfl (fun ls hl => ?_)
      refine lv_aload_nN B.hx B.hb dX3_paperAt_21 rfl (lv_at hl 0 rfl) ?_
      refine lv_ifnonnullN B.hx B.hb dX3_paperAt_22 ?_
      exact q_throw B hfl htb hP hS q_E_IOB (goodIn_app (goodIn_of [_, _] (by decide +kernel)) (goodIn_sub (fun w h => List.mem_cons_of_mem _ (List.mem_append_right _ h)) q_allg_IOB)) (List.mem_of_getElem? (i := 23) rfl) hl.1 dX3_paperAt_25 dX3_paperAt_28 dX3_paperAt_29 dX3_paperAt_31 dX3_paperAt_34 ⟨(Nat.le_of_ble_eq_true rfl), (Nat.le_of_ble_eq_true rfl), (Nat.le_of_ble_eq_true rfl), (Nat.le_of_ble_eq_true rfl)⟩ rfl (Nat.le_of_ble_eq_true rfl) (Nat.le_of_ble_eq_true rfl)
set_option maxHeartbeats 4000000 in
set_option maxRecDepth 100000 in
theorem c3_canApprove (l : Launch) (D : va_G) (cI cZ cP : ClassId) (b : Nat → Nat) (I : Nat → Int32) (V : Nat → Nat → Int32) (P : Nat → Option Nat) (j : Nat) (hj : j < 6) (hb : ∀ i, i < 6 → V 1 i = 0 ∨ V 1 i = 1) : q_C l yX3_canApprove wsX3_canApprove ({ frames := 0, cells := 0, slots := 0, locals := 0 }) D cI cZ cP [.ref (b 0), .int (nI j)] (kq cI cZ cP b I V P ++ cw cI b I V) (S := Unit) (fun v _ => v = some (.int (bI (ca (V 1) (V 2) j 6)))) (fun _ => kq cI cZ cP b I V P ++ cw cI b I V) (fun _ => False) 0 0 := by
  refine q_of (cc := cX3_canApprove) (maxL := 4) (ret := (some .boolean)) (by decide +kernel) rfl (Nat.le_of_ble_eq_true rfl) ?_
  intro p e s m below meth c A ls B hr htb hmn hP hD hS hl
  have hl : lv_has ls 4 [(0, .ref (b 0)), (1, .int (nI j))] := hl
  have hi3 : ∀ w ∈ u_ws RX3 TX3 8, w ∈ wsX3_canApprove := by decide +kernel
  refine lv_aload_n B.hx B.hb dX3_canApprove_0 rfl (lv_at hl 0 rfl) ?_
  refine q_get B hP (C := RX3) (ref := "PaperKeeper") (T := TX3) (N := 8) (ci := 3) hi3 rfl 0 rfl 1 (by decide) (by decide +kernel) rfl (v := .ref (b 2)) rfl dX3_canApprove_1 ?_
  refine lv_iload_n B.hx B.hb dX3_canApprove_4 rfl (lv_at hl 1 rfl) ?_
  refine q_zald B hP 2 rfl (j := j) rfl (by omega) (by decide) dX3_canApprove_5 ?_
  refine q_top (v2 := .int (bI (ca (V 1) (V 2) j 0))) (congrArg Value.int (ca_0 (hb j hj))) ?_
  refine lv_istore_n (lv' := [(2, .int (bI (ca (V 1) (V 2) j 0))), (0, .ref (b 0)), (1, .int (nI j))]) B.hx B.hb dX3_canApprove_6 rfl hl (by decide) rfl (fun ls hl => ?_)
  refine lv_iconst (v := (nI 0)) B.hx B.hb dX3_canApprove_7 (by decide) ?_
  refine lv_istore_n (lv' := [(3, .int (nI 0)), (2, .int (bI (ca (V 1) (V 2) j 0))), (0, .ref (b 0)), (1, .int (nI j))]) B.hx B.hb dX3_canApprove_8 rfl hl (by decide) rfl (fun ls hl => ?_)
  refine q_loop (nL := 4) (fun i : Nat => i ≤ 6) (fun i : Nat => 6 - i) (fun i : Nat => [(3, .int (nI i)), (2, .int (bI (ca (V 1) (V 2) j i))), (0, .ref (b 0)), (1, .int (nI j))]) (0) (Nat.zero_le _) (lv_sub hl [0, 1, 2, 3] rfl) ?_
  intro i1 hI2 ih3 ls hl
  have hI2 : i1 ≤ 6 := hI2
  have hl : lv_has ls 4 [(3, .int (nI i1)), (2, .int (bI (ca (V 1) (V 2) j i1))), (0, .ref (b 0)), (1, .int (nI j))] := hl
  refine lv_iload_n B.hx B.hb dX3_canApprove_9 rfl (lv_at hl 0 rfl) ?_
  refine lv_bipush (v := (nI 6)) B.hx B.hb dX3_canApprove_10 (by decide) ?_
  refine lv_icmp_ge (tgt := 50) B.hx B.hb dX3_canApprove_12 (by decide) (fun c4 => ?_) (fun c4 => ?_)
  · replace c4 := (nI_leI (by omega) (by omega)).mp c4
    refine lv_iload_n B.hx B.hb dX3_canApprove_50 rfl (lv_at hl 1 rfl) ?_
    exact q_zret B hr hP hD hS (by generalize ca (V 1) (V 2) j _ = z; cases z <;> rfl) (u := ()) rfl (by rw [show i1 = 6 by omega]) (Nat.le_of_ble_eq_true rfl) (Nat.le_of_ble_eq_true rfl) dX3_canApprove_51
  · replace c4 := mt (nI_leI (by omega) (by omega)).mpr c4
    refine lv_iload_n B.hx B.hb dX3_canApprove_15 rfl (lv_at hl 1 rfl) ?_
    refine lv_if_ne (tgt := 38) B.hx B.hb dX3_canApprove_16 (by decide) (fun c5 => ?_) (fun c5 => ?_)
    · replace c5 := Bool.not_eq_false _ ▸ (mt bI_0.mpr c5)
      refine lv_iconst (v := (nI 1)) B.hx B.hb dX3_canApprove_38 (by decide) ?_
      refine lv_goto (tgt := 43) B.hx B.hb dX3_canApprove_39 (by decide) ?_
      refine q_top (v2 := .int (bI (ca (V 1) (V 2) j (i1 + 1)))) (congrArg Value.int (bI_t (by rw [ca_s]; simp [c5]))) ?_
      refine lv_istore_n (lv' := [(2, .int (bI (ca (V 1) (V 2) j (i1 + 1)))), (3, .int (nI i1)), (0, .ref (b 0)), (1, .int (nI j))]) B.hx B.hb dX3_canApprove_43 rfl hl (by decide) rfl (fun ls hl => ?_)
      refine lv_iinc (v := (nI ((i1 + 1)))) (lv' := [(3, .int (nI ((i1 + 1)))), (2, .int (bI (ca (V 1) (V 2) j (i1 + 1)))), (0, .ref (b 0)), (1, .int (nI j))]) B.hx B.hb dX3_canApprove_44 hl (k := 1) rfl (nI_1 _) (by decide) rfl (fun ls hl => ?_)
      refine lv_goto (tgt := 9) B.hx B.hb dX3_canApprove_47 (by decide) ?_
      exact ih3 (i1 + 1) (by omega) (by omega) ls (lv_sub hl [0, 1, 2, 3] rfl)
    · replace c5 := bI_0.mp c5
      refine lv_aload_n B.hx B.hb dX3_canApprove_19 rfl (lv_at hl 2 rfl) ?_
      refine q_get B hP (C := RX3) (ref := "PaperKeeper") (T := TX3) (N := 8) (ci := 3) hi3 rfl 0 rfl 1 (by decide) (by decide +kernel) rfl (v := .ref (b 2)) rfl dX3_canApprove_20 ?_
      refine lv_iload_n B.hx B.hb dX3_canApprove_23 rfl (lv_at hl 0 rfl) ?_
      refine q_zald B hP 2 rfl (j := i1) rfl (by omega) (by decide) dX3_canApprove_24 ?_
      refine lv_if_eq (tgt := 42) B.hx B.hb dX3_canApprove_25 (by decide) (fun c6 => ?_) (fun c6 => ?_)
      · refine lv_iconst (v := (nI 0)) B.hx B.hb dX3_canApprove_42 (by decide) ?_
        refine q_top (v2 := .int (bI (ca (V 1) (V 2) j (i1 + 1)))) (congrArg Value.int (bI_f (by rw [ca_s]; simp [c5, c6]))) ?_
        refine lv_istore_n (lv' := [(2, .int (bI (ca (V 1) (V 2) j (i1 + 1)))), (3, .int (nI i1)), (0, .ref (b 0)), (1, .int (nI j))]) B.hx B.hb dX3_canApprove_43 rfl hl (by decide) rfl (fun ls hl => ?_)
        refine lv_iinc (v := (nI ((i1 + 1)))) (lv' := [(3, .int (nI ((i1 + 1)))), (2, .int (bI (ca (V 1) (V 2) j (i1 + 1)))), (0, .ref (b 0)), (1, .int (nI j))]) B.hx B.hb dX3_canApprove_44 hl (k := 1) rfl (nI_1 _) (by decide) rfl (fun ls hl => ?_)
        refine lv_goto (tgt := 9) B.hx B.hb dX3_canApprove_47 (by decide) ?_
        exact ih3 (i1 + 1) (by omega) (by omega) ls (lv_sub hl [0, 1, 2, 3] rfl)
      · refine lv_aload_n B.hx B.hb dX3_canApprove_28 rfl (lv_at hl 2 rfl) ?_
        refine q_get B hP (C := RX3) (ref := "PaperKeeper") (T := TX3) (N := 8) (ci := 3) hi3 rfl 0 rfl 2 (by decide) (by decide +kernel) rfl (v := .ref (b 3)) rfl dX3_canApprove_29 ?_
        refine lv_iload_n B.hx B.hb dX3_canApprove_32 rfl (lv_at hl 0 rfl) ?_
        refine q_iald B hP 3 rfl (j := i1) rfl (by omega) (by decide) dX3_canApprove_33 ?_
        refine lv_iload_n B.hx B.hb dX3_canApprove_34 rfl (lv_at hl 3 rfl) ?_
        refine lv_icmp_ne (tgt := 42) B.hx B.hb dX3_canApprove_35 (by decide) (fun c7 => ?_) (fun c7 => ?_)
        · refine lv_iconst (v := (nI 0)) B.hx B.hb dX3_canApprove_42 (by decide) ?_
          refine q_top (v2 := .int (bI (ca (V 1) (V 2) j (i1 + 1)))) (congrArg Value.int (bI_f (by rw [ca_s]; simp [c5, c6, c7]))) ?_
          refine lv_istore_n (lv' := [(2, .int (bI (ca (V 1) (V 2) j (i1 + 1)))), (3, .int (nI i1)), (0, .ref (b 0)), (1, .int (nI j))]) B.hx B.hb dX3_canApprove_43 rfl hl (by decide) rfl (fun ls hl => ?_)
          refine lv_iinc (v := (nI ((i1 + 1)))) (lv' := [(3, .int (nI ((i1 + 1)))), (2, .int (bI (ca (V 1) (V 2) j (i1 + 1)))), (0, .ref (b 0)), (1, .int (nI j))]) B.hx B.hb dX3_canApprove_44 hl (k := 1) rfl (nI_1 _) (by decide) rfl (fun ls hl => ?_)
          refine lv_goto (tgt := 9) B.hx B.hb dX3_canApprove_47 (by decide) ?_
          exact ih3 (i1 + 1) (by omega) (by omega) ls (lv_sub hl [0, 1, 2, 3] rfl)
        · refine lv_iconst (v := (nI 1)) B.hx B.hb dX3_canApprove_38 (by decide) ?_
          refine lv_goto (tgt := 43) B.hx B.hb dX3_canApprove_39 (by decide) ?_
          refine q_top (v2 := .int (bI (ca (V 1) (V 2) j (i1 + 1)))) (congrArg Value.int (bI_t (by rw [ca_s]; simp [c5, c6, c7]))) ?_
          refine lv_istore_n (lv' := [(2, .int (bI (ca (V 1) (V 2) j (i1 + 1)))), (3, .int (nI i1)), (0, .ref (b 0)), (1, .int (nI j))]) B.hx B.hb dX3_canApprove_43 rfl hl (by decide) rfl (fun ls hl => ?_)
          refine lv_iinc (v := (nI ((i1 + 1)))) (lv' := [(3, .int (nI ((i1 + 1)))), (2, .int (bI (ca (V 1) (V 2) j (i1 + 1)))), (0, .ref (b 0)), (1, .int (nI j))]) B.hx B.hb dX3_canApprove_44 hl (k := 1) rfl (nI_1 _) (by decide) rfl (fun ls hl => ?_)
          refine lv_goto (tgt := 9) B.hx B.hb dX3_canApprove_47 (by decide) ?_
          exact ih3 (i1 + 1) (by omega) (by omega) ls (lv_sub hl [0, 1, 2, 3] rfl)
