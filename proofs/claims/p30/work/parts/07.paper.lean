/-! The paper and the copies: their methods. -/
set_option maxHeartbeats 4000000 in
set_option maxRecDepth 100000 in
theorem c2_newest (l : Launch) (D : va_G) (cI cZ cP : ClassId) (a : Nat → Nat) (X : Nat → Int32) (Y : Nat → Nat → Int32) (w : Nat) (hw1 : X 1 = nI w) : q_C l yX2_newest wsX2_newest ({ frames := 0, cells := 0, slots := 0, locals := 0 }) D cI cZ cP [.ref (a 0)] (dw cI cZ a X Y ++ ppw cI cZ a X Y) (S := Unit) (fun v _ => v = some (.int (vn w))) (fun _ => dw cI cZ a X Y ++ ppw cI cZ a X Y) (fun _ => False) 0 0 := by
  refine q_of (cc := cX2_newest) (maxL := 1) (ret := (some .int)) (by decide +kernel) rfl (Nat.le_of_ble_eq_true rfl) ?_
  intro p e s m below meth c A ls B hr htb hmn hP hD hS hl
  have hl : lv_has ls 1 [(0, .ref (a 0))] := hl
  have hi2 : ∀ w ∈ u_ws RX2 TX2 9, w ∈ wsX2_newest := by decide +kernel
  refine lv_aload_n B.hx B.hb dX2_newest_0 rfl (lv_at hl 0 rfl) ?_
  refine q_get B hP (C := RX2) (ref := "PaperKeeper$Paper") (T := TX2) (N := 9) (ci := 2) hi2 rfl 6 rfl 5 (by decide) (by decide +kernel) rfl (v := .int (X 1)) rfl dX2_newest_1 ?_
  refine q_top (v2 := .int (nI w)) (congrArg Value.int hw1) ?_
  refine lv_iconst (v := (nI 1)) B.hx B.hb dX2_newest_4 (by decide) ?_
  refine lv_isub B.hx B.hb dX2_newest_5 ?_
  exact q_iret B hr hP hD hS (u := ()) rfl (by rw [vn_eq]) (Nat.le_of_ble_eq_true rfl) (Nat.le_of_ble_eq_true rfl) dX2_newest_6
set_option maxHeartbeats 4000000 in
set_option maxRecDepth 100000 in
theorem c2_versionOn (l : Launch) (D : va_G) (cI cZ cP : ClassId) (a : Nat → Nat) (X : Nat → Int32) (Y : Nat → Nat → Int32) (w : Nat) (hw1 : X 1 = nI w) (hw2 : w ≤ 128) (x : Int32) : q_C l yX2_versionOn wsX2_versionOn ({ frames := 0, cells := 0, slots := 0, locals := 0 }) D cI cZ cP [.ref (a 0), .int x] (dw cI cZ a X Y ++ ppw cI cZ a X Y) (S := Unit) (fun v _ => v = some (.int (pL (fun i => decide (¬ x < Y 7 i)) nI w))) (fun _ => dw cI cZ a X Y ++ ppw cI cZ a X Y) (fun _ => False) 0 0 := by
  refine q_of (cc := cX2_versionOn) (maxL := 3) (ret := (some .int)) (by decide +kernel) rfl (Nat.le_of_ble_eq_true rfl) ?_
  intro p e s m below meth c A ls B hr htb hmn hP hD hS hl
  have hl : lv_has ls 3 [(0, .ref (a 0)), (1, .int x)] := hl
  have hi2 : ∀ w ∈ u_ws RX2 TX2 9, w ∈ wsX2_versionOn := by decide +kernel
  refine lv_aload_n B.hx B.hb dX2_versionOn_0 rfl (lv_at hl 0 rfl) ?_
  refine q_get B hP (C := RX2) (ref := "PaperKeeper$Paper") (T := TX2) (N := 9) (ci := 2) hi2 rfl 6 rfl 5 (by decide) (by decide +kernel) rfl (v := .int (X 1)) rfl dX2_versionOn_1 ?_
  refine q_top (v2 := .int (nI w)) (congrArg Value.int hw1) ?_
  refine lv_iconst (v := (nI 1)) B.hx B.hb dX2_versionOn_4 (by decide) ?_
  refine lv_isub B.hx B.hb dX2_versionOn_5 ?_
  refine q_top (v2 := .int (vn w)) (congrArg Value.int (vn_eq w)) ?_
  refine lv_istore_n (lv' := [(2, .int (vn w)), (0, .ref (a 0)), (1, .int x)]) B.hx B.hb dX2_versionOn_6 rfl hl (by decide) rfl (fun ls hl => ?_)
  refine q_loop (nL := 3) (fun i : Nat => i ≤ w ∧ pL (fun i => decide (¬ x < Y 7 i)) nI w = pL (fun i => decide (¬ x < Y 7 i)) nI i) (fun i : Nat => i) (fun i : Nat => [(2, .int (vn i)), (0, .ref (a 0)), (1, .int x)]) (w) ⟨Nat.le_refl _, rfl⟩ (lv_sub hl [0, 1, 2] rfl) ?_
  intro i hI ih ls hl
  obtain ⟨hi, he⟩ : i ≤ w ∧ pL (fun i => decide (¬ x < Y 7 i)) nI w = pL (fun i => decide (¬ x < Y 7 i)) nI i := hI
  have hl : lv_has ls 3 [(2, .int (vn i)), (0, .ref (a 0)), (1, .int x)] := hl
  cases i with
  | zero =>
    have hl : lv_has ls 3 [(2, .int (-1)), (0, .ref (a 0)), (1, .int x)] := hl
    refine lv_iload_n B.hx B.hb dX2_versionOn_7 rfl (lv_at hl 0 rfl) ?_
    refine lv_if_lt (tgt := 29) B.hx B.hb dX2_versionOn_8 (by decide) (fun _ => ?_) (fun c1 => absurd c1 (by decide))
    refine lv_iconst (v := (-1)) B.hx B.hb dX2_versionOn_29 (by decide) ?_
    exact q_iret B hr hP hD hS (u := ()) rfl (by rw [he]; rfl) (Nat.le_of_ble_eq_true rfl) (Nat.le_of_ble_eq_true rfl) dX2_versionOn_30
  | succ k =>
    have hl : lv_has ls 3 [(2, .int (nI k)), (0, .ref (a 0)), (1, .int x)] := hl
    refine lv_iload_n B.hx B.hb dX2_versionOn_7 rfl (lv_at hl 0 rfl) ?_
    refine lv_if_lt (tgt := 29) B.hx B.hb dX2_versionOn_8 (by decide) (fun c2 => absurd c2 (nI_pos (by omega))) (fun _ => ?_)
    refine lv_aload_n B.hx B.hb dX2_versionOn_11 rfl (lv_at hl 1 rfl) ?_
    refine q_get B hP (C := RX2) (ref := "PaperKeeper$Paper") (T := TX2) (N := 9) (ci := 2) hi2 rfl 6 rfl 4 (by decide) (by decide +kernel) rfl (v := .ref (a 9)) rfl dX2_versionOn_12 ?_
    refine lv_iload_n B.hx B.hb dX2_versionOn_15 rfl (lv_at hl 0 rfl) ?_
    refine q_iald B hP 9 rfl (j := k) rfl (by omega) (by decide) dX2_versionOn_16 ?_
    refine lv_iload_n B.hx B.hb dX2_versionOn_17 rfl (lv_at hl 2 rfl) ?_
    refine lv_icmp_gt (tgt := 23) B.hx B.hb dX2_versionOn_18 (by decide) (fun c3 => ?_) (fun c3 => ?_)
    · refine lv_iinc (v := (vn k)) (lv' := [(2, .int (vn k)), (0, .ref (a 0)), (1, .int x)]) B.hx B.hb dX2_versionOn_23 hl (k := 0) rfl (vn_dec k) (by decide) rfl (fun ls hl => ?_)
      refine lv_goto (tgt := 7) B.hx B.hb dX2_versionOn_26 (by decide) ?_
      exact ih k ⟨by omega, by rw [he, pL_no (by rw [decide_eq_false_iff_not]; exact not_not_intro c3)]⟩ (by omega) ls (lv_sub hl [0, 1, 2] rfl)
    · refine lv_iload_n B.hx B.hb dX2_versionOn_21 rfl (lv_at hl 0 rfl) ?_
      exact q_iret B hr hP hD hS (u := ()) rfl (by rw [he, pL_yes (decide_eq_true c3)]) (Nat.le_of_ble_eq_true rfl) (Nat.le_of_ble_eq_true rfl) dX2_versionOn_22
set_option maxHeartbeats 4000000 in
set_option maxRecDepth 100000 in
theorem c2_needsLook (l : Launch) (D : va_G) (cI cZ cP : ClassId) (a : Nat → Nat) (X : Nat → Int32) (Y : Nat → Nat → Int32) (w : Nat) (hw1 : X 1 = nI w) (hw2 : w ≤ 128) (t iv : Int32) : q_C l yX2_needsLook wsX2_needsLook ({ frames := 0, cells := 0, slots := 0, locals := 0 }) D cI cZ cP [.ref (a 0), .int t, .int iv] (dw cI cZ a X Y ++ ppw cI cZ a X Y) (S := Unit) (fun v _ => v = some (.int (nl w (X 3) t (X 4) iv))) (fun _ => dw cI cZ a X Y ++ ppw cI cZ a X Y) (fun _ => False) 0 0 := by
  refine q_of (cc := cX2_needsLook) (maxL := 3) (ret := (some .boolean)) (by decide +kernel) rfl (Nat.le_of_ble_eq_true rfl) ?_
  intro p e s m below meth c A ls B hr htb hmn hP hD hS hl
  have hl : lv_has ls 3 [(0, .ref (a 0)), (1, .int t), (2, .int iv)] := hl
  have hi2 : ∀ w ∈ u_ws RX2 TX2 9, w ∈ wsX2_needsLook := by decide +kernel
  refine lv_aload_n B.hx B.hb dX2_needsLook_0 rfl (lv_at hl 0 rfl) ?_
  refine q_get B hP (C := RX2) (ref := "PaperKeeper$Paper") (T := TX2) (N := 9) (ci := 2) hi2 rfl 6 rfl 5 (by decide) (by decide +kernel) rfl (v := .int (X 1)) rfl dX2_needsLook_1 ?_
  refine q_top (v2 := .int (nI w)) (congrArg Value.int hw1) ?_
  refine lv_if_le (tgt := 28) B.hx B.hb dX2_needsLook_4 (by decide) (fun c1 => ?_) (fun c1 => ?_)
  · replace c1 := (nI_le0 (by omega)).mp c1
    refine lv_iconst (v := (nI 0)) B.hx B.hb dX2_needsLook_28 (by decide) ?_
    exact q_zret B hr hP hD hS (by decide) (u := ()) rfl (by simp [nl, c1]) (Nat.le_of_ble_eq_true rfl) (Nat.le_of_ble_eq_true rfl) dX2_needsLook_29
  · replace c1 := mt (nI_le0 (by omega)).mpr c1
    refine lv_aload_n B.hx B.hb dX2_needsLook_7 rfl (lv_at hl 0 rfl) ?_
    refine q_get B hP (C := RX2) (ref := "PaperKeeper$Paper") (T := TX2) (N := 9) (ci := 2) hi2 rfl 6 rfl 7 (by decide) (by decide +kernel) rfl (v := .int (X 3)) rfl dX2_needsLook_8 ?_
    refine lv_if_ne (tgt := 24) B.hx B.hb dX2_needsLook_11 (by decide) (fun c2 => ?_) (fun c2 => ?_)
    · refine lv_iconst (v := (nI 1)) B.hx B.hb dX2_needsLook_24 (by decide) ?_
      refine lv_goto (tgt := 29) B.hx B.hb dX2_needsLook_25 (by decide) ?_
      exact q_zret B hr hP hD hS (by decide) (u := ()) rfl (by simp [nl, c1, c2]) (Nat.le_of_ble_eq_true rfl) (Nat.le_of_ble_eq_true rfl) dX2_needsLook_29
    · refine lv_iload_n B.hx B.hb dX2_needsLook_14 rfl (lv_at hl 1 rfl) ?_
      refine lv_aload_n B.hx B.hb dX2_needsLook_15 rfl (lv_at hl 0 rfl) ?_
      refine q_get B hP (C := RX2) (ref := "PaperKeeper$Paper") (T := TX2) (N := 9) (ci := 2) hi2 rfl 6 rfl 8 (by decide) (by decide +kernel) rfl (v := .int (X 4)) rfl dX2_needsLook_16 ?_
      refine lv_isub B.hx B.hb dX2_needsLook_19 ?_
      refine lv_iload_n B.hx B.hb dX2_needsLook_20 rfl (lv_at hl 2 rfl) ?_
      refine lv_icmp_lt (tgt := 28) B.hx B.hb dX2_needsLook_21 (by decide) (fun c3 => ?_) (fun c3 => ?_)
      · refine lv_iconst (v := (nI 0)) B.hx B.hb dX2_needsLook_28 (by decide) ?_
        exact q_zret B hr hP hD hS (by decide) (u := ()) rfl (by simp [nl, c1, c2, c3]) (Nat.le_of_ble_eq_true rfl) (Nat.le_of_ble_eq_true rfl) dX2_needsLook_29
      · refine lv_iconst (v := (nI 1)) B.hx B.hb dX2_needsLook_24 (by decide) ?_
        refine lv_goto (tgt := 29) B.hx B.hb dX2_needsLook_25 (by decide) ?_
        exact q_zret B hr hP hD hS (by decide) (u := ()) rfl (by simp [nl, c1, c2, c3]) (Nat.le_of_ble_eq_true rfl) (Nat.le_of_ble_eq_true rfl) dX2_needsLook_29
set_option maxHeartbeats 4000000 in
set_option maxRecDepth 100000 in
theorem c2_restartInterval (l : Launch) (D : va_G) (cI cZ cP : ClassId) (a : Nat → Nat) (X : Nat → Int32) (Y : Nat → Nat → Int32) (t : Int32) : q_C l yX2_restartInterval wsX2_restartInterval ({ frames := 0, cells := 0, slots := 0, locals := 0 }) D cI cZ cP [.ref (a 0), .int t] (dw cI cZ a X Y ++ ppw cI cZ a X Y) (S := Unit) (fun v _ => v = none) (fun _ => dw cI cZ a (va_up (va_up X 3 (nI 0)) 4 t) Y ++ ppw cI cZ a (va_up (va_up X 3 (nI 0)) 4 t) Y) (fun _ => False) 0 0 := by
  refine q_of (cc := cX2_restartInterval) (maxL := 2) (ret := none) (by decide +kernel) rfl (Nat.le_of_ble_eq_true rfl) ?_
  intro p e s m below meth c A ls B hr htb hmn hP hD hS hl
  have hl : lv_has ls 2 [(0, .ref (a 0)), (1, .int t)] := hl
  have hi2 : ∀ w ∈ u_ws RX2 TX2 9, w ∈ wsX2_restartInterval := by decide +kernel
  refine lv_aload_n B.hx B.hb dX2_restartInterval_0 rfl (lv_at hl 0 rfl) ?_
  refine lv_iconst (v := (nI 0)) B.hx B.hb dX2_restartInterval_1 (by decide) ?_
  refine q_put B hP hD hS (C := RX2) (ref := "PaperKeeper$Paper") (T := TX2) (N := 9) (ci := 2) hi2 rfl tyX2 tyX2_ok nmX2 6 rfl 7 (by decide) (by decide +kernel) rfl rfl (by decide) (by decide) (Nat.le_of_ble_eq_true rfl) dX2_restartInterval_2 (w' := dw cI cZ a (va_up X 3 (nI 0)) Y ++ ppw cI cZ a (va_up X 3 (nI 0)) Y) rfl (fun H locs hP hD hS => ?_)
  refine lv_aload_n B.hx B.hb dX2_restartInterval_5 rfl (lv_at hl 0 rfl) ?_
  refine lv_iload_n B.hx B.hb dX2_restartInterval_6 rfl (lv_at hl 1 rfl) ?_
  refine q_put B hP hD hS (C := RX2) (ref := "PaperKeeper$Paper") (T := TX2) (N := 9) (ci := 2) hi2 rfl tyX2 tyX2_ok nmX2 6 rfl 8 (by decide) (by decide +kernel) rfl rfl rfl (by rfl) (Nat.le_of_ble_eq_true rfl) dX2_restartInterval_7 (w' := dw cI cZ a (va_up (va_up X 3 (nI 0)) 4 t) Y ++ ppw cI cZ a (va_up (va_up X 3 (nI 0)) 4 t) Y) rfl (fun H locs hP hD hS => ?_)
  exact q_vret B hr hP hD hS (u := ()) rfl rfl (Nat.le_of_ble_eq_true rfl) (Nat.le_of_ble_eq_true rfl) dX2_restartInterval_10
set_option maxHeartbeats 4000000 in
set_option maxRecDepth 100000 in
theorem c2_comeIntoForce (l : Launch) (D : va_G) (cI cZ cP : ClassId) (a : Nat → Nat) (X : Nat → Int32) (Y : Nat → Nat → Int32) (n k : Nat) (hW : wd X Y n k) (w : Nat) (hw1 : X 1 = nI w) (t : Int32) (hw2 : (¬ X 2 = 0 ∧ (stp n (dNR Y n) (dOR Y k) (X 10) (dNC Y)) = nI 5 ∧ ¬ t < X 11) → w < 128) : q_C l yX2_comeIntoForce wsX2_comeIntoForce ({ frames := 3, cells := 0, slots := 0, locals := 63 }) D cI cZ cP [.ref (a 0), .int t] (dw cI cZ a X Y ++ ppw cI cZ a X Y) (S := Bool) (fun v u => (v = some (.int (nI 1)) ∧ u = true ∧ (¬ X 2 = 0 ∧ (stp n (dNR Y n) (dOR Y k) (X 10) (dNC Y)) = nI 5 ∧ ¬ t < X 11)) ∨ (v = some (.int (nI 0)) ∧ u = false ∧ ¬ (¬ X 2 = 0 ∧ (stp n (dNR Y n) (dOR Y k) (X 10) (dNC Y)) = nI 5 ∧ ¬ t < X 11))) (fun u => dw cI cZ a (if u = true then (va_up (va_up (va_up (va_up X 1 (nI ((w + 1)))) 2 (nI 0)) 3 (nI 0)) 4 t) else X) (if u = true then (va_up (va_up Y 6 (upd (Y 6) w (X 6))) 7 (upd (Y 7) w t)) else Y) ++ ppw cI cZ a (if u = true then (va_up (va_up (va_up (va_up X 1 (nI ((w + 1)))) 2 (nI 0)) 3 (nI 0)) 4 t) else X) (if u = true then (va_up (va_up Y 6 (upd (Y 6) w (X 6))) 7 (upd (Y 7) w t)) else Y)) (fun _ => False) 0 0 := by
  refine q_of (cc := cX2_comeIntoForce) (maxL := 2) (ret := (some .boolean)) (by decide +kernel) rfl (Nat.le_of_ble_eq_true rfl) ?_
  intro p e s m below meth c A ls B hr htb hmn hP hD hS hl
  have hl : lv_has ls 2 [(0, .ref (a 0)), (1, .int t)] := hl
  have hi1 : ∀ w ∈ u_ws RX1 TX1 12, w ∈ wsX2_comeIntoForce := by decide +kernel
  have hi2 : ∀ w ∈ u_ws RX2 TX2 9, w ∈ wsX2_comeIntoForce := by decide +kernel
  obtain ⟨hn, hn4, hm, hm4, hv⟩ := id hW
  refine lv_aload_n B.hx B.hb dX2_comeIntoForce_0 rfl (lv_at hl 0 rfl) ?_
  refine q_get B hP (C := RX2) (ref := "PaperKeeper$Paper") (T := TX2) (N := 9) (ci := 2) hi2 rfl 6 rfl 6 (by decide) (by decide +kernel) rfl (v := .int (X 2)) rfl dX2_comeIntoForce_1 ?_
  refine lv_if_eq (tgt := 28) B.hx B.hb dX2_comeIntoForce_4 (by decide) (fun c1 => ?_) (fun c1 => ?_)
  · refine lv_iconst (v := (nI 0)) B.hx B.hb dX2_comeIntoForce_28 (by decide) ?_
    exact q_zret B hr hP hD hS (by decide) (u := false) rfl (Or.inr ⟨rfl, rfl, cf_no1 c1⟩) (Nat.le_of_ble_eq_true rfl) (Nat.le_of_ble_eq_true rfl) dX2_comeIntoForce_29
  · refine lv_aload_n B.hx B.hb dX2_comeIntoForce_7 rfl (lv_at hl 0 rfl) ?_
    refine q_get B hP (C := RX2) (ref := "PaperKeeper$Paper") (T := TX2) (N := 9) (ci := 2) hi2 rfl 6 rfl 2 (by decide) (by decide +kernel) rfl (v := .ref (a 2)) rfl dX2_comeIntoForce_8 ?_
    refine lv_iload_n B.hx B.hb dX2_comeIntoForce_11 rfl (lv_at hl 1 rfl) ?_
    refine q_callV (As := [.int t]) (rest := []) B hP hD hS ((c1_isReady l D cI cZ cP a X Y n k hW t).fr (ppw cI cZ a X Y)) (cwV 1 B.hts gX2_comeIntoForce_X1_isReady rfl rfl rfl (by decide +kernel) ⟨(Nat.le_of_ble_eq_true rfl), (Nat.le_of_ble_eq_true rfl)⟩) 0 1 rfl rfl rfl rfl hl.1 rfl (Nat.le_of_ble_eq_true rfl) dX2_comeIntoForce_12 ⟨(Nat.le_of_ble_eq_true rfl), (Nat.le_of_ble_eq_true rfl)⟩ (fun E ce q9 H locs hx => False.elim hx) (fun v u H locs hp hP hD hS => ?_)
    obtain rfl := hp
    have hP : va_P D vwCl (dw cI cZ a X Y ++ ppw cI cZ a X Y) H := hP
    have hD : va_D A (dw cI cZ a X Y ++ ppw cI cZ a X Y) := hD
    refine lv_if_eq (tgt := 28) B.hx B.hb dX2_comeIntoForce_15 (by decide) (fun c2 => ?_) (fun c2 => ?_)
    · refine lv_iconst (v := (nI 0)) B.hx B.hb dX2_comeIntoForce_28 (by decide) ?_
      exact q_zret B hr hP hD hS (by decide) (u := false) rfl (Or.inr ⟨rfl, rfl, cf_no2 c2⟩) (Nat.le_of_ble_eq_true rfl) (Nat.le_of_ble_eq_true rfl) dX2_comeIntoForce_29
    · have hw3 : w < 128 := hw2 (cf_yes c1 c2)
      refine lv_aload_n B.hx B.hb dX2_comeIntoForce_18 rfl (lv_at hl 0 rfl) ?_
      refine q_get B hP (C := RX2) (ref := "PaperKeeper$Paper") (T := TX2) (N := 9) (ci := 2) hi2 rfl 6 rfl 5 (by decide) (by decide +kernel) rfl (v := .int (X 1)) rfl dX2_comeIntoForce_19 ?_
      refine q_top (v2 := .int (nI w)) (congrArg Value.int hw1) ?_
      refine lv_sipush (v := (nI 128)) B.hx B.hb dX2_comeIntoForce_22 (by decide) ?_
      refine lv_icmp_lt (tgt := 30) B.hx B.hb dX2_comeIntoForce_25 (by decide) (fun _ => ?_) (fun c3 => absurd c3 (not_not_intro ((nI_ltI (by omega) (by omega)).mpr (by omega))))
      refine lv_aload_n B.hx B.hb dX2_comeIntoForce_30 rfl (lv_at hl 0 rfl) ?_
      refine q_get B hP (C := RX2) (ref := "PaperKeeper$Paper") (T := TX2) (N := 9) (ci := 2) hi2 rfl 6 rfl 3 (by decide) (by decide +kernel) rfl (v := .ref (a 8)) rfl dX2_comeIntoForce_31 ?_
      refine lv_aload_n B.hx B.hb dX2_comeIntoForce_34 rfl (lv_at hl 0 rfl) ?_
      refine q_get B hP (C := RX2) (ref := "PaperKeeper$Paper") (T := TX2) (N := 9) (ci := 2) hi2 rfl 6 rfl 5 (by decide) (by decide +kernel) rfl (v := .int (X 1)) rfl dX2_comeIntoForce_35 ?_
      refine q_top (v2 := .int (nI w)) (congrArg Value.int hw1) ?_
      refine lv_aload_n B.hx B.hb dX2_comeIntoForce_38 rfl (lv_at hl 0 rfl) ?_
      refine q_get B hP (C := RX2) (ref := "PaperKeeper$Paper") (T := TX2) (N := 9) (ci := 2) hi2 rfl 6 rfl 2 (by decide) (by decide +kernel) rfl (v := .ref (a 2)) rfl dX2_comeIntoForce_39 ?_
      refine q_get B hP (C := RX1) (ref := "PaperKeeper$Draft") (T := TX1) (N := 12) (ci := 1) hi1 rfl 0 rfl 6 (by decide) (by decide +kernel) rfl (v := .int (X 6)) rfl dX2_comeIntoForce_42 ?_
      refine q_iast B hP hD hS 8 rfl (j := w) rfl (by omega) (by decide) dX2_comeIntoForce_45 (w' := dw cI cZ a X (va_up Y 6 (upd (Y 6) w (X 6))) ++ ppw cI cZ a X (va_up Y 6 (upd (Y 6) w (X 6)))) rfl (fun H locs hP hD hS => ?_)
      refine lv_aload_n B.hx B.hb dX2_comeIntoForce_46 rfl (lv_at hl 0 rfl) ?_
      refine q_get B hP (C := RX2) (ref := "PaperKeeper$Paper") (T := TX2) (N := 9) (ci := 2) hi2 rfl 6 rfl 4 (by decide) (by decide +kernel) rfl (v := .ref (a 9)) rfl dX2_comeIntoForce_47 ?_
      refine lv_aload_n B.hx B.hb dX2_comeIntoForce_50 rfl (lv_at hl 0 rfl) ?_
      refine q_get B hP (C := RX2) (ref := "PaperKeeper$Paper") (T := TX2) (N := 9) (ci := 2) hi2 rfl 6 rfl 5 (by decide) (by decide +kernel) rfl (v := .int (X 1)) rfl dX2_comeIntoForce_51 ?_
      refine q_top (v2 := .int (nI w)) (congrArg Value.int hw1) ?_
      refine lv_iload_n B.hx B.hb dX2_comeIntoForce_54 rfl (lv_at hl 1 rfl) ?_
      refine q_iast B hP hD hS 9 rfl (j := w) rfl (by omega) (by decide) dX2_comeIntoForce_55 (w' := dw cI cZ a X (va_up (va_up Y 6 (upd (Y 6) w (X 6))) 7 (upd (Y 7) w t)) ++ ppw cI cZ a X (va_up (va_up Y 6 (upd (Y 6) w (X 6))) 7 (upd (Y 7) w t))) rfl (fun H locs hP hD hS => ?_)
      refine lv_aload_n B.hx B.hb dX2_comeIntoForce_56 rfl (lv_at hl 0 rfl) ?_
      refine lv_dup B.hx B.hb dX2_comeIntoForce_57 rfl ?_
      refine q_get B hP (C := RX2) (ref := "PaperKeeper$Paper") (T := TX2) (N := 9) (ci := 2) hi2 rfl 6 rfl 5 (by decide) (by decide +kernel) rfl (v := .int (X 1)) rfl dX2_comeIntoForce_58 ?_
      refine q_top (v2 := .int (nI w)) (congrArg Value.int hw1) ?_
      refine lv_iconst (v := (nI 1)) B.hx B.hb dX2_comeIntoForce_61 (by decide) ?_
      refine lv_iadd B.hx B.hb dX2_comeIntoForce_62 ?_
      refine q_top (v2 := .int (nI ((w + 1)))) (congrArg Value.int (nI_add _ _)) ?_
      refine q_put B hP hD hS (C := RX2) (ref := "PaperKeeper$Paper") (T := TX2) (N := 9) (ci := 2) hi2 rfl tyX2 tyX2_ok nmX2 6 rfl 5 (by decide) (by decide +kernel) rfl rfl rfl (by rfl) (Nat.le_of_ble_eq_true rfl) dX2_comeIntoForce_63 (w' := dw cI cZ a (va_up X 1 (nI ((w + 1)))) (va_up (va_up Y 6 (upd (Y 6) w (X 6))) 7 (upd (Y 7) w t)) ++ ppw cI cZ a (va_up X 1 (nI ((w + 1)))) (va_up (va_up Y 6 (upd (Y 6) w (X 6))) 7 (upd (Y 7) w t))) rfl (fun H locs hP hD hS => ?_)
      refine lv_aload_n B.hx B.hb dX2_comeIntoForce_66 rfl (lv_at hl 0 rfl) ?_
      refine lv_iconst (v := (nI 0)) B.hx B.hb dX2_comeIntoForce_67 (by decide) ?_
      refine q_put B hP hD hS (C := RX2) (ref := "PaperKeeper$Paper") (T := TX2) (N := 9) (ci := 2) hi2 rfl tyX2 tyX2_ok nmX2 6 rfl 6 (by decide) (by decide +kernel) rfl rfl (by decide) (by decide) (Nat.le_of_ble_eq_true rfl) dX2_comeIntoForce_68 (w' := dw cI cZ a (va_up (va_up X 1 (nI ((w + 1)))) 2 (nI 0)) (va_up (va_up Y 6 (upd (Y 6) w (X 6))) 7 (upd (Y 7) w t)) ++ ppw cI cZ a (va_up (va_up X 1 (nI ((w + 1)))) 2 (nI 0)) (va_up (va_up Y 6 (upd (Y 6) w (X 6))) 7 (upd (Y 7) w t))) rfl (fun H locs hP hD hS => ?_)
      refine lv_aload_n B.hx B.hb dX2_comeIntoForce_71 rfl (lv_at hl 0 rfl) ?_
      refine lv_iload_n B.hx B.hb dX2_comeIntoForce_72 rfl (lv_at hl 1 rfl) ?_
      refine q_callV (As := [.int t]) (rest := []) B hP hD hS (c2_restartInterval l D cI cZ cP a (va_up (va_up X 1 (nI ((w + 1)))) 2 (nI 0)) (va_up (va_up Y 6 (upd (Y 6) w (X 6))) 7 (upd (Y 7) w t)) t) (cwV 1 B.hts gX2_comeIntoForce_X2_restartInterval rfl rfl rfl (by decide +kernel) ⟨(Nat.le_of_ble_eq_true rfl), (Nat.le_of_ble_eq_true rfl)⟩) 6 2 rfl rfl rfl rfl hl.1 rfl (Nat.le_of_ble_eq_true rfl) dX2_comeIntoForce_73 ⟨(Nat.le_of_ble_eq_true rfl), (Nat.le_of_ble_eq_true rfl)⟩ (fun E ce q9 H locs hx => False.elim hx) (fun v u H locs hp hP hD hS => ?_)
      obtain rfl := hp
      have hP : va_P D vwCl (dw cI cZ a (va_up (va_up (va_up (va_up X 1 (nI ((w + 1)))) 2 (nI 0)) 3 (nI 0)) 4 t) (va_up (va_up Y 6 (upd (Y 6) w (X 6))) 7 (upd (Y 7) w t)) ++ ppw cI cZ a (va_up (va_up (va_up (va_up X 1 (nI ((w + 1)))) 2 (nI 0)) 3 (nI 0)) 4 t) (va_up (va_up Y 6 (upd (Y 6) w (X 6))) 7 (upd (Y 7) w t))) H := hP
      have hD : va_D A (dw cI cZ a (va_up (va_up (va_up (va_up X 1 (nI ((w + 1)))) 2 (nI 0)) 3 (nI 0)) 4 t) (va_up (va_up Y 6 (upd (Y 6) w (X 6))) 7 (upd (Y 7) w t)) ++ ppw cI cZ a (va_up (va_up (va_up (va_up X 1 (nI ((w + 1)))) 2 (nI 0)) 3 (nI 0)) 4 t) (va_up (va_up Y 6 (upd (Y 6) w (X 6))) 7 (upd (Y 7) w t))) := hD
      refine lv_iconst (v := (nI 1)) B.hx B.hb dX2_comeIntoForce_76 (by decide) ?_
      exact q_zret B hr hP hD hS (by decide) (u := true) rfl (Or.inl ⟨rfl, rfl, cf_yes c1 c2⟩) (Nat.le_of_ble_eq_true rfl) (Nat.le_of_ble_eq_true rfl) dX2_comeIntoForce_77
set_option maxHeartbeats 4000000 in
set_option maxRecDepth 100000 in
theorem c0_add (l : Launch) (D : va_G) (cI cZ cP : ClassId) (b : Nat → Nat) (I : Nat → Int32) (V : Nat → Nat → Int32) (q : Nat) (hq : I 3 = nI q) (hq2 : q < 30) (x y z : Int32) : q_C l yX0_add wsX0_add ({ frames := 0, cells := 0, slots := 0, locals := 0 }) D cI cZ cP [.ref (b 5), .int x, .int y, .int z] (cw cI b I V) (S := Unit) (fun v _ => v = some (.int (nI q))) (fun _ => cw cI b (va_up I 3 (nI ((q + 1)))) (va_up (va_up (va_up V 10 (upd (V 10) q x)) 11 (upd (V 11) q y)) 12 (upd (V 12) q z))) (fun _ => False) 0 0 := by
  refine q_of (cc := cX0_add) (maxL := 5) (ret := (some .int)) (by decide +kernel) rfl (Nat.le_of_ble_eq_true rfl) ?_
  intro p e s m below meth c A ls B hr htb hmn hP hD hS hl
  have hl : lv_has ls 5 [(0, .ref (b 5)), (1, .int x), (2, .int y), (3, .int z)] := hl
  have hi0 : ∀ w ∈ u_ws RX0 TX0 4, w ∈ wsX0_add := by decide +kernel
  refine lv_aload_n B.hx B.hb dX0_add_0 rfl (lv_at hl 0 rfl) ?_
  refine q_get B hP (C := RX0) (ref := "PaperKeeper$Copies") (T := TX0) (N := 4) (ci := 0) hi0 rfl 0 rfl 3 (by decide) (by decide +kernel) rfl (v := .int (I 3)) rfl dX0_add_1 ?_
  refine q_top (v2 := .int (nI q)) (congrArg Value.int hq) ?_
  refine lv_istore (lv' := [(4, .int (nI q)), (0, .ref (b 5)), (1, .int x), (2, .int y), (3, .int z)]) B.hx B.hb dX0_add_4 hl (by decide) rfl (fun ls hl => ?_)
  refine lv_iload B.hx B.hb dX0_add_6 (lv_at hl 0 rfl) ?_
  refine lv_bipush (v := (nI 30)) B.hx B.hb dX0_add_8 (by decide) ?_
  refine lv_icmp_ge (tgt := 47) B.hx B.hb dX0_add_10 (by decide) (fun c1 => absurd c1 (mt (nI_leI (by omega) (by omega)).mp (by omega))) (fun _ => ?_)
  refine lv_aload_n B.hx B.hb dX0_add_13 rfl (lv_at hl 1 rfl) ?_
  refine q_get B hP (C := RX0) (ref := "PaperKeeper$Copies") (T := TX0) (N := 4) (ci := 0) hi0 rfl 0 rfl 0 (by decide) (by decide +kernel) rfl (v := .ref (b 6)) rfl dX0_add_14 ?_
  refine lv_iload B.hx B.hb dX0_add_17 (lv_at hl 0 rfl) ?_
  refine lv_iload_n B.hx B.hb dX0_add_19 rfl (lv_at hl 2 rfl) ?_
  refine q_iast B hP hD hS 1 rfl (j := q) rfl (by omega) (by decide) dX0_add_20 (w' := cw cI b I (va_up V 10 (upd (V 10) q x))) rfl (fun H locs hP hD hS => ?_)
  refine lv_aload_n B.hx B.hb dX0_add_21 rfl (lv_at hl 1 rfl) ?_
  refine q_get B hP (C := RX0) (ref := "PaperKeeper$Copies") (T := TX0) (N := 4) (ci := 0) hi0 rfl 0 rfl 1 (by decide) (by decide +kernel) rfl (v := .ref (b 7)) rfl dX0_add_22 ?_
  refine lv_iload B.hx B.hb dX0_add_25 (lv_at hl 0 rfl) ?_
  refine lv_iload_n B.hx B.hb dX0_add_27 rfl (lv_at hl 3 rfl) ?_
  refine q_iast B hP hD hS 2 rfl (j := q) rfl (by omega) (by decide) dX0_add_28 (w' := cw cI b I (va_up (va_up V 10 (upd (V 10) q x)) 11 (upd (V 11) q y))) rfl (fun H locs hP hD hS => ?_)
  refine lv_aload_n B.hx B.hb dX0_add_29 rfl (lv_at hl 1 rfl) ?_
  refine q_get B hP (C := RX0) (ref := "PaperKeeper$Copies") (T := TX0) (N := 4) (ci := 0) hi0 rfl 0 rfl 2 (by decide) (by decide +kernel) rfl (v := .ref (b 8)) rfl dX0_add_30 ?_
  refine lv_iload B.hx B.hb dX0_add_33 (lv_at hl 0 rfl) ?_
  refine lv_iload_n B.hx B.hb dX0_add_35 rfl (lv_at hl 4 rfl) ?_
  refine q_iast B hP hD hS 3 rfl (j := q) rfl (by omega) (by decide) dX0_add_36 (w' := cw cI b I (va_up (va_up (va_up V 10 (upd (V 10) q x)) 11 (upd (V 11) q y)) 12 (upd (V 12) q z))) rfl (fun H locs hP hD hS => ?_)
  refine lv_aload_n B.hx B.hb dX0_add_37 rfl (lv_at hl 1 rfl) ?_
  refine lv_dup B.hx B.hb dX0_add_38 rfl ?_
  refine q_get B hP (C := RX0) (ref := "PaperKeeper$Copies") (T := TX0) (N := 4) (ci := 0) hi0 rfl 0 rfl 3 (by decide) (by decide +kernel) rfl (v := .int (I 3)) rfl dX0_add_39 ?_
  refine q_top (v2 := .int (nI q)) (congrArg Value.int hq) ?_
  refine lv_iconst (v := (nI 1)) B.hx B.hb dX0_add_42 (by decide) ?_
  refine lv_iadd B.hx B.hb dX0_add_43 ?_
  refine q_top (v2 := .int (nI ((q + 1)))) (congrArg Value.int (nI_add _ _)) ?_
  refine q_put B hP hD hS (C := RX0) (ref := "PaperKeeper$Copies") (T := TX0) (N := 4) (ci := 0) hi0 rfl tyX0 tyX0_ok nmX0 0 rfl 3 (by decide) (by decide +kernel) rfl rfl rfl (by rfl) (Nat.le_of_ble_eq_true rfl) dX0_add_44 (w' := cw cI b (va_up I 3 (nI ((q + 1)))) (va_up (va_up (va_up V 10 (upd (V 10) q x)) 11 (upd (V 11) q y)) 12 (upd (V 12) q z))) rfl (fun H locs hP hD hS => ?_)
  refine lv_iload B.hx B.hb dX0_add_47 (lv_at hl 0 rfl) ?_
  exact q_iret B hr hP hD hS (u := ()) rfl rfl (Nat.le_of_ble_eq_true rfl) (Nat.le_of_ble_eq_true rfl) dX0_add_49
set_option maxHeartbeats 4000000 in
set_option maxRecDepth 100000 in
theorem c0_countOld (l : Launch) (D : va_G) (cI cZ cP : ClassId) (b : Nat → Nat) (I : Nat → Int32) (V : Nat → Nat → Int32) (q : Nat) (hq : I 3 = nI q) (hq2 : q ≤ 30) (x y : Int32) : q_C l yX0_countOld wsX0_countOld ({ frames := 0, cells := 0, slots := 0, locals := 0 }) D cI cZ cP [.ref (b 5), .int x, .int y] (cw cI b I V) (S := Unit) (fun v _ => v = some (.int (nI (pN (fun i => decide (¬ (V 12) i = -1) && decide ((V 10) i = x) && decide (¬ (V 11) i = y)) q)))) (fun _ => cw cI b I V) (fun _ => False) 0 0 := by
  refine q_of (cc := cX0_countOld) (maxL := 5) (ret := (some .int)) (by decide +kernel) rfl (Nat.le_of_ble_eq_true rfl) ?_
  intro p e s m below meth c A ls B hr htb hmn hP hD hS hl
  have hl : lv_has ls 5 [(0, .ref (b 5)), (1, .int x), (2, .int y)] := hl
  have hi0 : ∀ w ∈ u_ws RX0 TX0 4, w ∈ wsX0_countOld := by decide +kernel
  refine lv_iconst (v := (nI 0)) B.hx B.hb dX0_countOld_0 (by decide) ?_
  refine lv_istore_n (lv' := [(3, .int (nI 0)), (0, .ref (b 5)), (1, .int x), (2, .int y)]) B.hx B.hb dX0_countOld_1 rfl hl (by decide) rfl (fun ls hl => ?_)
  refine lv_iconst (v := (nI 0)) B.hx B.hb dX0_countOld_2 (by decide) ?_
  refine lv_istore (lv' := [(4, .int (nI 0)), (3, .int (nI 0)), (0, .ref (b 5)), (1, .int x), (2, .int y)]) B.hx B.hb dX0_countOld_3 hl (by decide) rfl (fun ls hl => ?_)
  refine q_loop (nL := 5) (fun i : Nat => i ≤ q) (fun i : Nat => q - i) (fun i : Nat => [(4, .int (nI i)), (3, .int (nI (pN (fun i => decide (¬ (V 12) i = -1) && decide ((V 10) i = x) && decide (¬ (V 11) i = y)) i))), (0, .ref (b 5)), (1, .int x), (2, .int y)]) (0) (Nat.zero_le _) (lv_sub hl [0, 1, 2, 3, 4] rfl) ?_
  intro i1 hI2 ih3 ls hl
  have hI2 : i1 ≤ q := hI2
  have hl : lv_has ls 5 [(4, .int (nI i1)), (3, .int (nI (pN (fun i => decide (¬ (V 12) i = -1) && decide ((V 10) i = x) && decide (¬ (V 11) i = y)) i1))), (0, .ref (b 5)), (1, .int x), (2, .int y)] := hl
  refine lv_iload B.hx B.hb dX0_countOld_5 (lv_at hl 0 rfl) ?_
  refine lv_aload_n B.hx B.hb dX0_countOld_7 rfl (lv_at hl 2 rfl) ?_
  refine q_get B hP (C := RX0) (ref := "PaperKeeper$Copies") (T := TX0) (N := 4) (ci := 0) hi0 rfl 0 rfl 3 (by decide) (by decide +kernel) rfl (v := .int (I 3)) rfl dX0_countOld_8 ?_
  refine q_top (v2 := .int (nI q)) (congrArg Value.int hq) ?_
  refine lv_icmp_ge (tgt := 56) B.hx B.hb dX0_countOld_11 (by decide) (fun c4 => ?_) (fun c4 => ?_)
  · replace c4 := (nI_leI (by omega) (by omega)).mp c4
    refine lv_iload_n B.hx B.hb dX0_countOld_56 rfl (lv_at hl 1 rfl) ?_
    exact q_iret B hr hP hD hS (u := ()) rfl (by rw [show q = i1 by omega]) (Nat.le_of_ble_eq_true rfl) (Nat.le_of_ble_eq_true rfl) dX0_countOld_57
  · replace c4 := mt (nI_leI (by omega) (by omega)).mpr c4
    refine lv_aload_n B.hx B.hb dX0_countOld_14 rfl (lv_at hl 2 rfl) ?_
    refine q_get B hP (C := RX0) (ref := "PaperKeeper$Copies") (T := TX0) (N := 4) (ci := 0) hi0 rfl 0 rfl 2 (by decide) (by decide +kernel) rfl (v := .ref (b 8)) rfl dX0_countOld_15 ?_
    refine lv_iload B.hx B.hb dX0_countOld_18 (lv_at hl 0 rfl) ?_
    refine q_iald B hP 3 rfl (j := i1) rfl (by omega) (by decide) dX0_countOld_20 ?_
    refine lv_iconst (v := (-1)) B.hx B.hb dX0_countOld_21 (by decide) ?_
    refine lv_icmp_eq (tgt := 50) B.hx B.hb dX0_countOld_22 (by decide) (fun c5 => ?_) (fun c5 => ?_)
    · have hl : lv_has ls 5 [(4, .int (nI i1)), (3, .int (nI (pN (fun i => decide (¬ (V 12) i = -1) && decide ((V 10) i = x) && decide (¬ (V 11) i = y)) (i1 + 1)))), (0, .ref (b 5)), (1, .int x), (2, .int y)] := by rw [show pN (fun i => decide (¬ (V 12) i = -1) && decide ((V 10) i = x) && decide (¬ (V 11) i = y)) (i1 + 1) = pN (fun i => decide (¬ (V 12) i = -1) && decide ((V 10) i = x) && decide (¬ (V 11) i = y)) i1 from pN_no (by simp [c5])]; exact hl
      refine lv_iinc (v := (nI ((i1 + 1)))) (lv' := [(4, .int (nI ((i1 + 1)))), (3, .int (nI (pN (fun i => decide (¬ (V 12) i = -1) && decide ((V 10) i = x) && decide (¬ (V 11) i = y)) (i1 + 1)))), (0, .ref (b 5)), (1, .int x), (2, .int y)]) B.hx B.hb dX0_countOld_50 hl (k := 0) rfl (nI_1 _) (by decide) rfl (fun ls hl => ?_)
      refine lv_goto (tgt := 5) B.hx B.hb dX0_countOld_53 (by decide) ?_
      exact ih3 (i1 + 1) (by omega) (by omega) ls (lv_sub hl [0, 1, 2, 3, 4] rfl)
    · refine lv_aload_n B.hx B.hb dX0_countOld_25 rfl (lv_at hl 2 rfl) ?_
      refine q_get B hP (C := RX0) (ref := "PaperKeeper$Copies") (T := TX0) (N := 4) (ci := 0) hi0 rfl 0 rfl 0 (by decide) (by decide +kernel) rfl (v := .ref (b 6)) rfl dX0_countOld_26 ?_
      refine lv_iload B.hx B.hb dX0_countOld_29 (lv_at hl 0 rfl) ?_
      refine q_iald B hP 1 rfl (j := i1) rfl (by omega) (by decide) dX0_countOld_31 ?_
      refine lv_iload_n B.hx B.hb dX0_countOld_32 rfl (lv_at hl 3 rfl) ?_
      refine lv_icmp_ne (tgt := 50) B.hx B.hb dX0_countOld_33 (by decide) (fun c6 => ?_) (fun c6 => ?_)
      · have hl : lv_has ls 5 [(4, .int (nI i1)), (3, .int (nI (pN (fun i => decide (¬ (V 12) i = -1) && decide ((V 10) i = x) && decide (¬ (V 11) i = y)) (i1 + 1)))), (0, .ref (b 5)), (1, .int x), (2, .int y)] := by rw [show pN (fun i => decide (¬ (V 12) i = -1) && decide ((V 10) i = x) && decide (¬ (V 11) i = y)) (i1 + 1) = pN (fun i => decide (¬ (V 12) i = -1) && decide ((V 10) i = x) && decide (¬ (V 11) i = y)) i1 from pN_no (by simp [c5, c6])]; exact hl
        refine lv_iinc (v := (nI ((i1 + 1)))) (lv' := [(4, .int (nI ((i1 + 1)))), (3, .int (nI (pN (fun i => decide (¬ (V 12) i = -1) && decide ((V 10) i = x) && decide (¬ (V 11) i = y)) (i1 + 1)))), (0, .ref (b 5)), (1, .int x), (2, .int y)]) B.hx B.hb dX0_countOld_50 hl (k := 0) rfl (nI_1 _) (by decide) rfl (fun ls hl => ?_)
        refine lv_goto (tgt := 5) B.hx B.hb dX0_countOld_53 (by decide) ?_
        exact ih3 (i1 + 1) (by omega) (by omega) ls (lv_sub hl [0, 1, 2, 3, 4] rfl)
      · refine lv_aload_n B.hx B.hb dX0_countOld_36 rfl (lv_at hl 2 rfl) ?_
        refine q_get B hP (C := RX0) (ref := "PaperKeeper$Copies") (T := TX0) (N := 4) (ci := 0) hi0 rfl 0 rfl 1 (by decide) (by decide +kernel) rfl (v := .ref (b 7)) rfl dX0_countOld_37 ?_
        refine lv_iload B.hx B.hb dX0_countOld_40 (lv_at hl 0 rfl) ?_
        refine q_iald B hP 2 rfl (j := i1) rfl (by omega) (by decide) dX0_countOld_42 ?_
        refine lv_iload_n B.hx B.hb dX0_countOld_43 rfl (lv_at hl 4 rfl) ?_
        refine lv_icmp_eq (tgt := 50) B.hx B.hb dX0_countOld_44 (by decide) (fun c7 => ?_) (fun c7 => ?_)
        · have hl : lv_has ls 5 [(4, .int (nI i1)), (3, .int (nI (pN (fun i => decide (¬ (V 12) i = -1) && decide ((V 10) i = x) && decide (¬ (V 11) i = y)) (i1 + 1)))), (0, .ref (b 5)), (1, .int x), (2, .int y)] := by rw [show pN (fun i => decide (¬ (V 12) i = -1) && decide ((V 10) i = x) && decide (¬ (V 11) i = y)) (i1 + 1) = pN (fun i => decide (¬ (V 12) i = -1) && decide ((V 10) i = x) && decide (¬ (V 11) i = y)) i1 from pN_no (by simp [c5, c6, c7])]; exact hl
          refine lv_iinc (v := (nI ((i1 + 1)))) (lv' := [(4, .int (nI ((i1 + 1)))), (3, .int (nI (pN (fun i => decide (¬ (V 12) i = -1) && decide ((V 10) i = x) && decide (¬ (V 11) i = y)) (i1 + 1)))), (0, .ref (b 5)), (1, .int x), (2, .int y)]) B.hx B.hb dX0_countOld_50 hl (k := 0) rfl (nI_1 _) (by decide) rfl (fun ls hl => ?_)
          refine lv_goto (tgt := 5) B.hx B.hb dX0_countOld_53 (by decide) ?_
          exact ih3 (i1 + 1) (by omega) (by omega) ls (lv_sub hl [0, 1, 2, 3, 4] rfl)
        · refine lv_iinc (v := (nI (pN (fun i => decide (¬ (V 12) i = -1) && decide ((V 10) i = x) && decide (¬ (V 11) i = y)) (i1 + 1)))) (lv' := [(3, .int (nI (pN (fun i => decide (¬ (V 12) i = -1) && decide ((V 10) i = x) && decide (¬ (V 11) i = y)) (i1 + 1)))), (4, .int (nI i1)), (0, .ref (b 5)), (1, .int x), (2, .int y)]) B.hx B.hb dX0_countOld_47 hl (k := 1) rfl (by rw [pN_yes (ok := (fun i => decide (¬ (V 12) i = -1) && decide ((V 10) i = x) && decide (¬ (V 11) i = y))) (i := i1) (by simp [c5, c6, c7])]; exact nI_1 _) (by decide) rfl (fun ls hl => ?_)
          refine lv_iinc (v := (nI ((i1 + 1)))) (lv' := [(4, .int (nI ((i1 + 1)))), (3, .int (nI (pN (fun i => decide (¬ (V 12) i = -1) && decide ((V 10) i = x) && decide (¬ (V 11) i = y)) (i1 + 1)))), (0, .ref (b 5)), (1, .int x), (2, .int y)]) B.hx B.hb dX0_countOld_50 hl (k := 1) rfl (nI_1 _) (by decide) rfl (fun ls hl => ?_)
          refine lv_goto (tgt := 5) B.hx B.hb dX0_countOld_53 (by decide) ?_
          exact ih3 (i1 + 1) (by omega) (by omega) ls (lv_sub hl [0, 1, 2, 3, 4] rfl)
