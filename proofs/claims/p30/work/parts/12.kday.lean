/-! The keeper: days. -/
set_option maxHeartbeats 4000000 in
set_option maxRecDepth 100000 in
theorem c3_askForLooks (l : Launch) (D : va_G) (cI cZ cP : ClassId) (b : Nat → Nat) (I : Nat → Int32) (V : Nat → Nat → Int32) (P : Nat → Option Nat) (n : Nat) (hn8 : n ≤ 8) (ad : Nat → Nat → Nat) (XX : Nat → Nat → Int32) (YY : Nat → Nat → Nat → Int32) (hPP : ∀ k, k < 8 → P k = if k < n then some (ad k 0) else none) (hw : ∀ k, k < n → ∃ w, w < 2 ^ 30 ∧ XX k 1 = nI w) (r : Nat) (hr : r < 8) : q_C l yX3_askForLooks wsX3_askForLooks ({ frames := 1, cells := 0, slots := 0, locals := 20 }) D cI cZ cP [.ref (b 0), .int (nI r)] (WK cI cZ cP n ad XX YY b I V P) (S := Unit) (fun v _ => v = none) (fun _ => WK cI cZ cP n ad (askX YY r XX 8) YY b I V P) (fun _ => False) 0 0 := by
  refine q_of (cc := cX3_askForLooks) (maxL := 4) (ret := none) (by decide +kernel) rfl (Nat.le_of_ble_eq_true rfl) ?_
  intro p e s m below meth c A ls B hr htb hmn hP hD hS hl
  have hl : lv_has ls 4 [(0, .ref (b 0)), (1, .int (nI r))] := hl
  have hi2 : ∀ w ∈ u_ws RX2 TX2 9, w ∈ wsX3_askForLooks := by decide +kernel
  have hi3 : ∀ w ∈ u_ws RX3 TX3 8, w ∈ wsX3_askForLooks := by decide +kernel
  refine lv_iconst (v := (nI 0)) B.hx B.hb dX3_askForLooks_0 (by decide) ?_
  refine lv_istore_n (lv' := [(2, .int (nI 0)), (0, .ref (b 0)), (1, .int (nI r))]) B.hx B.hb dX3_askForLooks_1 rfl hl (by decide) rfl (fun ls hl => ?_)
  refine q_loopW (nL := 4) (fun i : Nat => i ≤ 8) (fun i : Nat => 8 - i) (fun i : Nat => [(2, .int (nI i)), (0, .ref (b 0)), (1, .int (nI r))]) (fun i : Nat => WK cI cZ cP n ad (askX YY r XX i) YY b I V P) 0 (Nat.zero_le _) (lv_sub hl [0, 1, 2] rfl) (show va_P D vwCl (WK cI cZ cP n ad (askX YY r XX 0) YY b I V P) _ by rw [askX_0]; exact hP) (show va_D A (WK cI cZ cP n ad (askX YY r XX 0) YY b I V P) by rw [askX_0]; exact hD) hS ?_
  intro i hi ih ls H locs hl hP hD hS
  have hi : i ≤ 8 := hi
  have hl : lv_has ls 4 [(2, .int (nI i)), (0, .ref (b 0)), (1, .int (nI r))] := hl
  have hP : va_P D vwCl (WK cI cZ cP n ad (askX YY r XX i) YY b I V P) H := hP
  have hD : va_D A (WK cI cZ cP n ad (askX YY r XX i) YY b I V P) := hD
  refine lv_iload_n B.hx B.hb dX3_askForLooks_2 rfl (lv_at hl 0 rfl) ?_
  refine lv_bipush (v := (nI 8)) B.hx B.hb dX3_askForLooks_3 (by decide) ?_
  refine lv_icmp_ge (tgt := 47) B.hx B.hb dX3_askForLooks_5 (by decide) (fun c1 => ?_) (fun c1 => ?_)
  · replace c1 := (nI_leI (by omega) (by omega)).mp c1
    obtain rfl : i = 8 := by omega
    exact q_vret B hr hP hD hS (u := ()) rfl rfl (Nat.le_of_ble_eq_true rfl) (Nat.le_of_ble_eq_true rfl) dX3_askForLooks_47
  · replace c1 := mt (nI_leI (by omega) (by omega)).mpr c1
    by_cases hin : i < n
    · have hP := q_Pperm (foc hin) hP
      have hD := q_Dperm (foc hin) hD
      obtain ⟨a, ha⟩ : ∃ a, a = ad i := ⟨_, rfl⟩
      obtain ⟨X, hX⟩ : ∃ X, X = (askX YY r XX i i) := ⟨_, rfl⟩
      obtain ⟨Y, hY⟩ : ∃ Y, Y = (YY i) := ⟨_, rfl⟩
      rw [← ha, ← hX, ← hY] at hP
      rw [← ha, ← hX, ← hY] at hD
      rw [askX_i] at hX
      obtain ⟨w, hwb, hw1⟩ := hw i hin
      rw [← hX] at hw1
      have hP : va_P D vwCl (dw cI cZ a X Y ++ (ppw cI cZ a X Y ++ (kq cI cZ cP b I V P ++ (cw cI b I V ++ pwx cI cZ n i ad (askX YY r XX i) YY)))) H := hP
      have hD : va_D A (dw cI cZ a X Y ++ (ppw cI cZ a X Y ++ (kq cI cZ cP b I V P ++ (cw cI b I V ++ pwx cI cZ n i ad (askX YY r XX i) YY)))) := hD
      refine lv_aload_n B.hx B.hb dX3_askForLooks_8 rfl (lv_at hl 1 rfl) ?_
      refine q_get B hP (C := RX3) (ref := "PaperKeeper") (T := TX3) (N := 8) (ci := 3) hi3 rfl 10 rfl 3 (by decide) (by decide +kernel) rfl (v := .ref (b 4)) rfl dX3_askForLooks_9 ?_
      refine lv_iload_n B.hx B.hb dX3_askForLooks_12 rfl (lv_at hl 0 rfl) ?_
      refine q_aald B hP 14 rfl (j := i) rfl (by omega) (by decide) dX3_askForLooks_13 ?_
      refine q_top (v2 := .ref (a 0)) (by rw [hPP i (by omega), if_pos hin, ha]; rfl) ?_
      refine lv_astore_n (lv' := [(3, .ref (a 0)), (2, .int (nI i)), (0, .ref (b 0)), (1, .int (nI r))]) B.hx B.hb dX3_askForLooks_14 rfl hl (by decide) rfl (fun ls hl => ?_)
      refine lv_aload_n B.hx B.hb dX3_askForLooks_15 rfl (lv_at hl 0 rfl) ?_
      refine lv_ifnull B.hx B.hb dX3_askForLooks_16 ?_
      refine lv_aload_n B.hx B.hb dX3_askForLooks_19 rfl (lv_at hl 0 rfl) ?_
      refine q_get B hP (C := RX2) (ref := "PaperKeeper$Paper") (T := TX2) (N := 9) (ci := 2) hi2 rfl 6 rfl 1 (by decide) (by decide +kernel) rfl (v := .ref (a 1)) rfl dX3_askForLooks_20 ?_
      refine lv_iload_n B.hx B.hb dX3_askForLooks_23 rfl (lv_at hl 3 rfl) ?_
      refine q_zald B hP 7 rfl (j := r) rfl (by omega) (by decide) dX3_askForLooks_24 ?_
      refine lv_if_eq (tgt := 41) B.hx B.hb dX3_askForLooks_25 (by decide) (fun c2 => ?_) (fun c2 => ?_)
      · refine lv_iinc (v := (nI ((i + 1)))) (lv' := [(2, .int (nI ((i + 1)))), (3, .ref (a 0)), (0, .ref (b 0)), (1, .int (nI r))]) B.hx B.hb dX3_askForLooks_41 hl (k := 1) rfl (nI_1 _) (by decide) rfl (fun ls hl => ?_)
        refine lv_goto (tgt := 2) B.hx B.hb dX3_askForLooks_44 (by decide) ?_
        subst ha hX hY
        rw [← askX_i YY r XX i] at hP
        rw [← askX_i YY r XX i] at hD
        have hP := q_Pperm (foc hin).symm hP
        have hD := q_Dperm (foc hin).symm hD
        rw [askX_no (Or.inl c2)] at hP
        rw [askX_no (Or.inl c2)] at hD
        exact ih (i + 1) (by omega) (by omega) ls H locs (lv_sub hl [0, 2, 3] rfl) hP hD hS
      · refine lv_aload_n B.hx B.hb dX3_askForLooks_28 rfl (lv_at hl 0 rfl) ?_
        refine q_callV (As := []) (rest := []) B hP hD hS ((c2_newest l D cI cZ cP a X Y w hw1).fr2 (kq cI cZ cP b I V P ++ (cw cI b I V ++ pwx cI cZ n i ad (askX YY r XX i) YY))) (cwV 0 B.hts gX3_askForLooks_X2_newest rfl rfl rfl (by decide +kernel) ⟨(Nat.le_of_ble_eq_true rfl), (Nat.le_of_ble_eq_true rfl)⟩) 6 2 rfl rfl rfl rfl hl.1 rfl (Nat.le_of_ble_eq_true rfl) dX3_askForLooks_29 ⟨(Nat.le_of_ble_eq_true rfl), (Nat.le_of_ble_eq_true rfl)⟩ (fun E ce q9 H locs hx => False.elim hx) (fun v u H locs hp hP hD hS => ?_)
        obtain rfl := hp
        have hP : va_P D vwCl (dw cI cZ a X Y ++ (ppw cI cZ a X Y ++ (kq cI cZ cP b I V P ++ (cw cI b I V ++ pwx cI cZ n i ad (askX YY r XX i) YY)))) H := hP
        have hD : va_D A (dw cI cZ a X Y ++ (ppw cI cZ a X Y ++ (kq cI cZ cP b I V P ++ (cw cI b I V ++ pwx cI cZ n i ad (askX YY r XX i) YY)))) := hD
        refine lv_iconst (v := (-1)) B.hx B.hb dX3_askForLooks_32 (by decide) ?_
        refine lv_icmp_eq (tgt := 41) B.hx B.hb dX3_askForLooks_33 (by decide) (fun c3 => ?_) (fun c3 => ?_)
        · refine lv_iinc (v := (nI ((i + 1)))) (lv' := [(2, .int (nI ((i + 1)))), (3, .ref (a 0)), (0, .ref (b 0)), (1, .int (nI r))]) B.hx B.hb dX3_askForLooks_41 hl (k := 1) rfl (nI_1 _) (by decide) rfl (fun ls hl => ?_)
          refine lv_goto (tgt := 2) B.hx B.hb dX3_askForLooks_44 (by decide) ?_
          subst ha hX hY
          rw [← askX_i YY r XX i] at hP
          rw [← askX_i YY r XX i] at hD
          have hP := q_Pperm (foc hin).symm hP
          have hD := q_Dperm (foc hin).symm hD
          rw [askX_no (Or.inr (by rw [hw1, (vn_m1 (by omega)).mp c3]))] at hP
          rw [askX_no (Or.inr (by rw [hw1, (vn_m1 (by omega)).mp c3]))] at hD
          exact ih (i + 1) (by omega) (by omega) ls H locs (lv_sub hl [0, 2, 3] rfl) hP hD hS
        · refine lv_aload_n B.hx B.hb dX3_askForLooks_36 rfl (lv_at hl 0 rfl) ?_
          refine lv_iconst (v := (nI 1)) B.hx B.hb dX3_askForLooks_37 (by decide) ?_
          refine q_put B hP hD hS (C := RX2) (ref := "PaperKeeper$Paper") (T := TX2) (N := 9) (ci := 2) hi2 rfl tyX2 tyX2_ok nmX2 6 rfl 7 (by decide) (by decide +kernel) rfl rfl (by decide) (by decide) (Nat.le_of_ble_eq_true rfl) dX3_askForLooks_38 (w' := dw cI cZ a (va_up X 3 (nI 1)) Y ++ (ppw cI cZ a (va_up X 3 (nI 1)) Y ++ (kq cI cZ cP b I V P ++ (cw cI b I V ++ pwx cI cZ n i ad (askX YY r XX i) YY)))) rfl (fun H locs hP hD hS => ?_)
          refine lv_iinc (v := (nI ((i + 1)))) (lv' := [(2, .int (nI ((i + 1)))), (3, .ref (a 0)), (0, .ref (b 0)), (1, .int (nI r))]) B.hx B.hb dX3_askForLooks_41 hl (k := 1) rfl (nI_1 _) (by decide) rfl (fun ls hl => ?_)
          refine lv_goto (tgt := 2) B.hx B.hb dX3_askForLooks_44 (by decide) ?_
          subst ha hX hY
          have hP := q_Pperm (unf hin _ _) hP
          have hD := q_Dperm (unf hin _ _) hD
          have hne : ¬ XX i 1 = nI 0 := by rw [hw1]; intro h9; exact c3 ((vn_m1 (by omega)).mpr ((nI_eq (by omega) (by omega)).mp h9))
          rw [up_same, askX_yes c2 hne] at hP
          rw [up_same, askX_yes c2 hne] at hD
          exact ih (i + 1) (by omega) (by omega) ls H locs (lv_sub hl [0, 2, 3] rfl) hP hD hS
    · have hP := q_Pperm fok hP
      have hD := q_Dperm fok hD
      have hP : va_P D vwCl (kq cI cZ cP b I V P ++ (cw cI b I V ++ pws cI cZ n ad (askX YY r XX i) YY)) H := hP
      have hD : va_D A (kq cI cZ cP b I V P ++ (cw cI b I V ++ pws cI cZ n ad (askX YY r XX i) YY)) := hD
      refine lv_aload_n B.hx B.hb dX3_askForLooks_8 rfl (lv_at hl 1 rfl) ?_
      refine q_get B hP (C := RX3) (ref := "PaperKeeper") (T := TX3) (N := 8) (ci := 3) hi3 rfl 0 rfl 3 (by decide) (by decide +kernel) rfl (v := .ref (b 4)) rfl dX3_askForLooks_9 ?_
      refine lv_iload_n B.hx B.hb dX3_askForLooks_12 rfl (lv_at hl 0 rfl) ?_
      refine q_aald B hP 4 rfl (j := i) rfl (by omega) (by decide) dX3_askForLooks_13 ?_
      refine q_top (v2 := .null) (by rw [hPP i (by omega), if_neg hin]; rfl) ?_
      refine lv_astore_nN (lv' := [(3, .null), (2, .int (nI i)), (0, .ref (b 0)), (1, .int (nI r))]) B.hx B.hb dX3_askForLooks_14 rfl hl (by decide) rfl (fun ls hl => ?_)
      refine lv_aload_nN B.hx B.hb dX3_askForLooks_15 rfl (lv_at hl 0 rfl) ?_
      refine lv_ifnullN (tgt := 41) B.hx B.hb dX3_askForLooks_16 (by decide) ?_
      refine lv_iinc (v := (nI ((i + 1)))) (lv' := [(2, .int (nI ((i + 1)))), (3, .null), (0, .ref (b 0)), (1, .int (nI r))]) B.hx B.hb dX3_askForLooks_41 hl (k := 1) rfl (nI_1 _) (by decide) rfl (fun ls hl => ?_)
      refine lv_goto (tgt := 2) B.hx B.hb dX3_askForLooks_44 (by decide) ?_
      have hP := q_Pperm fok.symm hP
      have hD := q_Dperm fok.symm hD
      exact ih (i + 1) (by omega) (by omega) ls H locs (lv_sub hl [0, 2, 3] rfl) (show va_P D vwCl (WK cI cZ cP n ad (askX YY r XX (i + 1)) YY b I V P) H by unfold WK; rw [← pws_ask hin]; exact hP) (show va_D A (WK cI cZ cP n ad (askX YY r XX (i + 1)) YY b I V P) by unfold WK; rw [← pws_ask hin]; exact hD) hS
set_option maxHeartbeats 4000000 in
set_option maxRecDepth 100000 in
theorem c3_beginDay (l : Launch) (D : va_G) (cI cZ cP : ClassId) (b : Nat → Nat) (I : Nat → Int32) (V : Nat → Nat → Int32) (P : Nat → Option Nat) (n : Nat) (hn8 : n ≤ 8) (ad : Nat → Nat → Nat) (XX : Nat → Nat → Int32) (YY : Nat → Nat → Nat → Int32) (hPP : ∀ k, k < 8 → P k = if k < n then some (ad k 0) else none) (hwf : ∀ k, k < n → wfp (XX k) (YY k)) : q_C l yX3_beginDay wsX3_beginDay ({ frames := 4, cells := 0, slots := 0, locals := 84 }) D cI cZ cP [.ref (b 0)] (WK cI cZ cP n ad XX YY b I V P) (S := Unit) (fun v _ => v = some (.int (nI (bdS (I 7) n (0, XX, YY) 8).1))) (fun _ => WK cI cZ cP n ad (bdS (I 7) n (0, XX, YY) 8).2.1 (bdS (I 7) n (0, XX, YY) 8).2.2 b I V P) (fun _ => False) 0 0 := by
  refine q_of (cc := cX3_beginDay) (maxL := 4) (ret := (some .int)) (by decide +kernel) rfl (Nat.le_of_ble_eq_true rfl) ?_
  intro p e s m below meth c A ls B hr htb hmn hP hD hS hl
  have hl : lv_has ls 4 [(0, .ref (b 0))] := hl
  have hi3 : ∀ w ∈ u_ws RX3 TX3 8, w ∈ wsX3_beginDay := by decide +kernel
  refine lv_iconst (v := (nI 0)) B.hx B.hb dX3_beginDay_0 (by decide) ?_
  refine lv_istore_n (lv' := [(1, .int (nI 0)), (0, .ref (b 0))]) B.hx B.hb dX3_beginDay_1 rfl hl (by decide) rfl (fun ls hl => ?_)
  refine lv_iconst (v := (nI 0)) B.hx B.hb dX3_beginDay_2 (by decide) ?_
  refine lv_istore_n (lv' := [(2, .int (nI 0)), (1, .int (nI 0)), (0, .ref (b 0))]) B.hx B.hb dX3_beginDay_3 rfl hl (by decide) rfl (fun ls hl => ?_)
  refine q_loopW (nL := 4) (fun i : Nat => i ≤ 8) (fun i : Nat => 8 - i) (fun i : Nat => [(2, .int (nI i)), (1, .int (nI ((bdS (I 7) n (0, XX, YY) i).1))), (0, .ref (b 0))]) (fun i : Nat => WK cI cZ cP n ad (bdS (I 7) n (0, XX, YY) i).2.1 (bdS (I 7) n (0, XX, YY) i).2.2 b I V P) 0 (Nat.zero_le _) (lv_sub hl [0, 1, 2] rfl) hP hD hS ?_
  intro i hi ih ls H locs hl hP hD hS
  have hi : i ≤ 8 := hi
  have hl : lv_has ls 4 [(2, .int (nI i)), (1, .int (nI ((bdS (I 7) n (0, XX, YY) i).1))), (0, .ref (b 0))] := hl
  have hP : va_P D vwCl (WK cI cZ cP n ad (bdS (I 7) n (0, XX, YY) i).2.1 (bdS (I 7) n (0, XX, YY) i).2.2 b I V P) H := hP
  have hD : va_D A (WK cI cZ cP n ad (bdS (I 7) n (0, XX, YY) i).2.1 (bdS (I 7) n (0, XX, YY) i).2.2 b I V P) := hD
  refine lv_iload_n B.hx B.hb dX3_beginDay_4 rfl (lv_at hl 0 rfl) ?_
  refine lv_bipush (v := (nI 8)) B.hx B.hb dX3_beginDay_5 (by decide) ?_
  refine lv_icmp_ge (tgt := 46) B.hx B.hb dX3_beginDay_7 (by decide) (fun c1 => ?_) (fun c1 => ?_)
  · replace c1 := (nI_leI (by omega) (by omega)).mp c1
    obtain rfl : i = 8 := by omega
    refine lv_iload_n B.hx B.hb dX3_beginDay_46 rfl (lv_at hl 1 rfl) ?_
    exact q_iret B hr hP hD hS (u := ()) rfl rfl (Nat.le_of_ble_eq_true rfl) (Nat.le_of_ble_eq_true rfl) dX3_beginDay_47
  · replace c1 := mt (nI_leI (by omega) (by omega)).mpr c1
    by_cases hin : i < n
    · have hP := q_Pperm (foc hin) hP
      have hD := q_Dperm (foc hin) hD
      obtain ⟨a, ha⟩ : ∃ a, a = ad i := ⟨_, rfl⟩
      obtain ⟨X, hX⟩ : ∃ X, X = ((bdS (I 7) n (0, XX, YY) i).2.1 i) := ⟨_, rfl⟩
      obtain ⟨Y, hY⟩ : ∃ Y, Y = ((bdS (I 7) n (0, XX, YY) i).2.2 i) := ⟨_, rfl⟩
      rw [← ha, ← hX, ← hY] at hP
      rw [← ha, ← hX, ← hY] at hD
      obtain ⟨hWD, hw1, hw2, hw3⟩ := wfp_bdS (t := I 7) (n := n) (i := i) (s := (0, XX, YY)) (hwf i hin)
      rw [← hX, ← hY] at hWD
      rw [← hX] at hw1 hw2 hw3
      have hP : va_P D vwCl (dw cI cZ a X Y ++ (ppw cI cZ a X Y ++ (kq cI cZ cP b I V P ++ (cw cI b I V ++ pwx cI cZ n i ad (bdS (I 7) n (0, XX, YY) i).2.1 (bdS (I 7) n (0, XX, YY) i).2.2)))) H := hP
      have hD : va_D A (dw cI cZ a X Y ++ (ppw cI cZ a X Y ++ (kq cI cZ cP b I V P ++ (cw cI b I V ++ pwx cI cZ n i ad (bdS (I 7) n (0, XX, YY) i).2.1 (bdS (I 7) n (0, XX, YY) i).2.2)))) := hD
      refine lv_aload_n B.hx B.hb dX3_beginDay_10 rfl (lv_at hl 2 rfl) ?_
      refine q_get B hP (C := RX3) (ref := "PaperKeeper") (T := TX3) (N := 8) (ci := 3) hi3 rfl 10 rfl 3 (by decide) (by decide +kernel) rfl (v := .ref (b 4)) rfl dX3_beginDay_11 ?_
      refine lv_iload_n B.hx B.hb dX3_beginDay_14 rfl (lv_at hl 0 rfl) ?_
      refine q_aald B hP 14 rfl (j := i) rfl (by omega) (by decide) dX3_beginDay_15 ?_
      refine q_top (v2 := .ref (a 0)) (by rw [hPP i (by omega), if_pos hin, ha]; rfl) ?_
      refine lv_astore_n (lv' := [(3, .ref (a 0)), (2, .int (nI i)), (1, .int (nI ((bdS (I 7) n (0, XX, YY) i).1))), (0, .ref (b 0))]) B.hx B.hb dX3_beginDay_16 rfl hl (by decide) rfl (fun ls hl => ?_)
      refine lv_aload_n B.hx B.hb dX3_beginDay_17 rfl (lv_at hl 0 rfl) ?_
      refine lv_ifnull B.hx B.hb dX3_beginDay_18 ?_
      refine lv_aload_n B.hx B.hb dX3_beginDay_21 rfl (lv_at hl 0 rfl) ?_
      refine lv_aload_n B.hx B.hb dX3_beginDay_22 rfl (lv_at hl 3 rfl) ?_
      refine q_get B hP (C := RX3) (ref := "PaperKeeper") (T := TX3) (N := 8) (ci := 3) hi3 rfl 10 rfl 7 (by decide) (by decide +kernel) rfl (v := .int (I 7)) rfl dX3_beginDay_23 ?_
      refine q_callV (As := [.int (I 7)]) (rest := []) B hP hD hS ((c2_comeIntoForce l D cI cZ cP a X Y (ix (X 8)) (ix (X 9)) hWD (ix (X 1)) hw1 (I 7) (fun h => hw3 h.1)).fr2 (kq cI cZ cP b I V P ++ (cw cI b I V ++ pwx cI cZ n i ad (bdS (I 7) n (0, XX, YY) i).2.1 (bdS (I 7) n (0, XX, YY) i).2.2))) (cwV 1 B.hts gX3_beginDay_X2_comeIntoForce rfl rfl rfl (by decide +kernel) ⟨(Nat.le_of_ble_eq_true rfl), (Nat.le_of_ble_eq_true rfl)⟩) 6 2 rfl rfl rfl rfl hl.1 rfl (Nat.le_of_ble_eq_true rfl) dX3_beginDay_26 ⟨(Nat.le_of_ble_eq_true rfl), (Nat.le_of_ble_eq_true rfl)⟩ (fun E ce q9 H locs hx => False.elim hx) (fun v u H locs hp hP hD hS => ?_)
      rcases hp with ⟨rfl, rfl, hrd⟩ | ⟨rfl, rfl, hrd⟩
      · have hP : va_P D vwCl (dw cI cZ a (comX (I 7) X) (comY (I 7) X Y) ++ (ppw cI cZ a (comX (I 7) X) (comY (I 7) X Y) ++ (kq cI cZ cP b I V P ++ (cw cI b I V ++ pwx cI cZ n i ad (bdS (I 7) n (0, XX, YY) i).2.1 (bdS (I 7) n (0, XX, YY) i).2.2)))) H := hP
        have hD : va_D A (dw cI cZ a (comX (I 7) X) (comY (I 7) X Y) ++ (ppw cI cZ a (comX (I 7) X) (comY (I 7) X Y) ++ (kq cI cZ cP b I V P ++ (cw cI b I V ++ pwx cI cZ n i ad (bdS (I 7) n (0, XX, YY) i).2.1 (bdS (I 7) n (0, XX, YY) i).2.2)))) := hD
        refine lv_if_eq (tgt := 40) B.hx B.hb dX3_beginDay_29 (by decide) (fun c2 => absurd c2 (by decide)) (fun _ => ?_)
        refine lv_iinc (v := (nI (((bdS (I 7) n (0, XX, YY) i).1 + 1)))) (lv' := [(1, .int (nI (((bdS (I 7) n (0, XX, YY) i).1 + 1)))), (3, .ref (a 0)), (2, .int (nI i)), (0, .ref (b 0))]) B.hx B.hb dX3_beginDay_32 hl (k := 2) rfl (nI_1 _) (by decide) rfl (fun ls hl => ?_)
        subst ha hX hY
        have hP := q_Pperm fok (q_Pperm (unf hin _ _) hP)
        have hD := q_Dperm fok (q_Dperm (unf hin _ _) hD)
        have hl : lv_has ls 4 [(1, .int (nI (((bdS (I 7) n (0, XX, YY) i).1 + 1)))), (2, .int (nI i)), (0, .ref (b 0))] := lv_sub hl [0, 2, 3] rfl
        have hP : va_P D vwCl (kq cI cZ cP b I V P ++ (cw cI b I V ++ pws cI cZ n ad (va_up (bdS (I 7) n (0, XX, YY) i).2.1 i (comX (I 7) ((bdS (I 7) n (0, XX, YY) i).2.1 i))) (va_up (bdS (I 7) n (0, XX, YY) i).2.2 i (comY (I 7) ((bdS (I 7) n (0, XX, YY) i).2.1 i) ((bdS (I 7) n (0, XX, YY) i).2.2 i))))) H := hP
        have hD : va_D A (kq cI cZ cP b I V P ++ (cw cI b I V ++ pws cI cZ n ad (va_up (bdS (I 7) n (0, XX, YY) i).2.1 i (comX (I 7) ((bdS (I 7) n (0, XX, YY) i).2.1 i))) (va_up (bdS (I 7) n (0, XX, YY) i).2.2 i (comY (I 7) ((bdS (I 7) n (0, XX, YY) i).2.1 i) ((bdS (I 7) n (0, XX, YY) i).2.2 i))))) := hD
        refine lv_aload_n B.hx B.hb dX3_beginDay_35 rfl (lv_at hl 2 rfl) ?_
        refine lv_iload_n B.hx B.hb dX3_beginDay_36 rfl (lv_at hl 1 rfl) ?_
        refine q_callV (As := [.int (nI i)]) (rest := []) B hP hD hS ((c3_askForLooks l D cI cZ cP b I V P n hn8 ad (va_up (bdS (I 7) n (0, XX, YY) i).2.1 i (comX (I 7) ((bdS (I 7) n (0, XX, YY) i).2.1 i))) (va_up (bdS (I 7) n (0, XX, YY) i).2.2 i (comY (I 7) ((bdS (I 7) n (0, XX, YY) i).2.1 i) ((bdS (I 7) n (0, XX, YY) i).2.2 i))) hPP (fun k hk => wfp_w (wfp_up (wfp_bdS (hwf k hk)) (fun _ => hrd.1))) i (by omega)).perm fok (fun _ => fok)) (cwV 1 B.hts gX3_beginDay_X3_askForLooks rfl rfl rfl (by decide +kernel) ⟨(Nat.le_of_ble_eq_true rfl), (Nat.le_of_ble_eq_true rfl)⟩) 0 3 rfl rfl rfl rfl hl.1 rfl (Nat.le_of_ble_eq_true rfl) dX3_beginDay_37 ⟨(Nat.le_of_ble_eq_true rfl), (Nat.le_of_ble_eq_true rfl)⟩ (fun E ce q9 H locs hx => False.elim hx) (fun v u H locs hp hP hD hS => ?_)
        obtain rfl := hp
        have hP : va_P D vwCl (kq cI cZ cP b I V P ++ (cw cI b I V ++ pws cI cZ n ad (askX (va_up (bdS (I 7) n (0, XX, YY) i).2.2 i (comY (I 7) ((bdS (I 7) n (0, XX, YY) i).2.1 i) ((bdS (I 7) n (0, XX, YY) i).2.2 i))) i (va_up (bdS (I 7) n (0, XX, YY) i).2.1 i (comX (I 7) ((bdS (I 7) n (0, XX, YY) i).2.1 i))) 8) (va_up (bdS (I 7) n (0, XX, YY) i).2.2 i (comY (I 7) ((bdS (I 7) n (0, XX, YY) i).2.1 i) ((bdS (I 7) n (0, XX, YY) i).2.2 i))))) H := hP
        have hD : va_D A (kq cI cZ cP b I V P ++ (cw cI b I V ++ pws cI cZ n ad (askX (va_up (bdS (I 7) n (0, XX, YY) i).2.2 i (comY (I 7) ((bdS (I 7) n (0, XX, YY) i).2.1 i) ((bdS (I 7) n (0, XX, YY) i).2.2 i))) i (va_up (bdS (I 7) n (0, XX, YY) i).2.1 i (comX (I 7) ((bdS (I 7) n (0, XX, YY) i).2.1 i))) 8) (va_up (bdS (I 7) n (0, XX, YY) i).2.2 i (comY (I 7) ((bdS (I 7) n (0, XX, YY) i).2.1 i) ((bdS (I 7) n (0, XX, YY) i).2.2 i))))) := hD
        refine lv_iinc (v := (nI ((i + 1)))) (lv' := [(2, .int (nI ((i + 1)))), (1, .int (nI (((bdS (I 7) n (0, XX, YY) i).1 + 1)))), (0, .ref (b 0))]) B.hx B.hb dX3_beginDay_40 hl (k := 1) rfl (nI_1 _) (by decide) rfl (fun ls hl => ?_)
        refine lv_goto (tgt := 4) B.hx B.hb dX3_beginDay_43 (by decide) ?_
        have hP := q_Pperm fok.symm hP
        have hD := q_Dperm fok.symm hD
        exact ih (i + 1) (by omega) (by omega) ls H locs (show lv_has ls 4 [(2, .int (nI ((i + 1)))), (1, .int (nI ((bdS (I 7) n (0, XX, YY) (i + 1)).1))), (0, .ref (b 0))] by rw [bdS_yes hin hrd]; exact lv_sub hl [0, 1, 2] rfl) (show va_P D vwCl (WK cI cZ cP n ad (bdS (I 7) n (0, XX, YY) (i + 1)).2.1 (bdS (I 7) n (0, XX, YY) (i + 1)).2.2 b I V P) H by rw [bdS_yes hin hrd]; exact hP) (show va_D A (WK cI cZ cP n ad (bdS (I 7) n (0, XX, YY) (i + 1)).2.1 (bdS (I 7) n (0, XX, YY) (i + 1)).2.2 b I V P) by rw [bdS_yes hin hrd]; exact hD) hS
      · have hP : va_P D vwCl (dw cI cZ a X Y ++ (ppw cI cZ a X Y ++ (kq cI cZ cP b I V P ++ (cw cI b I V ++ pwx cI cZ n i ad (bdS (I 7) n (0, XX, YY) i).2.1 (bdS (I 7) n (0, XX, YY) i).2.2)))) H := hP
        have hD : va_D A (dw cI cZ a X Y ++ (ppw cI cZ a X Y ++ (kq cI cZ cP b I V P ++ (cw cI b I V ++ pwx cI cZ n i ad (bdS (I 7) n (0, XX, YY) i).2.1 (bdS (I 7) n (0, XX, YY) i).2.2)))) := hD
        refine lv_if_eq (tgt := 40) B.hx B.hb dX3_beginDay_29 (by decide) (fun _ => ?_) (fun c3 => absurd c3 (by decide))
        refine lv_iinc (v := (nI ((i + 1)))) (lv' := [(2, .int (nI ((i + 1)))), (3, .ref (a 0)), (1, .int (nI ((bdS (I 7) n (0, XX, YY) i).1))), (0, .ref (b 0))]) B.hx B.hb dX3_beginDay_40 hl (k := 1) rfl (nI_1 _) (by decide) rfl (fun ls hl => ?_)
        refine lv_goto (tgt := 4) B.hx B.hb dX3_beginDay_43 (by decide) ?_
        subst ha hX hY
        have hP := q_Pperm (foc hin).symm hP
        have hD := q_Dperm (foc hin).symm hD
        exact ih (i + 1) (by omega) (by omega) ls H locs (show lv_has ls 4 [(2, .int (nI ((i + 1)))), (1, .int (nI ((bdS (I 7) n (0, XX, YY) (i + 1)).1))), (0, .ref (b 0))] by rw [bdS_no (fun h => hrd h.2)]; exact lv_sub hl [0, 2, 3] rfl) (show va_P D vwCl (WK cI cZ cP n ad (bdS (I 7) n (0, XX, YY) (i + 1)).2.1 (bdS (I 7) n (0, XX, YY) (i + 1)).2.2 b I V P) H by rw [bdS_no (fun h => hrd h.2)]; exact hP) (show va_D A (WK cI cZ cP n ad (bdS (I 7) n (0, XX, YY) (i + 1)).2.1 (bdS (I 7) n (0, XX, YY) (i + 1)).2.2 b I V P) by rw [bdS_no (fun h => hrd h.2)]; exact hD) hS
    · have hP := q_Pperm fok hP
      have hD := q_Dperm fok hD
      have hP : va_P D vwCl (kq cI cZ cP b I V P ++ (cw cI b I V ++ pws cI cZ n ad (bdS (I 7) n (0, XX, YY) i).2.1 (bdS (I 7) n (0, XX, YY) i).2.2)) H := hP
      have hD : va_D A (kq cI cZ cP b I V P ++ (cw cI b I V ++ pws cI cZ n ad (bdS (I 7) n (0, XX, YY) i).2.1 (bdS (I 7) n (0, XX, YY) i).2.2)) := hD
      refine lv_aload_n B.hx B.hb dX3_beginDay_10 rfl (lv_at hl 2 rfl) ?_
      refine q_get B hP (C := RX3) (ref := "PaperKeeper") (T := TX3) (N := 8) (ci := 3) hi3 rfl 0 rfl 3 (by decide) (by decide +kernel) rfl (v := .ref (b 4)) rfl dX3_beginDay_11 ?_
      refine lv_iload_n B.hx B.hb dX3_beginDay_14 rfl (lv_at hl 0 rfl) ?_
      refine q_aald B hP 4 rfl (j := i) rfl (by omega) (by decide) dX3_beginDay_15 ?_
      refine q_top (v2 := .null) (by rw [hPP i (by omega), if_neg hin]; rfl) ?_
      refine lv_astore_nN (lv' := [(3, .null), (2, .int (nI i)), (1, .int (nI ((bdS (I 7) n (0, XX, YY) i).1))), (0, .ref (b 0))]) B.hx B.hb dX3_beginDay_16 rfl hl (by decide) rfl (fun ls hl => ?_)
      refine lv_aload_nN B.hx B.hb dX3_beginDay_17 rfl (lv_at hl 0 rfl) ?_
      refine lv_ifnullN (tgt := 40) B.hx B.hb dX3_beginDay_18 (by decide) ?_
      refine lv_iinc (v := (nI ((i + 1)))) (lv' := [(2, .int (nI ((i + 1)))), (3, .null), (1, .int (nI ((bdS (I 7) n (0, XX, YY) i).1))), (0, .ref (b 0))]) B.hx B.hb dX3_beginDay_40 hl (k := 1) rfl (nI_1 _) (by decide) rfl (fun ls hl => ?_)
      refine lv_goto (tgt := 4) B.hx B.hb dX3_beginDay_43 (by decide) ?_
      have hP := q_Pperm fok.symm hP
      have hD := q_Dperm fok.symm hD
      exact ih (i + 1) (by omega) (by omega) ls H locs (show lv_has ls 4 [(2, .int (nI ((i + 1)))), (1, .int (nI ((bdS (I 7) n (0, XX, YY) (i + 1)).1))), (0, .ref (b 0))] by rw [bdS_no (fun h => hin h.1)]; exact lv_sub hl [0, 2, 3] rfl) (show va_P D vwCl (WK cI cZ cP n ad (bdS (I 7) n (0, XX, YY) (i + 1)).2.1 (bdS (I 7) n (0, XX, YY) (i + 1)).2.2 b I V P) H by rw [bdS_no (fun h => hin h.1)]; exact hP) (show va_D A (WK cI cZ cP n ad (bdS (I 7) n (0, XX, YY) (i + 1)).2.1 (bdS (I 7) n (0, XX, YY) (i + 1)).2.2 b I V P) by rw [bdS_no (fun h => hin h.1)]; exact hD) hS
set_option maxHeartbeats 4000000 in
set_option maxRecDepth 100000 in
theorem c3_pass (l : Launch) (hfl : l.stackTraces = false) (D : va_G) (cI cZ cP : ClassId) (b : Nat → Nat) (I : Nat → Int32) (V : Nat → Nat → Int32) (P : Nat → Option Nat) (n : Nat) (hn8 : n ≤ 8) (ad : Nat → Nat → Nat) (XX : Nat → Nat → Int32) (YY : Nat → Nat → Nat → Int32) (hPP : ∀ k, k < 8 → P k = if k < n then some (ad k 0) else none) (hwf : ∀ k, k < n → wfp (XX k) (YY k)) (td : Nat) (htd : I 7 = nI td) (htd2 : td ≤ 1000) (x : Int32) : q_C l yX3_pass wsX3_pass ({ frames := 7, cells := 2, slots := 12, locals := 107 }) D cI cZ cP [.ref (b 0), .int x] (kq cI cZ cP b I V P ++ (cw cI b I V ++ pws cI cZ n ad XX YY)) (S := Unit) (fun v _ => v = some (.int (nI (psS td n (0, XX, YY) (ix x)).1)) ∧ kPass x (I 7) = 0) (fun _ => kq cI cZ cP b (va_up I 7 (nI ((td + ix x)))) V P ++ (cw cI b (va_up I 7 (nI ((td + ix x)))) V ++ pws cI cZ n ad (psS td n (0, XX, YY) (ix x)).2.1 (psS td n (0, XX, YY) (ix x)).2.2)) (fun E => (E = q_IAE ∧ kPass x (I 7) = 1) ∨ (E = q_ISE ∧ kPass x (I 7) = 2)) 2 12 := by
  refine q_of (cc := cX3_pass) (maxL := 4) (ret := (some .int)) (by decide +kernel) rfl (Nat.le_of_ble_eq_true rfl) ?_
  intro p e s m below meth c A ls B hr htb hmn hP hD hS hl
  have hl : lv_has ls 4 [(0, .ref (b 0)), (1, .int x)] := hl
  have hi3 : ∀ w ∈ u_ws RX3 TX3 8, w ∈ wsX3_pass := by decide +kernel
  refine lv_iload_n B.hx B.hb dX3_pass_0 rfl (lv_at hl 1 rfl) ?_
  refine lv_iconst (v := (nI 1)) B.hx B.hb dX3_pass_1 (by decide) ?_
  refine lv_bipush (v := (nI 50)) B.hx B.hb dX3_pass_2 (by decide) ?_
  refine q_callS (As := [.int x, .int (nI 1), .int (nI 50)]) (rest := []) B hP hD hS ((c3_checkRange l hfl D cI cZ cP x (nI 1) (nI 50)).fr0 (kq cI cZ cP b I V P ++ (cw cI b I V ++ pws cI cZ n ad XX YY))) (cwS 3 B.hts gX3_pass_X3_checkRange rfl rfl rfl (by decide +kernel) ⟨(Nat.le_of_ble_eq_true rfl), (Nat.le_of_ble_eq_true rfl)⟩) rfl hl.1 rfl (Nat.le_of_ble_eq_true rfl) dX3_pass_4 ⟨(Nat.le_of_ble_eq_true rfl), (Nat.le_of_ble_eq_true rfl)⟩ (fun E ce q9 H locs hx hP hS hce hcv hcl => ?_) (fun v u H locs hp hP hD hS => ?_)
  · exact q_xout B htb hP hS hce hcv hcl (Or.inl ⟨hx.1, by simp [kPass, hx.2]⟩) (Nat.le_of_ble_eq_true rfl) (Nat.le_of_ble_eq_true rfl)
  · obtain ⟨rfl, hrg0⟩ := hp
    have hP : va_P D vwCl (kq cI cZ cP b I V P ++ (cw cI b I V ++ pws cI cZ n ad XX YY)) H := hP
    have hD : va_D A (kq cI cZ cP b I V P ++ (cw cI b I V ++ pws cI cZ n ad XX YY)) := hD
    obtain ⟨d, hd, rfl⟩ := rg_1j (by decide) hrg0
    have hixd : ix (nI d) = d := ix_nI (by omega)
    refine lv_aload_n B.hx B.hb dX3_pass_7 rfl (lv_at hl 0 rfl) ?_
    refine q_get B hP (C := RX3) (ref := "PaperKeeper") (T := TX3) (N := 8) (ci := 3) hi3 rfl 0 rfl 7 (by decide) (by decide +kernel) rfl (v := .int (I 7)) rfl dX3_pass_8 ?_
    refine q_top (v2 := .int (nI td)) (congrArg Value.int htd) ?_
    refine lv_iload_n B.hx B.hb dX3_pass_11 rfl (lv_at hl 1 rfl) ?_
    refine lv_iadd B.hx B.hb dX3_pass_12 ?_
    refine q_top (v2 := .int (nI ((td + d)))) (congrArg Value.int (nI_add _ _)) ?_
    refine lv_sipush (v := (nI 1000)) B.hx B.hb dX3_pass_13 (by decide) ?_
    refine lv_icmp_le (tgt := 29) B.hx B.hb dX3_pass_16 (by decide) (fun c1 => ?_) (fun c1 => ?_)
    · replace c1 := (nI_leI (by omega) (by omega)).mp c1
      have hle : nI td + nI d ≤ nI 1000 := by rw [nI_add]; exact (nI_leI (by omega) (by omega)).mpr c1
      refine lv_iconst (v := (nI 0)) B.hx B.hb dX3_pass_29 (by decide) ?_
      refine lv_istore_n (lv' := [(2, .int (nI 0)), (0, .ref (b 0)), (1, .int (nI d))]) B.hx B.hb dX3_pass_30 rfl hl (by decide) rfl (fun ls hl => ?_)
      refine lv_iconst (v := (nI 0)) B.hx B.hb dX3_pass_31 (by decide) ?_
      refine lv_istore_n (lv' := [(3, .int (nI 0)), (2, .int (nI 0)), (0, .ref (b 0)), (1, .int (nI d))]) B.hx B.hb dX3_pass_32 rfl hl (by decide) rfl (fun ls hl => ?_)
      refine q_loopW (nL := 4) (fun i : Nat => i ≤ d) (fun i : Nat => d - i) (fun i : Nat => [(3, .int (nI i)), (2, .int (nI ((psS td n (0, XX, YY) i).1))), (0, .ref (b 0)), (1, .int (nI d))]) (fun i : Nat => kq cI cZ cP b (va_up I 7 (nI ((td + i)))) V P ++ (cw cI b (va_up I 7 (nI ((td + i)))) V ++ pws cI cZ n ad (psS td n (0, XX, YY) i).2.1 (psS td n (0, XX, YY) i).2.2)) 0 (Nat.zero_le _) (lv_sub hl [0, 1, 2, 3] rfl) (show va_P D vwCl (kq cI cZ cP b (va_up I 7 (nI ((td + 0)))) V P ++ (cw cI b (va_up I 7 (nI ((td + 0)))) V ++ pws cI cZ n ad (psS td n (0, XX, YY) 0).2.1 (psS td n (0, XX, YY) 0).2.2)) _ by rw [show nI (td + 0) = I 7 from htd.symm, up_same]; exact hP) (show va_D A (kq cI cZ cP b (va_up I 7 (nI ((td + 0)))) V P ++ (cw cI b (va_up I 7 (nI ((td + 0)))) V ++ pws cI cZ n ad (psS td n (0, XX, YY) 0).2.1 (psS td n (0, XX, YY) 0).2.2)) by rw [show nI (td + 0) = I 7 from htd.symm, up_same]; exact hD) hS ?_
      intro i hi ih ls H locs hl hP hD hS
      have hi : i ≤ d := hi
      have hl : lv_has ls 4 [(3, .int (nI i)), (2, .int (nI ((psS td n (0, XX, YY) i).1))), (0, .ref (b 0)), (1, .int (nI d))] := hl
      have hP : va_P D vwCl (kq cI cZ cP b (va_up I 7 (nI ((td + i)))) V P ++ (cw cI b (va_up I 7 (nI ((td + i)))) V ++ pws cI cZ n ad (psS td n (0, XX, YY) i).2.1 (psS td n (0, XX, YY) i).2.2)) H := hP
      have hD : va_D A (kq cI cZ cP b (va_up I 7 (nI ((td + i)))) V P ++ (cw cI b (va_up I 7 (nI ((td + i)))) V ++ pws cI cZ n ad (psS td n (0, XX, YY) i).2.1 (psS td n (0, XX, YY) i).2.2)) := hD
      refine lv_iload_n B.hx B.hb dX3_pass_33 rfl (lv_at hl 0 rfl) ?_
      refine lv_iload_n B.hx B.hb dX3_pass_34 rfl (lv_at hl 3 rfl) ?_
      refine lv_icmp_ge (tgt := 61) B.hx B.hb dX3_pass_35 (by decide) (fun c2 => ?_) (fun c2 => ?_)
      · replace c2 := (nI_leI (by omega) (by omega)).mp c2
        obtain rfl : i = d := by omega
        refine lv_iload_n B.hx B.hb dX3_pass_61 rfl (lv_at hl 1 rfl) ?_
        exact q_iret B hr hP hD hS (u := ()) (by simp only [hixd]) ⟨by rw [hixd], by simp [kPass, hrg0, htd, hle]⟩ (Nat.le_of_ble_eq_true rfl) (Nat.le_of_ble_eq_true rfl) dX3_pass_62
      · replace c2 := mt (nI_leI (by omega) (by omega)).mpr c2
        refine lv_aload_n B.hx B.hb dX3_pass_38 rfl (lv_at hl 2 rfl) ?_
        refine lv_dup B.hx B.hb dX3_pass_39 rfl ?_
        refine q_get B hP (C := RX3) (ref := "PaperKeeper") (T := TX3) (N := 8) (ci := 3) hi3 rfl 0 rfl 7 (by decide) (by decide +kernel) rfl (v := .int (nI ((td + i)))) rfl dX3_pass_40 ?_
        refine lv_iconst (v := (nI 1)) B.hx B.hb dX3_pass_43 (by decide) ?_
        refine lv_iadd B.hx B.hb dX3_pass_44 ?_
        refine q_top (v2 := .int (nI (((td + i) + 1)))) (congrArg Value.int (nI_add _ _)) ?_
        refine q_put B hP hD hS (C := RX3) (ref := "PaperKeeper") (T := TX3) (N := 8) (ci := 3) hi3 rfl tyX3 tyX3_ok nmX3 0 rfl 7 (by decide) (by decide +kernel) rfl rfl rfl (by rfl) (Nat.le_of_ble_eq_true rfl) dX3_pass_45 (w' := kq cI cZ cP b (va_up I 7 (nI (((td + i) + 1)))) V P ++ (cw cI b (va_up I 7 (nI (((td + i) + 1)))) V ++ pws cI cZ n ad (psS td n (0, XX, YY) i).2.1 (psS td n (0, XX, YY) i).2.2)) rfl (fun H locs hP hD hS => ?_)
        refine lv_iload_n B.hx B.hb dX3_pass_48 rfl (lv_at hl 1 rfl) ?_
        refine lv_aload_n B.hx B.hb dX3_pass_49 rfl (lv_at hl 2 rfl) ?_
        refine q_callV (As := []) (rest := [.int (nI ((psS td n (0, XX, YY) i).1))]) B hP hD hS ((c3_beginDay l D cI cZ cP b (va_up I 7 (nI (((td + i) + 1)))) V P n hn8 ad (psS td n (0, XX, YY) i).2.1 (psS td n (0, XX, YY) i).2.2 hPP (fun k hk => wfp_psS (hwf k hk))).perm fok (fun _ => fok)) (cwV 0 B.hts gX3_pass_X3_beginDay rfl rfl rfl (by decide +kernel) ⟨(Nat.le_of_ble_eq_true rfl), (Nat.le_of_ble_eq_true rfl)⟩) 0 3 rfl rfl rfl rfl hl.1 rfl (Nat.le_of_ble_eq_true rfl) dX3_pass_50 ⟨(Nat.le_of_ble_eq_true rfl), (Nat.le_of_ble_eq_true rfl)⟩ (fun E ce q9 H locs hx => False.elim hx) (fun v u H locs hp hP hD hS => ?_)
        obtain rfl := hp
        have hP : va_P D vwCl (kq cI cZ cP b (va_up I 7 (nI (((td + i) + 1)))) V P ++ (cw cI b (va_up I 7 (nI (((td + i) + 1)))) V ++ pws cI cZ n ad (bdS (nI (td + i + 1)) n (0, (psS td n (0, XX, YY) i).2) 8).2.1 (bdS (nI (td + i + 1)) n (0, (psS td n (0, XX, YY) i).2) 8).2.2)) H := hP
        have hD : va_D A (kq cI cZ cP b (va_up I 7 (nI (((td + i) + 1)))) V P ++ (cw cI b (va_up I 7 (nI (((td + i) + 1)))) V ++ pws cI cZ n ad (bdS (nI (td + i + 1)) n (0, (psS td n (0, XX, YY) i).2) 8).2.1 (bdS (nI (td + i + 1)) n (0, (psS td n (0, XX, YY) i).2) 8).2.2)) := hD
        refine lv_iadd B.hx B.hb dX3_pass_53 ?_
        refine q_top (v2 := .int (nI (((psS td n (0, XX, YY) i).1 + (bdS (nI (td + i + 1)) n (0, (psS td n (0, XX, YY) i).2) 8).1)))) (congrArg Value.int (nI_add _ _)) ?_
        refine lv_istore_n (lv' := [(2, .int (nI (((psS td n (0, XX, YY) i).1 + (bdS (nI (td + i + 1)) n (0, (psS td n (0, XX, YY) i).2) 8).1)))), (3, .int (nI i)), (0, .ref (b 0)), (1, .int (nI d))]) B.hx B.hb dX3_pass_54 rfl hl (by decide) rfl (fun ls hl => ?_)
        refine lv_iinc (v := (nI ((i + 1)))) (lv' := [(3, .int (nI ((i + 1)))), (2, .int (nI (((psS td n (0, XX, YY) i).1 + (bdS (nI (td + i + 1)) n (0, (psS td n (0, XX, YY) i).2) 8).1)))), (0, .ref (b 0)), (1, .int (nI d))]) B.hx B.hb dX3_pass_55 hl (k := 1) rfl (nI_1 _) (by decide) rfl (fun ls hl => ?_)
        refine lv_goto (tgt := 33) B.hx B.hb dX3_pass_58 (by decide) ?_
        exact ih (i + 1) (by omega) (by omega) ls H locs (lv_sub hl [0, 1, 2, 3] rfl) hP hD hS
    · replace c1 := mt (nI_leI (by omega) (by omega)).mpr c1
      have hle : ¬ nI td + nI d ≤ nI 1000 := by rw [nI_add]; exact mt (nI_leI (by omega) (by omega)).mp c1
      exact q_throw B hfl htb hP hS q_E_ISE (goodIn_app (goodIn_of [_, _] (by decide +kernel)) (goodIn_sub (fun w h => List.mem_cons_of_mem _ (List.mem_append_left _ (List.mem_append_right _ h))) q_allg_ISE)) (List.mem_of_getElem? (i := 17) rfl) hl.1 dX3_pass_19 dX3_pass_22 dX3_pass_23 dX3_pass_25 dX3_pass_28 ⟨(Nat.le_of_ble_eq_true rfl), (Nat.le_of_ble_eq_true rfl), (Nat.le_of_ble_eq_true rfl), (Nat.le_of_ble_eq_true rfl)⟩ (Or.inr ⟨rfl, by simp [kPass, hrg0, c1, hixd, htd, hle]⟩) (Nat.le_of_ble_eq_true rfl) (Nat.le_of_ble_eq_true rfl)
