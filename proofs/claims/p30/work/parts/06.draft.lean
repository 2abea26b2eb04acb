/-! The draft: its methods. -/
set_option maxHeartbeats 4000000 in
set_option maxRecDepth 100000 in
theorem c1_nextReviewer (l : Launch) (D : va_G) (cI cZ cP : ClassId) (a : Nat → Nat) (X : Nat → Int32) (Y : Nat → Nat → Int32) (n k : Nat) (hW : wd X Y n k) : q_C l yX1_nextReviewer wsX1_nextReviewer ({ frames := 0, cells := 0, slots := 0, locals := 0 }) D cI cZ cP [.ref (a 2)] (dw cI cZ a X Y) (S := Unit) (fun v _ => v = some (.int (dNR Y n))) (fun _ => dw cI cZ a X Y) (fun _ => False) 0 0 := by
  refine q_of (cc := cX1_nextReviewer) (maxL := 2) (ret := (some .int)) (by decide +kernel) rfl (Nat.le_of_ble_eq_true rfl) ?_
  intro p e s m below meth c A ls B hr htb hmn hP hD hS hl
  have hl : lv_has ls 2 [(0, .ref (a 2))] := hl
  have hi1 : ∀ w ∈ u_ws RX1 TX1 12, w ∈ wsX1_nextReviewer := by decide +kernel
  obtain ⟨hn, hn4, hm, hm4, hv⟩ := id hW
  refine lv_iconst (v := (nI 0)) B.hx B.hb dX1_nextReviewer_0 (by decide) ?_
  refine lv_istore_n (lv' := [(1, .int (nI 0)), (0, .ref (a 2))]) B.hx B.hb dX1_nextReviewer_1 rfl hl (by decide) rfl (fun ls hl => ?_)
  refine q_loop (nL := 2) (fun i : Nat => i ≤ n ∧ dNR Y n = pF (okR (Y 1) (Y 2)) (Y 1) (n - i) i) (fun i : Nat => n - i) (fun i : Nat => [(1, .int (nI i)), (0, .ref (a 2))]) (0) ⟨Nat.zero_le _, rfl⟩ (lv_sub hl [0, 1] rfl) ?_
  intro i1 hI2 ih3 ls hl
  have hI2 : i1 ≤ n ∧ dNR Y n = pF (okR (Y 1) (Y 2)) (Y 1) (n - i1) i1 := hI2
  have hl : lv_has ls 2 [(1, .int (nI i1)), (0, .ref (a 2))] := hl
  obtain ⟨hi, he⟩ := hI2
  refine lv_iload_n B.hx B.hb dX1_nextReviewer_2 rfl (lv_at hl 0 rfl) ?_
  refine lv_aload_n B.hx B.hb dX1_nextReviewer_3 rfl (lv_at hl 1 rfl) ?_
  refine q_get B hP (C := RX1) (ref := "PaperKeeper$Draft") (T := TX1) (N := 12) (ci := 1) hi1 rfl 0 rfl 8 (by decide) (by decide +kernel) rfl (v := .int (X 8)) rfl dX1_nextReviewer_4 ?_
  refine q_top (v2 := .int (nI n)) (congrArg Value.int hn) ?_
  refine lv_icmp_ge (tgt := 37) B.hx B.hb dX1_nextReviewer_7 (by decide) (fun c4 => ?_) (fun c4 => ?_)
  · replace c4 := (nI_leI (by omega) (by omega)).mp c4
    refine lv_iconst (v := (-1)) B.hx B.hb dX1_nextReviewer_37 (by decide) ?_
    exact q_iret B hr hP hD hS (u := ()) rfl (by rw [he, pF_end (by omega)]) (Nat.le_of_ble_eq_true rfl) (Nat.le_of_ble_eq_true rfl) dX1_nextReviewer_38
  · replace c4 := mt (nI_leI (by omega) (by omega)).mpr c4
    refine lv_aload_n B.hx B.hb dX1_nextReviewer_10 rfl (lv_at hl 1 rfl) ?_
    refine q_get B hP (C := RX1) (ref := "PaperKeeper$Draft") (T := TX1) (N := 12) (ci := 1) hi1 rfl 0 rfl 1 (by decide) (by decide +kernel) rfl (v := .ref (a 4)) rfl dX1_nextReviewer_11 ?_
    refine lv_aload_n B.hx B.hb dX1_nextReviewer_14 rfl (lv_at hl 1 rfl) ?_
    refine q_get B hP (C := RX1) (ref := "PaperKeeper$Draft") (T := TX1) (N := 12) (ci := 1) hi1 rfl 0 rfl 0 (by decide) (by decide +kernel) rfl (v := .ref (a 3)) rfl dX1_nextReviewer_15 ?_
    refine lv_iload_n B.hx B.hb dX1_nextReviewer_18 rfl (lv_at hl 0 rfl) ?_
    obtain ⟨j, hj, ej⟩ := hv i1 (by omega)
    refine q_iald B hP 1 rfl (j := i1) rfl (by omega) (by decide) dX1_nextReviewer_19 ?_
    refine q_top (v2 := .int (nI j)) (congrArg Value.int ej) ?_
    refine q_zald B hP 2 rfl (j := j) rfl (by omega) (by decide) dX1_nextReviewer_20 ?_
    refine lv_if_ne (tgt := 31) B.hx B.hb dX1_nextReviewer_21 (by decide) (fun c5 => ?_) (fun c5 => ?_)
    · refine lv_iinc (v := (nI ((i1 + 1)))) (lv' := [(1, .int (nI ((i1 + 1)))), (0, .ref (a 2))]) B.hx B.hb dX1_nextReviewer_31 hl (k := 0) rfl (nI_1 _) (by decide) rfl (fun ls hl => ?_)
      refine lv_goto (tgt := 2) B.hx B.hb dX1_nextReviewer_34 (by decide) ?_
      exact ih3 (i1 + 1) ⟨by omega, by rw [he, pF_no (by omega) (by rw [okR_nI ej hj]; exact decide_eq_false c5)]⟩ (by omega) ls (lv_sub hl [0, 1] rfl)
    · refine lv_aload_n B.hx B.hb dX1_nextReviewer_24 rfl (lv_at hl 1 rfl) ?_
      refine q_get B hP (C := RX1) (ref := "PaperKeeper$Draft") (T := TX1) (N := 12) (ci := 1) hi1 rfl 0 rfl 0 (by decide) (by decide +kernel) rfl (v := .ref (a 3)) rfl dX1_nextReviewer_25 ?_
      refine lv_iload_n B.hx B.hb dX1_nextReviewer_28 rfl (lv_at hl 0 rfl) ?_
      refine q_iald B hP 1 rfl (j := i1) rfl (by omega) (by decide) dX1_nextReviewer_29 ?_
      exact q_iret B hr hP hD hS (u := ()) rfl (by rw [he, pF_yes (by omega) (by rw [okR_nI ej hj]; exact decide_eq_true c5)]) (Nat.le_of_ble_eq_true rfl) (Nat.le_of_ble_eq_true rfl) dX1_nextReviewer_30
set_option maxHeartbeats 4000000 in
set_option maxRecDepth 100000 in
theorem c1_nextReader (l : Launch) (D : va_G) (cI cZ cP : ClassId) (a : Nat → Nat) (X : Nat → Int32) (Y : Nat → Nat → Int32) : q_C l yX1_nextReader wsX1_nextReader ({ frames := 0, cells := 0, slots := 0, locals := 0 }) D cI cZ cP [.ref (a 2)] (dw cI cZ a X Y) (S := Unit) (fun v _ => v = some (.int (dNC Y))) (fun _ => dw cI cZ a X Y) (fun _ => False) 0 0 := by
  refine q_of (cc := cX1_nextReader) (maxL := 2) (ret := (some .int)) (by decide +kernel) rfl (Nat.le_of_ble_eq_true rfl) ?_
  intro p e s m below meth c A ls B hr htb hmn hP hD hS hl
  have hl : lv_has ls 2 [(0, .ref (a 2))] := hl
  have hi1 : ∀ w ∈ u_ws RX1 TX1 12, w ∈ wsX1_nextReader := by decide +kernel
  refine lv_iconst (v := (nI 0)) B.hx B.hb dX1_nextReader_0 (by decide) ?_
  refine lv_istore_n (lv' := [(1, .int (nI 0)), (0, .ref (a 2))]) B.hx B.hb dX1_nextReader_1 rfl hl (by decide) rfl (fun ls hl => ?_)
  refine q_loop (nL := 2) (fun i : Nat => i ≤ 6 ∧ dNC Y = pF (okC (Y 4) (Y 5)) nI (6 - i) i) (fun i : Nat => 6 - i) (fun i : Nat => [(1, .int (nI i)), (0, .ref (a 2))]) (0) ⟨Nat.zero_le _, rfl⟩ (lv_sub hl [0, 1] rfl) ?_
  intro i1 hI2 ih3 ls hl
  have hI2 : i1 ≤ 6 ∧ dNC Y = pF (okC (Y 4) (Y 5)) nI (6 - i1) i1 := hI2
  have hl : lv_has ls 2 [(1, .int (nI i1)), (0, .ref (a 2))] := hl
  obtain ⟨hi, he⟩ := hI2
  refine lv_iload_n B.hx B.hb dX1_nextReader_2 rfl (lv_at hl 0 rfl) ?_
  refine lv_bipush (v := (nI 6)) B.hx B.hb dX1_nextReader_3 (by decide) ?_
  refine lv_icmp_ge (tgt := 34) B.hx B.hb dX1_nextReader_5 (by decide) (fun c4 => ?_) (fun c4 => ?_)
  · replace c4 := (nI_leI (by omega) (by omega)).mp c4
    refine lv_iconst (v := (-1)) B.hx B.hb dX1_nextReader_34 (by decide) ?_
    exact q_iret B hr hP hD hS (u := ()) rfl (by rw [he, pF_end (by omega)]) (Nat.le_of_ble_eq_true rfl) (Nat.le_of_ble_eq_true rfl) dX1_nextReader_35
  · replace c4 := mt (nI_leI (by omega) (by omega)).mpr c4
    refine lv_aload_n B.hx B.hb dX1_nextReader_8 rfl (lv_at hl 1 rfl) ?_
    refine q_get B hP (C := RX1) (ref := "PaperKeeper$Draft") (T := TX1) (N := 12) (ci := 1) hi1 rfl 0 rfl 3 (by decide) (by decide +kernel) rfl (v := .ref (a 6)) rfl dX1_nextReader_9 ?_
    refine lv_iload_n B.hx B.hb dX1_nextReader_12 rfl (lv_at hl 0 rfl) ?_
    refine q_zald B hP 4 rfl (j := i1) rfl (by omega) (by decide) dX1_nextReader_13 ?_
    refine lv_if_eq (tgt := 28) B.hx B.hb dX1_nextReader_14 (by decide) (fun c5 => ?_) (fun c5 => ?_)
    · refine lv_iinc (v := (nI ((i1 + 1)))) (lv' := [(1, .int (nI ((i1 + 1)))), (0, .ref (a 2))]) B.hx B.hb dX1_nextReader_28 hl (k := 0) rfl (nI_1 _) (by decide) rfl (fun ls hl => ?_)
      refine lv_goto (tgt := 2) B.hx B.hb dX1_nextReader_31 (by decide) ?_
      exact ih3 (i1 + 1) ⟨by omega, by rw [he, pF_no (by omega) (by simp [okC, c5])]⟩ (by omega) ls (lv_sub hl [0, 1] rfl)
    · refine lv_aload_n B.hx B.hb dX1_nextReader_17 rfl (lv_at hl 1 rfl) ?_
      refine q_get B hP (C := RX1) (ref := "PaperKeeper$Draft") (T := TX1) (N := 12) (ci := 1) hi1 rfl 0 rfl 4 (by decide) (by decide +kernel) rfl (v := .ref (a 7)) rfl dX1_nextReader_18 ?_
      refine lv_iload_n B.hx B.hb dX1_nextReader_21 rfl (lv_at hl 0 rfl) ?_
      refine q_zald B hP 5 rfl (j := i1) rfl (by omega) (by decide) dX1_nextReader_22 ?_
      refine lv_if_ne (tgt := 28) B.hx B.hb dX1_nextReader_23 (by decide) (fun c6 => ?_) (fun c6 => ?_)
      · refine lv_iinc (v := (nI ((i1 + 1)))) (lv' := [(1, .int (nI ((i1 + 1)))), (0, .ref (a 2))]) B.hx B.hb dX1_nextReader_28 hl (k := 0) rfl (nI_1 _) (by decide) rfl (fun ls hl => ?_)
        refine lv_goto (tgt := 2) B.hx B.hb dX1_nextReader_31 (by decide) ?_
        exact ih3 (i1 + 1) ⟨by omega, by rw [he, pF_no (by omega) (by simp [okC, c5, c6])]⟩ (by omega) ls (lv_sub hl [0, 1] rfl)
      · refine lv_iload_n B.hx B.hb dX1_nextReader_26 rfl (lv_at hl 0 rfl) ?_
        exact q_iret B hr hP hD hS (u := ()) rfl (by rw [he, pF_yes (by omega) (by simp [okC, c6, c5])]) (Nat.le_of_ble_eq_true rfl) (Nat.le_of_ble_eq_true rfl) dX1_nextReader_27
set_option maxHeartbeats 4000000 in
set_option maxRecDepth 100000 in
theorem c1_openRemarks (l : Launch) (D : va_G) (cI cZ cP : ClassId) (a : Nat → Nat) (X : Nat → Int32) (Y : Nat → Nat → Int32) (k : Nat) (hm : X 9 = nI k) (hm4 : k ≤ 4) : q_C l yX1_openRemarks wsX1_openRemarks ({ frames := 0, cells := 0, slots := 0, locals := 0 }) D cI cZ cP [.ref (a 2)] (dw cI cZ a X Y) (S := Unit) (fun v _ => v = some (.int (nI (dOR Y k)))) (fun _ => dw cI cZ a X Y) (fun _ => False) 0 0 := by
  refine q_of (cc := cX1_openRemarks) (maxL := 3) (ret := (some .int)) (by decide +kernel) rfl (Nat.le_of_ble_eq_true rfl) ?_
  intro p e s m below meth c A ls B hr htb hmn hP hD hS hl
  have hl : lv_has ls 3 [(0, .ref (a 2))] := hl
  have hi1 : ∀ w ∈ u_ws RX1 TX1 12, w ∈ wsX1_openRemarks := by decide +kernel
  refine lv_iconst (v := (nI 0)) B.hx B.hb dX1_openRemarks_0 (by decide) ?_
  refine lv_istore_n (lv' := [(1, .int (nI 0)), (0, .ref (a 2))]) B.hx B.hb dX1_openRemarks_1 rfl hl (by decide) rfl (fun ls hl => ?_)
  refine lv_iconst (v := (nI 0)) B.hx B.hb dX1_openRemarks_2 (by decide) ?_
  refine lv_istore_n (lv' := [(2, .int (nI 0)), (1, .int (nI 0)), (0, .ref (a 2))]) B.hx B.hb dX1_openRemarks_3 rfl hl (by decide) rfl (fun ls hl => ?_)
  refine q_loop (nL := 3) (fun i : Nat => i ≤ k) (fun i : Nat => k - i) (fun i : Nat => [(2, .int (nI i)), (1, .int (nI (dOR Y i))), (0, .ref (a 2))]) (0) (Nat.zero_le _) (lv_sub hl [0, 1, 2] rfl) ?_
  intro i1 hI2 ih3 ls hl
  have hI2 : i1 ≤ k := hI2
  have hl : lv_has ls 3 [(2, .int (nI i1)), (1, .int (nI (dOR Y i1))), (0, .ref (a 2))] := hl
  refine lv_iload_n B.hx B.hb dX1_openRemarks_4 rfl (lv_at hl 0 rfl) ?_
  refine lv_aload_n B.hx B.hb dX1_openRemarks_5 rfl (lv_at hl 2 rfl) ?_
  refine q_get B hP (C := RX1) (ref := "PaperKeeper$Draft") (T := TX1) (N := 12) (ci := 1) hi1 rfl 0 rfl 9 (by decide) (by decide +kernel) rfl (v := .int (X 9)) rfl dX1_openRemarks_6 ?_
  refine q_top (v2 := .int (nI k)) (congrArg Value.int hm) ?_
  refine lv_icmp_ge (tgt := 30) B.hx B.hb dX1_openRemarks_9 (by decide) (fun c4 => ?_) (fun c4 => ?_)
  · replace c4 := (nI_leI (by omega) (by omega)).mp c4
    refine lv_iload_n B.hx B.hb dX1_openRemarks_30 rfl (lv_at hl 1 rfl) ?_
    exact q_iret B hr hP hD hS (u := ()) rfl (by rw [show k = i1 by omega]) (Nat.le_of_ble_eq_true rfl) (Nat.le_of_ble_eq_true rfl) dX1_openRemarks_31
  · replace c4 := mt (nI_leI (by omega) (by omega)).mpr c4
    refine lv_aload_n B.hx B.hb dX1_openRemarks_12 rfl (lv_at hl 2 rfl) ?_
    refine q_get B hP (C := RX1) (ref := "PaperKeeper$Draft") (T := TX1) (N := 12) (ci := 1) hi1 rfl 0 rfl 2 (by decide) (by decide +kernel) rfl (v := .ref (a 5)) rfl dX1_openRemarks_13 ?_
    refine lv_iload_n B.hx B.hb dX1_openRemarks_16 rfl (lv_at hl 0 rfl) ?_
    refine q_zald B hP 3 rfl (j := i1) rfl (by omega) (by decide) dX1_openRemarks_17 ?_
    refine lv_if_ne (tgt := 24) B.hx B.hb dX1_openRemarks_18 (by decide) (fun c5 => ?_) (fun c5 => ?_)
    · have hl : lv_has ls 3 [(2, .int (nI i1)), (1, .int (nI (dOR Y (i1 + 1)))), (0, .ref (a 2))] := by rw [show dOR Y (i1 + 1) = dOR Y i1 from pN_no (decide_eq_false c5)]; exact hl
      refine lv_iinc (v := (nI ((i1 + 1)))) (lv' := [(2, .int (nI ((i1 + 1)))), (1, .int (nI (dOR Y (i1 + 1)))), (0, .ref (a 2))]) B.hx B.hb dX1_openRemarks_24 hl (k := 0) rfl (nI_1 _) (by decide) rfl (fun ls hl => ?_)
      refine lv_goto (tgt := 4) B.hx B.hb dX1_openRemarks_27 (by decide) ?_
      exact ih3 (i1 + 1) (by omega) (by omega) ls (lv_sub hl [0, 1, 2] rfl)
    · refine lv_iinc (v := (nI (dOR Y (i1 + 1)))) (lv' := [(1, .int (nI (dOR Y (i1 + 1)))), (2, .int (nI i1)), (0, .ref (a 2))]) B.hx B.hb dX1_openRemarks_21 hl (k := 1) rfl (by rw [show dOR Y (i1 + 1) = dOR Y i1 + 1 from pN_yes (decide_eq_true c5)]; exact nI_1 _) (by decide) rfl (fun ls hl => ?_)
      refine lv_iinc (v := (nI ((i1 + 1)))) (lv' := [(2, .int (nI ((i1 + 1)))), (1, .int (nI (dOR Y (i1 + 1)))), (0, .ref (a 2))]) B.hx B.hb dX1_openRemarks_24 hl (k := 1) rfl (nI_1 _) (by decide) rfl (fun ls hl => ?_)
      refine lv_goto (tgt := 4) B.hx B.hb dX1_openRemarks_27 (by decide) ?_
      exact ih3 (i1 + 1) (by omega) (by omega) ls (lv_sub hl [0, 1, 2] rfl)
set_option maxHeartbeats 4000000 in
set_option maxRecDepth 100000 in
theorem c1_hasReviewer (l : Launch) (D : va_G) (cI cZ cP : ClassId) (a : Nat → Nat) (X : Nat → Int32) (Y : Nat → Nat → Int32) (x : Int32) (n : Nat) (hn : X 8 = nI n) (hn4 : n ≤ 4) : q_C l yX1_hasReviewer wsX1_hasReviewer ({ frames := 0, cells := 0, slots := 0, locals := 0 }) D cI cZ cP [.ref (a 2), .int x] (dw cI cZ a X Y) (S := Unit) (fun v _ => v = some (.int (if pX (fun i => decide (Y 1 i = x)) n 0 = true then nI 1 else nI 0))) (fun _ => dw cI cZ a X Y) (fun _ => False) 0 0 := by
  refine q_of (cc := cX1_hasReviewer) (maxL := 3) (ret := (some .boolean)) (by decide +kernel) rfl (Nat.le_of_ble_eq_true rfl) ?_
  intro p e s m below meth c A ls B hr htb hmn hP hD hS hl
  have hl : lv_has ls 3 [(0, .ref (a 2)), (1, .int x)] := hl
  have hi1 : ∀ w ∈ u_ws RX1 TX1 12, w ∈ wsX1_hasReviewer := by decide +kernel
  refine lv_iconst (v := (nI 0)) B.hx B.hb dX1_hasReviewer_0 (by decide) ?_
  refine lv_istore_n (lv' := [(2, .int (nI 0)), (0, .ref (a 2)), (1, .int x)]) B.hx B.hb dX1_hasReviewer_1 rfl hl (by decide) rfl (fun ls hl => ?_)
  refine q_loop (nL := 3) (fun i : Nat => i ≤ n ∧ pX (fun i => decide (Y 1 i = x)) n 0 = pX (fun i => decide (Y 1 i = x)) (n - i) i) (fun i : Nat => n - i) (fun i : Nat => [(2, .int (nI i)), (0, .ref (a 2)), (1, .int x)]) (0) ⟨Nat.zero_le _, rfl⟩ (lv_sub hl [0, 1, 2] rfl) ?_
  intro i1 hI2 ih3 ls hl
  have hI2 : i1 ≤ n ∧ pX (fun i => decide (Y 1 i = x)) n 0 = pX (fun i => decide (Y 1 i = x)) (n - i1) i1 := hI2
  have hl : lv_has ls 3 [(2, .int (nI i1)), (0, .ref (a 2)), (1, .int x)] := hl
  obtain ⟨hi, he⟩ := hI2
  refine lv_iload_n B.hx B.hb dX1_hasReviewer_2 rfl (lv_at hl 0 rfl) ?_
  refine lv_aload_n B.hx B.hb dX1_hasReviewer_3 rfl (lv_at hl 1 rfl) ?_
  refine q_get B hP (C := RX1) (ref := "PaperKeeper$Draft") (T := TX1) (N := 12) (ci := 1) hi1 rfl 0 rfl 8 (by decide) (by decide +kernel) rfl (v := .int (X 8)) rfl dX1_hasReviewer_4 ?_
  refine q_top (v2 := .int (nI n)) (congrArg Value.int hn) ?_
  refine lv_icmp_ge (tgt := 28) B.hx B.hb dX1_hasReviewer_7 (by decide) (fun c4 => ?_) (fun c4 => ?_)
  · replace c4 := (nI_leI (by omega) (by omega)).mp c4
    refine lv_iconst (v := (nI 0)) B.hx B.hb dX1_hasReviewer_28 (by decide) ?_
    exact q_zret B hr hP hD hS (by decide) (u := ()) rfl (by rw [he, pX_end (by omega)]; rfl) (Nat.le_of_ble_eq_true rfl) (Nat.le_of_ble_eq_true rfl) dX1_hasReviewer_29
  · replace c4 := mt (nI_leI (by omega) (by omega)).mpr c4
    refine lv_aload_n B.hx B.hb dX1_hasReviewer_10 rfl (lv_at hl 1 rfl) ?_
    refine q_get B hP (C := RX1) (ref := "PaperKeeper$Draft") (T := TX1) (N := 12) (ci := 1) hi1 rfl 0 rfl 0 (by decide) (by decide +kernel) rfl (v := .ref (a 3)) rfl dX1_hasReviewer_11 ?_
    refine lv_iload_n B.hx B.hb dX1_hasReviewer_14 rfl (lv_at hl 0 rfl) ?_
    refine q_iald B hP 1 rfl (j := i1) rfl (by omega) (by decide) dX1_hasReviewer_15 ?_
    refine lv_iload_n B.hx B.hb dX1_hasReviewer_16 rfl (lv_at hl 2 rfl) ?_
    refine lv_icmp_ne (tgt := 22) B.hx B.hb dX1_hasReviewer_17 (by decide) (fun c5 => ?_) (fun c5 => ?_)
    · refine lv_iinc (v := (nI ((i1 + 1)))) (lv' := [(2, .int (nI ((i1 + 1)))), (0, .ref (a 2)), (1, .int x)]) B.hx B.hb dX1_hasReviewer_22 hl (k := 0) rfl (nI_1 _) (by decide) rfl (fun ls hl => ?_)
      refine lv_goto (tgt := 2) B.hx B.hb dX1_hasReviewer_25 (by decide) ?_
      exact ih3 (i1 + 1) ⟨by omega, by rw [he, pX_no (by omega) (decide_eq_false c5)]⟩ (by omega) ls (lv_sub hl [0, 1, 2] rfl)
    · refine lv_iconst (v := (nI 1)) B.hx B.hb dX1_hasReviewer_20 (by decide) ?_
      exact q_zret B hr hP hD hS (by decide) (u := ()) rfl (by rw [he, pX_yes (by omega) (decide_eq_true c5)]; rfl) (Nat.le_of_ble_eq_true rfl) (Nat.le_of_ble_eq_true rfl) dX1_hasReviewer_21
set_option maxHeartbeats 4000000 in
set_option maxRecDepth 100000 in
theorem c1_nextStep (l : Launch) (D : va_G) (cI cZ cP : ClassId) (a : Nat → Nat) (X : Nat → Int32) (Y : Nat → Nat → Int32) (n k : Nat) (hW : wd X Y n k) : q_C l yX1_nextStep wsX1_nextStep ({ frames := 1, cells := 0, slots := 0, locals := 22 }) D cI cZ cP [.ref (a 2)] (dw cI cZ a X Y) (S := Unit) (fun v _ => v = some (.int (stp n (dNR Y n) (dOR Y k) (X 10) (dNC Y)))) (fun _ => dw cI cZ a X Y) (fun _ => False) 0 0 := by
  refine q_of (cc := cX1_nextStep) (maxL := 1) (ret := (some .int)) (by decide +kernel) rfl (Nat.le_of_ble_eq_true rfl) ?_
  intro p e s m below meth c A ls B hr htb hmn hP hD hS hl
  have hl : lv_has ls 1 [(0, .ref (a 2))] := hl
  have hi1 : ∀ w ∈ u_ws RX1 TX1 12, w ∈ wsX1_nextStep := by decide +kernel
  obtain ⟨hn, hn4, hm, hm4, hv⟩ := id hW
  have hor : dOR Y k ≤ 4 := Nat.le_trans (pN_le _ _) hm4
  refine lv_aload_n B.hx B.hb dX1_nextStep_0 rfl (lv_at hl 0 rfl) ?_
  refine q_get B hP (C := RX1) (ref := "PaperKeeper$Draft") (T := TX1) (N := 12) (ci := 1) hi1 rfl 0 rfl 8 (by decide) (by decide +kernel) rfl (v := .int (X 8)) rfl dX1_nextStep_1 ?_
  refine q_top (v2 := .int (nI n)) (congrArg Value.int hn) ?_
  refine lv_if_eq (tgt := 15) B.hx B.hb dX1_nextStep_4 (by decide) (fun c1 => ?_) (fun c1 => ?_)
  · replace c1 := (nI_eq0 (by omega)).mp c1
    refine lv_iconst (v := (nI 1)) B.hx B.hb dX1_nextStep_15 (by decide) ?_
    exact q_iret B hr hP hD hS (u := ()) rfl (by simp [stp, c1]) (Nat.le_of_ble_eq_true rfl) (Nat.le_of_ble_eq_true rfl) dX1_nextStep_16
  · replace c1 := mt (nI_eq0 (by omega)).mpr c1
    refine lv_aload_n B.hx B.hb dX1_nextStep_7 rfl (lv_at hl 0 rfl) ?_
    refine q_callV (As := []) (rest := []) B hP hD hS (c1_nextReviewer l D cI cZ cP a X Y n k hW) (cwV 0 B.hts gX1_nextStep_X1_nextReviewer rfl rfl rfl (by decide +kernel) ⟨(Nat.le_of_ble_eq_true rfl), (Nat.le_of_ble_eq_true rfl)⟩) 0 1 rfl rfl rfl rfl hl.1 rfl (Nat.le_of_ble_eq_true rfl) dX1_nextStep_8 ⟨(Nat.le_of_ble_eq_true rfl), (Nat.le_of_ble_eq_true rfl)⟩ (fun E ce q9 H locs hx => False.elim hx) (fun v u H locs hp hP hD hS => ?_)
    obtain rfl := hp
    have hP : va_P D vwCl (dw cI cZ a X Y) H := hP
    have hD : va_D A (dw cI cZ a X Y) := hD
    refine lv_iconst (v := (-1)) B.hx B.hb dX1_nextStep_11 (by decide) ?_
    refine lv_icmp_eq (tgt := 17) B.hx B.hb dX1_nextStep_12 (by decide) (fun c2 => ?_) (fun c2 => ?_)
    · refine lv_aload_n B.hx B.hb dX1_nextStep_17 rfl (lv_at hl 0 rfl) ?_
      refine q_callV (As := []) (rest := []) B hP hD hS (c1_openRemarks l D cI cZ cP a X Y k hm hm4) (cwV 0 B.hts gX1_nextStep_X1_openRemarks rfl rfl rfl (by decide +kernel) ⟨(Nat.le_of_ble_eq_true rfl), (Nat.le_of_ble_eq_true rfl)⟩) 0 1 rfl rfl rfl rfl hl.1 rfl (Nat.le_of_ble_eq_true rfl) dX1_nextStep_18 ⟨(Nat.le_of_ble_eq_true rfl), (Nat.le_of_ble_eq_true rfl)⟩ (fun E ce q9 H locs hx => False.elim hx) (fun v u H locs hp hP hD hS => ?_)
      obtain rfl := hp
      have hP : va_P D vwCl (dw cI cZ a X Y) H := hP
      have hD : va_D A (dw cI cZ a X Y) := hD
      refine lv_if_le (tgt := 26) B.hx B.hb dX1_nextStep_21 (by decide) (fun c3 => ?_) (fun c3 => ?_)
      · replace c3 := (nI_le0 (by omega)).mp c3
        refine lv_aload_n B.hx B.hb dX1_nextStep_26 rfl (lv_at hl 0 rfl) ?_
        refine q_get B hP (C := RX1) (ref := "PaperKeeper$Draft") (T := TX1) (N := 12) (ci := 1) hi1 rfl 0 rfl 10 (by decide) (by decide +kernel) rfl (v := .int (X 10)) rfl dX1_nextStep_27 ?_
        refine lv_if_ne (tgt := 35) B.hx B.hb dX1_nextStep_30 (by decide) (fun c4 => ?_) (fun c4 => ?_)
        · refine lv_aload_n B.hx B.hb dX1_nextStep_35 rfl (lv_at hl 0 rfl) ?_
          refine q_callV (As := []) (rest := []) B hP hD hS (c1_nextReader l D cI cZ cP a X Y) (cwV 0 B.hts gX1_nextStep_X1_nextReader rfl rfl rfl (by decide +kernel) ⟨(Nat.le_of_ble_eq_true rfl), (Nat.le_of_ble_eq_true rfl)⟩) 0 1 rfl rfl rfl rfl hl.1 rfl (Nat.le_of_ble_eq_true rfl) dX1_nextStep_36 ⟨(Nat.le_of_ble_eq_true rfl), (Nat.le_of_ble_eq_true rfl)⟩ (fun E ce q9 H locs hx => False.elim hx) (fun v u H locs hp hP hD hS => ?_)
          obtain rfl := hp
          have hP : va_P D vwCl (dw cI cZ a X Y) H := hP
          have hD : va_D A (dw cI cZ a X Y) := hD
          refine lv_iconst (v := (-1)) B.hx B.hb dX1_nextStep_39 (by decide) ?_
          refine lv_icmp_eq (tgt := 47) B.hx B.hb dX1_nextStep_40 (by decide) (fun c5 => ?_) (fun c5 => ?_)
          · refine lv_iconst (v := (nI 5)) B.hx B.hb dX1_nextStep_47 (by decide) ?_
            exact q_iret B hr hP hD hS (u := ()) rfl (by simp [stp, c1, c2, c3, c4, c5]) (Nat.le_of_ble_eq_true rfl) (Nat.le_of_ble_eq_true rfl) dX1_nextStep_48
          · refine lv_iconst (v := (nI 4)) B.hx B.hb dX1_nextStep_43 (by decide) ?_
            refine lv_goto (tgt := 48) B.hx B.hb dX1_nextStep_44 (by decide) ?_
            exact q_iret B hr hP hD hS (u := ()) rfl (by simp [stp, c1, c2, c3, c4, c5]) (Nat.le_of_ble_eq_true rfl) (Nat.le_of_ble_eq_true rfl) dX1_nextStep_48
        · refine lv_iconst (v := (nI 3)) B.hx B.hb dX1_nextStep_33 (by decide) ?_
          exact q_iret B hr hP hD hS (u := ()) rfl (by simp [stp, c1, c2, c3, c4]) (Nat.le_of_ble_eq_true rfl) (Nat.le_of_ble_eq_true rfl) dX1_nextStep_34
      · replace c3 := mt (nI_le0 (by omega)).mpr c3
        refine lv_iconst (v := (nI 2)) B.hx B.hb dX1_nextStep_24 (by decide) ?_
        exact q_iret B hr hP hD hS (u := ()) rfl (by simp [stp, c1, c2, c3]) (Nat.le_of_ble_eq_true rfl) (Nat.le_of_ble_eq_true rfl) dX1_nextStep_25
    · refine lv_iconst (v := (nI 1)) B.hx B.hb dX1_nextStep_15 (by decide) ?_
      exact q_iret B hr hP hD hS (u := ()) rfl (by simp [stp, c1, c2]) (Nat.le_of_ble_eq_true rfl) (Nat.le_of_ble_eq_true rfl) dX1_nextStep_16
set_option maxHeartbeats 4000000 in
set_option maxRecDepth 100000 in
theorem c1_beginRound (l : Launch) (D : va_G) (cI cZ cP : ClassId) (a : Nat → Nat) (X : Nat → Int32) (Y : Nat → Nat → Int32) : q_C l yX1_beginRound wsX1_beginRound ({ frames := 0, cells := 0, slots := 0, locals := 0 }) D cI cZ cP [.ref (a 2)] (dw cI cZ a X Y) (S := Unit) (fun v _ => v = none) (fun _ => dw cI cZ a (va_up (va_up (va_up X 7 ((X 7) + nI 1)) 9 (nI 0)) 10 (nI 0)) (va_up (va_up Y 2 (zf (Y 2) 6)) 5 (zf (Y 5) 6))) (fun _ => False) 0 0 := by
  refine q_of (cc := cX1_beginRound) (maxL := 2) (ret := none) (by decide +kernel) rfl (Nat.le_of_ble_eq_true rfl) ?_
  intro p e s m below meth c A ls B hr htb hmn hP hD hS hl
  have hl : lv_has ls 2 [(0, .ref (a 2))] := hl
  have hi1 : ∀ w ∈ u_ws RX1 TX1 12, w ∈ wsX1_beginRound := by decide +kernel
  refine lv_aload_n B.hx B.hb dX1_beginRound_0 rfl (lv_at hl 0 rfl) ?_
  refine lv_dup B.hx B.hb dX1_beginRound_1 rfl ?_
  refine q_get B hP (C := RX1) (ref := "PaperKeeper$Draft") (T := TX1) (N := 12) (ci := 1) hi1 rfl 0 rfl 7 (by decide) (by decide +kernel) rfl (v := .int (X 7)) rfl dX1_beginRound_2 ?_
  refine lv_iconst (v := (nI 1)) B.hx B.hb dX1_beginRound_5 (by decide) ?_
  refine lv_iadd B.hx B.hb dX1_beginRound_6 ?_
  refine q_put B hP hD hS (C := RX1) (ref := "PaperKeeper$Draft") (T := TX1) (N := 12) (ci := 1) hi1 rfl tyX1 tyX1_ok nmX1 0 rfl 7 (by decide) (by decide +kernel) rfl rfl rfl (by rfl) (Nat.le_of_ble_eq_true rfl) dX1_beginRound_7 (w' := dw cI cZ a (va_up X 7 ((X 7) + (nI 1))) Y) rfl (fun H locs hP hD hS => ?_)
  refine lv_aload_n B.hx B.hb dX1_beginRound_10 rfl (lv_at hl 0 rfl) ?_
  refine lv_iconst (v := (nI 0)) B.hx B.hb dX1_beginRound_11 (by decide) ?_
  refine q_put B hP hD hS (C := RX1) (ref := "PaperKeeper$Draft") (T := TX1) (N := 12) (ci := 1) hi1 rfl tyX1 tyX1_ok nmX1 0 rfl 9 (by decide) (by decide +kernel) rfl rfl rfl (by rfl) (Nat.le_of_ble_eq_true rfl) dX1_beginRound_12 (w' := dw cI cZ a (va_up (va_up X 7 ((X 7) + (nI 1))) 9 (nI 0)) Y) rfl (fun H locs hP hD hS => ?_)
  refine lv_aload_n B.hx B.hb dX1_beginRound_15 rfl (lv_at hl 0 rfl) ?_
  refine lv_iconst (v := (nI 0)) B.hx B.hb dX1_beginRound_16 (by decide) ?_
  refine q_put B hP hD hS (C := RX1) (ref := "PaperKeeper$Draft") (T := TX1) (N := 12) (ci := 1) hi1 rfl tyX1 tyX1_ok nmX1 0 rfl 10 (by decide) (by decide +kernel) rfl rfl (by decide) (by decide) (Nat.le_of_ble_eq_true rfl) dX1_beginRound_17 (w' := dw cI cZ a (va_up (va_up (va_up X 7 ((X 7) + (nI 1))) 9 (nI 0)) 10 (nI 0)) Y) rfl (fun H locs hP hD hS => ?_)
  refine lv_iconst (v := (nI 0)) B.hx B.hb dX1_beginRound_20 (by decide) ?_
  refine lv_istore_n (lv' := [(1, .int (nI 0)), (0, .ref (a 2))]) B.hx B.hb dX1_beginRound_21 rfl hl (by decide) rfl (fun ls hl => ?_)
  refine q_loopW (nL := 2) (fun i : Nat => i ≤ 6) (fun i : Nat => 6 - i) (fun i : Nat => [(1, .int (nI i)), (0, .ref (a 2))]) (fun i : Nat => dw cI cZ a (va_up (va_up (va_up X 7 ((X 7) + (nI 1))) 9 (nI 0)) 10 (nI 0)) (va_up (va_up Y 2 (zf (Y 2) i)) 5 (zf (Y 5) i))) (0) (Nat.zero_le _) (lv_sub hl [0, 1] rfl) (show va_P D vwCl (dw cI cZ a (va_up (va_up (va_up X 7 ((X 7) + (nI 1))) 9 (nI 0)) 10 (nI 0)) (va_up (va_up Y 2 (zf (Y 2) 0)) 5 (zf (Y 5) 0))) _ by rw [zf_0, zf_0]; exact hP) (show va_D A (dw cI cZ a (va_up (va_up (va_up X 7 ((X 7) + (nI 1))) 9 (nI 0)) 10 (nI 0)) (va_up (va_up Y 2 (zf (Y 2) 0)) 5 (zf (Y 5) 0))) by rw [zf_0, zf_0]; exact hD) hS ?_
  intro i1 hI2 ih3 ls H locs hl hP hD hS
  have hI2 : i1 ≤ 6 := hI2
  have hl : lv_has ls 2 [(1, .int (nI i1)), (0, .ref (a 2))] := hl
  have hP : va_P D vwCl (dw cI cZ a (va_up (va_up (va_up X 7 ((X 7) + (nI 1))) 9 (nI 0)) 10 (nI 0)) (va_up (va_up Y 2 (zf (Y 2) i1)) 5 (zf (Y 5) i1))) H := hP
  have hD : va_D A (dw cI cZ a (va_up (va_up (va_up X 7 ((X 7) + (nI 1))) 9 (nI 0)) 10 (nI 0)) (va_up (va_up Y 2 (zf (Y 2) i1)) 5 (zf (Y 5) i1))) := hD
  refine lv_iload_n B.hx B.hb dX1_beginRound_22 rfl (lv_at hl 0 rfl) ?_
  refine lv_bipush (v := (nI 6)) B.hx B.hb dX1_beginRound_23 (by decide) ?_
  refine lv_icmp_ge (tgt := 48) B.hx B.hb dX1_beginRound_25 (by decide) (fun c4 => ?_) (fun c4 => ?_)
  · replace c4 := (nI_leI (by omega) (by omega)).mp c4
    obtain rfl : i1 = 6 := by omega
    exact q_vret B hr hP hD hS (u := ()) rfl rfl (Nat.le_of_ble_eq_true rfl) (Nat.le_of_ble_eq_true rfl) dX1_beginRound_48
  · replace c4 := mt (nI_leI (by omega) (by omega)).mpr c4
    refine lv_aload_n B.hx B.hb dX1_beginRound_28 rfl (lv_at hl 1 rfl) ?_
    refine q_get B hP (C := RX1) (ref := "PaperKeeper$Draft") (T := TX1) (N := 12) (ci := 1) hi1 rfl 0 rfl 1 (by decide) (by decide +kernel) rfl (v := .ref (a 4)) rfl dX1_beginRound_29 ?_
    refine lv_iload_n B.hx B.hb dX1_beginRound_32 rfl (lv_at hl 0 rfl) ?_
    refine lv_iconst (v := (nI 0)) B.hx B.hb dX1_beginRound_33 (by decide) ?_
    refine q_zast B hP hD hS 2 rfl (j := i1) rfl (by omega) (by decide) (by decide) dX1_beginRound_34 (w' := dw cI cZ a (va_up (va_up (va_up X 7 ((X 7) + (nI 1))) 9 (nI 0)) 10 (nI 0)) (va_up (va_up Y 2 (upd (zf (Y 2) i1) i1 (nI 0))) 5 (zf (Y 5) i1))) rfl (fun H locs hP hD hS => ?_)
    refine lv_aload_n B.hx B.hb dX1_beginRound_35 rfl (lv_at hl 1 rfl) ?_
    refine q_get B hP (C := RX1) (ref := "PaperKeeper$Draft") (T := TX1) (N := 12) (ci := 1) hi1 rfl 0 rfl 4 (by decide) (by decide +kernel) rfl (v := .ref (a 7)) rfl dX1_beginRound_36 ?_
    refine lv_iload_n B.hx B.hb dX1_beginRound_39 rfl (lv_at hl 0 rfl) ?_
    refine lv_iconst (v := (nI 0)) B.hx B.hb dX1_beginRound_40 (by decide) ?_
    refine q_zast B hP hD hS 5 rfl (j := i1) rfl (by omega) (by decide) (by decide) dX1_beginRound_41 (w' := dw cI cZ a (va_up (va_up (va_up X 7 ((X 7) + (nI 1))) 9 (nI 0)) 10 (nI 0)) (va_up (va_up Y 2 (upd (zf (Y 2) i1) i1 (nI 0))) 5 (upd (zf (Y 5) i1) i1 (nI 0)))) rfl (fun H locs hP hD hS => ?_)
    refine lv_iinc (v := (nI ((i1 + 1)))) (lv' := [(1, .int (nI ((i1 + 1)))), (0, .ref (a 2))]) B.hx B.hb dX1_beginRound_42 hl (k := 0) rfl (nI_1 _) (by decide) rfl (fun ls hl => ?_)
    refine lv_goto (tgt := 22) B.hx B.hb dX1_beginRound_45 (by decide) ?_
    exact ih3 (i1 + 1) (by omega) (by omega) ls H locs (lv_sub hl [0, 1] rfl) (show va_P D vwCl (dw cI cZ a (va_up (va_up (va_up X 7 ((X 7) + (nI 1))) 9 (nI 0)) 10 (nI 0)) (va_up (va_up Y 2 (zf (Y 2) (i1 + 1))) 5 (zf (Y 5) (i1 + 1)))) H by rw [← zf_s, ← zf_s]; exact hP) (show va_D A (dw cI cZ a (va_up (va_up (va_up X 7 ((X 7) + (nI 1))) 9 (nI 0)) 10 (nI 0)) (va_up (va_up Y 2 (zf (Y 2) (i1 + 1))) 5 (zf (Y 5) (i1 + 1)))) by rw [← zf_s, ← zf_s]; exact hD) hS
set_option maxHeartbeats 4000000 in
set_option maxRecDepth 100000 in
theorem c1_begin (l : Launch) (D : va_G) (cI cZ cP : ClassId) (a : Nat → Nat) (X : Nat → Int32) (Y : Nat → Nat → Int32) (x y : Int32) : q_C l yX1_begin wsX1_begin ({ frames := 1, cells := 0, slots := 0, locals := 21 }) D cI cZ cP [.ref (a 2), .int x, .int y] (dw cI cZ a X Y) (S := Unit) (fun v _ => v = none) (fun _ => dw cI cZ a (va_up (va_up (va_up (va_up (va_up (va_up X 5 x) 6 y) 7 ((nI 0) + nI 1)) 8 (nI 0)) 9 (nI 0)) 10 (nI 0)) (va_up (va_up (va_up Y 2 (zf (Y 2) 6)) 4 (zf (Y 4) 6)) 5 (zf (Y 5) 6))) (fun _ => False) 0 0 := by
  refine q_of (cc := cX1_begin) (maxL := 4) (ret := none) (by decide +kernel) rfl (Nat.le_of_ble_eq_true rfl) ?_
  intro p e s m below meth c A ls B hr htb hmn hP hD hS hl
  have hl : lv_has ls 4 [(0, .ref (a 2)), (1, .int x), (2, .int y)] := hl
  have hi1 : ∀ w ∈ u_ws RX1 TX1 12, w ∈ wsX1_begin := by decide +kernel
  refine lv_aload_n B.hx B.hb dX1_begin_0 rfl (lv_at hl 0 rfl) ?_
  refine lv_iload_n B.hx B.hb dX1_begin_1 rfl (lv_at hl 1 rfl) ?_
  refine q_put B hP hD hS (C := RX1) (ref := "PaperKeeper$Draft") (T := TX1) (N := 12) (ci := 1) hi1 rfl tyX1 tyX1_ok nmX1 0 rfl 5 (by decide) (by decide +kernel) rfl rfl rfl (by rfl) (Nat.le_of_ble_eq_true rfl) dX1_begin_2 (w' := dw cI cZ a (va_up X 5 x) Y) rfl (fun H locs hP hD hS => ?_)
  refine lv_aload_n B.hx B.hb dX1_begin_5 rfl (lv_at hl 0 rfl) ?_
  refine lv_iload_n B.hx B.hb dX1_begin_6 rfl (lv_at hl 2 rfl) ?_
  refine q_put B hP hD hS (C := RX1) (ref := "PaperKeeper$Draft") (T := TX1) (N := 12) (ci := 1) hi1 rfl tyX1 tyX1_ok nmX1 0 rfl 6 (by decide) (by decide +kernel) rfl rfl rfl (by rfl) (Nat.le_of_ble_eq_true rfl) dX1_begin_7 (w' := dw cI cZ a (va_up (va_up X 5 x) 6 y) Y) rfl (fun H locs hP hD hS => ?_)
  refine lv_aload_n B.hx B.hb dX1_begin_10 rfl (lv_at hl 0 rfl) ?_
  refine lv_iconst (v := (nI 0)) B.hx B.hb dX1_begin_11 (by decide) ?_
  refine q_put B hP hD hS (C := RX1) (ref := "PaperKeeper$Draft") (T := TX1) (N := 12) (ci := 1) hi1 rfl tyX1 tyX1_ok nmX1 0 rfl 7 (by decide) (by decide +kernel) rfl rfl rfl (by rfl) (Nat.le_of_ble_eq_true rfl) dX1_begin_12 (w' := dw cI cZ a (va_up (va_up (va_up X 5 x) 6 y) 7 (nI 0)) Y) rfl (fun H locs hP hD hS => ?_)
  refine lv_aload_n B.hx B.hb dX1_begin_15 rfl (lv_at hl 0 rfl) ?_
  refine lv_iconst (v := (nI 0)) B.hx B.hb dX1_begin_16 (by decide) ?_
  refine q_put B hP hD hS (C := RX1) (ref := "PaperKeeper$Draft") (T := TX1) (N := 12) (ci := 1) hi1 rfl tyX1 tyX1_ok nmX1 0 rfl 8 (by decide) (by decide +kernel) rfl rfl rfl (by rfl) (Nat.le_of_ble_eq_true rfl) dX1_begin_17 (w' := dw cI cZ a (va_up (va_up (va_up (va_up X 5 x) 6 y) 7 (nI 0)) 8 (nI 0)) Y) rfl (fun H locs hP hD hS => ?_)
  refine lv_iconst (v := (nI 0)) B.hx B.hb dX1_begin_20 (by decide) ?_
  refine lv_istore_n (lv' := [(3, .int (nI 0)), (0, .ref (a 2)), (1, .int x), (2, .int y)]) B.hx B.hb dX1_begin_21 rfl hl (by decide) rfl (fun ls hl => ?_)
  refine q_loopW (nL := 4) (fun i : Nat => i ≤ 6) (fun i : Nat => 6 - i) (fun i : Nat => [(3, .int (nI i)), (0, .ref (a 2)), (1, .int x), (2, .int y)]) (fun i : Nat => dw cI cZ a (va_up (va_up (va_up (va_up X 5 x) 6 y) 7 (nI 0)) 8 (nI 0)) (va_up Y 4 (zf (Y 4) i))) (0) (Nat.zero_le _) (lv_sub hl [0, 1, 2, 3] rfl) (show va_P D vwCl (dw cI cZ a (va_up (va_up (va_up (va_up X 5 x) 6 y) 7 (nI 0)) 8 (nI 0)) (va_up Y 4 (zf (Y 4) 0))) _ by rw [zf_0]; exact hP) (show va_D A (dw cI cZ a (va_up (va_up (va_up (va_up X 5 x) 6 y) 7 (nI 0)) 8 (nI 0)) (va_up Y 4 (zf (Y 4) 0))) by rw [zf_0]; exact hD) hS ?_
  intro i1 hI2 ih3 ls H locs hl hP hD hS
  have hI2 : i1 ≤ 6 := hI2
  have hl : lv_has ls 4 [(3, .int (nI i1)), (0, .ref (a 2)), (1, .int x), (2, .int y)] := hl
  have hP : va_P D vwCl (dw cI cZ a (va_up (va_up (va_up (va_up X 5 x) 6 y) 7 (nI 0)) 8 (nI 0)) (va_up Y 4 (zf (Y 4) i1))) H := hP
  have hD : va_D A (dw cI cZ a (va_up (va_up (va_up (va_up X 5 x) 6 y) 7 (nI 0)) 8 (nI 0)) (va_up Y 4 (zf (Y 4) i1))) := hD
  refine lv_iload_n B.hx B.hb dX1_begin_22 rfl (lv_at hl 0 rfl) ?_
  refine lv_bipush (v := (nI 6)) B.hx B.hb dX1_begin_23 (by decide) ?_
  refine lv_icmp_ge (tgt := 41) B.hx B.hb dX1_begin_25 (by decide) (fun c4 => ?_) (fun c4 => ?_)
  · replace c4 := (nI_leI (by omega) (by omega)).mp c4
    obtain rfl : i1 = 6 := by omega
    refine lv_aload_n B.hx B.hb dX1_begin_41 rfl (lv_at hl 1 rfl) ?_
    refine q_callV (As := []) (rest := []) B hP hD hS (c1_beginRound l D cI cZ cP a (va_up (va_up (va_up (va_up X 5 x) 6 y) 7 (nI 0)) 8 (nI 0)) (va_up Y 4 (zf (Y 4) 6))) (cwV 0 B.hts gX1_begin_X1_beginRound rfl rfl rfl (by decide +kernel) ⟨(Nat.le_of_ble_eq_true rfl), (Nat.le_of_ble_eq_true rfl)⟩) 0 1 rfl rfl rfl rfl hl.1 rfl (Nat.le_of_ble_eq_true rfl) dX1_begin_42 ⟨(Nat.le_of_ble_eq_true rfl), (Nat.le_of_ble_eq_true rfl)⟩ (fun E ce q9 H locs hx => False.elim hx) (fun v u H locs hp hP hD hS => ?_)
    obtain rfl := hp
    have hP : va_P D vwCl (dw cI cZ a (va_up (va_up (va_up (va_up (va_up (va_up X 5 x) 6 y) 7 ((nI 0) + nI 1)) 8 (nI 0)) 9 (nI 0)) 10 (nI 0)) (va_up (va_up (va_up Y 2 (zf (Y 2) 6)) 4 (zf (Y 4) 6)) 5 (zf (Y 5) 6))) H := hP
    have hD : va_D A (dw cI cZ a (va_up (va_up (va_up (va_up (va_up (va_up X 5 x) 6 y) 7 ((nI 0) + nI 1)) 8 (nI 0)) 9 (nI 0)) 10 (nI 0)) (va_up (va_up (va_up Y 2 (zf (Y 2) 6)) 4 (zf (Y 4) 6)) 5 (zf (Y 5) 6))) := hD
    exact q_vret B hr hP hD hS (u := ()) rfl rfl (Nat.le_of_ble_eq_true rfl) (Nat.le_of_ble_eq_true rfl) dX1_begin_45
  · replace c4 := mt (nI_leI (by omega) (by omega)).mpr c4
    refine lv_aload_n B.hx B.hb dX1_begin_28 rfl (lv_at hl 1 rfl) ?_
    refine q_get B hP (C := RX1) (ref := "PaperKeeper$Draft") (T := TX1) (N := 12) (ci := 1) hi1 rfl 0 rfl 3 (by decide) (by decide +kernel) rfl (v := .ref (a 6)) rfl dX1_begin_29 ?_
    refine lv_iload_n B.hx B.hb dX1_begin_32 rfl (lv_at hl 0 rfl) ?_
    refine lv_iconst (v := (nI 0)) B.hx B.hb dX1_begin_33 (by decide) ?_
    refine q_zast B hP hD hS 4 rfl (j := i1) rfl (by omega) (by decide) (by decide) dX1_begin_34 (w' := dw cI cZ a (va_up (va_up (va_up (va_up X 5 x) 6 y) 7 (nI 0)) 8 (nI 0)) (va_up Y 4 (upd (zf (Y 4) i1) i1 (nI 0)))) rfl (fun H locs hP hD hS => ?_)
    refine lv_iinc (v := (nI ((i1 + 1)))) (lv' := [(3, .int (nI ((i1 + 1)))), (0, .ref (a 2)), (1, .int x), (2, .int y)]) B.hx B.hb dX1_begin_35 hl (k := 0) rfl (nI_1 _) (by decide) rfl (fun ls hl => ?_)
    refine lv_goto (tgt := 22) B.hx B.hb dX1_begin_38 (by decide) ?_
    exact ih3 (i1 + 1) (by omega) (by omega) ls H locs (lv_sub hl [0, 1, 2, 3] rfl) (show va_P D vwCl (dw cI cZ a (va_up (va_up (va_up (va_up X 5 x) 6 y) 7 (nI 0)) 8 (nI 0)) (va_up Y 4 (zf (Y 4) (i1 + 1)))) H by rw [← zf_s]; exact hP) (show va_D A (dw cI cZ a (va_up (va_up (va_up (va_up X 5 x) 6 y) 7 (nI 0)) 8 (nI 0)) (va_up Y 4 (zf (Y 4) (i1 + 1)))) by rw [← zf_s]; exact hD) hS
set_option maxHeartbeats 4000000 in
set_option maxRecDepth 100000 in
theorem c1_addRemark (l : Launch) (D : va_G) (cI cZ cP : ClassId) (a : Nat → Nat) (X : Nat → Int32) (Y : Nat → Nat → Int32) (k : Nat) (hm : X 9 = nI k) (hk : k < 4) : q_C l yX1_addRemark wsX1_addRemark ({ frames := 0, cells := 0, slots := 0, locals := 0 }) D cI cZ cP [.ref (a 2)] (dw cI cZ a X Y) (S := Unit) (fun v _ => v = some (.int (nI k))) (fun _ => dw cI cZ a (va_up X 9 (nI ((k + 1)))) (va_up Y 3 (upd (Y 3) k (nI 0)))) (fun _ => False) 0 0 := by
  refine q_of (cc := cX1_addRemark) (maxL := 2) (ret := (some .int)) (by decide +kernel) rfl (Nat.le_of_ble_eq_true rfl) ?_
  intro p e s m below meth c A ls B hr htb hmn hP hD hS hl
  have hl : lv_has ls 2 [(0, .ref (a 2))] := hl
  have hi1 : ∀ w ∈ u_ws RX1 TX1 12, w ∈ wsX1_addRemark := by decide +kernel
  refine lv_aload_n B.hx B.hb dX1_addRemark_0 rfl (lv_at hl 0 rfl) ?_
  refine q_get B hP (C := RX1) (ref := "PaperKeeper$Draft") (T := TX1) (N := 12) (ci := 1) hi1 rfl 0 rfl 9 (by decide) (by decide +kernel) rfl (v := .int (X 9)) rfl dX1_addRemark_1 ?_
  refine q_top (v2 := .int (nI k)) (congrArg Value.int hm) ?_
  refine lv_istore_n (lv' := [(1, .int (nI k)), (0, .ref (a 2))]) B.hx B.hb dX1_addRemark_4 rfl hl (by decide) rfl (fun ls hl => ?_)
  refine lv_iload_n B.hx B.hb dX1_addRemark_5 rfl (lv_at hl 0 rfl) ?_
  refine lv_iconst (v := (nI 4)) B.hx B.hb dX1_addRemark_6 (by decide) ?_
  refine lv_icmp_ge (tgt := 27) B.hx B.hb dX1_addRemark_7 (by decide) (fun c1 => absurd c1 (mt (nI_leI (by omega) (by omega)).mp (by omega))) (fun _ => ?_)
  refine lv_aload_n B.hx B.hb dX1_addRemark_10 rfl (lv_at hl 1 rfl) ?_
  refine q_get B hP (C := RX1) (ref := "PaperKeeper$Draft") (T := TX1) (N := 12) (ci := 1) hi1 rfl 0 rfl 2 (by decide) (by decide +kernel) rfl (v := .ref (a 5)) rfl dX1_addRemark_11 ?_
  refine lv_iload_n B.hx B.hb dX1_addRemark_14 rfl (lv_at hl 0 rfl) ?_
  refine lv_iconst (v := (nI 0)) B.hx B.hb dX1_addRemark_15 (by decide) ?_
  refine q_zast B hP hD hS 3 rfl (j := k) rfl (by omega) (by decide) (by decide) dX1_addRemark_16 (w' := dw cI cZ a X (va_up Y 3 (upd (Y 3) k (nI 0)))) rfl (fun H locs hP hD hS => ?_)
  refine lv_aload_n B.hx B.hb dX1_addRemark_17 rfl (lv_at hl 1 rfl) ?_
  refine lv_dup B.hx B.hb dX1_addRemark_18 rfl ?_
  refine q_get B hP (C := RX1) (ref := "PaperKeeper$Draft") (T := TX1) (N := 12) (ci := 1) hi1 rfl 0 rfl 9 (by decide) (by decide +kernel) rfl (v := .int (X 9)) rfl dX1_addRemark_19 ?_
  refine q_top (v2 := .int (nI k)) (congrArg Value.int hm) ?_
  refine lv_iconst (v := (nI 1)) B.hx B.hb dX1_addRemark_22 (by decide) ?_
  refine lv_iadd B.hx B.hb dX1_addRemark_23 ?_
  refine q_top (v2 := .int (nI ((k + 1)))) (congrArg Value.int (nI_add _ _)) ?_
  refine q_put B hP hD hS (C := RX1) (ref := "PaperKeeper$Draft") (T := TX1) (N := 12) (ci := 1) hi1 rfl tyX1 tyX1_ok nmX1 0 rfl 9 (by decide) (by decide +kernel) rfl rfl rfl (by rfl) (Nat.le_of_ble_eq_true rfl) dX1_addRemark_24 (w' := dw cI cZ a (va_up X 9 (nI ((k + 1)))) (va_up Y 3 (upd (Y 3) k (nI 0)))) rfl (fun H locs hP hD hS => ?_)
  refine lv_iload_n B.hx B.hb dX1_addRemark_27 rfl (lv_at hl 0 rfl) ?_
  exact q_iret B hr hP hD hS (u := ()) rfl rfl (Nat.le_of_ble_eq_true rfl) (Nat.le_of_ble_eq_true rfl) dX1_addRemark_28
set_option maxHeartbeats 4000000 in
set_option maxRecDepth 100000 in
theorem c1_isReady (l : Launch) (D : va_G) (cI cZ cP : ClassId) (a : Nat → Nat) (X : Nat → Int32) (Y : Nat → Nat → Int32) (n k : Nat) (hW : wd X Y n k) (t : Int32) : q_C l yX1_isReady wsX1_isReady ({ frames := 2, cells := 0, slots := 0, locals := 42 }) D cI cZ cP [.ref (a 2), .int t] (dw cI cZ a X Y) (S := Unit) (fun v _ => v = some (.int (if (stp n (dNR Y n) (dOR Y k) (X 10) (dNC Y)) = nI 5 ∧ ¬ t < X 11 then nI 1 else nI 0))) (fun _ => dw cI cZ a X Y) (fun _ => False) 0 0 := by
  refine q_of (cc := cX1_isReady) (maxL := 2) (ret := (some .boolean)) (by decide +kernel) rfl (Nat.le_of_ble_eq_true rfl) ?_
  intro p e s m below meth c A ls B hr htb hmn hP hD hS hl
  have hl : lv_has ls 2 [(0, .ref (a 2)), (1, .int t)] := hl
  have hi1 : ∀ w ∈ u_ws RX1 TX1 12, w ∈ wsX1_isReady := by decide +kernel
  obtain ⟨hn, hn4, hm, hm4, hv⟩ := id hW
  refine lv_aload_n B.hx B.hb dX1_isReady_0 rfl (lv_at hl 0 rfl) ?_
  refine q_callV (As := []) (rest := []) B hP hD hS (c1_nextStep l D cI cZ cP a X Y n k hW) (cwV 0 B.hts gX1_isReady_X1_nextStep rfl rfl rfl (by decide +kernel) ⟨(Nat.le_of_ble_eq_true rfl), (Nat.le_of_ble_eq_true rfl)⟩) 0 1 rfl rfl rfl rfl hl.1 rfl (Nat.le_of_ble_eq_true rfl) dX1_isReady_1 ⟨(Nat.le_of_ble_eq_true rfl), (Nat.le_of_ble_eq_true rfl)⟩ (fun E ce q9 H locs hx => False.elim hx) (fun v u H locs hp hP hD hS => ?_)
  obtain rfl := hp
  have hP : va_P D vwCl (dw cI cZ a X Y) H := hP
  have hD : va_D A (dw cI cZ a X Y) := hD
  refine lv_iconst (v := (nI 5)) B.hx B.hb dX1_isReady_4 (by decide) ?_
  refine lv_icmp_ne (tgt := 20) B.hx B.hb dX1_isReady_5 (by decide) (fun c1 => ?_) (fun c1 => ?_)
  · refine lv_iconst (v := (nI 0)) B.hx B.hb dX1_isReady_20 (by decide) ?_
    exact q_zret B hr hP hD hS (by decide) (u := ()) rfl (by simp [c1]) (Nat.le_of_ble_eq_true rfl) (Nat.le_of_ble_eq_true rfl) dX1_isReady_21
  · refine lv_aload_n B.hx B.hb dX1_isReady_8 rfl (lv_at hl 0 rfl) ?_
    refine q_get B hP (C := RX1) (ref := "PaperKeeper$Draft") (T := TX1) (N := 12) (ci := 1) hi1 rfl 0 rfl 11 (by decide) (by decide +kernel) rfl (v := .int (X 11)) rfl dX1_isReady_9 ?_
    refine lv_iload_n B.hx B.hb dX1_isReady_12 rfl (lv_at hl 1 rfl) ?_
    refine lv_icmp_gt (tgt := 20) B.hx B.hb dX1_isReady_13 (by decide) (fun c2 => ?_) (fun c2 => ?_)
    · refine lv_iconst (v := (nI 0)) B.hx B.hb dX1_isReady_20 (by decide) ?_
      exact q_zret B hr hP hD hS (by decide) (u := ()) rfl (by simp [c1, c2]) (Nat.le_of_ble_eq_true rfl) (Nat.le_of_ble_eq_true rfl) dX1_isReady_21
    · refine lv_iconst (v := (nI 1)) B.hx B.hb dX1_isReady_16 (by decide) ?_
      refine lv_goto (tgt := 21) B.hx B.hb dX1_isReady_17 (by decide) ?_
      exact q_zret B hr hP hD hS (by decide) (u := ()) rfl (by simp [c1, c2]) (Nat.le_of_ble_eq_true rfl) (Nat.le_of_ble_eq_true rfl) dX1_isReady_21
set_option maxHeartbeats 4000000 in
set_option maxRecDepth 100000 in
theorem c1_nextPerson (l : Launch) (D : va_G) (cI cZ cP : ClassId) (a : Nat → Nat) (X : Nat → Int32) (Y : Nat → Nat → Int32) (n k : Nat) (hW : wd X Y n k) : q_C l yX1_nextPerson wsX1_nextPerson ({ frames := 2, cells := 0, slots := 0, locals := 42 }) D cI cZ cP [.ref (a 2)] (dw cI cZ a X Y) (S := Unit) (fun v _ => v = some (.int (prs (stp n (dNR Y n) (dOR Y k) (X 10) (dNC Y)) (dNR Y n) (X 5) (dNC Y)))) (fun _ => dw cI cZ a X Y) (fun _ => False) 0 0 := by
  refine q_of (cc := cX1_nextPerson) (maxL := 1) (ret := (some .int)) (by decide +kernel) rfl (Nat.le_of_ble_eq_true rfl) ?_
  intro p e s m below meth c A ls B hr htb hmn hP hD hS hl
  have hl : lv_has ls 1 [(0, .ref (a 2))] := hl
  have hi1 : ∀ w ∈ u_ws RX1 TX1 12, w ∈ wsX1_nextPerson := by decide +kernel
  obtain ⟨hn, hn4, hm, hm4, hv⟩ := id hW
  refine lv_aload_n B.hx B.hb dX1_nextPerson_0 rfl (lv_at hl 0 rfl) ?_
  refine q_callV (As := []) (rest := []) B hP hD hS (c1_nextStep l D cI cZ cP a X Y n k hW) (cwV 0 B.hts gX1_nextPerson_X1_nextStep rfl rfl rfl (by decide +kernel) ⟨(Nat.le_of_ble_eq_true rfl), (Nat.le_of_ble_eq_true rfl)⟩) 0 1 rfl rfl rfl rfl hl.1 rfl (Nat.le_of_ble_eq_true rfl) dX1_nextPerson_1 ⟨(Nat.le_of_ble_eq_true rfl), (Nat.le_of_ble_eq_true rfl)⟩ (fun E ce q9 H locs hx => False.elim hx) (fun v u H locs hp hP hD hS => ?_)
  obtain rfl := hp
  have hP : va_P D vwCl (dw cI cZ a X Y) H := hP
  have hD : va_D A (dw cI cZ a X Y) := hD
  rcases stp_or n (dNR Y n) (dOR Y k) (X 10) (dNC Y) with h9 | h9 | h9 | h9 | h9
  · refine q_top (v2 := .int (nI 1)) (congrArg Value.int h9) ?_
    refine lv_tableIn (off := 32) (tgt := 36) B.hx B.hb dX1_nextPerson_4 (by decide) (by decide) rfl (by decide) ?_
    refine lv_aload_n B.hx B.hb dX1_nextPerson_36 rfl (lv_at hl 0 rfl) ?_
    refine q_callV (As := []) (rest := []) B hP hD hS (c1_nextReviewer l D cI cZ cP a X Y n k hW) (cwV 0 B.hts gX1_nextPerson_X1_nextReviewer rfl rfl rfl (by decide +kernel) ⟨(Nat.le_of_ble_eq_true rfl), (Nat.le_of_ble_eq_true rfl)⟩) 0 1 rfl rfl rfl rfl hl.1 rfl (Nat.le_of_ble_eq_true rfl) dX1_nextPerson_37 ⟨(Nat.le_of_ble_eq_true rfl), (Nat.le_of_ble_eq_true rfl)⟩ (fun E ce q9 H locs hx => False.elim hx) (fun v u H locs hp hP hD hS => ?_)
    obtain rfl := hp
    have hP : va_P D vwCl (dw cI cZ a X Y) H := hP
    have hD : va_D A (dw cI cZ a X Y) := hD
    exact q_iret B hr hP hD hS (u := ()) rfl (by rw [h9]; rfl) (Nat.le_of_ble_eq_true rfl) (Nat.le_of_ble_eq_true rfl) dX1_nextPerson_40
  · refine q_top (v2 := .int (nI 2)) (congrArg Value.int h9) ?_
    refine lv_tableIn (off := 37) (tgt := 41) B.hx B.hb dX1_nextPerson_4 (by decide) (by decide) rfl (by decide) ?_
    refine lv_aload_n B.hx B.hb dX1_nextPerson_41 rfl (lv_at hl 0 rfl) ?_
    refine q_get B hP (C := RX1) (ref := "PaperKeeper$Draft") (T := TX1) (N := 12) (ci := 1) hi1 rfl 0 rfl 5 (by decide) (by decide +kernel) rfl (v := .int (X 5)) rfl dX1_nextPerson_42 ?_
    exact q_iret B hr hP hD hS (u := ()) rfl (by rw [h9]; rfl) (Nat.le_of_ble_eq_true rfl) (Nat.le_of_ble_eq_true rfl) dX1_nextPerson_45
  · refine q_top (v2 := .int (nI 3)) (congrArg Value.int h9) ?_
    refine lv_tableIn (off := 47) (tgt := 51) B.hx B.hb dX1_nextPerson_4 (by decide) (by decide) rfl (by decide) ?_
    refine lv_iconst (v := (-1)) B.hx B.hb dX1_nextPerson_51 (by decide) ?_
    exact q_iret B hr hP hD hS (u := ()) rfl (by rw [h9]; rfl) (Nat.le_of_ble_eq_true rfl) (Nat.le_of_ble_eq_true rfl) dX1_nextPerson_52
  · refine q_top (v2 := .int (nI 4)) (congrArg Value.int h9) ?_
    refine lv_tableIn (off := 42) (tgt := 46) B.hx B.hb dX1_nextPerson_4 (by decide) (by decide) rfl (by decide) ?_
    refine lv_aload_n B.hx B.hb dX1_nextPerson_46 rfl (lv_at hl 0 rfl) ?_
    refine q_callV (As := []) (rest := []) B hP hD hS (c1_nextReader l D cI cZ cP a X Y) (cwV 0 B.hts gX1_nextPerson_X1_nextReader rfl rfl rfl (by decide +kernel) ⟨(Nat.le_of_ble_eq_true rfl), (Nat.le_of_ble_eq_true rfl)⟩) 0 1 rfl rfl rfl rfl hl.1 rfl (Nat.le_of_ble_eq_true rfl) dX1_nextPerson_47 ⟨(Nat.le_of_ble_eq_true rfl), (Nat.le_of_ble_eq_true rfl)⟩ (fun E ce q9 H locs hx => False.elim hx) (fun v u H locs hp hP hD hS => ?_)
    obtain rfl := hp
    have hP : va_P D vwCl (dw cI cZ a X Y) H := hP
    have hD : va_D A (dw cI cZ a X Y) := hD
    exact q_iret B hr hP hD hS (u := ()) rfl (by rw [h9]; rfl) (Nat.le_of_ble_eq_true rfl) (Nat.le_of_ble_eq_true rfl) dX1_nextPerson_50
  · refine q_top (v2 := .int (nI 5)) (congrArg Value.int h9) ?_
    refine lv_tableOut (tgt := 51) B.hx B.hb dX1_nextPerson_4 (by decide) (by decide) ?_
    refine lv_iconst (v := (-1)) B.hx B.hb dX1_nextPerson_51 (by decide) ?_
    exact q_iret B hr hP hD hS (u := ()) rfl (by rw [h9]; rfl) (Nat.le_of_ble_eq_true rfl) (Nat.le_of_ble_eq_true rfl) dX1_nextPerson_52
