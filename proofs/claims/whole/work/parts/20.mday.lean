/-! The reference: comes, pass. -/
set_option maxHeartbeats 4000000 in
set_option maxRecDepth 100000 in
theorem c4_comes (l : Launch) (D : va_G) (cI cZ cP cJ : ClassId) (o : Nat → Nat) (J : Nat → Int32) (Z : Nat → Nat → Int32) (n : Nat) (hn : J 5 = nI n) (hn8 : n ≤ 8) (j : Nat) (hj : j < n) (w : Nat) (hw : Z 21 j = nI w) (hw2 : w < 128) : q_C l yX4_comes wsX4_comes ({ frames := 0, cells := 0, slots := 0, locals := 0 }) D cI cZ cP cJ [.ref (o 0), .int (nI j)] (mw cI cZ o J Z) (S := Unit) (fun v _ => v = none) (fun _ => mw cI cZ o J (va_up (va_up (va_up (va_up (va_up (va_up Z 8 (upd (Z 8) j (nI 0))) 21 (upd (Z 21) j (nI (w + 1)))) 22 (upd (Z 22) (400 * j + w) (J 0))) 23 (upd (Z 23) (400 * j + w) (Z 10 j))) 24 (mcl (upd (Z 24) j (nI 0)) (Z 7) (upd (Z 21) j (nI (w + 1))) j n)) 25 (upd (Z 25) j (J 0)))) (fun _ => False) 0 0 := by
  refine q_of (cc := cX4_comes) (maxL := 3) (ret := none) (by decide +kernel) rfl (Nat.le_of_ble_eq_true rfl) ?_
  intro p e s m below meth c A ls B hr htb hmn hP hD hS hl
  have hl : lv_has ls 3 [(0, .ref (o 0)), (1, .int (nI j))] := hl
  have hi4 : ∀ w ∈ u_ws RX4 TX4 31, w ∈ wsX4_comes := by decide +kernel
  have hj8 : j < 8 := by omega
  refine lv_aload_n B.hx B.hb dX4_comes_0 rfl (lv_at hl 0 rfl) ?_
  refine q_get B hP (C := RX4) (ref := "PaperKeeperModel") (T := TX4) (N := 31) (ci := 4) hi4 rfl 0 rfl 22 (by decide) (by decide +kernel) rfl (v := .ref (o 22)) rfl dX4_comes_1 ?_
  refine lv_sipush (v := (nI 400)) B.hx B.hb dX4_comes_4 (by decide) ?_
  refine lv_iload_n B.hx B.hb dX4_comes_7 rfl (lv_at hl 1 rfl) ?_
  refine lv_imul B.hx B.hb dX4_comes_8 ?_
  refine q_top (v2 := .int (nI ((400 * j)))) (congrArg Value.int (pk_mul _ _)) ?_
  refine lv_aload_n B.hx B.hb dX4_comes_9 rfl (lv_at hl 0 rfl) ?_
  refine q_get B hP (C := RX4) (ref := "PaperKeeperModel") (T := TX4) (N := 31) (ci := 4) hi4 rfl 0 rfl 21 (by decide) (by decide +kernel) rfl (v := .ref (o 21)) rfl dX4_comes_10 ?_
  refine lv_iload_n B.hx B.hb dX4_comes_13 rfl (lv_at hl 1 rfl) ?_
  refine q_iald (f := (Z 21)) B hP 19 rfl (j := j) rfl (by omega) (by decide) dX4_comes_14 ?_
  refine q_top (v2 := .int (nI w)) (congrArg Value.int hw) ?_
  refine lv_iadd B.hx B.hb dX4_comes_15 ?_
  refine q_top (v2 := .int (nI (((400 * j) + w)))) (congrArg Value.int (nI_add _ _)) ?_
  refine lv_aload_n B.hx B.hb dX4_comes_16 rfl (lv_at hl 0 rfl) ?_
  refine q_get B hP (C := RX4) (ref := "PaperKeeperModel") (T := TX4) (N := 31) (ci := 4) hi4 rfl 0 rfl 0 (by decide) (by decide +kernel) rfl (v := .int (J 0)) rfl dX4_comes_17 ?_
  refine q_iast B hP hD hS 20 rfl (j := ((400 * j) + w)) rfl (by omega) (by decide) dX4_comes_20 (w' := mw cI cZ o J (va_up Z 22 (upd (Z 22) ((400 * j) + w) (J 0)))) rfl (fun H locs hP hD hS => ?_)
  refine lv_aload_n B.hx B.hb dX4_comes_21 rfl (lv_at hl 0 rfl) ?_
  refine q_get B hP (C := RX4) (ref := "PaperKeeperModel") (T := TX4) (N := 31) (ci := 4) hi4 rfl 0 rfl 23 (by decide) (by decide +kernel) rfl (v := .ref (o 23)) rfl dX4_comes_22 ?_
  refine lv_sipush (v := (nI 400)) B.hx B.hb dX4_comes_25 (by decide) ?_
  refine lv_iload_n B.hx B.hb dX4_comes_28 rfl (lv_at hl 1 rfl) ?_
  refine lv_imul B.hx B.hb dX4_comes_29 ?_
  refine q_top (v2 := .int (nI ((400 * j)))) (congrArg Value.int (pk_mul _ _)) ?_
  refine lv_aload_n B.hx B.hb dX4_comes_30 rfl (lv_at hl 0 rfl) ?_
  refine q_get B hP (C := RX4) (ref := "PaperKeeperModel") (T := TX4) (N := 31) (ci := 4) hi4 rfl 0 rfl 21 (by decide) (by decide +kernel) rfl (v := .ref (o 21)) rfl dX4_comes_31 ?_
  refine lv_iload_n B.hx B.hb dX4_comes_34 rfl (lv_at hl 1 rfl) ?_
  refine q_iald (f := (Z 21)) B hP 19 rfl (j := j) rfl (by omega) (by decide) dX4_comes_35 ?_
  refine q_top (v2 := .int (nI w)) (congrArg Value.int hw) ?_
  refine lv_iadd B.hx B.hb dX4_comes_36 ?_
  refine q_top (v2 := .int (nI (((400 * j) + w)))) (congrArg Value.int (nI_add _ _)) ?_
  refine lv_aload_n B.hx B.hb dX4_comes_37 rfl (lv_at hl 0 rfl) ?_
  refine q_get B hP (C := RX4) (ref := "PaperKeeperModel") (T := TX4) (N := 31) (ci := 4) hi4 rfl 0 rfl 10 (by decide) (by decide +kernel) rfl (v := .ref (o 10)) rfl dX4_comes_38 ?_
  refine lv_iload_n B.hx B.hb dX4_comes_41 rfl (lv_at hl 1 rfl) ?_
  refine q_iald (f := (Z 10)) B hP 8 rfl (j := j) rfl (by omega) (by decide) dX4_comes_42 ?_
  refine q_iast B hP hD hS 21 rfl (j := ((400 * j) + w)) rfl (by omega) (by decide) dX4_comes_43 (w' := mw cI cZ o J (va_up (va_up Z 22 (upd (Z 22) ((400 * j) + w) (J 0))) 23 (upd (Z 23) ((400 * j) + w) ((Z 10) j)))) rfl (fun H locs hP hD hS => ?_)
  refine lv_aload_n B.hx B.hb dX4_comes_44 rfl (lv_at hl 0 rfl) ?_
  refine q_get B hP (C := RX4) (ref := "PaperKeeperModel") (T := TX4) (N := 31) (ci := 4) hi4 rfl 0 rfl 21 (by decide) (by decide +kernel) rfl (v := .ref (o 21)) rfl dX4_comes_45 ?_
  refine lv_iload_n B.hx B.hb dX4_comes_48 rfl (lv_at hl 1 rfl) ?_
  refine lv_dup2_11 B.hx B.hb dX4_comes_49 rfl rfl ?_
  refine q_iald (f := (Z 21)) B hP 19 rfl (j := j) rfl (by omega) (by decide) dX4_comes_50 ?_
  refine q_top (v2 := .int (nI w)) (congrArg Value.int hw) ?_
  refine lv_iconst (v := (nI 1)) B.hx B.hb dX4_comes_51 (by decide) ?_
  refine lv_iadd B.hx B.hb dX4_comes_52 ?_
  refine q_top (v2 := .int (nI ((w + 1)))) (congrArg Value.int (nI_add _ _)) ?_
  refine q_iast B hP hD hS 19 rfl (j := j) rfl (by omega) (by decide) dX4_comes_53 (w' := mw cI cZ o J (va_up (va_up (va_up Z 21 (upd (Z 21) j (nI ((w + 1))))) 22 (upd (Z 22) ((400 * j) + w) (J 0))) 23 (upd (Z 23) ((400 * j) + w) ((Z 10) j)))) rfl (fun H locs hP hD hS => ?_)
  refine lv_aload_n B.hx B.hb dX4_comes_54 rfl (lv_at hl 0 rfl) ?_
  refine q_get B hP (C := RX4) (ref := "PaperKeeperModel") (T := TX4) (N := 31) (ci := 4) hi4 rfl 0 rfl 8 (by decide) (by decide +kernel) rfl (v := .ref (o 8)) rfl dX4_comes_55 ?_
  refine lv_iload_n B.hx B.hb dX4_comes_58 rfl (lv_at hl 1 rfl) ?_
  refine lv_iconst (v := (nI 0)) B.hx B.hb dX4_comes_59 (by decide) ?_
  refine q_zast B hP hD hS 6 rfl (j := j) rfl (by omega) (by decide) (by decide) dX4_comes_60 (w' := mw cI cZ o J (va_up (va_up (va_up (va_up Z 8 (upd (Z 8) j (nI 0))) 21 (upd (Z 21) j (nI ((w + 1))))) 22 (upd (Z 22) ((400 * j) + w) (J 0))) 23 (upd (Z 23) ((400 * j) + w) ((Z 10) j)))) rfl (fun H locs hP hD hS => ?_)
  refine lv_aload_n B.hx B.hb dX4_comes_61 rfl (lv_at hl 0 rfl) ?_
  refine q_get B hP (C := RX4) (ref := "PaperKeeperModel") (T := TX4) (N := 31) (ci := 4) hi4 rfl 0 rfl 24 (by decide) (by decide +kernel) rfl (v := .ref (o 24)) rfl dX4_comes_62 ?_
  refine lv_iload_n B.hx B.hb dX4_comes_65 rfl (lv_at hl 1 rfl) ?_
  refine lv_iconst (v := (nI 0)) B.hx B.hb dX4_comes_66 (by decide) ?_
  refine q_zast B hP hD hS 22 rfl (j := j) rfl (by omega) (by decide) (by decide) dX4_comes_67 (w' := mw cI cZ o J (va_up (va_up (va_up (va_up (va_up Z 8 (upd (Z 8) j (nI 0))) 21 (upd (Z 21) j (nI ((w + 1))))) 22 (upd (Z 22) ((400 * j) + w) (J 0))) 23 (upd (Z 23) ((400 * j) + w) ((Z 10) j))) 24 (upd (Z 24) j (nI 0)))) rfl (fun H locs hP hD hS => ?_)
  refine lv_aload_n B.hx B.hb dX4_comes_68 rfl (lv_at hl 0 rfl) ?_
  refine q_get B hP (C := RX4) (ref := "PaperKeeperModel") (T := TX4) (N := 31) (ci := 4) hi4 rfl 0 rfl 25 (by decide) (by decide +kernel) rfl (v := .ref (o 25)) rfl dX4_comes_69 ?_
  refine lv_iload_n B.hx B.hb dX4_comes_72 rfl (lv_at hl 1 rfl) ?_
  refine lv_aload_n B.hx B.hb dX4_comes_73 rfl (lv_at hl 0 rfl) ?_
  refine q_get B hP (C := RX4) (ref := "PaperKeeperModel") (T := TX4) (N := 31) (ci := 4) hi4 rfl 0 rfl 0 (by decide) (by decide +kernel) rfl (v := .int (J 0)) rfl dX4_comes_74 ?_
  refine q_iast B hP hD hS 23 rfl (j := j) rfl (by omega) (by decide) dX4_comes_77 (w' := mw cI cZ o J (va_up (va_up (va_up (va_up (va_up (va_up Z 8 (upd (Z 8) j (nI 0))) 21 (upd (Z 21) j (nI ((w + 1))))) 22 (upd (Z 22) ((400 * j) + w) (J 0))) 23 (upd (Z 23) ((400 * j) + w) ((Z 10) j))) 24 (upd (Z 24) j (nI 0))) 25 (upd (Z 25) j (J 0)))) rfl (fun H locs hP hD hS => ?_)
  refine lv_iconst (v := (nI 0)) B.hx B.hb dX4_comes_78 (by decide) ?_
  refine lv_istore_n (lv' := [(2, .int (nI 0)), (0, .ref (o 0)), (1, .int (nI j))]) B.hx B.hb dX4_comes_79 rfl hl (by decide) rfl (fun ls hl => ?_)
  refine q_loopW (nL := 3) (fun i : Nat => i ≤ n) (fun i : Nat => n - i) (fun i : Nat => [(2, .int (nI i)), (0, .ref (o 0)), (1, .int (nI j))]) (fun i : Nat => mw cI cZ o J (va_up (va_up (va_up (va_up (va_up (va_up Z 8 (upd (Z 8) j (nI 0))) 21 (upd (Z 21) j (nI ((w + 1))))) 22 (upd (Z 22) ((400 * j) + w) (J 0))) 23 (upd (Z 23) ((400 * j) + w) ((Z 10) j))) 24 (mcl (upd (Z 24) j (nI 0)) (Z 7) (upd (Z 21) j (nI (w + 1))) j i)) 25 (upd (Z 25) j (J 0)))) (0) (Nat.zero_le _) (lv_sub hl [0, 1, 2] rfl) (show va_P D vwCl (mw cI cZ o J (va_up (va_up (va_up (va_up (va_up (va_up Z 8 (upd (Z 8) j (nI 0))) 21 (upd (Z 21) j (nI ((w + 1))))) 22 (upd (Z 22) ((400 * j) + w) (J 0))) 23 (upd (Z 23) ((400 * j) + w) ((Z 10) j))) 24 (mcl (upd (Z 24) j (nI 0)) (Z 7) (upd (Z 21) j (nI (w + 1))) j 0)) 25 (upd (Z 25) j (J 0)))) _ by rw [mcl_0]; exact hP) (show va_D A (mw cI cZ o J (va_up (va_up (va_up (va_up (va_up (va_up Z 8 (upd (Z 8) j (nI 0))) 21 (upd (Z 21) j (nI ((w + 1))))) 22 (upd (Z 22) ((400 * j) + w) (J 0))) 23 (upd (Z 23) ((400 * j) + w) ((Z 10) j))) 24 (mcl (upd (Z 24) j (nI 0)) (Z 7) (upd (Z 21) j (nI (w + 1))) j 0)) 25 (upd (Z 25) j (J 0)))) by rw [mcl_0]; exact hD) hS ?_
  intro i1 hI2 ih3 ls H locs hl hP hD hS
  have hI2 : i1 ≤ n := hI2
  have hl : lv_has ls 3 [(2, .int (nI i1)), (0, .ref (o 0)), (1, .int (nI j))] := hl
  have hP : va_P D vwCl (mw cI cZ o J (va_up (va_up (va_up (va_up (va_up (va_up Z 8 (upd (Z 8) j (nI 0))) 21 (upd (Z 21) j (nI ((w + 1))))) 22 (upd (Z 22) ((400 * j) + w) (J 0))) 23 (upd (Z 23) ((400 * j) + w) ((Z 10) j))) 24 (mcl (upd (Z 24) j (nI 0)) (Z 7) (upd (Z 21) j (nI (w + 1))) j i1)) 25 (upd (Z 25) j (J 0)))) H := hP
  have hD : va_D A (mw cI cZ o J (va_up (va_up (va_up (va_up (va_up (va_up Z 8 (upd (Z 8) j (nI 0))) 21 (upd (Z 21) j (nI ((w + 1))))) 22 (upd (Z 22) ((400 * j) + w) (J 0))) 23 (upd (Z 23) ((400 * j) + w) ((Z 10) j))) 24 (mcl (upd (Z 24) j (nI 0)) (Z 7) (upd (Z 21) j (nI (w + 1))) j i1)) 25 (upd (Z 25) j (J 0)))) := hD
  refine lv_iload_n B.hx B.hb dX4_comes_80 rfl (lv_at hl 0 rfl) ?_
  refine lv_aload_n B.hx B.hb dX4_comes_81 rfl (lv_at hl 1 rfl) ?_
  refine q_get B hP (C := RX4) (ref := "PaperKeeperModel") (T := TX4) (N := 31) (ci := 4) hi4 rfl 0 rfl 5 (by decide) (by decide +kernel) rfl (v := .int (J 5)) rfl dX4_comes_82 ?_
  refine q_top (v2 := .int (nI n)) (congrArg Value.int hn) ?_
  refine lv_icmp_ge (tgt := 137) B.hx B.hb dX4_comes_85 (by decide) (fun c4 => ?_) (fun c4 => ?_)
  · replace c4 := (nI_leI (by omega) (by omega)).mp c4
    obtain rfl : i1 = n := by omega
    exact q_vret B hr hP hD hS (u := ()) rfl rfl (Nat.le_of_ble_eq_true rfl) (Nat.le_of_ble_eq_true rfl) dX4_comes_137
  · replace c4 := mt (nI_leI (by omega) (by omega)).mpr c4
    refine lv_aload_n B.hx B.hb dX4_comes_88 rfl (lv_at hl 1 rfl) ?_
    refine q_get B hP (C := RX4) (ref := "PaperKeeperModel") (T := TX4) (N := 31) (ci := 4) hi4 rfl 0 rfl 24 (by decide) (by decide +kernel) rfl (v := .ref (o 24)) rfl dX4_comes_89 ?_
    refine lv_iload_n B.hx B.hb dX4_comes_92 rfl (lv_at hl 0 rfl) ?_
    refine lv_aload_n B.hx B.hb dX4_comes_93 rfl (lv_at hl 1 rfl) ?_
    refine q_get B hP (C := RX4) (ref := "PaperKeeperModel") (T := TX4) (N := 31) (ci := 4) hi4 rfl 0 rfl 24 (by decide) (by decide +kernel) rfl (v := .ref (o 24)) rfl dX4_comes_94 ?_
    refine lv_iload_n B.hx B.hb dX4_comes_97 rfl (lv_at hl 0 rfl) ?_
    refine q_zald (f := (mcl (upd (Z 24) j (nI 0)) (Z 7) (upd (Z 21) j (nI (w + 1))) j i1)) B hP 22 rfl (j := i1) rfl (by omega) (by decide) dX4_comes_98 ?_
    refine q_top (v2 := .int ((upd (Z 24) j (nI 0)) i1)) (congrArg Value.int (mcl_i (upd (Z 24) j (nI 0)) (Z 7) (upd (Z 21) j (nI (w + 1))) j i1)) ?_
    refine lv_if_ne (tgt := 125) B.hx B.hb dX4_comes_99 (by decide) (fun c5 => ?_) (fun c5 => ?_)
    · refine lv_iconst (v := (nI 1)) B.hx B.hb dX4_comes_125 (by decide) ?_
      refine lv_goto (tgt := 130) B.hx B.hb dX4_comes_126 (by decide) ?_
      refine q_zast B hP hD hS 22 rfl (j := i1) rfl (by omega) (by decide) (by decide) dX4_comes_130 (w' := mw cI cZ o J (va_up (va_up (va_up (va_up (va_up (va_up Z 8 (upd (Z 8) j (nI 0))) 21 (upd (Z 21) j (nI ((w + 1))))) 22 (upd (Z 22) ((400 * j) + w) (J 0))) 23 (upd (Z 23) ((400 * j) + w) ((Z 10) j))) 24 (upd (mcl (upd (Z 24) j (nI 0)) (Z 7) (upd (Z 21) j (nI (w + 1))) j i1) i1 (nI 1))) 25 (upd (Z 25) j (J 0)))) rfl (fun H locs hP hD hS => ?_)
      refine lv_iinc (v := (nI ((i1 + 1)))) (lv' := [(2, .int (nI ((i1 + 1)))), (0, .ref (o 0)), (1, .int (nI j))]) B.hx B.hb dX4_comes_131 hl (k := 0) rfl (nI_1 _) (by decide) rfl (fun ls hl => ?_)
      refine lv_goto (tgt := 80) B.hx B.hb dX4_comes_134 (by decide) ?_
      exact ih3 (i1 + 1) (by omega) (by omega) ls H locs (lv_sub hl [0, 1, 2] rfl) (show va_P D vwCl (mw cI cZ o J (va_up (va_up (va_up (va_up (va_up (va_up Z 8 (upd (Z 8) j (nI 0))) 21 (upd (Z 21) j (nI ((w + 1))))) 22 (upd (Z 22) ((400 * j) + w) (J 0))) 23 (upd (Z 23) ((400 * j) + w) ((Z 10) j))) 24 (mcl (upd (Z 24) j (nI 0)) (Z 7) (upd (Z 21) j (nI (w + 1))) j (i1 + 1))) 25 (upd (Z 25) j (J 0)))) H by rw [← mcl_s (upd (Z 24) j (nI 0)) (Z 7) (upd (Z 21) j (nI (w + 1))) j i1 (bI_t (by simp [c5]))]; exact hP) (show va_D A (mw cI cZ o J (va_up (va_up (va_up (va_up (va_up (va_up Z 8 (upd (Z 8) j (nI 0))) 21 (upd (Z 21) j (nI ((w + 1))))) 22 (upd (Z 22) ((400 * j) + w) (J 0))) 23 (upd (Z 23) ((400 * j) + w) ((Z 10) j))) 24 (mcl (upd (Z 24) j (nI 0)) (Z 7) (upd (Z 21) j (nI (w + 1))) j (i1 + 1))) 25 (upd (Z 25) j (J 0)))) by rw [← mcl_s (upd (Z 24) j (nI 0)) (Z 7) (upd (Z 21) j (nI (w + 1))) j i1 (bI_t (by simp [c5]))]; exact hD) hS
    · refine lv_aload_n B.hx B.hb dX4_comes_102 rfl (lv_at hl 1 rfl) ?_
      refine q_get B hP (C := RX4) (ref := "PaperKeeperModel") (T := TX4) (N := 31) (ci := 4) hi4 rfl 0 rfl 7 (by decide) (by decide +kernel) rfl (v := .ref (o 7)) rfl dX4_comes_103 ?_
      refine lv_bipush (v := (nI 8)) B.hx B.hb dX4_comes_106 (by decide) ?_
      refine lv_iload_n B.hx B.hb dX4_comes_108 rfl (lv_at hl 0 rfl) ?_
      refine lv_imul B.hx B.hb dX4_comes_109 ?_
      refine q_top (v2 := .int (nI ((8 * i1)))) (congrArg Value.int (pk_mul _ _)) ?_
      refine lv_iload_n B.hx B.hb dX4_comes_110 rfl (lv_at hl 2 rfl) ?_
      refine lv_iadd B.hx B.hb dX4_comes_111 ?_
      refine q_top (v2 := .int (nI (((8 * i1) + j)))) (congrArg Value.int (nI_add _ _)) ?_
      refine q_zald (f := (Z 7)) B hP 5 rfl (j := ((8 * i1) + j)) rfl (by omega) (by decide) dX4_comes_112 ?_
      refine lv_if_eq (tgt := 129) B.hx B.hb dX4_comes_113 (by decide) (fun c6 => ?_) (fun c6 => ?_)
      · refine lv_iconst (v := (nI 0)) B.hx B.hb dX4_comes_129 (by decide) ?_
        refine q_zast B hP hD hS 22 rfl (j := i1) rfl (by omega) (by decide) (by decide) dX4_comes_130 (w' := mw cI cZ o J (va_up (va_up (va_up (va_up (va_up (va_up Z 8 (upd (Z 8) j (nI 0))) 21 (upd (Z 21) j (nI ((w + 1))))) 22 (upd (Z 22) ((400 * j) + w) (J 0))) 23 (upd (Z 23) ((400 * j) + w) ((Z 10) j))) 24 (upd (mcl (upd (Z 24) j (nI 0)) (Z 7) (upd (Z 21) j (nI (w + 1))) j i1) i1 (nI 0))) 25 (upd (Z 25) j (J 0)))) rfl (fun H locs hP hD hS => ?_)
        refine lv_iinc (v := (nI ((i1 + 1)))) (lv' := [(2, .int (nI ((i1 + 1)))), (0, .ref (o 0)), (1, .int (nI j))]) B.hx B.hb dX4_comes_131 hl (k := 0) rfl (nI_1 _) (by decide) rfl (fun ls hl => ?_)
        refine lv_goto (tgt := 80) B.hx B.hb dX4_comes_134 (by decide) ?_
        exact ih3 (i1 + 1) (by omega) (by omega) ls H locs (lv_sub hl [0, 1, 2] rfl) (show va_P D vwCl (mw cI cZ o J (va_up (va_up (va_up (va_up (va_up (va_up Z 8 (upd (Z 8) j (nI 0))) 21 (upd (Z 21) j (nI ((w + 1))))) 22 (upd (Z 22) ((400 * j) + w) (J 0))) 23 (upd (Z 23) ((400 * j) + w) ((Z 10) j))) 24 (mcl (upd (Z 24) j (nI 0)) (Z 7) (upd (Z 21) j (nI (w + 1))) j (i1 + 1))) 25 (upd (Z 25) j (J 0)))) H by rw [← mcl_s (upd (Z 24) j (nI 0)) (Z 7) (upd (Z 21) j (nI (w + 1))) j i1 (bI_f (by simp [c5, c6]))]; exact hP) (show va_D A (mw cI cZ o J (va_up (va_up (va_up (va_up (va_up (va_up Z 8 (upd (Z 8) j (nI 0))) 21 (upd (Z 21) j (nI ((w + 1))))) 22 (upd (Z 22) ((400 * j) + w) (J 0))) 23 (upd (Z 23) ((400 * j) + w) ((Z 10) j))) 24 (mcl (upd (Z 24) j (nI 0)) (Z 7) (upd (Z 21) j (nI (w + 1))) j (i1 + 1))) 25 (upd (Z 25) j (J 0)))) by rw [← mcl_s (upd (Z 24) j (nI 0)) (Z 7) (upd (Z 21) j (nI (w + 1))) j i1 (bI_f (by simp [c5, c6]))]; exact hD) hS
      · refine lv_aload_n B.hx B.hb dX4_comes_116 rfl (lv_at hl 1 rfl) ?_
        refine q_get B hP (C := RX4) (ref := "PaperKeeperModel") (T := TX4) (N := 31) (ci := 4) hi4 rfl 0 rfl 21 (by decide) (by decide +kernel) rfl (v := .ref (o 21)) rfl dX4_comes_117 ?_
        refine lv_iload_n B.hx B.hb dX4_comes_120 rfl (lv_at hl 0 rfl) ?_
        refine q_iald (f := (upd (Z 21) j (nI ((w + 1))))) B hP 19 rfl (j := i1) rfl (by omega) (by decide) dX4_comes_121 ?_
        refine lv_if_le (tgt := 129) B.hx B.hb dX4_comes_122 (by decide) (fun c7 => ?_) (fun c7 => ?_)
        · refine lv_iconst (v := (nI 0)) B.hx B.hb dX4_comes_129 (by decide) ?_
          refine q_zast B hP hD hS 22 rfl (j := i1) rfl (by omega) (by decide) (by decide) dX4_comes_130 (w' := mw cI cZ o J (va_up (va_up (va_up (va_up (va_up (va_up Z 8 (upd (Z 8) j (nI 0))) 21 (upd (Z 21) j (nI ((w + 1))))) 22 (upd (Z 22) ((400 * j) + w) (J 0))) 23 (upd (Z 23) ((400 * j) + w) ((Z 10) j))) 24 (upd (mcl (upd (Z 24) j (nI 0)) (Z 7) (upd (Z 21) j (nI (w + 1))) j i1) i1 (nI 0))) 25 (upd (Z 25) j (J 0)))) rfl (fun H locs hP hD hS => ?_)
          refine lv_iinc (v := (nI ((i1 + 1)))) (lv' := [(2, .int (nI ((i1 + 1)))), (0, .ref (o 0)), (1, .int (nI j))]) B.hx B.hb dX4_comes_131 hl (k := 0) rfl (nI_1 _) (by decide) rfl (fun ls hl => ?_)
          refine lv_goto (tgt := 80) B.hx B.hb dX4_comes_134 (by decide) ?_
          exact ih3 (i1 + 1) (by omega) (by omega) ls H locs (lv_sub hl [0, 1, 2] rfl) (show va_P D vwCl (mw cI cZ o J (va_up (va_up (va_up (va_up (va_up (va_up Z 8 (upd (Z 8) j (nI 0))) 21 (upd (Z 21) j (nI ((w + 1))))) 22 (upd (Z 22) ((400 * j) + w) (J 0))) 23 (upd (Z 23) ((400 * j) + w) ((Z 10) j))) 24 (mcl (upd (Z 24) j (nI 0)) (Z 7) (upd (Z 21) j (nI (w + 1))) j (i1 + 1))) 25 (upd (Z 25) j (J 0)))) H by rw [← mcl_s (upd (Z 24) j (nI 0)) (Z 7) (upd (Z 21) j (nI (w + 1))) j i1 (bI_f (by simp [c5, c6, c7]))]; exact hP) (show va_D A (mw cI cZ o J (va_up (va_up (va_up (va_up (va_up (va_up Z 8 (upd (Z 8) j (nI 0))) 21 (upd (Z 21) j (nI ((w + 1))))) 22 (upd (Z 22) ((400 * j) + w) (J 0))) 23 (upd (Z 23) ((400 * j) + w) ((Z 10) j))) 24 (mcl (upd (Z 24) j (nI 0)) (Z 7) (upd (Z 21) j (nI (w + 1))) j (i1 + 1))) 25 (upd (Z 25) j (J 0)))) by rw [← mcl_s (upd (Z 24) j (nI 0)) (Z 7) (upd (Z 21) j (nI (w + 1))) j i1 (bI_f (by simp [c5, c6, c7]))]; exact hD) hS
        · refine lv_iconst (v := (nI 1)) B.hx B.hb dX4_comes_125 (by decide) ?_
          refine lv_goto (tgt := 130) B.hx B.hb dX4_comes_126 (by decide) ?_
          refine q_zast B hP hD hS 22 rfl (j := i1) rfl (by omega) (by decide) (by decide) dX4_comes_130 (w' := mw cI cZ o J (va_up (va_up (va_up (va_up (va_up (va_up Z 8 (upd (Z 8) j (nI 0))) 21 (upd (Z 21) j (nI ((w + 1))))) 22 (upd (Z 22) ((400 * j) + w) (J 0))) 23 (upd (Z 23) ((400 * j) + w) ((Z 10) j))) 24 (upd (mcl (upd (Z 24) j (nI 0)) (Z 7) (upd (Z 21) j (nI (w + 1))) j i1) i1 (nI 1))) 25 (upd (Z 25) j (J 0)))) rfl (fun H locs hP hD hS => ?_)
          refine lv_iinc (v := (nI ((i1 + 1)))) (lv' := [(2, .int (nI ((i1 + 1)))), (0, .ref (o 0)), (1, .int (nI j))]) B.hx B.hb dX4_comes_131 hl (k := 0) rfl (nI_1 _) (by decide) rfl (fun ls hl => ?_)
          refine lv_goto (tgt := 80) B.hx B.hb dX4_comes_134 (by decide) ?_
          exact ih3 (i1 + 1) (by omega) (by omega) ls H locs (lv_sub hl [0, 1, 2] rfl) (show va_P D vwCl (mw cI cZ o J (va_up (va_up (va_up (va_up (va_up (va_up Z 8 (upd (Z 8) j (nI 0))) 21 (upd (Z 21) j (nI ((w + 1))))) 22 (upd (Z 22) ((400 * j) + w) (J 0))) 23 (upd (Z 23) ((400 * j) + w) ((Z 10) j))) 24 (mcl (upd (Z 24) j (nI 0)) (Z 7) (upd (Z 21) j (nI (w + 1))) j (i1 + 1))) 25 (upd (Z 25) j (J 0)))) H by rw [← mcl_s (upd (Z 24) j (nI 0)) (Z 7) (upd (Z 21) j (nI (w + 1))) j i1 (bI_t (by simp [c5, c6, c7]))]; exact hP) (show va_D A (mw cI cZ o J (va_up (va_up (va_up (va_up (va_up (va_up Z 8 (upd (Z 8) j (nI 0))) 21 (upd (Z 21) j (nI ((w + 1))))) 22 (upd (Z 22) ((400 * j) + w) (J 0))) 23 (upd (Z 23) ((400 * j) + w) ((Z 10) j))) 24 (mcl (upd (Z 24) j (nI 0)) (Z 7) (upd (Z 21) j (nI (w + 1))) j (i1 + 1))) 25 (upd (Z 25) j (J 0)))) by rw [← mcl_s (upd (Z 24) j (nI 0)) (Z 7) (upd (Z 21) j (nI (w + 1))) j i1 (bI_t (by simp [c5, c6, c7]))]; exact hD) hS
set_option maxHeartbeats 4000000 in
set_option maxRecDepth 100000 in
theorem c4_pass (l : Launch) (D : va_G) (cI cZ cP cJ : ClassId) (o : Nat → Nat) (J : Nat → Int32) (Z : Nat → Nat → Int32) (n : Nat) (hn : J 5 = nI n) (hn8 : n ≤ 8) (hwf : ∀ k, k < n → wfm Z k) (td : Nat) (htd : J 0 = nI td) (htd2 : td ≤ 1000) (x : Int32) : q_C l yX4_pass wsX4_pass ({ frames := 1, cells := 0, slots := 0, locals := 23 }) D cI cZ cP cJ [.ref (o 0), .int x] (mw cI cZ o J Z) (S := Unit) (fun v _ => v = some (.int (if kPass x (J 0) = 0 then nI (mpS td n (0, Z) (ix x)).1 else nI 0))) (fun _ => mw cI cZ o (va_up (if kPass x (J 0) = 0 then (va_up J 0 (nI (td + ix x))) else J) 30 (nI (kPass x (J 0)))) (if kPass x (J 0) = 0 then (mpS td n (0, Z) (ix x)).2 else Z)) (fun _ => False) 0 0 := by
  refine q_of (cc := cX4_pass) (maxL := 5) (ret := (some .int)) (by decide +kernel) rfl (Nat.le_of_ble_eq_true rfl) ?_
  intro p e s m below meth c A ls B hr htb hmn hP hD hS hl
  have hl : lv_has ls 5 [(0, .ref (o 0)), (1, .int x)] := hl
  have hi4 : ∀ w ∈ u_ws RX4 TX4 31, w ∈ wsX4_pass := by decide +kernel
  refine lv_aload_n B.hx B.hb dX4_pass_0 rfl (lv_at hl 0 rfl) ?_
  refine lv_iload_n B.hx B.hb dX4_pass_1 rfl (lv_at hl 1 rfl) ?_
  refine lv_iconst (v := (nI 1)) B.hx B.hb dX4_pass_2 (by decide) ?_
  refine lv_bipush (v := (nI 50)) B.hx B.hb dX4_pass_3 (by decide) ?_
  refine q_callS (As := [.int x, .int (nI 1), .int (nI 50)]) (rest := [.ref (o 0)]) B hP hD hS ((c4_isIn l D cI cZ cP cJ x (nI 1) (nI 50)).fr0 (mw cI cZ o J Z)) (cwS 3 B.hts gX4_pass_X4_isIn rfl rfl rfl (by decide +kernel) ⟨(Nat.le_of_ble_eq_true rfl), (Nat.le_of_ble_eq_true rfl)⟩) rfl hl.1 rfl (Nat.le_of_ble_eq_true rfl) dX4_pass_5 ⟨(Nat.le_of_ble_eq_true rfl), (Nat.le_of_ble_eq_true rfl)⟩ (fun E ce q9 H locs hx => False.elim hx) (fun v u H locs hp hP hD hS => ?_)
  replace hp := bI2 hp
  rcases hp with ⟨rfl, hrg0⟩ | ⟨rfl, hrg0⟩
  · have hP : va_P D vwCl (mw cI cZ o J Z) H := hP
    have hD : va_D A (mw cI cZ o J Z) := hD
    obtain ⟨d, hd, rfl⟩ := rg_1j (by decide) hrg0
    have hixd : ix (nI d) = d := ix_nI (by omega)
    refine lv_if_ne (tgt := 15) B.hx B.hb dX4_pass_8 (by decide) (fun _ => ?_) (fun c1 => absurd c1 (by decide))
    refine lv_aload_n B.hx B.hb dX4_pass_15 rfl (lv_at hl 0 rfl) ?_
    refine q_get B hP (C := RX4) (ref := "PaperKeeperModel") (T := TX4) (N := 31) (ci := 4) hi4 rfl 0 rfl 0 (by decide) (by decide +kernel) rfl (v := .int (J 0)) rfl dX4_pass_16 ?_
    refine q_top (v2 := .int (nI td)) (congrArg Value.int htd) ?_
    refine lv_iload_n B.hx B.hb dX4_pass_19 rfl (lv_at hl 1 rfl) ?_
    refine lv_iadd B.hx B.hb dX4_pass_20 ?_
    refine q_top (v2 := .int (nI ((td + d)))) (congrArg Value.int (nI_add _ _)) ?_
    refine lv_sipush (v := (nI 1000)) B.hx B.hb dX4_pass_21 (by decide) ?_
    refine lv_icmp_le (tgt := 31) B.hx B.hb dX4_pass_24 (by decide) (fun c2 => ?_) (fun c2 => ?_)
    · replace c2 := (nI_leI (by omega) (by omega)).mp c2
      have hle : nI td + nI d ≤ nI 1000 := by rw [nI_add]; exact (nI_leI (by omega) (by omega)).mpr c2
      refine lv_iconst (v := (nI 0)) B.hx B.hb dX4_pass_31 (by decide) ?_
      refine q_callV (As := [.int (nI 0)]) (rest := []) B hP hD hS (c4_can l D cI cZ cP cJ o J Z (nI 0)) (cwV 1 B.hts gX4_pass_X4_can rfl rfl rfl (by decide +kernel) ⟨(Nat.le_of_ble_eq_true rfl), (Nat.le_of_ble_eq_true rfl)⟩) 0 4 rfl rfl rfl rfl hl.1 rfl (Nat.le_of_ble_eq_true rfl) dX4_pass_32 ⟨(Nat.le_of_ble_eq_true rfl), (Nat.le_of_ble_eq_true rfl)⟩ (fun E ce q9 H locs hx => False.elim hx) (fun v u H locs hp hP hD hS => ?_)
      obtain rfl := hp
      have hP : va_P D vwCl (mw cI cZ o (va_up J 30 (nI 0)) Z) H := hP
      have hD : va_D A (mw cI cZ o (va_up J 30 (nI 0)) Z) := hD
      refine q_top (v2 := .int (nI 1)) rfl ?_
      refine lv_if_ne (tgt := 40) B.hx B.hb dX4_pass_35 (by decide) (fun _ => ?_) (fun c3 => absurd c3 (by decide))
      refine lv_iconst (v := (nI 0)) B.hx B.hb dX4_pass_40 (by decide) ?_
      refine lv_istore_n (lv' := [(2, .int (nI 0)), (0, .ref (o 0)), (1, .int (nI d))]) B.hx B.hb dX4_pass_41 rfl hl (by decide) rfl (fun ls hl => ?_)
      refine lv_iconst (v := (nI 0)) B.hx B.hb dX4_pass_42 (by decide) ?_
      refine lv_istore_n (lv' := [(3, .int (nI 0)), (2, .int (nI 0)), (0, .ref (o 0)), (1, .int (nI d))]) B.hx B.hb dX4_pass_43 rfl hl (by decide) rfl (fun ls hl => ?_)
      refine q_loopW (nL := 5) (fun k : Nat => k ≤ d) (fun k : Nat => d - k) (fun k : Nat => [(3, .int (nI k)), (2, .int (nI ((mpS td n (0, Z) k).1))), (0, .ref (o 0)), (1, .int (nI d))]) (fun k : Nat => mw cI cZ o (va_up (va_up J 0 (nI ((td + k)))) 30 (nI 0)) (mpS td n (0, Z) k).2) 0 (Nat.zero_le _) (lv_sub hl [0, 1, 2, 3] rfl) (show va_P D vwCl (mw cI cZ o (va_up (va_up J 0 (nI ((td + 0)))) 30 (nI 0)) (mpS td n (0, Z) 0).2) _ by rw [show nI (td + 0) = J 0 from htd.symm, up_same]; exact hP) (show va_D A (mw cI cZ o (va_up (va_up J 0 (nI ((td + 0)))) 30 (nI 0)) (mpS td n (0, Z) 0).2) by rw [show nI (td + 0) = J 0 from htd.symm, up_same]; exact hD) hS ?_
      intro k hk ih ls H locs hl hP hD hS
      have hk : k ≤ d := hk
      have hl : lv_has ls 5 [(3, .int (nI k)), (2, .int (nI ((mpS td n (0, Z) k).1))), (0, .ref (o 0)), (1, .int (nI d))] := hl
      have hP : va_P D vwCl (mw cI cZ o (va_up (va_up J 0 (nI ((td + k)))) 30 (nI 0)) (mpS td n (0, Z) k).2) H := hP
      have hD : va_D A (mw cI cZ o (va_up (va_up J 0 (nI ((td + k)))) 30 (nI 0)) (mpS td n (0, Z) k).2) := hD
      refine lv_iload_n B.hx B.hb dX4_pass_44 rfl (lv_at hl 0 rfl) ?_
      refine lv_iload_n B.hx B.hb dX4_pass_45 rfl (lv_at hl 3 rfl) ?_
      refine lv_icmp_ge (tgt := 136) B.hx B.hb dX4_pass_46 (by decide) (fun c4 => ?_) (fun c4 => ?_)
      · replace c4 := (nI_leI (by omega) (by omega)).mp c4
        obtain rfl : d = k := by omega
        refine lv_iload_n B.hx B.hb dX4_pass_136 rfl (lv_at hl 1 rfl) ?_
        have hK : kPass (nI d) (J 0) = 0 := by simp [kPass, hrg0, htd, hle]
        exact q_iret B hr hP hD hS (u := ()) (by rw [hK] <;> first | rfl | (simp only [if_true, hixd] <;> rfl)) (by rw [hK] <;> first | rfl | (simp only [if_true, hixd] <;> rfl)) (Nat.le_of_ble_eq_true rfl) (Nat.le_of_ble_eq_true rfl) dX4_pass_137
      · replace c4 := mt (nI_leI (by omega) (by omega)).mpr c4
        refine lv_aload_n B.hx B.hb dX4_pass_49 rfl (lv_at hl 2 rfl) ?_
        refine lv_dup B.hx B.hb dX4_pass_50 rfl ?_
        refine q_get B hP (C := RX4) (ref := "PaperKeeperModel") (T := TX4) (N := 31) (ci := 4) hi4 rfl 0 rfl 0 (by decide) (by decide +kernel) rfl (v := .int (nI ((td + k)))) rfl dX4_pass_51 ?_
        refine lv_iconst (v := (nI 1)) B.hx B.hb dX4_pass_54 (by decide) ?_
        refine lv_iadd B.hx B.hb dX4_pass_55 ?_
        refine q_top (v2 := .int (nI (((td + k) + 1)))) (congrArg Value.int (nI_add _ _)) ?_
        refine q_put B hP hD hS (C := RX4) (ref := "PaperKeeperModel") (T := TX4) (N := 31) (ci := 4) hi4 rfl tyX4 tyX4_ok nmX4 0 rfl 0 (by decide) (by decide +kernel) rfl rfl rfl (by rfl) (Nat.le_of_ble_eq_true rfl) dX4_pass_56 (w' := mw cI cZ o (va_up (va_up J 0 (nI (((td + k) + 1)))) 30 (nI 0)) (mpS td n (0, Z) k).2) rfl (fun H locs hP hD hS => ?_)
        refine lv_iconst (v := (nI 0)) B.hx B.hb dX4_pass_59 (by decide) ?_
        refine lv_istore (lv' := [(4, .int (nI 0)), (3, .int (nI k)), (2, .int (nI ((mpS td n (0, Z) k).1))), (0, .ref (o 0)), (1, .int (nI d))]) B.hx B.hb dX4_pass_60 hl (by decide) rfl (fun ls hl => ?_)
        refine q_loopW (nL := 5) (fun i : Nat => i ≤ n) (fun i : Nat => n - i) (fun i : Nat => [(4, .int (nI i)), (2, .int (nI ((mdS (nI (td + (k + 1))) n (mpS td n (0, Z) k) i).1))), (3, .int (nI k)), (0, .ref (o 0)), (1, .int (nI d))]) (fun i : Nat => mw cI cZ o (va_up (va_up J 0 (nI ((td + (k + 1))))) 30 (nI 0)) (mdS (nI (td + (k + 1))) n (mpS td n (0, Z) k) i).2) 0 (Nat.zero_le _) (lv_sub hl [0, 2, 1, 3, 4] rfl) hP hD hS ?_
        intro i hi ih2 ls H locs hl hP hD hS
        have hi : i ≤ n := hi
        have hl : lv_has ls 5 [(4, .int (nI i)), (2, .int (nI ((mdS (nI (td + (k + 1))) n (mpS td n (0, Z) k) i).1))), (3, .int (nI k)), (0, .ref (o 0)), (1, .int (nI d))] := hl
        have hP : va_P D vwCl (mw cI cZ o (va_up (va_up J 0 (nI ((td + (k + 1))))) 30 (nI 0)) (mdS (nI (td + (k + 1))) n (mpS td n (0, Z) k) i).2) H := hP
        have hD : va_D A (mw cI cZ o (va_up (va_up J 0 (nI ((td + (k + 1))))) 30 (nI 0)) (mdS (nI (td + (k + 1))) n (mpS td n (0, Z) k) i).2) := hD
        refine lv_iload B.hx B.hb dX4_pass_62 (lv_at hl 0 rfl) ?_
        refine lv_aload_n B.hx B.hb dX4_pass_64 rfl (lv_at hl 3 rfl) ?_
        refine q_get B hP (C := RX4) (ref := "PaperKeeperModel") (T := TX4) (N := 31) (ci := 4) hi4 rfl 0 rfl 5 (by decide) (by decide +kernel) rfl (v := .int (J 5)) rfl dX4_pass_65 ?_
        refine q_top (v2 := .int (nI n)) (congrArg Value.int hn) ?_
        refine lv_icmp_ge (tgt := 130) B.hx B.hb dX4_pass_68 (by decide) (fun c5 => ?_) (fun c5 => ?_)
        · replace c5 := (nI_leI (by omega) (by omega)).mp c5
          obtain rfl : n = i := by omega
          refine lv_iinc (v := (nI ((k + 1)))) (lv' := [(3, .int (nI ((k + 1)))), (4, .int (nI n)), (2, .int (nI ((mdS (nI (td + (k + 1))) n (mpS td n (0, Z) k) n).1))), (0, .ref (o 0)), (1, .int (nI d))]) B.hx B.hb dX4_pass_130 hl (k := 2) rfl (nI_1 _) (by decide) rfl (fun ls hl => ?_)
          refine lv_goto (tgt := 44) B.hx B.hb dX4_pass_133 (by decide) ?_
          exact ih (k + 1) (by omega) (by omega) ls H locs (lv_sub hl [0, 2, 3, 4] rfl) hP hD hS
        · replace c5 := mt (nI_leI (by omega) (by omega)).mpr c5
          refine lv_aload_n B.hx B.hb dX4_pass_71 rfl (lv_at hl 3 rfl) ?_
          refine q_get B hP (C := RX4) (ref := "PaperKeeperModel") (T := TX4) (N := 31) (ci := 4) hi4 rfl 0 rfl 8 (by decide) (by decide +kernel) rfl (v := .ref (o 8)) rfl dX4_pass_72 ?_
          refine lv_iload B.hx B.hb dX4_pass_75 (lv_at hl 0 rfl) ?_
          refine q_zald (f := ((mdS (nI (td + (k + 1))) n (mpS td n (0, Z) k) i).2 8)) B hP 6 rfl (j := i) rfl (by omega) (by decide) dX4_pass_77 ?_
          refine lv_if_eq (tgt := 124) B.hx B.hb dX4_pass_78 (by decide) (fun c6 => ?_) (fun c6 => ?_)
          · refine lv_iinc (v := (nI ((i + 1)))) (lv' := [(4, .int (nI ((i + 1)))), (2, .int (nI ((mdS (nI (td + (k + 1))) n (mpS td n (0, Z) k) i).1))), (3, .int (nI k)), (0, .ref (o 0)), (1, .int (nI d))]) B.hx B.hb dX4_pass_124 hl (k := 0) rfl (nI_1 _) (by decide) rfl (fun ls hl => ?_)
            refine lv_goto (tgt := 62) B.hx B.hb dX4_pass_127 (by decide) ?_
            exact ih2 (i + 1) (by omega) (by omega) ls H locs (show lv_has ls 5 [(4, .int (nI ((i + 1)))), (2, .int (nI ((mdS (nI (td + (k + 1))) n (mpS td n (0, Z) k) (i + 1)).1))), (3, .int (nI k)), (0, .ref (o 0)), (1, .int (nI d))] by rw [mdS_no (fun h => absurd c6 h.1)]; exact lv_sub hl [0, 1, 2, 3, 4] rfl) (show va_P D vwCl (mw cI cZ o (va_up (va_up J 0 (nI ((td + (k + 1))))) 30 (nI 0)) (mdS (nI (td + (k + 1))) n (mpS td n (0, Z) k) (i + 1)).2) H by rw [mdS_no (fun h => absurd c6 h.1)]; exact hP) (show va_D A (mw cI cZ o (va_up (va_up J 0 (nI ((td + (k + 1))))) 30 (nI 0)) (mdS (nI (td + (k + 1))) n (mpS td n (0, Z) k) (i + 1)).2) by rw [mdS_no (fun h => absurd c6 h.1)]; exact hD) hS
          · refine lv_aload_n B.hx B.hb dX4_pass_81 rfl (lv_at hl 3 rfl) ?_
            refine q_get B hP (C := RX4) (ref := "PaperKeeperModel") (T := TX4) (N := 31) (ci := 4) hi4 rfl 0 rfl 17 (by decide) (by decide +kernel) rfl (v := .ref (o 17)) rfl dX4_pass_82 ?_
            refine lv_iload B.hx B.hb dX4_pass_85 (lv_at hl 0 rfl) ?_
            refine q_zald (f := ((mdS (nI (td + (k + 1))) n (mpS td n (0, Z) k) i).2 17)) B hP 15 rfl (j := i) rfl (by omega) (by decide) dX4_pass_87 ?_
            refine lv_if_eq (tgt := 124) B.hx B.hb dX4_pass_88 (by decide) (fun c7 => ?_) (fun c7 => ?_)
            · refine lv_iinc (v := (nI ((i + 1)))) (lv' := [(4, .int (nI ((i + 1)))), (2, .int (nI ((mdS (nI (td + (k + 1))) n (mpS td n (0, Z) k) i).1))), (3, .int (nI k)), (0, .ref (o 0)), (1, .int (nI d))]) B.hx B.hb dX4_pass_124 hl (k := 0) rfl (nI_1 _) (by decide) rfl (fun ls hl => ?_)
              refine lv_goto (tgt := 62) B.hx B.hb dX4_pass_127 (by decide) ?_
              exact ih2 (i + 1) (by omega) (by omega) ls H locs (show lv_has ls 5 [(4, .int (nI ((i + 1)))), (2, .int (nI ((mdS (nI (td + (k + 1))) n (mpS td n (0, Z) k) (i + 1)).1))), (3, .int (nI k)), (0, .ref (o 0)), (1, .int (nI d))] by rw [mdS_no (fun h => absurd c7 h.2.1)]; exact lv_sub hl [0, 1, 2, 3, 4] rfl) (show va_P D vwCl (mw cI cZ o (va_up (va_up J 0 (nI ((td + (k + 1))))) 30 (nI 0)) (mdS (nI (td + (k + 1))) n (mpS td n (0, Z) k) (i + 1)).2) H by rw [mdS_no (fun h => absurd c7 h.2.1)]; exact hP) (show va_D A (mw cI cZ o (va_up (va_up J 0 (nI ((td + (k + 1))))) 30 (nI 0)) (mdS (nI (td + (k + 1))) n (mpS td n (0, Z) k) (i + 1)).2) by rw [mdS_no (fun h => absurd c7 h.2.1)]; exact hD) hS
            · refine lv_aload_n B.hx B.hb dX4_pass_91 rfl (lv_at hl 3 rfl) ?_
              refine q_get B hP (C := RX4) (ref := "PaperKeeperModel") (T := TX4) (N := 31) (ci := 4) hi4 rfl 0 rfl 18 (by decide) (by decide +kernel) rfl (v := .ref (o 18)) rfl dX4_pass_92 ?_
              refine lv_iload B.hx B.hb dX4_pass_95 (lv_at hl 0 rfl) ?_
              refine q_iald (f := ((mdS (nI (td + (k + 1))) n (mpS td n (0, Z) k) i).2 18)) B hP 16 rfl (j := i) rfl (by omega) (by decide) dX4_pass_97 ?_
              refine lv_aload_n B.hx B.hb dX4_pass_98 rfl (lv_at hl 3 rfl) ?_
              refine q_get B hP (C := RX4) (ref := "PaperKeeperModel") (T := TX4) (N := 31) (ci := 4) hi4 rfl 0 rfl 0 (by decide) (by decide +kernel) rfl (v := .int (nI ((td + (k + 1))))) rfl dX4_pass_99 ?_
              refine lv_icmp_gt (tgt := 124) B.hx B.hb dX4_pass_102 (by decide) (fun c8 => ?_) (fun c8 => ?_)
              · refine lv_iinc (v := (nI ((i + 1)))) (lv' := [(4, .int (nI ((i + 1)))), (2, .int (nI ((mdS (nI (td + (k + 1))) n (mpS td n (0, Z) k) i).1))), (3, .int (nI k)), (0, .ref (o 0)), (1, .int (nI d))]) B.hx B.hb dX4_pass_124 hl (k := 0) rfl (nI_1 _) (by decide) rfl (fun ls hl => ?_)
                refine lv_goto (tgt := 62) B.hx B.hb dX4_pass_127 (by decide) ?_
                exact ih2 (i + 1) (by omega) (by omega) ls H locs (show lv_has ls 5 [(4, .int (nI ((i + 1)))), (2, .int (nI ((mdS (nI (td + (k + 1))) n (mpS td n (0, Z) k) (i + 1)).1))), (3, .int (nI k)), (0, .ref (o 0)), (1, .int (nI d))] by rw [mdS_no (fun h => absurd c8 h.2.2.1)]; exact lv_sub hl [0, 1, 2, 3, 4] rfl) (show va_P D vwCl (mw cI cZ o (va_up (va_up J 0 (nI ((td + (k + 1))))) 30 (nI 0)) (mdS (nI (td + (k + 1))) n (mpS td n (0, Z) k) (i + 1)).2) H by rw [mdS_no (fun h => absurd c8 h.2.2.1)]; exact hP) (show va_D A (mw cI cZ o (va_up (va_up J 0 (nI ((td + (k + 1))))) 30 (nI 0)) (mdS (nI (td + (k + 1))) n (mpS td n (0, Z) k) (i + 1)).2) by rw [mdS_no (fun h => absurd c8 h.2.2.1)]; exact hD) hS
              · refine lv_aload_n B.hx B.hb dX4_pass_105 rfl (lv_at hl 3 rfl) ?_
                refine lv_iload B.hx B.hb dX4_pass_106 (lv_at hl 0 rfl) ?_
                refine q_callV (As := [.int (nI i)]) (rest := []) B hP hD hS (c4_nextReader l D cI cZ cP cJ o (va_up (va_up J 0 (nI ((td + (k + 1))))) 30 (nI 0)) (mdS (nI (td + (k + 1))) n (mpS td n (0, Z) k) i).2 i (show i < 8 by omega)) (cwV 1 B.hts gX4_pass_X4_nextReader rfl rfl rfl (by decide +kernel) ⟨(Nat.le_of_ble_eq_true rfl), (Nat.le_of_ble_eq_true rfl)⟩) 0 4 rfl rfl rfl rfl hl.1 rfl (Nat.le_of_ble_eq_true rfl) dX4_pass_108 ⟨(Nat.le_of_ble_eq_true rfl), (Nat.le_of_ble_eq_true rfl)⟩ (fun E ce q9 H locs hx => False.elim hx) (fun v u H locs hp hP hD hS => ?_)
                obtain rfl := hp
                have hP : va_P D vwCl (mw cI cZ o (va_up (va_up J 0 (nI ((td + (k + 1))))) 30 (nI 0)) (mdS (nI (td + (k + 1))) n (mpS td n (0, Z) k) i).2) H := hP
                have hD : va_D A (mw cI cZ o (va_up (va_up J 0 (nI ((td + (k + 1))))) 30 (nI 0)) (mdS (nI (td + (k + 1))) n (mpS td n (0, Z) k) i).2) := hD
                refine lv_iconst (v := (-1)) B.hx B.hb dX4_pass_111 (by decide) ?_
                refine lv_icmp_ne (tgt := 124) B.hx B.hb dX4_pass_112 (by decide) (fun c9 => ?_) (fun c9 => ?_)
                · refine lv_iinc (v := (nI ((i + 1)))) (lv' := [(4, .int (nI ((i + 1)))), (2, .int (nI ((mdS (nI (td + (k + 1))) n (mpS td n (0, Z) k) i).1))), (3, .int (nI k)), (0, .ref (o 0)), (1, .int (nI d))]) B.hx B.hb dX4_pass_124 hl (k := 0) rfl (nI_1 _) (by decide) rfl (fun ls hl => ?_)
                  refine lv_goto (tgt := 62) B.hx B.hb dX4_pass_127 (by decide) ?_
                  exact ih2 (i + 1) (by omega) (by omega) ls H locs (show lv_has ls 5 [(4, .int (nI ((i + 1)))), (2, .int (nI ((mdS (nI (td + (k + 1))) n (mpS td n (0, Z) k) (i + 1)).1))), (3, .int (nI k)), (0, .ref (o 0)), (1, .int (nI d))] by rw [mdS_no (fun h => absurd h.2.2.2 c9)]; exact lv_sub hl [0, 1, 2, 3, 4] rfl) (show va_P D vwCl (mw cI cZ o (va_up (va_up J 0 (nI ((td + (k + 1))))) 30 (nI 0)) (mdS (nI (td + (k + 1))) n (mpS td n (0, Z) k) (i + 1)).2) H by rw [mdS_no (fun h => absurd h.2.2.2 c9)]; exact hP) (show va_D A (mw cI cZ o (va_up (va_up J 0 (nI ((td + (k + 1))))) 30 (nI 0)) (mdS (nI (td + (k + 1))) n (mpS td n (0, Z) k) (i + 1)).2) by rw [mdS_no (fun h => absurd h.2.2.2 c9)]; exact hD) hS
                · refine lv_aload_n B.hx B.hb dX4_pass_115 rfl (lv_at hl 3 rfl) ?_
                  refine lv_iload B.hx B.hb dX4_pass_116 (lv_at hl 0 rfl) ?_
                  obtain ⟨hw1, hw2, hw3⟩ := wfm_mdS (t := nI (td + (k + 1))) (n := n) (k := i) (i := i) (wfm_mpS (td := td) (n := n) (k := k) (s := (0, Z)) (hwf i (by omega)))
                  refine q_callV (As := [.int (nI i)]) (rest := []) B hP hD hS (c4_comes l D cI cZ cP cJ o (va_up (va_up J 0 (nI ((td + (k + 1))))) 30 (nI 0)) (mdS (nI (td + (k + 1))) n (mpS td n (0, Z) k) i).2 n hn hn8 i (by omega) (ix ((mdS (nI (td + (k + 1))) n (mpS td n (0, Z) k) i).2 21 i)) hw1 (hw3 c6)) (cwV 1 B.hts gX4_pass_X4_comes rfl rfl rfl (by decide +kernel) ⟨(Nat.le_of_ble_eq_true rfl), (Nat.le_of_ble_eq_true rfl)⟩) 0 4 rfl rfl rfl rfl hl.1 rfl (Nat.le_of_ble_eq_true rfl) dX4_pass_118 ⟨(Nat.le_of_ble_eq_true rfl), (Nat.le_of_ble_eq_true rfl)⟩ (fun E ce q9 H locs hx => False.elim hx) (fun v u H locs hp hP hD hS => ?_)
                  obtain rfl := hp
                  have hP : va_P D vwCl (mw cI cZ o (va_up (va_up J 0 (nI ((td + (k + 1))))) 30 (nI 0)) (comZ (nI (td + (k + 1))) n i (mdS (nI (td + (k + 1))) n (mpS td n (0, Z) k) i).2)) H := hP
                  have hD : va_D A (mw cI cZ o (va_up (va_up J 0 (nI ((td + (k + 1))))) 30 (nI 0)) (comZ (nI (td + (k + 1))) n i (mdS (nI (td + (k + 1))) n (mpS td n (0, Z) k) i).2)) := hD
                  refine lv_iinc (v := (nI (((mdS (nI (td + (k + 1))) n (mpS td n (0, Z) k) i).1 + 1)))) (lv' := [(2, .int (nI (((mdS (nI (td + (k + 1))) n (mpS td n (0, Z) k) i).1 + 1)))), (4, .int (nI i)), (3, .int (nI k)), (0, .ref (o 0)), (1, .int (nI d))]) B.hx B.hb dX4_pass_121 hl (k := 1) rfl (nI_1 _) (by decide) rfl (fun ls hl => ?_)
                  refine lv_iinc (v := (nI ((i + 1)))) (lv' := [(4, .int (nI ((i + 1)))), (2, .int (nI (((mdS (nI (td + (k + 1))) n (mpS td n (0, Z) k) i).1 + 1)))), (3, .int (nI k)), (0, .ref (o 0)), (1, .int (nI d))]) B.hx B.hb dX4_pass_124 hl (k := 1) rfl (nI_1 _) (by decide) rfl (fun ls hl => ?_)
                  refine lv_goto (tgt := 62) B.hx B.hb dX4_pass_127 (by decide) ?_
                  exact ih2 (i + 1) (by omega) (by omega) ls H locs (show lv_has ls 5 [(4, .int (nI ((i + 1)))), (2, .int (nI ((mdS (nI (td + (k + 1))) n (mpS td n (0, Z) k) (i + 1)).1))), (3, .int (nI k)), (0, .ref (o 0)), (1, .int (nI d))] by rw [mdS_yes ⟨c6, c7, c8, c9⟩]; exact lv_sub hl [0, 1, 2, 3, 4] rfl) (show va_P D vwCl (mw cI cZ o (va_up (va_up J 0 (nI ((td + (k + 1))))) 30 (nI 0)) (mdS (nI (td + (k + 1))) n (mpS td n (0, Z) k) (i + 1)).2) H by rw [mdS_yes ⟨c6, c7, c8, c9⟩]; exact hP) (show va_D A (mw cI cZ o (va_up (va_up J 0 (nI ((td + (k + 1))))) 30 (nI 0)) (mdS (nI (td + (k + 1))) n (mpS td n (0, Z) k) (i + 1)).2) by rw [mdS_yes ⟨c6, c7, c8, c9⟩]; exact hD) hS
    · replace c2 := mt (nI_leI (by omega) (by omega)).mpr c2
      have hle : ¬ nI td + nI d ≤ nI 1000 := by rw [nI_add]; exact mt (nI_leI (by omega) (by omega)).mp c2
      refine lv_iconst (v := (nI 2)) B.hx B.hb dX4_pass_27 (by decide) ?_
      refine lv_goto (tgt := 32) B.hx B.hb dX4_pass_28 (by decide) ?_
      refine q_callV (As := [.int (nI 2)]) (rest := []) B hP hD hS (c4_can l D cI cZ cP cJ o J Z (nI 2)) (cwV 1 B.hts gX4_pass_X4_can rfl rfl rfl (by decide +kernel) ⟨(Nat.le_of_ble_eq_true rfl), (Nat.le_of_ble_eq_true rfl)⟩) 0 4 rfl rfl rfl rfl hl.1 rfl (Nat.le_of_ble_eq_true rfl) dX4_pass_32 ⟨(Nat.le_of_ble_eq_true rfl), (Nat.le_of_ble_eq_true rfl)⟩ (fun E ce q9 H locs hx => False.elim hx) (fun v u H locs hp hP hD hS => ?_)
      obtain rfl := hp
      have hP : va_P D vwCl (mw cI cZ o (va_up J 30 (nI 2)) Z) H := hP
      have hD : va_D A (mw cI cZ o (va_up J 30 (nI 2)) Z) := hD
      refine q_top (v2 := .int (nI 0)) rfl ?_
      refine lv_if_ne (tgt := 40) B.hx B.hb dX4_pass_35 (by decide) (fun c10 => absurd c10 (by decide)) (fun _ => ?_)
      refine lv_iconst (v := (nI 0)) B.hx B.hb dX4_pass_38 (by decide) ?_
      have hK : kPass (nI d) (J 0) = 2 := by simp [kPass, hrg0, htd, hle]
      exact q_iret B hr hP hD hS (u := ()) (by rw [hK] <;> first | rfl | (simp only [if_true, hixd] <;> rfl)) (by rw [hK] <;> first | rfl | (simp only [if_true, hixd] <;> rfl)) (Nat.le_of_ble_eq_true rfl) (Nat.le_of_ble_eq_true rfl) dX4_pass_39
  · have hP : va_P D vwCl (mw cI cZ o J Z) H := hP
    have hD : va_D A (mw cI cZ o J Z) := hD
    refine lv_if_ne (tgt := 15) B.hx B.hb dX4_pass_8 (by decide) (fun c11 => absurd c11 (by decide)) (fun _ => ?_)
    refine lv_iconst (v := (nI 1)) B.hx B.hb dX4_pass_11 (by decide) ?_
    refine lv_goto (tgt := 32) B.hx B.hb dX4_pass_12 (by decide) ?_
    refine q_callV (As := [.int (nI 1)]) (rest := []) B hP hD hS (c4_can l D cI cZ cP cJ o J Z (nI 1)) (cwV 1 B.hts gX4_pass_X4_can rfl rfl rfl (by decide +kernel) ⟨(Nat.le_of_ble_eq_true rfl), (Nat.le_of_ble_eq_true rfl)⟩) 0 4 rfl rfl rfl rfl hl.1 rfl (Nat.le_of_ble_eq_true rfl) dX4_pass_32 ⟨(Nat.le_of_ble_eq_true rfl), (Nat.le_of_ble_eq_true rfl)⟩ (fun E ce q9 H locs hx => False.elim hx) (fun v u H locs hp hP hD hS => ?_)
    obtain rfl := hp
    have hP : va_P D vwCl (mw cI cZ o (va_up J 30 (nI 1)) Z) H := hP
    have hD : va_D A (mw cI cZ o (va_up J 30 (nI 1)) Z) := hD
    refine q_top (v2 := .int (nI 0)) rfl ?_
    refine lv_if_ne (tgt := 40) B.hx B.hb dX4_pass_35 (by decide) (fun c12 => absurd c12 (by decide)) (fun _ => ?_)
    refine lv_iconst (v := (nI 0)) B.hx B.hb dX4_pass_38 (by decide) ?_
    have hK : kPass x (J 0) = 1 := by simp [kPass, hrg0]
    exact q_iret B hr hP hD hS (u := ()) (by rw [hK] <;> first | rfl | (simp only [if_true] <;> rfl)) (by rw [hK] <;> first | rfl | (simp only [if_true] <;> rfl)) (Nat.le_of_ble_eq_true rfl) (Nat.le_of_ble_eq_true rfl) dX4_pass_39
