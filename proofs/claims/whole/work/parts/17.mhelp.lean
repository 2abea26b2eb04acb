/-! The reference: what its methods call. -/
set_option maxHeartbeats 4000000 in
set_option maxRecDepth 100000 in
theorem c4_can (l : Launch) (D : va_G) (cI cZ cP cJ : ClassId) (o : Nat → Nat) (J : Nat → Int32) (Z : Nat → Nat → Int32) (x : Int32) : q_C l yX4_can wsX4_can ({ frames := 0, cells := 0, slots := 0, locals := 0 }) D cI cZ cP cJ [.ref (o 0), .int x] (mw cI cZ o J Z) (S := Unit) (fun v _ => v = some (.int (if x = 0 then nI 1 else nI 0))) (fun _ => mw cI cZ o (va_up J 30 x) Z) (fun _ => False) 0 0 := by
  refine q_of (cc := cX4_can) (maxL := 2) (ret := (some .boolean)) (by decide +kernel) rfl (Nat.le_of_ble_eq_true rfl) ?_
  intro p e s m below meth c A ls B hr htb hmn hP hD hS hl
  have hl : lv_has ls 2 [(0, .ref (o 0)), (1, .int x)] := hl
  have hi4 : ∀ w ∈ u_ws RX4 TX4 31, w ∈ wsX4_can := by decide +kernel
  refine lv_aload_n B.hx B.hb dX4_can_0 rfl (lv_at hl 0 rfl) ?_
  refine lv_iload_n B.hx B.hb dX4_can_1 rfl (lv_at hl 1 rfl) ?_
  refine q_put B hP hD hS (C := RX4) (ref := "PaperKeeperModel") (T := TX4) (N := 31) (ci := 4) hi4 rfl tyX4 tyX4_ok nmX4 0 rfl 30 (by decide) (by decide +kernel) rfl rfl rfl (by rfl) (Nat.le_of_ble_eq_true rfl) dX4_can_2 (w' := mw cI cZ o (va_up J 30 x) Z) rfl (fun H locs hP hD hS => ?_)
  refine lv_iload_n B.hx B.hb dX4_can_5 rfl (lv_at hl 1 rfl) ?_
  refine lv_if_ne (tgt := 13) B.hx B.hb dX4_can_6 (by decide) (fun c1 => ?_) (fun c1 => ?_)
  · refine lv_iconst (v := (nI 0)) B.hx B.hb dX4_can_13 (by decide) ?_
    exact q_zret B hr hP hD hS (by decide) (u := ()) rfl (by rw [if_neg c1]) (Nat.le_of_ble_eq_true rfl) (Nat.le_of_ble_eq_true rfl) dX4_can_14
  · refine lv_iconst (v := (nI 1)) B.hx B.hb dX4_can_9 (by decide) ?_
    refine lv_goto (tgt := 14) B.hx B.hb dX4_can_10 (by decide) ?_
    exact q_zret B hr hP hD hS (by decide) (u := ()) rfl (by rw [if_pos c1]) (Nat.le_of_ble_eq_true rfl) (Nat.le_of_ble_eq_true rfl) dX4_can_14
set_option maxHeartbeats 4000000 in
set_option maxRecDepth 100000 in
theorem c4_isIn (l : Launch) (D : va_G) (cI cZ cP cJ : ClassId) (x lo hi : Int32) : q_C l yX4_isIn wsX4_isIn ({ frames := 0, cells := 0, slots := 0, locals := 0 }) D cI cZ cP cJ [.int x, .int lo, .int hi] (([] : va_W)) (S := Unit) (fun v _ => v = some (.int (bI (rg x lo hi)))) (fun _ => ([] : va_W)) (fun _ => False) 0 0 := by
  refine q_of (cc := cX4_isIn) (maxL := 3) (ret := (some .boolean)) (by decide +kernel) rfl (Nat.le_of_ble_eq_true rfl) ?_
  intro p e s m below meth c A ls B hr htb hmn hP hD hS hl
  have hl : lv_has ls 3 [(0, .int x), (1, .int lo), (2, .int hi)] := hl
  refine lv_iload_n B.hx B.hb dX4_isIn_0 rfl (lv_at hl 0 rfl) ?_
  refine lv_iload_n B.hx B.hb dX4_isIn_1 rfl (lv_at hl 1 rfl) ?_
  refine lv_icmp_lt (tgt := 14) B.hx B.hb dX4_isIn_2 (by decide) (fun c1 => ?_) (fun c1 => ?_)
  · refine lv_iconst (v := (nI 0)) B.hx B.hb dX4_isIn_14 (by decide) ?_
    exact q_zret B hr hP hD hS (by decide) (u := ()) rfl (congrArg (fun z => some (Value.int z)) (rg_01 c1)) (Nat.le_of_ble_eq_true rfl) (Nat.le_of_ble_eq_true rfl) dX4_isIn_15
  · refine lv_iload_n B.hx B.hb dX4_isIn_5 rfl (lv_at hl 0 rfl) ?_
    refine lv_iload_n B.hx B.hb dX4_isIn_6 rfl (lv_at hl 2 rfl) ?_
    refine lv_icmp_gt (tgt := 14) B.hx B.hb dX4_isIn_7 (by decide) (fun c2 => ?_) (fun c2 => ?_)
    · refine lv_iconst (v := (nI 0)) B.hx B.hb dX4_isIn_14 (by decide) ?_
      exact q_zret B hr hP hD hS (by decide) (u := ()) rfl (congrArg (fun z => some (Value.int z)) (rg_02 c2)) (Nat.le_of_ble_eq_true rfl) (Nat.le_of_ble_eq_true rfl) dX4_isIn_15
    · refine lv_iconst (v := (nI 1)) B.hx B.hb dX4_isIn_10 (by decide) ?_
      refine lv_goto (tgt := 15) B.hx B.hb dX4_isIn_11 (by decide) ?_
      exact q_zret B hr hP hD hS (by decide) (u := ()) rfl (congrArg (fun z => some (Value.int z)) (rg_1 c1 c2)) (Nat.le_of_ble_eq_true rfl) (Nat.le_of_ble_eq_true rfl) dX4_isIn_15
set_option maxHeartbeats 4000000 in
set_option maxRecDepth 100000 in
theorem c4_isPerson (l : Launch) (D : va_G) (cI cZ cP cJ : ClassId) (x : Int32) : q_C l yX4_isPerson wsX4_isPerson ({ frames := 1, cells := 0, slots := 0, locals := 22 }) D cI cZ cP cJ [.int x] (([] : va_W)) (S := Unit) (fun v _ => v = some (.int (bI (rg x (nI 0) (nI 5))))) (fun _ => ([] : va_W)) (fun _ => False) 0 0 := by
  refine q_of (cc := cX4_isPerson) (maxL := 1) (ret := (some .boolean)) (by decide +kernel) rfl (Nat.le_of_ble_eq_true rfl) ?_
  intro p e s m below meth c A ls B hr htb hmn hP hD hS hl
  have hl : lv_has ls 1 [(0, .int x)] := hl
  refine lv_iload_n B.hx B.hb dX4_isPerson_0 rfl (lv_at hl 0 rfl) ?_
  refine lv_iconst (v := (nI 0)) B.hx B.hb dX4_isPerson_1 (by decide) ?_
  refine lv_iconst (v := (nI 5)) B.hx B.hb dX4_isPerson_2 (by decide) ?_
  refine q_callS (As := [.int x, .int (nI 0), .int (nI 5)]) (rest := []) B hP hD hS ((c4_isIn l D cI cZ cP cJ x (nI 0) (nI 5)).fr0 (([] : va_W))) (cwS 3 B.hts gX4_isPerson_X4_isIn rfl rfl rfl (by decide +kernel) ⟨(Nat.le_of_ble_eq_true rfl), (Nat.le_of_ble_eq_true rfl)⟩) rfl hl.1 rfl (Nat.le_of_ble_eq_true rfl) dX4_isPerson_3 ⟨(Nat.le_of_ble_eq_true rfl), (Nat.le_of_ble_eq_true rfl)⟩ (fun E ce q9 H locs hx => False.elim hx) (fun v u H locs hp hP hD hS => ?_)
  obtain rfl := hp
  have hP : va_P D vwCl (([] : va_W)) H := hP
  have hD : va_D A (([] : va_W)) := hD
  exact q_zret B hr hP hD hS (bI_narrow _) (u := ()) rfl rfl (Nat.le_of_ble_eq_true rfl) (Nat.le_of_ble_eq_true rfl) dX4_isPerson_6
set_option maxHeartbeats 4000000 in
set_option maxRecDepth 100000 in
theorem c4_isPaper (l : Launch) (D : va_G) (cI cZ cP cJ : ClassId) (o : Nat → Nat) (J : Nat → Int32) (Z : Nat → Nat → Int32) (n : Nat) (hn : J 5 = nI n) (hn8 : n ≤ 8) (x : Int32) : q_C l yX4_isPaper wsX4_isPaper ({ frames := 1, cells := 0, slots := 0, locals := 22 }) D cI cZ cP cJ [.ref (o 0), .int x] (mw cI cZ o J Z) (S := Unit) (fun v _ => v = some (.int (bI (inr x n)))) (fun _ => mw cI cZ o J Z) (fun _ => False) 0 0 := by
  refine q_of (cc := cX4_isPaper) (maxL := 2) (ret := (some .boolean)) (by decide +kernel) rfl (Nat.le_of_ble_eq_true rfl) ?_
  intro p e s m below meth c A ls B hr htb hmn hP hD hS hl
  have hl : lv_has ls 2 [(0, .ref (o 0)), (1, .int x)] := hl
  have hi4 : ∀ w ∈ u_ws RX4 TX4 31, w ∈ wsX4_isPaper := by decide +kernel
  refine lv_iload_n B.hx B.hb dX4_isPaper_0 rfl (lv_at hl 1 rfl) ?_
  refine lv_iconst (v := (nI 0)) B.hx B.hb dX4_isPaper_1 (by decide) ?_
  refine lv_aload_n B.hx B.hb dX4_isPaper_2 rfl (lv_at hl 0 rfl) ?_
  refine q_get B hP (C := RX4) (ref := "PaperKeeperModel") (T := TX4) (N := 31) (ci := 4) hi4 rfl 0 rfl 5 (by decide) (by decide +kernel) rfl (v := .int (J 5)) rfl dX4_isPaper_3 ?_
  refine q_top (v2 := .int (nI n)) (congrArg Value.int hn) ?_
  refine lv_iconst (v := (nI 1)) B.hx B.hb dX4_isPaper_6 (by decide) ?_
  refine lv_isub B.hx B.hb dX4_isPaper_7 ?_
  refine q_top (v2 := .int (vn n)) (congrArg Value.int (vn_eq n)) ?_
  refine q_callS (As := [.int x, .int (nI 0), .int (vn n)]) (rest := []) B hP hD hS ((c4_isIn l D cI cZ cP cJ x (nI 0) (vn n)).fr0 (mw cI cZ o J Z)) (cwS 3 B.hts gX4_isPaper_X4_isIn rfl rfl rfl (by decide +kernel) ⟨(Nat.le_of_ble_eq_true rfl), (Nat.le_of_ble_eq_true rfl)⟩) rfl hl.1 rfl (Nat.le_of_ble_eq_true rfl) dX4_isPaper_8 ⟨(Nat.le_of_ble_eq_true rfl), (Nat.le_of_ble_eq_true rfl)⟩ (fun E ce q9 H locs hx => False.elim hx) (fun v u H locs hp hP hD hS => ?_)
  obtain rfl := hp
  have hP : va_P D vwCl (mw cI cZ o J Z) H := hP
  have hD : va_D A (mw cI cZ o J Z) := hD
  exact q_zret B hr hP hD hS (bI_narrow _) (u := ()) rfl (by rw [inr_vn (by omega)]) (Nat.le_of_ble_eq_true rfl) (Nat.le_of_ble_eq_true rfl) dX4_isPaper_11
set_option maxHeartbeats 4000000 in
set_option maxRecDepth 100000 in
theorem c4_thrown (l : Launch) (D : va_G) (cI cZ cP cJ : ClassId) (o : Nat → Nat) (J : Nat → Int32) (Z : Nat → Nat → Int32) : q_C l yX4_thrown wsX4_thrown ({ frames := 0, cells := 0, slots := 0, locals := 0 }) D cI cZ cP cJ [.ref (o 0)] (mw cI cZ o J Z) (S := Unit) (fun v _ => v = some (.int (J 30))) (fun _ => mw cI cZ o J Z) (fun _ => False) 0 0 := by
  refine q_of (cc := cX4_thrown) (maxL := 1) (ret := (some .int)) (by decide +kernel) rfl (Nat.le_of_ble_eq_true rfl) ?_
  intro p e s m below meth c A ls B hr htb hmn hP hD hS hl
  have hl : lv_has ls 1 [(0, .ref (o 0))] := hl
  have hi4 : ∀ w ∈ u_ws RX4 TX4 31, w ∈ wsX4_thrown := by decide +kernel
  refine lv_aload_n B.hx B.hb dX4_thrown_0 rfl (lv_at hl 0 rfl) ?_
  refine q_get B hP (C := RX4) (ref := "PaperKeeperModel") (T := TX4) (N := 31) (ci := 4) hi4 rfl 0 rfl 30 (by decide) (by decide +kernel) rfl (v := .int (J 30)) rfl dX4_thrown_1 ?_
  exact q_iret B hr hP hD hS (u := ()) rfl rfl (Nat.le_of_ble_eq_true rfl) (Nat.le_of_ble_eq_true rfl) dX4_thrown_4
set_option maxHeartbeats 4000000 in
set_option maxRecDepth 100000 in
theorem c4_count (l : Launch) (D : va_G) (cI cZ cP cJ : ClassId) (w : va_W) (q q0 a1 L : Nat) (f : Nat → Int32) (ha : w[q0]? = some (a1, .inl (cZ, L, .inl f))) (s0 k : Nat) (hL : s0 + k ≤ L) (hL2 : L < 2 ^ 30) : q_C l yX4_count wsX4_count ({ frames := 0, cells := 0, slots := 0, locals := 0 }) D cI cZ cP cJ [.ref (q), .ref (a1), .int (nI s0), .int (nI k)] (w) (S := Unit) (fun v _ => v = some (.int (nI (pN (fun i => decide (¬ f (s0 + i) = 0)) k)))) (fun _ => w) (fun _ => False) 0 0 := by
  refine q_of (cc := cX4_count) (maxL := 6) (ret := (some .int)) (by decide +kernel) rfl (Nat.le_of_ble_eq_true rfl) ?_
  intro p e s m below meth c A ls B hr htb hmn hP hD hS hl
  have hl : lv_has ls 6 [(0, .ref (q)), (1, .ref (a1)), (2, .int (nI s0)), (3, .int (nI k))] := hl
  refine lv_iconst (v := (nI 0)) B.hx B.hb dX4_count_0 (by decide) ?_
  refine lv_istore (lv' := [(4, .int (nI 0)), (0, .ref (q)), (1, .ref (a1)), (2, .int (nI s0)), (3, .int (nI k))]) B.hx B.hb dX4_count_1 hl (by decide) rfl (fun ls hl => ?_)
  refine lv_iload_n B.hx B.hb dX4_count_3 rfl (lv_at hl 3 rfl) ?_
  refine lv_istore (lv' := [(5, .int (nI s0)), (4, .int (nI 0)), (0, .ref (q)), (1, .ref (a1)), (2, .int (nI s0)), (3, .int (nI k))]) B.hx B.hb dX4_count_4 hl (by decide) rfl (fun ls hl => ?_)
  refine q_loop (nL := 6) (fun i : Nat => i ≤ k) (fun i : Nat => k - i) (fun i : Nat => [(5, .int (nI ((s0 + i)))), (4, .int (nI (pN (fun i => decide (¬ f (s0 + i) = 0)) i))), (0, .ref (q)), (1, .ref (a1)), (2, .int (nI s0)), (3, .int (nI k))]) (0) (Nat.zero_le _) (lv_sub hl [0, 1, 2, 3, 4, 5] rfl) ?_
  intro i1 hI2 ih3 ls hl
  have hI2 : i1 ≤ k := hI2
  have hl : lv_has ls 6 [(5, .int (nI ((s0 + i1)))), (4, .int (nI (pN (fun i => decide (¬ f (s0 + i) = 0)) i1))), (0, .ref (q)), (1, .ref (a1)), (2, .int (nI s0)), (3, .int (nI k))] := hl
  refine lv_iload B.hx B.hb dX4_count_6 (lv_at hl 0 rfl) ?_
  refine lv_iload_n B.hx B.hb dX4_count_8 rfl (lv_at hl 4 rfl) ?_
  refine lv_iload_n B.hx B.hb dX4_count_9 rfl (lv_at hl 5 rfl) ?_
  refine lv_iadd B.hx B.hb dX4_count_10 ?_
  refine q_top (v2 := .int (nI ((s0 + k)))) (congrArg Value.int (nI_add _ _)) ?_
  refine lv_icmp_ge (tgt := 37) B.hx B.hb dX4_count_11 (by decide) (fun c4 => ?_) (fun c4 => ?_)
  · replace c4 := (nI_leI (by omega) (by omega)).mp c4
    refine lv_iload B.hx B.hb dX4_count_37 (lv_at hl 1 rfl) ?_
    exact q_iret B hr hP hD hS (u := ()) rfl (by rw [show k = i1 by omega]) (Nat.le_of_ble_eq_true rfl) (Nat.le_of_ble_eq_true rfl) dX4_count_39
  · replace c4 := mt (nI_leI (by omega) (by omega)).mpr c4
    refine lv_iload B.hx B.hb dX4_count_14 (lv_at hl 1 rfl) ?_
    refine lv_aload_n B.hx B.hb dX4_count_16 rfl (lv_at hl 3 rfl) ?_
    refine lv_iload B.hx B.hb dX4_count_17 (lv_at hl 0 rfl) ?_
    refine q_zald B hP q0 ha (j := (s0 + i1)) rfl (by omega) (by omega) dX4_count_19 ?_
    refine lv_if_eq (tgt := 27) B.hx B.hb dX4_count_20 (by decide) (fun c5 => ?_) (fun c5 => ?_)
    · refine lv_iconst (v := (nI 0)) B.hx B.hb dX4_count_27 (by decide) ?_
      refine lv_iadd B.hx B.hb dX4_count_28 ?_
      refine q_top (v2 := .int (nI ((pN (fun i => decide (¬ f (s0 + i) = 0)) i1 + 0)))) (congrArg Value.int (nI_add _ _)) ?_
      refine q_top (v2 := .int (nI (pN (fun i => decide (¬ f (s0 + i) = 0)) (i1 + 1)))) (by rw [pN_no (ok := (fun i => decide (¬ f (s0 + i) = 0))) (i := i1) (by simp [c5])]; rfl) ?_
      refine lv_istore (lv' := [(4, .int (nI (pN (fun i => decide (¬ f (s0 + i) = 0)) (i1 + 1)))), (5, .int (nI ((s0 + i1)))), (0, .ref (q)), (1, .ref (a1)), (2, .int (nI s0)), (3, .int (nI k))]) B.hx B.hb dX4_count_29 hl (by decide) rfl (fun ls hl => ?_)
      refine lv_iinc (v := (nI (((s0 + i1) + 1)))) (lv' := [(5, .int (nI (((s0 + i1) + 1)))), (4, .int (nI (pN (fun i => decide (¬ f (s0 + i) = 0)) (i1 + 1)))), (0, .ref (q)), (1, .ref (a1)), (2, .int (nI s0)), (3, .int (nI k))]) B.hx B.hb dX4_count_31 hl (k := 1) rfl (nI_1 _) (by decide) rfl (fun ls hl => ?_)
      refine lv_goto (tgt := 6) B.hx B.hb dX4_count_34 (by decide) ?_
      exact ih3 (i1 + 1) (by omega) (by omega) ls (lv_sub hl [0, 1, 2, 3, 4, 5] rfl)
    · refine lv_iconst (v := (nI 1)) B.hx B.hb dX4_count_23 (by decide) ?_
      refine lv_goto (tgt := 28) B.hx B.hb dX4_count_24 (by decide) ?_
      refine lv_iadd B.hx B.hb dX4_count_28 ?_
      refine q_top (v2 := .int (nI ((pN (fun i => decide (¬ f (s0 + i) = 0)) i1 + 1)))) (congrArg Value.int (nI_add _ _)) ?_
      refine q_top (v2 := .int (nI (pN (fun i => decide (¬ f (s0 + i) = 0)) (i1 + 1)))) (by rw [pN_yes (ok := (fun i => decide (¬ f (s0 + i) = 0))) (i := i1) (by simp [c5])]) ?_
      refine lv_istore (lv' := [(4, .int (nI (pN (fun i => decide (¬ f (s0 + i) = 0)) (i1 + 1)))), (5, .int (nI ((s0 + i1)))), (0, .ref (q)), (1, .ref (a1)), (2, .int (nI s0)), (3, .int (nI k))]) B.hx B.hb dX4_count_29 hl (by decide) rfl (fun ls hl => ?_)
      refine lv_iinc (v := (nI (((s0 + i1) + 1)))) (lv' := [(5, .int (nI (((s0 + i1) + 1)))), (4, .int (nI (pN (fun i => decide (¬ f (s0 + i) = 0)) (i1 + 1)))), (0, .ref (q)), (1, .ref (a1)), (2, .int (nI s0)), (3, .int (nI k))]) B.hx B.hb dX4_count_31 hl (k := 1) rfl (nI_1 _) (by decide) rfl (fun ls hl => ?_)
      refine lv_goto (tgt := 6) B.hx B.hb dX4_count_34 (by decide) ?_
      exact ih3 (i1 + 1) (by omega) (by omega) ls (lv_sub hl [0, 1, 2, 3, 4, 5] rfl)
set_option maxHeartbeats 4000000 in
set_option maxRecDepth 100000 in
theorem c4_beginsRound (l : Launch) (D : va_G) (cI cZ cP cJ : ClassId) (o : Nat → Nat) (J : Nat → Int32) (Z : Nat → Nat → Int32) (j : Nat) (hj : j < 8) : q_C l yX4_beginsRound wsX4_beginsRound ({ frames := 0, cells := 0, slots := 0, locals := 0 }) D cI cZ cP cJ [.ref (o 0), .int (nI j)] (mw cI cZ o J Z) (S := Unit) (fun v _ => v = none) (fun _ => mw cI cZ o J (va_up (va_up (va_up (va_up (va_up Z 14 (zr (Z 14) (4 * j) 4)) 15 (upd (Z 15) j (nI 0))) 16 (zr (Z 16) (4 * j) 4)) 17 (upd (Z 17) j (nI 0))) 20 (zr (Z 20) (6 * j) 6))) (fun _ => False) 0 0 := by
  refine q_of (cc := cX4_beginsRound) (maxL := 3) (ret := none) (by decide +kernel) rfl (Nat.le_of_ble_eq_true rfl) ?_
  intro p e s m below meth c A ls B hr htb hmn hP hD hS hl
  have hl : lv_has ls 3 [(0, .ref (o 0)), (1, .int (nI j))] := hl
  have hi4 : ∀ w ∈ u_ws RX4 TX4 31, w ∈ wsX4_beginsRound := by decide +kernel
  refine lv_iconst (v := (nI 4)) B.hx B.hb dX4_beginsRound_0 (by decide) ?_
  refine lv_iload_n B.hx B.hb dX4_beginsRound_1 rfl (lv_at hl 1 rfl) ?_
  refine lv_imul B.hx B.hb dX4_beginsRound_2 ?_
  refine q_top (v2 := .int (nI ((4 * j)))) (congrArg Value.int (pk_mul _ _)) ?_
  refine lv_istore_n (lv' := [(2, .int (nI ((4 * j)))), (0, .ref (o 0)), (1, .int (nI j))]) B.hx B.hb dX4_beginsRound_3 rfl hl (by decide) rfl (fun ls hl => ?_)
  refine q_loopW (nL := 3) (fun i : Nat => i ≤ 4) (fun i : Nat => 4 - i) (fun i : Nat => [(2, .int (nI ((4 * j + i)))), (0, .ref (o 0)), (1, .int (nI j))]) (fun i : Nat => mw cI cZ o J (va_up (va_up Z 14 (zr (Z 14) (4 * j) i)) 16 (zr (Z 16) (4 * j) i))) (0) (Nat.zero_le _) (lv_sub hl [0, 1, 2] rfl) (show va_P D vwCl (mw cI cZ o J (va_up (va_up Z 14 (zr (Z 14) (4 * j) 0)) 16 (zr (Z 16) (4 * j) 0))) _ by rw [zr_0, zr_0]; exact hP) (show va_D A (mw cI cZ o J (va_up (va_up Z 14 (zr (Z 14) (4 * j) 0)) 16 (zr (Z 16) (4 * j) 0))) by rw [zr_0, zr_0]; exact hD) hS ?_
  intro i1 hI2 ih3 ls H locs hl hP hD hS
  have hI2 : i1 ≤ 4 := hI2
  have hl : lv_has ls 3 [(2, .int (nI ((4 * j + i1)))), (0, .ref (o 0)), (1, .int (nI j))] := hl
  have hP : va_P D vwCl (mw cI cZ o J (va_up (va_up Z 14 (zr (Z 14) (4 * j) i1)) 16 (zr (Z 16) (4 * j) i1))) H := hP
  have hD : va_D A (mw cI cZ o J (va_up (va_up Z 14 (zr (Z 14) (4 * j) i1)) 16 (zr (Z 16) (4 * j) i1))) := hD
  refine lv_iload_n B.hx B.hb dX4_beginsRound_4 rfl (lv_at hl 0 rfl) ?_
  refine lv_iconst (v := (nI 4)) B.hx B.hb dX4_beginsRound_5 (by decide) ?_
  refine lv_iload_n B.hx B.hb dX4_beginsRound_6 rfl (lv_at hl 2 rfl) ?_
  refine lv_imul B.hx B.hb dX4_beginsRound_7 ?_
  refine q_top (v2 := .int (nI ((4 * j)))) (congrArg Value.int (pk_mul _ _)) ?_
  refine lv_iconst (v := (nI 4)) B.hx B.hb dX4_beginsRound_8 (by decide) ?_
  refine lv_iadd B.hx B.hb dX4_beginsRound_9 ?_
  refine q_top (v2 := .int (nI (((4 * j) + 4)))) (congrArg Value.int (nI_add _ _)) ?_
  refine lv_icmp_ge (tgt := 33) B.hx B.hb dX4_beginsRound_10 (by decide) (fun c4 => ?_) (fun c4 => ?_)
  · replace c4 := (nI_leI (by omega) (by omega)).mp c4
    obtain rfl : i1 = 4 := by omega
    refine lv_bipush (v := (nI 6)) B.hx B.hb dX4_beginsRound_33 (by decide) ?_
    refine lv_iload_n B.hx B.hb dX4_beginsRound_35 rfl (lv_at hl 2 rfl) ?_
    refine lv_imul B.hx B.hb dX4_beginsRound_36 ?_
    refine q_top (v2 := .int (nI ((6 * j)))) (congrArg Value.int (pk_mul _ _)) ?_
    refine lv_istore_n (lv' := [(2, .int (nI ((6 * j)))), (0, .ref (o 0)), (1, .int (nI j))]) B.hx B.hb dX4_beginsRound_37 rfl hl (by decide) rfl (fun ls hl => ?_)
    refine q_loopW (nL := 3) (fun i : Nat => i ≤ 6) (fun i : Nat => 6 - i) (fun i : Nat => [(2, .int (nI ((6 * j + i)))), (0, .ref (o 0)), (1, .int (nI j))]) (fun i : Nat => mw cI cZ o J (va_up (va_up (va_up Z 14 (zr (Z 14) (4 * j) 4)) 16 (zr (Z 16) (4 * j) 4)) 20 (zr (Z 20) (6 * j) i))) (0) (Nat.zero_le _) (lv_sub hl [0, 1, 2] rfl) (show va_P D vwCl (mw cI cZ o J (va_up (va_up (va_up Z 14 (zr (Z 14) (4 * j) 4)) 16 (zr (Z 16) (4 * j) 4)) 20 (zr (Z 20) (6 * j) 0))) _ by rw [zr_0]; exact hP) (show va_D A (mw cI cZ o J (va_up (va_up (va_up Z 14 (zr (Z 14) (4 * j) 4)) 16 (zr (Z 16) (4 * j) 4)) 20 (zr (Z 20) (6 * j) 0))) by rw [zr_0]; exact hD) hS ?_
    intro i5 hI6 ih7 ls H locs hl hP hD hS
    have hI6 : i5 ≤ 6 := hI6
    have hl : lv_has ls 3 [(2, .int (nI ((6 * j + i5)))), (0, .ref (o 0)), (1, .int (nI j))] := hl
    have hP : va_P D vwCl (mw cI cZ o J (va_up (va_up (va_up Z 14 (zr (Z 14) (4 * j) 4)) 16 (zr (Z 16) (4 * j) 4)) 20 (zr (Z 20) (6 * j) i5))) H := hP
    have hD : va_D A (mw cI cZ o J (va_up (va_up (va_up Z 14 (zr (Z 14) (4 * j) 4)) 16 (zr (Z 16) (4 * j) 4)) 20 (zr (Z 20) (6 * j) i5))) := hD
    refine lv_iload_n B.hx B.hb dX4_beginsRound_38 rfl (lv_at hl 0 rfl) ?_
    refine lv_bipush (v := (nI 6)) B.hx B.hb dX4_beginsRound_39 (by decide) ?_
    refine lv_iload_n B.hx B.hb dX4_beginsRound_41 rfl (lv_at hl 2 rfl) ?_
    refine lv_imul B.hx B.hb dX4_beginsRound_42 ?_
    refine q_top (v2 := .int (nI ((6 * j)))) (congrArg Value.int (pk_mul _ _)) ?_
    refine lv_bipush (v := (nI 6)) B.hx B.hb dX4_beginsRound_43 (by decide) ?_
    refine lv_iadd B.hx B.hb dX4_beginsRound_45 ?_
    refine q_top (v2 := .int (nI (((6 * j) + 6)))) (congrArg Value.int (nI_add _ _)) ?_
    refine lv_icmp_ge (tgt := 62) B.hx B.hb dX4_beginsRound_46 (by decide) (fun c8 => ?_) (fun c8 => ?_)
    · replace c8 := (nI_leI (by omega) (by omega)).mp c8
      obtain rfl : i5 = 6 := by omega
      refine lv_aload_n B.hx B.hb dX4_beginsRound_62 rfl (lv_at hl 1 rfl) ?_
      refine q_get B hP (C := RX4) (ref := "PaperKeeperModel") (T := TX4) (N := 31) (ci := 4) hi4 rfl 0 rfl 15 (by decide) (by decide +kernel) rfl (v := .ref (o 15)) rfl dX4_beginsRound_63 ?_
      refine lv_iload_n B.hx B.hb dX4_beginsRound_66 rfl (lv_at hl 2 rfl) ?_
      refine lv_iconst (v := (nI 0)) B.hx B.hb dX4_beginsRound_67 (by decide) ?_
      refine q_iast B hP hD hS 13 rfl (j := j) rfl (by omega) (by decide) dX4_beginsRound_68 (w' := mw cI cZ o J (va_up (va_up (va_up (va_up Z 14 (zr (Z 14) (4 * j) 4)) 15 (upd (Z 15) j (nI 0))) 16 (zr (Z 16) (4 * j) 4)) 20 (zr (Z 20) (6 * j) 6))) rfl (fun H locs hP hD hS => ?_)
      refine lv_aload_n B.hx B.hb dX4_beginsRound_69 rfl (lv_at hl 1 rfl) ?_
      refine q_get B hP (C := RX4) (ref := "PaperKeeperModel") (T := TX4) (N := 31) (ci := 4) hi4 rfl 0 rfl 17 (by decide) (by decide +kernel) rfl (v := .ref (o 17)) rfl dX4_beginsRound_70 ?_
      refine lv_iload_n B.hx B.hb dX4_beginsRound_73 rfl (lv_at hl 2 rfl) ?_
      refine lv_iconst (v := (nI 0)) B.hx B.hb dX4_beginsRound_74 (by decide) ?_
      refine q_zast B hP hD hS 15 rfl (j := j) rfl (by omega) (by decide) (by decide) dX4_beginsRound_75 (w' := mw cI cZ o J (va_up (va_up (va_up (va_up (va_up Z 14 (zr (Z 14) (4 * j) 4)) 15 (upd (Z 15) j (nI 0))) 16 (zr (Z 16) (4 * j) 4)) 17 (upd (Z 17) j (nI 0))) 20 (zr (Z 20) (6 * j) 6))) rfl (fun H locs hP hD hS => ?_)
      exact q_vret B hr hP hD hS (u := ()) rfl rfl (Nat.le_of_ble_eq_true rfl) (Nat.le_of_ble_eq_true rfl) dX4_beginsRound_76
    · replace c8 := mt (nI_leI (by omega) (by omega)).mpr c8
      refine lv_aload_n B.hx B.hb dX4_beginsRound_49 rfl (lv_at hl 1 rfl) ?_
      refine q_get B hP (C := RX4) (ref := "PaperKeeperModel") (T := TX4) (N := 31) (ci := 4) hi4 rfl 0 rfl 20 (by decide) (by decide +kernel) rfl (v := .ref (o 20)) rfl dX4_beginsRound_50 ?_
      refine lv_iload_n B.hx B.hb dX4_beginsRound_53 rfl (lv_at hl 0 rfl) ?_
      refine lv_iconst (v := (nI 0)) B.hx B.hb dX4_beginsRound_54 (by decide) ?_
      refine q_zast B hP hD hS 18 rfl (j := (6 * j + i5)) rfl (by omega) (by decide) (by decide) dX4_beginsRound_55 (w' := mw cI cZ o J (va_up (va_up (va_up Z 14 (zr (Z 14) (4 * j) 4)) 16 (zr (Z 16) (4 * j) 4)) 20 (upd (zr (Z 20) (6 * j) i5) (6 * j + i5) (nI 0)))) rfl (fun H locs hP hD hS => ?_)
      refine lv_iinc (v := (nI (((6 * j + i5) + 1)))) (lv' := [(2, .int (nI (((6 * j + i5) + 1)))), (0, .ref (o 0)), (1, .int (nI j))]) B.hx B.hb dX4_beginsRound_56 hl (k := 0) rfl (nI_1 _) (by decide) rfl (fun ls hl => ?_)
      refine lv_goto (tgt := 38) B.hx B.hb dX4_beginsRound_59 (by decide) ?_
      exact ih7 (i5 + 1) (by omega) (by omega) ls H locs (lv_sub hl [0, 1, 2] rfl) (show va_P D vwCl (mw cI cZ o J (va_up (va_up (va_up Z 14 (zr (Z 14) (4 * j) 4)) 16 (zr (Z 16) (4 * j) 4)) 20 (zr (Z 20) (6 * j) (i5 + 1)))) H by rw [← zr_s (Z 20) (6 * j) i5]; exact hP) (show va_D A (mw cI cZ o J (va_up (va_up (va_up Z 14 (zr (Z 14) (4 * j) 4)) 16 (zr (Z 16) (4 * j) 4)) 20 (zr (Z 20) (6 * j) (i5 + 1)))) by rw [← zr_s (Z 20) (6 * j) i5]; exact hD) hS
  · replace c4 := mt (nI_leI (by omega) (by omega)).mpr c4
    refine lv_aload_n B.hx B.hb dX4_beginsRound_13 rfl (lv_at hl 1 rfl) ?_
    refine q_get B hP (C := RX4) (ref := "PaperKeeperModel") (T := TX4) (N := 31) (ci := 4) hi4 rfl 0 rfl 14 (by decide) (by decide +kernel) rfl (v := .ref (o 14)) rfl dX4_beginsRound_14 ?_
    refine lv_iload_n B.hx B.hb dX4_beginsRound_17 rfl (lv_at hl 0 rfl) ?_
    refine lv_iconst (v := (nI 0)) B.hx B.hb dX4_beginsRound_18 (by decide) ?_
    refine q_zast B hP hD hS 12 rfl (j := (4 * j + i1)) rfl (by omega) (by decide) (by decide) dX4_beginsRound_19 (w' := mw cI cZ o J (va_up (va_up Z 14 (upd (zr (Z 14) (4 * j) i1) (4 * j + i1) (nI 0))) 16 (zr (Z 16) (4 * j) i1))) rfl (fun H locs hP hD hS => ?_)
    refine lv_aload_n B.hx B.hb dX4_beginsRound_20 rfl (lv_at hl 1 rfl) ?_
    refine q_get B hP (C := RX4) (ref := "PaperKeeperModel") (T := TX4) (N := 31) (ci := 4) hi4 rfl 0 rfl 16 (by decide) (by decide +kernel) rfl (v := .ref (o 16)) rfl dX4_beginsRound_21 ?_
    refine lv_iload_n B.hx B.hb dX4_beginsRound_24 rfl (lv_at hl 0 rfl) ?_
    refine lv_iconst (v := (nI 0)) B.hx B.hb dX4_beginsRound_25 (by decide) ?_
    refine q_zast B hP hD hS 14 rfl (j := (4 * j + i1)) rfl (by omega) (by decide) (by decide) dX4_beginsRound_26 (w' := mw cI cZ o J (va_up (va_up Z 14 (upd (zr (Z 14) (4 * j) i1) (4 * j + i1) (nI 0))) 16 (upd (zr (Z 16) (4 * j) i1) (4 * j + i1) (nI 0)))) rfl (fun H locs hP hD hS => ?_)
    refine lv_iinc (v := (nI (((4 * j + i1) + 1)))) (lv' := [(2, .int (nI (((4 * j + i1) + 1)))), (0, .ref (o 0)), (1, .int (nI j))]) B.hx B.hb dX4_beginsRound_27 hl (k := 0) rfl (nI_1 _) (by decide) rfl (fun ls hl => ?_)
    refine lv_goto (tgt := 4) B.hx B.hb dX4_beginsRound_30 (by decide) ?_
    exact ih3 (i1 + 1) (by omega) (by omega) ls H locs (lv_sub hl [0, 1, 2] rfl) (show va_P D vwCl (mw cI cZ o J (va_up (va_up Z 14 (zr (Z 14) (4 * j) (i1 + 1))) 16 (zr (Z 16) (4 * j) (i1 + 1)))) H by rw [← zr_s (Z 14) (4 * j) i1, ← zr_s (Z 16) (4 * j) i1]; exact hP) (show va_D A (mw cI cZ o J (va_up (va_up Z 14 (zr (Z 14) (4 * j) (i1 + 1))) 16 (zr (Z 16) (4 * j) (i1 + 1)))) by rw [← zr_s (Z 14) (4 * j) i1, ← zr_s (Z 16) (4 * j) i1]; exact hD) hS
set_option maxHeartbeats 4000000 in
set_option maxRecDepth 100000 in
theorem c4_placeOf (l : Launch) (D : va_G) (cI cZ cP cJ : ClassId) (o : Nat → Nat) (J : Nat → Int32) (Z : Nat → Nat → Int32) (j : Nat) (hj : j < 8) (mm : Nat) (hm : Z 12 j = nI mm) (hm4 : mm ≤ 4) (x : Int32) : q_C l yX4_placeOf wsX4_placeOf ({ frames := 0, cells := 0, slots := 0, locals := 0 }) D cI cZ cP cJ [.ref (o 0), .int (nI j), .int x] (mw cI cZ o J Z) (S := Unit) (fun v _ => v = some (.int (mPL Z j mm x))) (fun _ => mw cI cZ o J Z) (fun _ => False) 0 0 := by
  refine q_of (cc := cX4_placeOf) (maxL := 5) (ret := (some .int)) (by decide +kernel) rfl (Nat.le_of_ble_eq_true rfl) ?_
  intro p e s m below meth c A ls B hr htb hmn hP hD hS hl
  have hl : lv_has ls 5 [(0, .ref (o 0)), (1, .int (nI j)), (2, .int x)] := hl
  have hi4 : ∀ w ∈ u_ws RX4 TX4 31, w ∈ wsX4_placeOf := by decide +kernel
  refine lv_iconst (v := (-1)) B.hx B.hb dX4_placeOf_0 (by decide) ?_
  refine lv_istore_n (lv' := [(3, .int (-1)), (0, .ref (o 0)), (1, .int (nI j)), (2, .int x)]) B.hx B.hb dX4_placeOf_1 rfl hl (by decide) rfl (fun ls hl => ?_)
  refine lv_iconst (v := (nI 4)) B.hx B.hb dX4_placeOf_2 (by decide) ?_
  refine lv_iload_n B.hx B.hb dX4_placeOf_3 rfl (lv_at hl 2 rfl) ?_
  refine lv_imul B.hx B.hb dX4_placeOf_4 ?_
  refine q_top (v2 := .int (nI ((4 * j)))) (congrArg Value.int (pk_mul _ _)) ?_
  refine lv_istore (lv' := [(4, .int (nI ((4 * j)))), (3, .int (-1)), (0, .ref (o 0)), (1, .int (nI j)), (2, .int x)]) B.hx B.hb dX4_placeOf_5 hl (by decide) rfl (fun ls hl => ?_)
  refine q_loop (nL := 5) (fun i : Nat => i ≤ mm) (fun i : Nat => mm - i) (fun i : Nat => [(4, .int (nI ((4 * j + i)))), (3, .int (mPL Z j i x)), (0, .ref (o 0)), (1, .int (nI j)), (2, .int x)]) (0) (Nat.zero_le _) (lv_sub hl [0, 1, 2, 3, 4] rfl) ?_
  intro i1 hI2 ih3 ls hl
  have hI2 : i1 ≤ mm := hI2
  have hl : lv_has ls 5 [(4, .int (nI ((4 * j + i1)))), (3, .int (mPL Z j i1 x)), (0, .ref (o 0)), (1, .int (nI j)), (2, .int x)] := hl
  refine lv_iload B.hx B.hb dX4_placeOf_7 (lv_at hl 0 rfl) ?_
  refine lv_iconst (v := (nI 4)) B.hx B.hb dX4_placeOf_9 (by decide) ?_
  refine lv_iload_n B.hx B.hb dX4_placeOf_10 rfl (lv_at hl 3 rfl) ?_
  refine lv_imul B.hx B.hb dX4_placeOf_11 ?_
  refine q_top (v2 := .int (nI ((4 * j)))) (congrArg Value.int (pk_mul _ _)) ?_
  refine lv_aload_n B.hx B.hb dX4_placeOf_12 rfl (lv_at hl 2 rfl) ?_
  refine q_get B hP (C := RX4) (ref := "PaperKeeperModel") (T := TX4) (N := 31) (ci := 4) hi4 rfl 0 rfl 12 (by decide) (by decide +kernel) rfl (v := .ref (o 12)) rfl dX4_placeOf_13 ?_
  refine lv_iload_n B.hx B.hb dX4_placeOf_16 rfl (lv_at hl 3 rfl) ?_
  refine q_iald B hP 10 rfl (j := j) rfl (by omega) (by decide) dX4_placeOf_17 ?_
  refine q_top (v2 := .int (nI mm)) (congrArg Value.int hm) ?_
  refine lv_iadd B.hx B.hb dX4_placeOf_18 ?_
  refine q_top (v2 := .int (nI (((4 * j) + mm)))) (congrArg Value.int (nI_add _ _)) ?_
  refine lv_icmp_ge (tgt := 46) B.hx B.hb dX4_placeOf_19 (by decide) (fun c4 => ?_) (fun c4 => ?_)
  · replace c4 := (nI_leI (by omega) (by omega)).mp c4
    refine lv_iload_n B.hx B.hb dX4_placeOf_46 rfl (lv_at hl 1 rfl) ?_
    exact q_iret B hr hP hD hS (u := ()) rfl (by rw [show mm = i1 by omega]) (Nat.le_of_ble_eq_true rfl) (Nat.le_of_ble_eq_true rfl) dX4_placeOf_47
  · replace c4 := mt (nI_leI (by omega) (by omega)).mpr c4
    refine lv_aload_n B.hx B.hb dX4_placeOf_22 rfl (lv_at hl 2 rfl) ?_
    refine q_get B hP (C := RX4) (ref := "PaperKeeperModel") (T := TX4) (N := 31) (ci := 4) hi4 rfl 0 rfl 13 (by decide) (by decide +kernel) rfl (v := .ref (o 13)) rfl dX4_placeOf_23 ?_
    refine lv_iload B.hx B.hb dX4_placeOf_26 (lv_at hl 0 rfl) ?_
    refine q_iald B hP 11 rfl (j := (4 * j + i1)) rfl (by omega) (by decide) dX4_placeOf_28 ?_
    refine lv_iload_n B.hx B.hb dX4_placeOf_29 rfl (lv_at hl 4 rfl) ?_
    refine lv_icmp_ne (tgt := 38) B.hx B.hb dX4_placeOf_30 (by decide) (fun c5 => ?_) (fun c5 => ?_)
    · refine lv_iload_n B.hx B.hb dX4_placeOf_38 rfl (lv_at hl 1 rfl) ?_
      refine q_top (v2 := .int (mPL Z j (i1 + 1) x)) (congrArg Value.int (pL_no (ok := fun i => decide (Z 13 (4 * j + i) = x)) (v := fun i => nI (4 * j + i)) (i := i1) (decide_eq_false c5)).symm) ?_
      refine lv_istore_n (lv' := [(3, .int (mPL Z j (i1 + 1) x)), (4, .int (nI ((4 * j + i1)))), (0, .ref (o 0)), (1, .int (nI j)), (2, .int x)]) B.hx B.hb dX4_placeOf_39 rfl hl (by decide) rfl (fun ls hl => ?_)
      refine lv_iinc (v := (nI (((4 * j + i1) + 1)))) (lv' := [(4, .int (nI (((4 * j + i1) + 1)))), (3, .int (mPL Z j (i1 + 1) x)), (0, .ref (o 0)), (1, .int (nI j)), (2, .int x)]) B.hx B.hb dX4_placeOf_40 hl (k := 1) rfl (nI_1 _) (by decide) rfl (fun ls hl => ?_)
      refine lv_goto (tgt := 7) B.hx B.hb dX4_placeOf_43 (by decide) ?_
      exact ih3 (i1 + 1) (by omega) (by omega) ls (lv_sub hl [0, 1, 2, 3, 4] rfl)
    · refine lv_iload B.hx B.hb dX4_placeOf_33 (lv_at hl 0 rfl) ?_
      refine lv_goto (tgt := 39) B.hx B.hb dX4_placeOf_35 (by decide) ?_
      refine q_top (v2 := .int (mPL Z j (i1 + 1) x)) (congrArg Value.int (pL_yes (ok := fun i => decide (Z 13 (4 * j + i) = x)) (v := fun i => nI (4 * j + i)) (i := i1) (decide_eq_true c5)).symm) ?_
      refine lv_istore_n (lv' := [(3, .int (mPL Z j (i1 + 1) x)), (4, .int (nI ((4 * j + i1)))), (0, .ref (o 0)), (1, .int (nI j)), (2, .int x)]) B.hx B.hb dX4_placeOf_39 rfl hl (by decide) rfl (fun ls hl => ?_)
      refine lv_iinc (v := (nI (((4 * j + i1) + 1)))) (lv' := [(4, .int (nI (((4 * j + i1) + 1)))), (3, .int (mPL Z j (i1 + 1) x)), (0, .ref (o 0)), (1, .int (nI j)), (2, .int x)]) B.hx B.hb dX4_placeOf_40 hl (k := 1) rfl (nI_1 _) (by decide) rfl (fun ls hl => ?_)
      refine lv_goto (tgt := 7) B.hx B.hb dX4_placeOf_43 (by decide) ?_
      exact ih3 (i1 + 1) (by omega) (by omega) ls (lv_sub hl [0, 1, 2, 3, 4] rfl)
set_option maxHeartbeats 4000000 in
set_option maxRecDepth 100000 in
theorem c4_nextReviewer (l : Launch) (D : va_G) (cI cZ cP cJ : ClassId) (o : Nat → Nat) (J : Nat → Int32) (Z : Nat → Nat → Int32) (j : Nat) (hj : j < 8) (mm : Nat) (hm : Z 12 j = nI mm) (hm4 : mm ≤ 4) : q_C l yX4_nextReviewer wsX4_nextReviewer ({ frames := 0, cells := 0, slots := 0, locals := 0 }) D cI cZ cP cJ [.ref (o 0), .int (nI j)] (mw cI cZ o J Z) (S := Unit) (fun v _ => v = some (.int (mNR Z j mm))) (fun _ => mw cI cZ o J Z) (fun _ => False) 0 0 := by
  refine q_of (cc := cX4_nextReviewer) (maxL := 4) (ret := (some .int)) (by decide +kernel) rfl (Nat.le_of_ble_eq_true rfl) ?_
  intro p e s m below meth c A ls B hr htb hmn hP hD hS hl
  have hl : lv_has ls 4 [(0, .ref (o 0)), (1, .int (nI j))] := hl
  have hi4 : ∀ w ∈ u_ws RX4 TX4 31, w ∈ wsX4_nextReviewer := by decide +kernel
  refine lv_iconst (v := (-1)) B.hx B.hb dX4_nextReviewer_0 (by decide) ?_
  refine lv_istore_n (lv' := [(2, .int (-1)), (0, .ref (o 0)), (1, .int (nI j))]) B.hx B.hb dX4_nextReviewer_1 rfl hl (by decide) rfl (fun ls hl => ?_)
  refine lv_iconst (v := (nI 4)) B.hx B.hb dX4_nextReviewer_2 (by decide) ?_
  refine lv_iload_n B.hx B.hb dX4_nextReviewer_3 rfl (lv_at hl 2 rfl) ?_
  refine lv_imul B.hx B.hb dX4_nextReviewer_4 ?_
  refine q_top (v2 := .int (nI ((4 * j)))) (congrArg Value.int (pk_mul _ _)) ?_
  refine lv_aload_n B.hx B.hb dX4_nextReviewer_5 rfl (lv_at hl 1 rfl) ?_
  refine q_get B hP (C := RX4) (ref := "PaperKeeperModel") (T := TX4) (N := 31) (ci := 4) hi4 rfl 0 rfl 12 (by decide) (by decide +kernel) rfl (v := .ref (o 12)) rfl dX4_nextReviewer_6 ?_
  refine lv_iload_n B.hx B.hb dX4_nextReviewer_9 rfl (lv_at hl 2 rfl) ?_
  refine q_iald B hP 10 rfl (j := j) rfl (by omega) (by decide) dX4_nextReviewer_10 ?_
  refine q_top (v2 := .int (nI mm)) (congrArg Value.int hm) ?_
  refine lv_iadd B.hx B.hb dX4_nextReviewer_11 ?_
  refine q_top (v2 := .int (nI (((4 * j) + mm)))) (congrArg Value.int (nI_add _ _)) ?_
  refine lv_iconst (v := (nI 1)) B.hx B.hb dX4_nextReviewer_12 (by decide) ?_
  refine lv_isub B.hx B.hb dX4_nextReviewer_13 ?_
  refine lv_istore_n (lv' := [(3, .int ((nI (((4 * j) + mm))) - (nI 1))), (2, .int (-1)), (0, .ref (o 0)), (1, .int (nI j))]) B.hx B.hb dX4_nextReviewer_14 rfl hl (by decide) rfl (fun ls hl => ?_)
  refine q_loop (nL := 4) (fun i : Nat => i ≤ mm) (fun i : Nat => i) (fun i : Nat => [(3, .int (nI (4 * j + i) - nI 1)), (2, .int (pF (mOK Z j) (fun i => Z 13 (4 * j + i)) (mm - i) i)), (0, .ref (o 0)), (1, .int (nI j))]) mm (Nat.le_refl _) (show lv_has ls 4 [(3, .int (nI (4 * j + mm) - nI 1)), (2, .int (pF (mOK Z j) (fun i => Z 13 (4 * j + i)) (mm - mm) mm)), (0, .ref (o 0)), (1, .int (nI j))] by rw [Nat.sub_self]; exact lv_sub hl [0, 1, 2, 3] rfl) ?_
  intro i hi ih ls hl
  have hi : i ≤ mm := hi
  have hl : lv_has ls 4 [(3, .int (nI (4 * j + i) - nI 1)), (2, .int (pF (mOK Z j) (fun i => Z 13 (4 * j + i)) (mm - i) i)), (0, .ref (o 0)), (1, .int (nI j))] := hl
  cases i with
  | zero =>
    have hl : lv_has ls 4 [(3, .int (nI (4 * j + 0) - nI 1)), (2, .int (mNR Z j mm)), (0, .ref (o 0)), (1, .int (nI j))] := hl
    refine lv_iload_n B.hx B.hb dX4_nextReviewer_15 rfl (lv_at hl 0 rfl) ?_
    refine lv_iconst (v := (nI 4)) B.hx B.hb dX4_nextReviewer_16 (by decide) ?_
    refine lv_iload_n B.hx B.hb dX4_nextReviewer_17 rfl (lv_at hl 3 rfl) ?_
    refine lv_imul B.hx B.hb dX4_nextReviewer_18 ?_
    refine q_top (v2 := .int (nI ((4 * j)))) (congrArg Value.int (pk_mul _ _)) ?_
    refine lv_icmp_lt (tgt := 48) B.hx B.hb dX4_nextReviewer_19 (by decide) (fun _ => ?_) (fun c1 => absurd c1 (not_not_intro (nI_lt1 (by omega))))
    refine lv_iload_n B.hx B.hb dX4_nextReviewer_48 rfl (lv_at hl 1 rfl) ?_
    exact q_iret B hr hP hD hS (u := ()) rfl rfl (Nat.le_of_ble_eq_true rfl) (Nat.le_of_ble_eq_true rfl) dX4_nextReviewer_49
  | succ k =>
    have hl : lv_has ls 4 [(3, .int (nI ((4 * j + k)))), (2, .int (pF (mOK Z j) (fun i => Z 13 (4 * j + i)) (mm - (k + 1)) (k + 1))), (0, .ref (o 0)), (1, .int (nI j))] := by rw [← show nI (4 * j + (k + 1)) - nI 1 = nI (4 * j + k) from nI_pred _]; exact hl
    refine lv_iload_n B.hx B.hb dX4_nextReviewer_15 rfl (lv_at hl 0 rfl) ?_
    refine lv_iconst (v := (nI 4)) B.hx B.hb dX4_nextReviewer_16 (by decide) ?_
    refine lv_iload_n B.hx B.hb dX4_nextReviewer_17 rfl (lv_at hl 3 rfl) ?_
    refine lv_imul B.hx B.hb dX4_nextReviewer_18 ?_
    refine q_top (v2 := .int (nI ((4 * j)))) (congrArg Value.int (pk_mul _ _)) ?_
    refine lv_icmp_lt (tgt := 48) B.hx B.hb dX4_nextReviewer_19 (by decide) (fun c2 => absurd c2 (mt (nI_ltI (by omega) (by omega)).mp (by omega))) (fun _ => ?_)
    refine lv_aload_n B.hx B.hb dX4_nextReviewer_22 rfl (lv_at hl 2 rfl) ?_
    refine q_get B hP (C := RX4) (ref := "PaperKeeperModel") (T := TX4) (N := 31) (ci := 4) hi4 rfl 0 rfl 14 (by decide) (by decide +kernel) rfl (v := .ref (o 14)) rfl dX4_nextReviewer_23 ?_
    refine lv_iload_n B.hx B.hb dX4_nextReviewer_26 rfl (lv_at hl 0 rfl) ?_
    refine q_zald B hP 12 rfl (j := (4 * j + k)) rfl (by omega) (by decide) dX4_nextReviewer_27 ?_
    refine lv_if_eq (tgt := 35) B.hx B.hb dX4_nextReviewer_28 (by decide) (fun c3 => ?_) (fun c3 => ?_)
    · refine lv_aload_n B.hx B.hb dX4_nextReviewer_35 rfl (lv_at hl 2 rfl) ?_
      refine q_get B hP (C := RX4) (ref := "PaperKeeperModel") (T := TX4) (N := 31) (ci := 4) hi4 rfl 0 rfl 13 (by decide) (by decide +kernel) rfl (v := .ref (o 13)) rfl dX4_nextReviewer_36 ?_
      refine lv_iload_n B.hx B.hb dX4_nextReviewer_39 rfl (lv_at hl 0 rfl) ?_
      refine q_iald B hP 11 rfl (j := (4 * j + k)) rfl (by omega) (by decide) dX4_nextReviewer_40 ?_
      refine q_top (v2 := .int (pF (mOK Z j) (fun i => Z 13 (4 * j + i)) (mm - k) k)) (congrArg Value.int (pF_yes (ok := mOK Z j) (v := fun i => Z 13 (4 * j + i)) (by omega) (decide_eq_true c3)).symm) ?_
      refine lv_istore_n (lv' := [(2, .int (pF (mOK Z j) (fun i => Z 13 (4 * j + i)) (mm - k) k)), (3, .int (nI ((4 * j + k)))), (0, .ref (o 0)), (1, .int (nI j))]) B.hx B.hb dX4_nextReviewer_41 rfl hl (by decide) rfl (fun ls hl => ?_)
      refine lv_iinc (v := (nI (4 * j + k) - nI 1)) (lv' := [(3, .int (nI (4 * j + k) - nI 1)), (2, .int (pF (mOK Z j) (fun i => Z 13 (4 * j + i)) (mm - k) k)), (0, .ref (o 0)), (1, .int (nI j))]) B.hx B.hb dX4_nextReviewer_42 hl (k := 1) rfl (dec_sub _) (by decide) rfl (fun ls hl => ?_)
      refine lv_goto (tgt := 15) B.hx B.hb dX4_nextReviewer_45 (by decide) ?_
      exact ih k (by omega) (by omega) ls (lv_sub hl [0, 1, 2, 3] rfl)
    · refine lv_iload_n B.hx B.hb dX4_nextReviewer_31 rfl (lv_at hl 1 rfl) ?_
      refine lv_goto (tgt := 41) B.hx B.hb dX4_nextReviewer_32 (by decide) ?_
      refine q_top (v2 := .int (pF (mOK Z j) (fun i => Z 13 (4 * j + i)) (mm - k) k)) (congrArg Value.int (pF_no (by omega) (decide_eq_false c3)).symm) ?_
      refine lv_istore_n (lv' := [(2, .int (pF (mOK Z j) (fun i => Z 13 (4 * j + i)) (mm - k) k)), (3, .int (nI ((4 * j + k)))), (0, .ref (o 0)), (1, .int (nI j))]) B.hx B.hb dX4_nextReviewer_41 rfl hl (by decide) rfl (fun ls hl => ?_)
      refine lv_iinc (v := (nI (4 * j + k) - nI 1)) (lv' := [(3, .int (nI (4 * j + k) - nI 1)), (2, .int (pF (mOK Z j) (fun i => Z 13 (4 * j + i)) (mm - k) k)), (0, .ref (o 0)), (1, .int (nI j))]) B.hx B.hb dX4_nextReviewer_42 hl (k := 1) rfl (dec_sub _) (by decide) rfl (fun ls hl => ?_)
      refine lv_goto (tgt := 15) B.hx B.hb dX4_nextReviewer_45 (by decide) ?_
      exact ih k (by omega) (by omega) ls (lv_sub hl [0, 1, 2, 3] rfl)
set_option maxHeartbeats 4000000 in
set_option maxRecDepth 100000 in
theorem c4_nextReader (l : Launch) (D : va_G) (cI cZ cP cJ : ClassId) (o : Nat → Nat) (J : Nat → Int32) (Z : Nat → Nat → Int32) (j : Nat) (hj : j < 8) : q_C l yX4_nextReader wsX4_nextReader ({ frames := 0, cells := 0, slots := 0, locals := 0 }) D cI cZ cP cJ [.ref (o 0), .int (nI j)] (mw cI cZ o J Z) (S := Unit) (fun v _ => v = some (.int (mNC Z j))) (fun _ => mw cI cZ o J Z) (fun _ => False) 0 0 := by
  refine q_of (cc := cX4_nextReader) (maxL := 4) (ret := (some .int)) (by decide +kernel) rfl (Nat.le_of_ble_eq_true rfl) ?_
  intro p e s m below meth c A ls B hr htb hmn hP hD hS hl
  have hl : lv_has ls 4 [(0, .ref (o 0)), (1, .int (nI j))] := hl
  have hi4 : ∀ w ∈ u_ws RX4 TX4 31, w ∈ wsX4_nextReader := by decide +kernel
  refine lv_iconst (v := (-1)) B.hx B.hb dX4_nextReader_0 (by decide) ?_
  refine lv_istore_n (lv' := [(2, .int (-1)), (0, .ref (o 0)), (1, .int (nI j))]) B.hx B.hb dX4_nextReader_1 rfl hl (by decide) rfl (fun ls hl => ?_)
  refine lv_iconst (v := (nI 5)) B.hx B.hb dX4_nextReader_2 (by decide) ?_
  refine lv_istore_n (lv' := [(3, .int (nI 5)), (2, .int (-1)), (0, .ref (o 0)), (1, .int (nI j))]) B.hx B.hb dX4_nextReader_3 rfl hl (by decide) rfl (fun ls hl => ?_)
  refine q_loop (nL := 4) (fun i : Nat => i ≤ 6) (fun i : Nat => i) (fun i : Nat => [(3, .int (vn i)), (2, .int (pF (okC (fun i => Z 19 (6 * j + i)) (fun i => Z 20 (6 * j + i))) nI (6 - i) i)), (0, .ref (o 0)), (1, .int (nI j))]) 6 (Nat.le_refl _) (lv_sub hl [0, 1, 2, 3] rfl) ?_
  intro i hi ih ls hl
  have hi : i ≤ 6 := hi
  have hl : lv_has ls 4 [(3, .int (vn i)), (2, .int (pF (okC (fun i => Z 19 (6 * j + i)) (fun i => Z 20 (6 * j + i))) nI (6 - i) i)), (0, .ref (o 0)), (1, .int (nI j))] := hl
  cases i with
  | zero =>
    have hl : lv_has ls 4 [(3, .int (-1)), (2, .int (mNC Z j)), (0, .ref (o 0)), (1, .int (nI j))] := hl
    refine lv_iload_n B.hx B.hb dX4_nextReader_4 rfl (lv_at hl 0 rfl) ?_
    refine lv_if_lt (tgt := 48) B.hx B.hb dX4_nextReader_5 (by decide) (fun _ => ?_) (fun c1 => absurd c1 (by decide))
    refine lv_iload_n B.hx B.hb dX4_nextReader_48 rfl (lv_at hl 1 rfl) ?_
    exact q_iret B hr hP hD hS (u := ()) rfl rfl (Nat.le_of_ble_eq_true rfl) (Nat.le_of_ble_eq_true rfl) dX4_nextReader_49
  | succ k =>
    have hl : lv_has ls 4 [(3, .int (nI k)), (2, .int (pF (okC (fun i => Z 19 (6 * j + i)) (fun i => Z 20 (6 * j + i))) nI (6 - (k + 1)) (k + 1))), (0, .ref (o 0)), (1, .int (nI j))] := hl
    refine lv_iload_n B.hx B.hb dX4_nextReader_4 rfl (lv_at hl 0 rfl) ?_
    refine lv_if_lt (tgt := 48) B.hx B.hb dX4_nextReader_5 (by decide) (fun c2 => absurd c2 (nI_pos (by omega))) (fun _ => ?_)
    refine lv_aload_n B.hx B.hb dX4_nextReader_8 rfl (lv_at hl 2 rfl) ?_
    refine q_get B hP (C := RX4) (ref := "PaperKeeperModel") (T := TX4) (N := 31) (ci := 4) hi4 rfl 0 rfl 19 (by decide) (by decide +kernel) rfl (v := .ref (o 19)) rfl dX4_nextReader_9 ?_
    refine lv_bipush (v := (nI 6)) B.hx B.hb dX4_nextReader_12 (by decide) ?_
    refine lv_iload_n B.hx B.hb dX4_nextReader_14 rfl (lv_at hl 3 rfl) ?_
    refine lv_imul B.hx B.hb dX4_nextReader_15 ?_
    refine q_top (v2 := .int (nI ((6 * j)))) (congrArg Value.int (pk_mul _ _)) ?_
    refine lv_iload_n B.hx B.hb dX4_nextReader_16 rfl (lv_at hl 0 rfl) ?_
    refine lv_iadd B.hx B.hb dX4_nextReader_17 ?_
    refine q_top (v2 := .int (nI (((6 * j) + k)))) (congrArg Value.int (nI_add _ _)) ?_
    refine q_zald B hP 17 rfl (j := ((6 * j) + k)) rfl (by omega) (by decide) dX4_nextReader_18 ?_
    refine lv_if_eq (tgt := 40) B.hx B.hb dX4_nextReader_19 (by decide) (fun c3 => ?_) (fun c3 => ?_)
    · refine lv_iload_n B.hx B.hb dX4_nextReader_40 rfl (lv_at hl 1 rfl) ?_
      refine q_top (v2 := .int (pF (okC (fun i => Z 19 (6 * j + i)) (fun i => Z 20 (6 * j + i))) nI (6 - k) k)) (congrArg Value.int (pF_no (by omega) (by simp [okC, c3])).symm) ?_
      refine lv_istore_n (lv' := [(2, .int (pF (okC (fun i => Z 19 (6 * j + i)) (fun i => Z 20 (6 * j + i))) nI (6 - k) k)), (3, .int (nI k)), (0, .ref (o 0)), (1, .int (nI j))]) B.hx B.hb dX4_nextReader_41 rfl hl (by decide) rfl (fun ls hl => ?_)
      refine lv_iinc (v := (vn k)) (lv' := [(3, .int (vn k)), (2, .int (pF (okC (fun i => Z 19 (6 * j + i)) (fun i => Z 20 (6 * j + i))) nI (6 - k) k)), (0, .ref (o 0)), (1, .int (nI j))]) B.hx B.hb dX4_nextReader_42 hl (k := 1) rfl (vn_dec k) (by decide) rfl (fun ls hl => ?_)
      refine lv_goto (tgt := 4) B.hx B.hb dX4_nextReader_45 (by decide) ?_
      exact ih k (by omega) (by omega) ls (lv_sub hl [0, 1, 2, 3] rfl)
    · refine lv_aload_n B.hx B.hb dX4_nextReader_22 rfl (lv_at hl 2 rfl) ?_
      refine q_get B hP (C := RX4) (ref := "PaperKeeperModel") (T := TX4) (N := 31) (ci := 4) hi4 rfl 0 rfl 20 (by decide) (by decide +kernel) rfl (v := .ref (o 20)) rfl dX4_nextReader_23 ?_
      refine lv_bipush (v := (nI 6)) B.hx B.hb dX4_nextReader_26 (by decide) ?_
      refine lv_iload_n B.hx B.hb dX4_nextReader_28 rfl (lv_at hl 3 rfl) ?_
      refine lv_imul B.hx B.hb dX4_nextReader_29 ?_
      refine q_top (v2 := .int (nI ((6 * j)))) (congrArg Value.int (pk_mul _ _)) ?_
      refine lv_iload_n B.hx B.hb dX4_nextReader_30 rfl (lv_at hl 0 rfl) ?_
      refine lv_iadd B.hx B.hb dX4_nextReader_31 ?_
      refine q_top (v2 := .int (nI (((6 * j) + k)))) (congrArg Value.int (nI_add _ _)) ?_
      refine q_zald B hP 18 rfl (j := ((6 * j) + k)) rfl (by omega) (by decide) dX4_nextReader_32 ?_
      refine lv_if_ne (tgt := 40) B.hx B.hb dX4_nextReader_33 (by decide) (fun c4 => ?_) (fun c4 => ?_)
      · refine lv_iload_n B.hx B.hb dX4_nextReader_40 rfl (lv_at hl 1 rfl) ?_
        refine q_top (v2 := .int (pF (okC (fun i => Z 19 (6 * j + i)) (fun i => Z 20 (6 * j + i))) nI (6 - k) k)) (congrArg Value.int (pF_no (by omega) (by simp [okC, c3, c4])).symm) ?_
        refine lv_istore_n (lv' := [(2, .int (pF (okC (fun i => Z 19 (6 * j + i)) (fun i => Z 20 (6 * j + i))) nI (6 - k) k)), (3, .int (nI k)), (0, .ref (o 0)), (1, .int (nI j))]) B.hx B.hb dX4_nextReader_41 rfl hl (by decide) rfl (fun ls hl => ?_)
        refine lv_iinc (v := (vn k)) (lv' := [(3, .int (vn k)), (2, .int (pF (okC (fun i => Z 19 (6 * j + i)) (fun i => Z 20 (6 * j + i))) nI (6 - k) k)), (0, .ref (o 0)), (1, .int (nI j))]) B.hx B.hb dX4_nextReader_42 hl (k := 1) rfl (vn_dec k) (by decide) rfl (fun ls hl => ?_)
        refine lv_goto (tgt := 4) B.hx B.hb dX4_nextReader_45 (by decide) ?_
        exact ih k (by omega) (by omega) ls (lv_sub hl [0, 1, 2, 3] rfl)
      · refine lv_iload_n B.hx B.hb dX4_nextReader_36 rfl (lv_at hl 0 rfl) ?_
        refine lv_goto (tgt := 41) B.hx B.hb dX4_nextReader_37 (by decide) ?_
        refine q_top (v2 := .int (pF (okC (fun i => Z 19 (6 * j + i)) (fun i => Z 20 (6 * j + i))) nI (6 - k) k)) (congrArg Value.int (pF_yes (by omega) (by simp [okC, c3, c4])).symm) ?_
        refine lv_istore_n (lv' := [(2, .int (pF (okC (fun i => Z 19 (6 * j + i)) (fun i => Z 20 (6 * j + i))) nI (6 - k) k)), (3, .int (nI k)), (0, .ref (o 0)), (1, .int (nI j))]) B.hx B.hb dX4_nextReader_41 rfl hl (by decide) rfl (fun ls hl => ?_)
        refine lv_iinc (v := (vn k)) (lv' := [(3, .int (vn k)), (2, .int (pF (okC (fun i => Z 19 (6 * j + i)) (fun i => Z 20 (6 * j + i))) nI (6 - k) k)), (0, .ref (o 0)), (1, .int (nI j))]) B.hx B.hb dX4_nextReader_42 hl (k := 1) rfl (vn_dec k) (by decide) rfl (fun ls hl => ?_)
        refine lv_goto (tgt := 4) B.hx B.hb dX4_nextReader_45 (by decide) ?_
        exact ih k (by omega) (by omega) ls (lv_sub hl [0, 1, 2, 3] rfl)
set_option maxHeartbeats 4000000 in
set_option maxRecDepth 100000 in
theorem c4_openRemarks (l : Launch) (D : va_G) (cI cZ cP cJ : ClassId) (o : Nat → Nat) (J : Nat → Int32) (Z : Nat → Nat → Int32) (j : Nat) (hj : j < 8) (k : Nat) (hk : Z 15 j = nI k) (hk4 : k ≤ 4) : q_C l yX4_openRemarks wsX4_openRemarks ({ frames := 1, cells := 0, slots := 0, locals := 25 }) D cI cZ cP cJ [.ref (o 0), .int (nI j)] (mw cI cZ o J Z) (S := Unit) (fun v _ => v = some (.int (nI (mOR Z j k)))) (fun _ => mw cI cZ o J Z) (fun _ => False) 0 0 := by
  refine q_of (cc := cX4_openRemarks) (maxL := 2) (ret := (some .int)) (by decide +kernel) rfl (Nat.le_of_ble_eq_true rfl) ?_
  intro p e s m below meth c A ls B hr htb hmn hP hD hS hl
  have hl : lv_has ls 2 [(0, .ref (o 0)), (1, .int (nI j))] := hl
  have hi4 : ∀ w ∈ u_ws RX4 TX4 31, w ∈ wsX4_openRemarks := by decide +kernel
  refine lv_aload_n B.hx B.hb dX4_openRemarks_0 rfl (lv_at hl 0 rfl) ?_
  refine q_get B hP (C := RX4) (ref := "PaperKeeperModel") (T := TX4) (N := 31) (ci := 4) hi4 rfl 0 rfl 15 (by decide) (by decide +kernel) rfl (v := .ref (o 15)) rfl dX4_openRemarks_1 ?_
  refine lv_iload_n B.hx B.hb dX4_openRemarks_4 rfl (lv_at hl 1 rfl) ?_
  refine q_iald B hP 13 rfl (j := j) rfl (by omega) (by decide) dX4_openRemarks_5 ?_
  refine q_top (v2 := .int (nI k)) (congrArg Value.int hk) ?_
  refine lv_aload_n B.hx B.hb dX4_openRemarks_6 rfl (lv_at hl 0 rfl) ?_
  refine lv_aload_n B.hx B.hb dX4_openRemarks_7 rfl (lv_at hl 0 rfl) ?_
  refine q_get B hP (C := RX4) (ref := "PaperKeeperModel") (T := TX4) (N := 31) (ci := 4) hi4 rfl 0 rfl 16 (by decide) (by decide +kernel) rfl (v := .ref (o 16)) rfl dX4_openRemarks_8 ?_
  refine lv_iconst (v := (nI 4)) B.hx B.hb dX4_openRemarks_11 (by decide) ?_
  refine lv_iload_n B.hx B.hb dX4_openRemarks_12 rfl (lv_at hl 1 rfl) ?_
  refine lv_imul B.hx B.hb dX4_openRemarks_13 ?_
  refine q_top (v2 := .int (nI ((4 * j)))) (congrArg Value.int (pk_mul _ _)) ?_
  refine lv_aload_n B.hx B.hb dX4_openRemarks_14 rfl (lv_at hl 0 rfl) ?_
  refine q_get B hP (C := RX4) (ref := "PaperKeeperModel") (T := TX4) (N := 31) (ci := 4) hi4 rfl 0 rfl 15 (by decide) (by decide +kernel) rfl (v := .ref (o 15)) rfl dX4_openRemarks_15 ?_
  refine lv_iload_n B.hx B.hb dX4_openRemarks_18 rfl (lv_at hl 1 rfl) ?_
  refine q_iald B hP 13 rfl (j := j) rfl (by omega) (by decide) dX4_openRemarks_19 ?_
  refine q_top (v2 := .int (nI k)) (congrArg Value.int hk) ?_
  refine q_callV (As := [.ref (o 16), .int (nI ((4 * j))), .int (nI k)]) (rest := [.int (nI k)]) B hP hD hS (c4_count l D cI cZ cP cJ (mw cI cZ o J Z) (o 0) 14 (o 16) 32 (Z 16) rfl (4 * j) k (by omega) (by decide)) (cwV 3 B.hts gX4_openRemarks_X4_count rfl rfl rfl (by decide +kernel) ⟨(Nat.le_of_ble_eq_true rfl), (Nat.le_of_ble_eq_true rfl)⟩) 0 4 rfl rfl rfl rfl hl.1 rfl (Nat.le_of_ble_eq_true rfl) dX4_openRemarks_20 ⟨(Nat.le_of_ble_eq_true rfl), (Nat.le_of_ble_eq_true rfl)⟩ (fun E ce q9 H locs hx => False.elim hx) (fun v u H locs hp hP hD hS => ?_)
  obtain rfl := hp
  have hP : va_P D vwCl (mw cI cZ o J Z) H := hP
  have hD : va_D A (mw cI cZ o J Z) := hD
  refine lv_isub B.hx B.hb dX4_openRemarks_23 ?_
  refine q_top (v2 := .int (nI ((mOR Z j k)))) (congrArg Value.int (mOR_eq Z j k (by omega))) ?_
  exact q_iret B hr hP hD hS (u := ()) rfl rfl (Nat.le_of_ble_eq_true rfl) (Nat.le_of_ble_eq_true rfl) dX4_openRemarks_24
set_option maxHeartbeats 4000000 in
set_option maxRecDepth 100000 in
theorem c4_isOver (l : Launch) (D : va_G) (cI cZ cP cJ : ClassId) (o : Nat → Nat) (J : Nat → Int32) (Z : Nat → Nat → Int32) (j : Nat) (hj : j < 8) (mm : Nat) (hm : Z 12 j = nI mm) (hm4 : mm ≤ 4) (k : Nat) (hk : Z 15 j = nI k) (hk4 : k ≤ 4) : q_C l yX4_isOver wsX4_isOver ({ frames := 2, cells := 0, slots := 0, locals := 46 }) D cI cZ cP cJ [.ref (o 0), .int (nI j)] (mw cI cZ o J Z) (S := Unit) (fun v _ => v = some (.int (bI (decide (0 < mm) && decide (mNR Z j mm = -1) && decide (mOR Z j k = 0))))) (fun _ => mw cI cZ o J Z) (fun _ => False) 0 0 := by
  refine q_of (cc := cX4_isOver) (maxL := 2) (ret := (some .boolean)) (by decide +kernel) rfl (Nat.le_of_ble_eq_true rfl) ?_
  intro p e s m below meth c A ls B hr htb hmn hP hD hS hl
  have hl : lv_has ls 2 [(0, .ref (o 0)), (1, .int (nI j))] := hl
  have hi4 : ∀ w ∈ u_ws RX4 TX4 31, w ∈ wsX4_isOver := by decide +kernel
  have hor : mOR Z j k ≤ 4 := Nat.le_trans (pN_le _ _) hk4
  refine lv_aload_n B.hx B.hb dX4_isOver_0 rfl (lv_at hl 0 rfl) ?_
  refine q_get B hP (C := RX4) (ref := "PaperKeeperModel") (T := TX4) (N := 31) (ci := 4) hi4 rfl 0 rfl 12 (by decide) (by decide +kernel) rfl (v := .ref (o 12)) rfl dX4_isOver_1 ?_
  refine lv_iload_n B.hx B.hb dX4_isOver_4 rfl (lv_at hl 1 rfl) ?_
  refine q_iald B hP 10 rfl (j := j) rfl (by omega) (by decide) dX4_isOver_5 ?_
  refine q_top (v2 := .int (nI mm)) (congrArg Value.int hm) ?_
  refine lv_if_le (tgt := 30) B.hx B.hb dX4_isOver_6 (by decide) (fun c1 => ?_) (fun c1 => ?_)
  · replace c1 := (nI_le0 (by omega)).mp c1
    refine lv_iconst (v := (nI 0)) B.hx B.hb dX4_isOver_30 (by decide) ?_
    exact q_zret B hr hP hD hS (by decide) (u := ()) rfl (congrArg (fun z => some (Value.int z)) (bI_f (by simp [c1] <;> omega))) (Nat.le_of_ble_eq_true rfl) (Nat.le_of_ble_eq_true rfl) dX4_isOver_31
  · replace c1 := mt (nI_le0 (by omega)).mpr c1
    refine lv_aload_n B.hx B.hb dX4_isOver_9 rfl (lv_at hl 0 rfl) ?_
    refine lv_iload_n B.hx B.hb dX4_isOver_10 rfl (lv_at hl 1 rfl) ?_
    refine q_callV (As := [.int (nI j)]) (rest := []) B hP hD hS (c4_nextReviewer l D cI cZ cP cJ o J Z j hj mm hm hm4) (cwV 1 B.hts gX4_isOver_X4_nextReviewer rfl rfl rfl (by decide +kernel) ⟨(Nat.le_of_ble_eq_true rfl), (Nat.le_of_ble_eq_true rfl)⟩) 0 4 rfl rfl rfl rfl hl.1 rfl (Nat.le_of_ble_eq_true rfl) dX4_isOver_11 ⟨(Nat.le_of_ble_eq_true rfl), (Nat.le_of_ble_eq_true rfl)⟩ (fun E ce q9 H locs hx => False.elim hx) (fun v u H locs hp hP hD hS => ?_)
    obtain rfl := hp
    have hP : va_P D vwCl (mw cI cZ o J Z) H := hP
    have hD : va_D A (mw cI cZ o J Z) := hD
    refine lv_iconst (v := (-1)) B.hx B.hb dX4_isOver_14 (by decide) ?_
    refine lv_icmp_ne (tgt := 30) B.hx B.hb dX4_isOver_15 (by decide) (fun c2 => ?_) (fun c2 => ?_)
    · refine lv_iconst (v := (nI 0)) B.hx B.hb dX4_isOver_30 (by decide) ?_
      exact q_zret B hr hP hD hS (by decide) (u := ()) rfl (congrArg (fun z => some (Value.int z)) (bI_f (by simp [c1, c2] <;> omega))) (Nat.le_of_ble_eq_true rfl) (Nat.le_of_ble_eq_true rfl) dX4_isOver_31
    · refine lv_aload_n B.hx B.hb dX4_isOver_18 rfl (lv_at hl 0 rfl) ?_
      refine lv_iload_n B.hx B.hb dX4_isOver_19 rfl (lv_at hl 1 rfl) ?_
      refine q_callV (As := [.int (nI j)]) (rest := []) B hP hD hS (c4_openRemarks l D cI cZ cP cJ o J Z j hj k hk hk4) (cwV 1 B.hts gX4_isOver_X4_openRemarks rfl rfl rfl (by decide +kernel) ⟨(Nat.le_of_ble_eq_true rfl), (Nat.le_of_ble_eq_true rfl)⟩) 0 4 rfl rfl rfl rfl hl.1 rfl (Nat.le_of_ble_eq_true rfl) dX4_isOver_20 ⟨(Nat.le_of_ble_eq_true rfl), (Nat.le_of_ble_eq_true rfl)⟩ (fun E ce q9 H locs hx => False.elim hx) (fun v u H locs hp hP hD hS => ?_)
      obtain rfl := hp
      have hP : va_P D vwCl (mw cI cZ o J Z) H := hP
      have hD : va_D A (mw cI cZ o J Z) := hD
      refine lv_if_ne (tgt := 30) B.hx B.hb dX4_isOver_23 (by decide) (fun c3 => ?_) (fun c3 => ?_)
      · replace c3 := mt (nI_eq0 (by omega)).mpr c3
        refine lv_iconst (v := (nI 0)) B.hx B.hb dX4_isOver_30 (by decide) ?_
        exact q_zret B hr hP hD hS (by decide) (u := ()) rfl (congrArg (fun z => some (Value.int z)) (bI_f (by simp [c1, c2, c3] <;> omega))) (Nat.le_of_ble_eq_true rfl) (Nat.le_of_ble_eq_true rfl) dX4_isOver_31
      · replace c3 := (nI_eq0 (by omega)).mp c3
        refine lv_iconst (v := (nI 1)) B.hx B.hb dX4_isOver_26 (by decide) ?_
        refine lv_goto (tgt := 31) B.hx B.hb dX4_isOver_27 (by decide) ?_
        exact q_zret B hr hP hD hS (by decide) (u := ()) rfl (congrArg (fun z => some (Value.int z)) (bI_t (by simp [c1, c2, c3] <;> omega))) (Nat.le_of_ble_eq_true rfl) (Nat.le_of_ble_eq_true rfl) dX4_isOver_31
set_option maxHeartbeats 4000000 in
set_option maxRecDepth 100000 in
theorem c4_approves (l : Launch) (D : va_G) (cI cZ cP cJ : ClassId) (o : Nat → Nat) (J : Nat → Int32) (Z : Nat → Nat → Int32) (j : Nat) (hj : j < 8) (x : Nat) (hx : x < 6) (hb : ∀ i, i < 6 → Z 3 i = 0 ∨ Z 3 i = 1) : q_C l yX4_approves wsX4_approves ({ frames := 0, cells := 0, slots := 0, locals := 0 }) D cI cZ cP cJ [.ref (o 0), .int (nI j), .int (nI x)] (mw cI cZ o J Z) (S := Unit) (fun v _ => v = some (.int (bI ((ca (Z 3) (Z 4) x 6) && decide (¬ nI x = Z 9 j))))) (fun _ => mw cI cZ o J Z) (fun _ => False) 0 0 := by
  refine q_of (cc := cX4_approves) (maxL := 5) (ret := (some .boolean)) (by decide +kernel) rfl (Nat.le_of_ble_eq_true rfl) ?_
  intro p e s m below meth c A ls B hr htb hmn hP hD hS hl
  have hl : lv_has ls 5 [(0, .ref (o 0)), (1, .int (nI j)), (2, .int (nI x))] := hl
  have hi4 : ∀ w ∈ u_ws RX4 TX4 31, w ∈ wsX4_approves := by decide +kernel
  refine lv_aload_n B.hx B.hb dX4_approves_0 rfl (lv_at hl 0 rfl) ?_
  refine q_get B hP (C := RX4) (ref := "PaperKeeperModel") (T := TX4) (N := 31) (ci := 4) hi4 rfl 0 rfl 3 (by decide) (by decide +kernel) rfl (v := .ref (o 3)) rfl dX4_approves_1 ?_
  refine lv_iload_n B.hx B.hb dX4_approves_4 rfl (lv_at hl 2 rfl) ?_
  refine q_zald B hP 2 rfl (j := x) rfl (by omega) (by decide) dX4_approves_5 ?_
  refine q_top (v2 := .int (bI (ca (Z 3) (Z 4) x 0))) (congrArg Value.int (ca_0 (hb x hx))) ?_
  refine lv_istore_n (lv' := [(3, .int (bI (ca (Z 3) (Z 4) x 0))), (0, .ref (o 0)), (1, .int (nI j)), (2, .int (nI x))]) B.hx B.hb dX4_approves_6 rfl hl (by decide) rfl (fun ls hl => ?_)
  refine lv_iconst (v := (nI 0)) B.hx B.hb dX4_approves_7 (by decide) ?_
  refine lv_istore (lv' := [(4, .int (nI 0)), (3, .int (bI (ca (Z 3) (Z 4) x 0))), (0, .ref (o 0)), (1, .int (nI j)), (2, .int (nI x))]) B.hx B.hb dX4_approves_8 hl (by decide) rfl (fun ls hl => ?_)
  refine q_loop (nL := 5) (fun i : Nat => i ≤ 6) (fun i : Nat => 6 - i) (fun i : Nat => [(4, .int (nI i)), (3, .int (bI (ca (Z 3) (Z 4) x i))), (0, .ref (o 0)), (1, .int (nI j)), (2, .int (nI x))]) (0) (Nat.zero_le _) (lv_sub hl [0, 1, 2, 3, 4] rfl) ?_
  intro i1 hI2 ih3 ls hl
  have hI2 : i1 ≤ 6 := hI2
  have hl : lv_has ls 5 [(4, .int (nI i1)), (3, .int (bI (ca (Z 3) (Z 4) x i1))), (0, .ref (o 0)), (1, .int (nI j)), (2, .int (nI x))] := hl
  refine lv_iload B.hx B.hb dX4_approves_10 (lv_at hl 0 rfl) ?_
  refine lv_bipush (v := (nI 6)) B.hx B.hb dX4_approves_12 (by decide) ?_
  refine lv_icmp_ge (tgt := 54) B.hx B.hb dX4_approves_14 (by decide) (fun c4 => ?_) (fun c4 => ?_)
  · replace c4 := (nI_leI (by omega) (by omega)).mp c4
    obtain rfl : i1 = 6 := by omega
    refine lv_iload_n B.hx B.hb dX4_approves_54 rfl (lv_at hl 1 rfl) ?_
    refine lv_if_eq (tgt := 72) B.hx B.hb dX4_approves_55 (by decide) (fun c5 => ?_) (fun c5 => ?_)
    · replace c5 := bI_0.mp c5
      refine lv_iconst (v := (nI 0)) B.hx B.hb dX4_approves_72 (by decide) ?_
      exact q_zret B hr hP hD hS (by decide) (u := ()) rfl (congrArg (fun z => some (Value.int z)) (bI_f (by simp [c5]))) (Nat.le_of_ble_eq_true rfl) (Nat.le_of_ble_eq_true rfl) dX4_approves_73
    · replace c5 := Bool.not_eq_false _ ▸ (mt bI_0.mpr c5)
      refine lv_iload_n B.hx B.hb dX4_approves_58 rfl (lv_at hl 4 rfl) ?_
      refine lv_aload_n B.hx B.hb dX4_approves_59 rfl (lv_at hl 2 rfl) ?_
      refine q_get B hP (C := RX4) (ref := "PaperKeeperModel") (T := TX4) (N := 31) (ci := 4) hi4 rfl 0 rfl 9 (by decide) (by decide +kernel) rfl (v := .ref (o 9)) rfl dX4_approves_60 ?_
      refine lv_iload_n B.hx B.hb dX4_approves_63 rfl (lv_at hl 3 rfl) ?_
      refine q_iald B hP 7 rfl (j := j) rfl (by omega) (by decide) dX4_approves_64 ?_
      refine lv_icmp_eq (tgt := 72) B.hx B.hb dX4_approves_65 (by decide) (fun c6 => ?_) (fun c6 => ?_)
      · refine lv_iconst (v := (nI 0)) B.hx B.hb dX4_approves_72 (by decide) ?_
        exact q_zret B hr hP hD hS (by decide) (u := ()) rfl (congrArg (fun z => some (Value.int z)) (bI_f (by simp [c5, c6]))) (Nat.le_of_ble_eq_true rfl) (Nat.le_of_ble_eq_true rfl) dX4_approves_73
      · refine lv_iconst (v := (nI 1)) B.hx B.hb dX4_approves_68 (by decide) ?_
        refine lv_goto (tgt := 73) B.hx B.hb dX4_approves_69 (by decide) ?_
        exact q_zret B hr hP hD hS (by decide) (u := ()) rfl (congrArg (fun z => some (Value.int z)) (bI_t (by simp [c5, c6]))) (Nat.le_of_ble_eq_true rfl) (Nat.le_of_ble_eq_true rfl) dX4_approves_73
  · replace c4 := mt (nI_leI (by omega) (by omega)).mpr c4
    refine lv_iload_n B.hx B.hb dX4_approves_17 rfl (lv_at hl 1 rfl) ?_
    refine lv_if_ne (tgt := 42) B.hx B.hb dX4_approves_18 (by decide) (fun c7 => ?_) (fun c7 => ?_)
    · replace c7 := Bool.not_eq_false _ ▸ (mt bI_0.mpr c7)
      refine lv_iconst (v := (nI 1)) B.hx B.hb dX4_approves_42 (by decide) ?_
      refine lv_goto (tgt := 47) B.hx B.hb dX4_approves_43 (by decide) ?_
      refine q_top (v2 := .int (bI (ca (Z 3) (Z 4) x (i1 + 1)))) (congrArg Value.int (bI_t (by rw [ca_s]; simp [c7]))) ?_
      refine lv_istore_n (lv' := [(3, .int (bI (ca (Z 3) (Z 4) x (i1 + 1)))), (4, .int (nI i1)), (0, .ref (o 0)), (1, .int (nI j)), (2, .int (nI x))]) B.hx B.hb dX4_approves_47 rfl hl (by decide) rfl (fun ls hl => ?_)
      refine lv_iinc (v := (nI ((i1 + 1)))) (lv' := [(4, .int (nI ((i1 + 1)))), (3, .int (bI (ca (Z 3) (Z 4) x (i1 + 1)))), (0, .ref (o 0)), (1, .int (nI j)), (2, .int (nI x))]) B.hx B.hb dX4_approves_48 hl (k := 1) rfl (nI_1 _) (by decide) rfl (fun ls hl => ?_)
      refine lv_goto (tgt := 10) B.hx B.hb dX4_approves_51 (by decide) ?_
      exact ih3 (i1 + 1) (by omega) (by omega) ls (lv_sub hl [0, 1, 2, 3, 4] rfl)
    · replace c7 := bI_0.mp c7
      refine lv_aload_n B.hx B.hb dX4_approves_21 rfl (lv_at hl 2 rfl) ?_
      refine q_get B hP (C := RX4) (ref := "PaperKeeperModel") (T := TX4) (N := 31) (ci := 4) hi4 rfl 0 rfl 3 (by decide) (by decide +kernel) rfl (v := .ref (o 3)) rfl dX4_approves_22 ?_
      refine lv_iload B.hx B.hb dX4_approves_25 (lv_at hl 0 rfl) ?_
      refine q_zald B hP 2 rfl (j := i1) rfl (by omega) (by decide) dX4_approves_27 ?_
      refine lv_if_eq (tgt := 46) B.hx B.hb dX4_approves_28 (by decide) (fun c8 => ?_) (fun c8 => ?_)
      · refine lv_iconst (v := (nI 0)) B.hx B.hb dX4_approves_46 (by decide) ?_
        refine q_top (v2 := .int (bI (ca (Z 3) (Z 4) x (i1 + 1)))) (congrArg Value.int (bI_f (by rw [ca_s]; simp [c7, c8]))) ?_
        refine lv_istore_n (lv' := [(3, .int (bI (ca (Z 3) (Z 4) x (i1 + 1)))), (4, .int (nI i1)), (0, .ref (o 0)), (1, .int (nI j)), (2, .int (nI x))]) B.hx B.hb dX4_approves_47 rfl hl (by decide) rfl (fun ls hl => ?_)
        refine lv_iinc (v := (nI ((i1 + 1)))) (lv' := [(4, .int (nI ((i1 + 1)))), (3, .int (bI (ca (Z 3) (Z 4) x (i1 + 1)))), (0, .ref (o 0)), (1, .int (nI j)), (2, .int (nI x))]) B.hx B.hb dX4_approves_48 hl (k := 1) rfl (nI_1 _) (by decide) rfl (fun ls hl => ?_)
        refine lv_goto (tgt := 10) B.hx B.hb dX4_approves_51 (by decide) ?_
        exact ih3 (i1 + 1) (by omega) (by omega) ls (lv_sub hl [0, 1, 2, 3, 4] rfl)
      · refine lv_aload_n B.hx B.hb dX4_approves_31 rfl (lv_at hl 2 rfl) ?_
        refine q_get B hP (C := RX4) (ref := "PaperKeeperModel") (T := TX4) (N := 31) (ci := 4) hi4 rfl 0 rfl 4 (by decide) (by decide +kernel) rfl (v := .ref (o 4)) rfl dX4_approves_32 ?_
        refine lv_iload B.hx B.hb dX4_approves_35 (lv_at hl 0 rfl) ?_
        refine q_iald B hP 3 rfl (j := i1) rfl (by omega) (by decide) dX4_approves_37 ?_
        refine lv_iload_n B.hx B.hb dX4_approves_38 rfl (lv_at hl 4 rfl) ?_
        refine lv_icmp_ne (tgt := 46) B.hx B.hb dX4_approves_39 (by decide) (fun c9 => ?_) (fun c9 => ?_)
        · refine lv_iconst (v := (nI 0)) B.hx B.hb dX4_approves_46 (by decide) ?_
          refine q_top (v2 := .int (bI (ca (Z 3) (Z 4) x (i1 + 1)))) (congrArg Value.int (bI_f (by rw [ca_s]; simp [c7, c8, c9]))) ?_
          refine lv_istore_n (lv' := [(3, .int (bI (ca (Z 3) (Z 4) x (i1 + 1)))), (4, .int (nI i1)), (0, .ref (o 0)), (1, .int (nI j)), (2, .int (nI x))]) B.hx B.hb dX4_approves_47 rfl hl (by decide) rfl (fun ls hl => ?_)
          refine lv_iinc (v := (nI ((i1 + 1)))) (lv' := [(4, .int (nI ((i1 + 1)))), (3, .int (bI (ca (Z 3) (Z 4) x (i1 + 1)))), (0, .ref (o 0)), (1, .int (nI j)), (2, .int (nI x))]) B.hx B.hb dX4_approves_48 hl (k := 1) rfl (nI_1 _) (by decide) rfl (fun ls hl => ?_)
          refine lv_goto (tgt := 10) B.hx B.hb dX4_approves_51 (by decide) ?_
          exact ih3 (i1 + 1) (by omega) (by omega) ls (lv_sub hl [0, 1, 2, 3, 4] rfl)
        · refine lv_iconst (v := (nI 1)) B.hx B.hb dX4_approves_42 (by decide) ?_
          refine lv_goto (tgt := 47) B.hx B.hb dX4_approves_43 (by decide) ?_
          refine q_top (v2 := .int (bI (ca (Z 3) (Z 4) x (i1 + 1)))) (congrArg Value.int (bI_t (by rw [ca_s]; simp [c7, c8, c9]))) ?_
          refine lv_istore_n (lv' := [(3, .int (bI (ca (Z 3) (Z 4) x (i1 + 1)))), (4, .int (nI i1)), (0, .ref (o 0)), (1, .int (nI j)), (2, .int (nI x))]) B.hx B.hb dX4_approves_47 rfl hl (by decide) rfl (fun ls hl => ?_)
          refine lv_iinc (v := (nI ((i1 + 1)))) (lv' := [(4, .int (nI ((i1 + 1)))), (3, .int (bI (ca (Z 3) (Z 4) x (i1 + 1)))), (0, .ref (o 0)), (1, .int (nI j)), (2, .int (nI x))]) B.hx B.hb dX4_approves_48 hl (k := 1) rfl (nI_1 _) (by decide) rfl (fun ls hl => ?_)
          refine lv_goto (tgt := 10) B.hx B.hb dX4_approves_51 (by decide) ?_
          exact ih3 (i1 + 1) (by omega) (by omega) ls (lv_sub hl [0, 1, 2, 3, 4] rfl)
set_option maxHeartbeats 4000000 in
set_option maxRecDepth 100000 in
theorem c4_falls (l : Launch) (D : va_G) (cI cZ cP cJ : ClassId) (o : Nat → Nat) (J : Nat → Int32) (Z : Nat → Nat → Int32) (j : Nat) (hj : j < 8) (w : Nat) (hw : Z 21 j = nI w) (hw2 : w ≤ 128) : q_C l yX4_falls wsX4_falls ({ frames := 0, cells := 0, slots := 0, locals := 0 }) D cI cZ cP cJ [.ref (o 0), .int (nI j)] (mw cI cZ o J Z) (S := Unit) (fun v _ => v = some (.int (nl w (Z 24 j) (J 0) (Z 25 j) (J 1)))) (fun _ => mw cI cZ o J Z) (fun _ => False) 0 0 := by
  refine q_of (cc := cX4_falls) (maxL := 2) (ret := (some .boolean)) (by decide +kernel) rfl (Nat.le_of_ble_eq_true rfl) ?_
  intro p e s m below meth c A ls B hr htb hmn hP hD hS hl
  have hl : lv_has ls 2 [(0, .ref (o 0)), (1, .int (nI j))] := hl
  have hi4 : ∀ w ∈ u_ws RX4 TX4 31, w ∈ wsX4_falls := by decide +kernel
  refine lv_aload_n B.hx B.hb dX4_falls_0 rfl (lv_at hl 0 rfl) ?_
  refine q_get B hP (C := RX4) (ref := "PaperKeeperModel") (T := TX4) (N := 31) (ci := 4) hi4 rfl 0 rfl 21 (by decide) (by decide +kernel) rfl (v := .ref (o 21)) rfl dX4_falls_1 ?_
  refine lv_iload_n B.hx B.hb dX4_falls_4 rfl (lv_at hl 1 rfl) ?_
  refine q_iald B hP 19 rfl (j := j) rfl (by omega) (by decide) dX4_falls_5 ?_
  refine q_top (v2 := .int (nI w)) (congrArg Value.int hw) ?_
  refine lv_if_le (tgt := 40) B.hx B.hb dX4_falls_6 (by decide) (fun c1 => ?_) (fun c1 => ?_)
  · replace c1 := (nI_le0 (by omega)).mp c1
    refine lv_iconst (v := (nI 0)) B.hx B.hb dX4_falls_40 (by decide) ?_
    exact q_zret B hr hP hD hS (by decide) (u := ()) rfl (by simp [nl, c1]) (Nat.le_of_ble_eq_true rfl) (Nat.le_of_ble_eq_true rfl) dX4_falls_41
  · replace c1 := mt (nI_le0 (by omega)).mpr c1
    refine lv_aload_n B.hx B.hb dX4_falls_9 rfl (lv_at hl 0 rfl) ?_
    refine q_get B hP (C := RX4) (ref := "PaperKeeperModel") (T := TX4) (N := 31) (ci := 4) hi4 rfl 0 rfl 24 (by decide) (by decide +kernel) rfl (v := .ref (o 24)) rfl dX4_falls_10 ?_
    refine lv_iload_n B.hx B.hb dX4_falls_13 rfl (lv_at hl 1 rfl) ?_
    refine q_zald B hP 22 rfl (j := j) rfl (by omega) (by decide) dX4_falls_14 ?_
    refine lv_if_ne (tgt := 36) B.hx B.hb dX4_falls_15 (by decide) (fun c2 => ?_) (fun c2 => ?_)
    · refine lv_iconst (v := (nI 1)) B.hx B.hb dX4_falls_36 (by decide) ?_
      refine lv_goto (tgt := 41) B.hx B.hb dX4_falls_37 (by decide) ?_
      exact q_zret B hr hP hD hS (by decide) (u := ()) rfl (by simp [nl, c1, c2]) (Nat.le_of_ble_eq_true rfl) (Nat.le_of_ble_eq_true rfl) dX4_falls_41
    · refine lv_aload_n B.hx B.hb dX4_falls_18 rfl (lv_at hl 0 rfl) ?_
      refine q_get B hP (C := RX4) (ref := "PaperKeeperModel") (T := TX4) (N := 31) (ci := 4) hi4 rfl 0 rfl 0 (by decide) (by decide +kernel) rfl (v := .int (J 0)) rfl dX4_falls_19 ?_
      refine lv_aload_n B.hx B.hb dX4_falls_22 rfl (lv_at hl 0 rfl) ?_
      refine q_get B hP (C := RX4) (ref := "PaperKeeperModel") (T := TX4) (N := 31) (ci := 4) hi4 rfl 0 rfl 25 (by decide) (by decide +kernel) rfl (v := .ref (o 25)) rfl dX4_falls_23 ?_
      refine lv_iload_n B.hx B.hb dX4_falls_26 rfl (lv_at hl 1 rfl) ?_
      refine q_iald B hP 23 rfl (j := j) rfl (by omega) (by decide) dX4_falls_27 ?_
      refine lv_isub B.hx B.hb dX4_falls_28 ?_
      refine lv_aload_n B.hx B.hb dX4_falls_29 rfl (lv_at hl 0 rfl) ?_
      refine q_get B hP (C := RX4) (ref := "PaperKeeperModel") (T := TX4) (N := 31) (ci := 4) hi4 rfl 0 rfl 1 (by decide) (by decide +kernel) rfl (v := .int (J 1)) rfl dX4_falls_30 ?_
      refine lv_icmp_lt (tgt := 40) B.hx B.hb dX4_falls_33 (by decide) (fun c3 => ?_) (fun c3 => ?_)
      · refine lv_iconst (v := (nI 0)) B.hx B.hb dX4_falls_40 (by decide) ?_
        exact q_zret B hr hP hD hS (by decide) (u := ()) rfl (by simp [nl, c1, c2, c3]) (Nat.le_of_ble_eq_true rfl) (Nat.le_of_ble_eq_true rfl) dX4_falls_41
      · refine lv_iconst (v := (nI 1)) B.hx B.hb dX4_falls_36 (by decide) ?_
        refine lv_goto (tgt := 41) B.hx B.hb dX4_falls_37 (by decide) ?_
        exact q_zret B hr hP hD hS (by decide) (u := ()) rfl (by simp [nl, c1, c2, c3]) (Nat.le_of_ble_eq_true rfl) (Nat.le_of_ble_eq_true rfl) dX4_falls_41
set_option maxHeartbeats 4000000 in
set_option maxRecDepth 100000 in
theorem c4_stepOf (l : Launch) (D : va_G) (cI cZ cP cJ : ClassId) (o : Nat → Nat) (J : Nat → Int32) (Z : Nat → Nat → Int32) (j : Nat) (hj : j < 8) (mm : Nat) (hm : Z 12 j = nI mm) (hm4 : mm ≤ 4) (k : Nat) (hk : Z 15 j = nI k) (hk4 : k ≤ 4) : q_C l yX4_stepOf wsX4_stepOf ({ frames := 2, cells := 0, slots := 0, locals := 46 }) D cI cZ cP cJ [.ref (o 0), .int (nI j)] (mw cI cZ o J Z) (S := Unit) (fun v _ => v = some (.int (if Z 8 j = 0 then nI 0 else (stp mm (mNR Z j mm) (mOR Z j k) (Z 17 j) (mNC Z j))))) (fun _ => mw cI cZ o J Z) (fun _ => False) 0 0 := by
  refine q_of (cc := cX4_stepOf) (maxL := 2) (ret := (some .int)) (by decide +kernel) rfl (Nat.le_of_ble_eq_true rfl) ?_
  intro p e s m below meth c A ls B hr htb hmn hP hD hS hl
  have hl : lv_has ls 2 [(0, .ref (o 0)), (1, .int (nI j))] := hl
  have hi4 : ∀ w ∈ u_ws RX4 TX4 31, w ∈ wsX4_stepOf := by decide +kernel
  have hor : mOR Z j k ≤ 4 := Nat.le_trans (pN_le _ _) hk4
  refine lv_aload_n B.hx B.hb dX4_stepOf_0 rfl (lv_at hl 0 rfl) ?_
  refine q_get B hP (C := RX4) (ref := "PaperKeeperModel") (T := TX4) (N := 31) (ci := 4) hi4 rfl 0 rfl 8 (by decide) (by decide +kernel) rfl (v := .ref (o 8)) rfl dX4_stepOf_1 ?_
  refine lv_iload_n B.hx B.hb dX4_stepOf_4 rfl (lv_at hl 1 rfl) ?_
  refine q_zald B hP 6 rfl (j := j) rfl (by omega) (by decide) dX4_stepOf_5 ?_
  refine lv_if_ne (tgt := 11) B.hx B.hb dX4_stepOf_6 (by decide) (fun c1 => ?_) (fun c1 => ?_)
  · refine lv_aload_n B.hx B.hb dX4_stepOf_11 rfl (lv_at hl 0 rfl) ?_
    refine q_get B hP (C := RX4) (ref := "PaperKeeperModel") (T := TX4) (N := 31) (ci := 4) hi4 rfl 0 rfl 12 (by decide) (by decide +kernel) rfl (v := .ref (o 12)) rfl dX4_stepOf_12 ?_
    refine lv_iload_n B.hx B.hb dX4_stepOf_15 rfl (lv_at hl 1 rfl) ?_
    refine q_iald B hP 10 rfl (j := j) rfl (by omega) (by decide) dX4_stepOf_16 ?_
    refine q_top (v2 := .int (nI mm)) (congrArg Value.int hm) ?_
    refine lv_if_eq (tgt := 29) B.hx B.hb dX4_stepOf_17 (by decide) (fun c2 => ?_) (fun c2 => ?_)
    · replace c2 := (nI_eq0 (by omega)).mp c2
      refine lv_iconst (v := (nI 1)) B.hx B.hb dX4_stepOf_29 (by decide) ?_
      exact q_iret B hr hP hD hS (u := ()) rfl (by simp [stp, c1, c2]) (Nat.le_of_ble_eq_true rfl) (Nat.le_of_ble_eq_true rfl) dX4_stepOf_30
    · replace c2 := mt (nI_eq0 (by omega)).mpr c2
      refine lv_aload_n B.hx B.hb dX4_stepOf_20 rfl (lv_at hl 0 rfl) ?_
      refine lv_iload_n B.hx B.hb dX4_stepOf_21 rfl (lv_at hl 1 rfl) ?_
      refine q_callV (As := [.int (nI j)]) (rest := []) B hP hD hS (c4_nextReviewer l D cI cZ cP cJ o J Z j hj mm hm hm4) (cwV 1 B.hts gX4_stepOf_X4_nextReviewer rfl rfl rfl (by decide +kernel) ⟨(Nat.le_of_ble_eq_true rfl), (Nat.le_of_ble_eq_true rfl)⟩) 0 4 rfl rfl rfl rfl hl.1 rfl (Nat.le_of_ble_eq_true rfl) dX4_stepOf_22 ⟨(Nat.le_of_ble_eq_true rfl), (Nat.le_of_ble_eq_true rfl)⟩ (fun E ce q9 H locs hx => False.elim hx) (fun v u H locs hp hP hD hS => ?_)
      obtain rfl := hp
      have hP : va_P D vwCl (mw cI cZ o J Z) H := hP
      have hD : va_D A (mw cI cZ o J Z) := hD
      refine lv_iconst (v := (-1)) B.hx B.hb dX4_stepOf_25 (by decide) ?_
      refine lv_icmp_eq (tgt := 31) B.hx B.hb dX4_stepOf_26 (by decide) (fun c3 => ?_) (fun c3 => ?_)
      · refine lv_aload_n B.hx B.hb dX4_stepOf_31 rfl (lv_at hl 0 rfl) ?_
        refine lv_iload_n B.hx B.hb dX4_stepOf_32 rfl (lv_at hl 1 rfl) ?_
        refine q_callV (As := [.int (nI j)]) (rest := []) B hP hD hS (c4_openRemarks l D cI cZ cP cJ o J Z j hj k hk hk4) (cwV 1 B.hts gX4_stepOf_X4_openRemarks rfl rfl rfl (by decide +kernel) ⟨(Nat.le_of_ble_eq_true rfl), (Nat.le_of_ble_eq_true rfl)⟩) 0 4 rfl rfl rfl rfl hl.1 rfl (Nat.le_of_ble_eq_true rfl) dX4_stepOf_33 ⟨(Nat.le_of_ble_eq_true rfl), (Nat.le_of_ble_eq_true rfl)⟩ (fun E ce q9 H locs hx => False.elim hx) (fun v u H locs hp hP hD hS => ?_)
        obtain rfl := hp
        have hP : va_P D vwCl (mw cI cZ o J Z) H := hP
        have hD : va_D A (mw cI cZ o J Z) := hD
        refine lv_if_le (tgt := 43) B.hx B.hb dX4_stepOf_36 (by decide) (fun c4 => ?_) (fun c4 => ?_)
        · replace c4 := (nI_le0 (by omega)).mp c4
          refine lv_aload_n B.hx B.hb dX4_stepOf_43 rfl (lv_at hl 0 rfl) ?_
          refine q_get B hP (C := RX4) (ref := "PaperKeeperModel") (T := TX4) (N := 31) (ci := 4) hi4 rfl 0 rfl 17 (by decide) (by decide +kernel) rfl (v := .ref (o 17)) rfl dX4_stepOf_44 ?_
          refine lv_iload_n B.hx B.hb dX4_stepOf_47 rfl (lv_at hl 1 rfl) ?_
          refine q_zald B hP 15 rfl (j := j) rfl (by omega) (by decide) dX4_stepOf_48 ?_
          refine lv_if_ne (tgt := 56) B.hx B.hb dX4_stepOf_49 (by decide) (fun c5 => ?_) (fun c5 => ?_)
          · refine lv_aload_n B.hx B.hb dX4_stepOf_56 rfl (lv_at hl 0 rfl) ?_
            refine lv_iload_n B.hx B.hb dX4_stepOf_57 rfl (lv_at hl 1 rfl) ?_
            refine q_callV (As := [.int (nI j)]) (rest := []) B hP hD hS (c4_nextReader l D cI cZ cP cJ o J Z j hj) (cwV 1 B.hts gX4_stepOf_X4_nextReader rfl rfl rfl (by decide +kernel) ⟨(Nat.le_of_ble_eq_true rfl), (Nat.le_of_ble_eq_true rfl)⟩) 0 4 rfl rfl rfl rfl hl.1 rfl (Nat.le_of_ble_eq_true rfl) dX4_stepOf_58 ⟨(Nat.le_of_ble_eq_true rfl), (Nat.le_of_ble_eq_true rfl)⟩ (fun E ce q9 H locs hx => False.elim hx) (fun v u H locs hp hP hD hS => ?_)
            obtain rfl := hp
            have hP : va_P D vwCl (mw cI cZ o J Z) H := hP
            have hD : va_D A (mw cI cZ o J Z) := hD
            refine lv_iconst (v := (-1)) B.hx B.hb dX4_stepOf_61 (by decide) ?_
            refine lv_icmp_eq (tgt := 69) B.hx B.hb dX4_stepOf_62 (by decide) (fun c6 => ?_) (fun c6 => ?_)
            · refine lv_iconst (v := (nI 5)) B.hx B.hb dX4_stepOf_69 (by decide) ?_
              exact q_iret B hr hP hD hS (u := ()) rfl (by simp [stp, c1, c2, c3, c4, c5, c6]) (Nat.le_of_ble_eq_true rfl) (Nat.le_of_ble_eq_true rfl) dX4_stepOf_70
            · refine lv_iconst (v := (nI 4)) B.hx B.hb dX4_stepOf_65 (by decide) ?_
              refine lv_goto (tgt := 70) B.hx B.hb dX4_stepOf_66 (by decide) ?_
              exact q_iret B hr hP hD hS (u := ()) rfl (by simp [stp, c1, c2, c3, c4, c5, c6]) (Nat.le_of_ble_eq_true rfl) (Nat.le_of_ble_eq_true rfl) dX4_stepOf_70
          · refine lv_iconst (v := (nI 3)) B.hx B.hb dX4_stepOf_52 (by decide) ?_
            refine lv_goto (tgt := 70) B.hx B.hb dX4_stepOf_53 (by decide) ?_
            exact q_iret B hr hP hD hS (u := ()) rfl (by simp [stp, c1, c2, c3, c4, c5]) (Nat.le_of_ble_eq_true rfl) (Nat.le_of_ble_eq_true rfl) dX4_stepOf_70
        · replace c4 := mt (nI_le0 (by omega)).mpr c4
          refine lv_iconst (v := (nI 2)) B.hx B.hb dX4_stepOf_39 (by decide) ?_
          refine lv_goto (tgt := 70) B.hx B.hb dX4_stepOf_40 (by decide) ?_
          exact q_iret B hr hP hD hS (u := ()) rfl (by simp [stp, c1, c2, c3, c4]) (Nat.le_of_ble_eq_true rfl) (Nat.le_of_ble_eq_true rfl) dX4_stepOf_70
      · refine lv_iconst (v := (nI 1)) B.hx B.hb dX4_stepOf_29 (by decide) ?_
        exact q_iret B hr hP hD hS (u := ()) rfl (by simp [stp, c1, c2, c3]) (Nat.le_of_ble_eq_true rfl) (Nat.le_of_ble_eq_true rfl) dX4_stepOf_30
  · refine lv_iconst (v := (nI 0)) B.hx B.hb dX4_stepOf_9 (by decide) ?_
    exact q_iret B hr hP hD hS (u := ()) rfl (by simp [stp, c1]) (Nat.le_of_ble_eq_true rfl) (Nat.le_of_ble_eq_true rfl) dX4_stepOf_10
