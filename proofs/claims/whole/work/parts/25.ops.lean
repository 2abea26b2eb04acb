/-! THE OPERATIONS on a paper: what the two do keeps the relation. -/
section QOps
variable {X : Nat → Int32} {Y Z : Nat → Nat → Int32} {j c : Nat}
theorem pl_ne {q j j2 i i2 : Nat} (hj : j2 ≠ j) (h1 : i < sd q) (h2 : i2 < sd q) : pl q j2 i ≠ pl q j i2 := by
  unfold sd at h1 h2; unfold pl
  split at h1
  · rename_i h; rw [if_pos h] at h2 ⊢; rw [if_pos h]; omega
  · rename_i h; rw [if_neg h] at h2 ⊢; rw [if_neg h]
    split at h1
    · rename_i h; rw [if_pos h] at h2 ⊢; rw [if_pos h]; omega
    · rename_i h; rw [if_neg h] at h2 ⊢; rw [if_neg h]
      split at h1
      · rename_i h; rw [if_pos h] at h2 ⊢; rw [if_pos h]; omega
      · rename_i h; rw [if_neg h] at h2 ⊢; rw [if_neg h]
        split at h1
        · rename_i h; rw [if_pos h] at h2 ⊢; rw [if_pos h]; omega
        · rename_i h; rw [if_neg h] at h2 ⊢; rw [if_neg h]; exact hj
theorem agr_upd {Z2 : Nat → Nat → Int32} {j2 q0 i0 : Nat} {v : Int32} (hj : j2 ≠ j) (h : agr j2 Z Z2) (hi : i0 < sd q0) : agr j2 Z (va_up Z2 q0 (upd (Z q0) (pl q0 j i0) v)) := agr_up h fun i h1 => pk_un (pl_ne hj h1 hi)
theorem zr_ne {f : Nat → Int32} {s n q : Nat} (h : q < s ∨ s + n ≤ q) : zr f s n q = f q := by
  unfold zr; rw [if_neg (by omega)]
theorem zr_in {f : Nat → Int32} {s n i : Nat} (h : i < n) : zr f s n (s + i) = nI 0 := by
  unfold zr; rw [if_pos (by omega)]
theorem agr_zr4 {Z2 : Nat → Nat → Int32} {j2 q0 : Nat} (hq : q0 = 14 ∨ q0 = 16) (hj : j2 ≠ j) (h : agr j2 Z Z2) : agr j2 Z (va_up Z2 q0 (zr (Z q0) (4 * j) 4)) := agr_up h fun i h1 => by
  have e : pl q0 j2 i = 4 * j2 + i ∧ i < 4 := by rcases hq with rfl | rfl <;> exact ⟨rfl, h1⟩
  rw [e.1]; exact zr_ne (by omega)
theorem agr_zr6 {Z2 : Nat → Nat → Int32} {j2 q0 : Nat} (hq : q0 = 19 ∨ q0 = 20) (hj : j2 ≠ j) (h : agr j2 Z Z2) : agr j2 Z (va_up Z2 q0 (zr (Z q0) (6 * j) 6)) := agr_up h fun i h1 => by
  have e : pl q0 j2 i = 6 * j2 + i ∧ i < 6 := by rcases hq with rfl | rfl <;> exact ⟨rfl, h1⟩
  rw [e.1]; exact zr_ne (by omega)
theorem zf_in {f : Nat → Int32} {n i : Nat} (h : i < n) : zf f n i = nI 0 := by unfold zf; rw [if_pos h]
theorem nI00 : nI 0 = (0 : Int32) := rfl
theorem nI10 : ¬ nI 1 = (0 : Int32) := by decide
/-- a paper that's just there -/
theorem PR.fresh {Z : Nat → Nat → Int32} {j : Nat} {x : Int32} (h6 : Z 6 j = x) (h0 : ∀ q i, i < sd q → ¬ q = 6 → Z q (pl q j i) = 0) : PR (va_up (fun _ => 0) 0 x) (fun _ _ => 0) Z j 0 := by
  refine ⟨0, 0, 0, ⟨h6.symm, (h0 8 0 (by decide) (by decide)).symm, (h0 24 0 (by decide) (by decide)).symm, (h0 25 0 (by decide) (by decide)).symm, (h0 9 0 (by decide) (by decide)).symm, (h0 10 0 (by decide) (by decide)).symm, (h0 11 0 (by decide) (by decide)).symm, (h0 17 0 (by decide) (by decide)).symm, (h0 18 0 (by decide) (by decide)).symm⟩,
    ⟨rfl, h0 21 0 (by decide) (by decide), rfl, h0 12 0 (by decide) (by decide), rfl, h0 15 0 (by decide) (by decide), by omega, Nat.zero_le _, Nat.le_refl 0, Or.inl rfl⟩, fun i hi => (h0 7 i hi (by decide)).symm, ⟨fun i hi => absurd hi (by omega), fun i i' hi => absurd hi (by omega), fun p _ h => absurd rfl h⟩, ⟨fun i hi => absurd hi (by omega), fun i hi _ => h0 16 i hi (by decide)⟩, ⟨fun i hi => (h0 19 i hi (by decide)).symm, fun i hi => (h0 20 i hi (by decide)).symm⟩, fun i hi => absurd hi (by omega), fun h => absurd rfl h⟩
theorem PR.drop (h : PR X Y Z j c) : PR (va_up X 2 (nI 0)) Y (va_up Z 8 (upd (Z 8) j (nI 0))) j (c + 1) := by
  obtain ⟨w, mm, k, ⟨s0, s2, s3, s4, s5, s6, s7, s10, s11⟩, ⟨n1, n2, n3, n4, n5, n6, n7, n8, n9, n10⟩, hh, hv, hr, hd, ht, ha⟩ := h
  refine ⟨w, mm, k, ⟨s0, by simp [va_up, upd], s3, s4, s5, s6, s7, s10, s11⟩, ⟨n1, n2, n3, n4, n5, n6, n7, n8, ?_, n10⟩, hh, hv, hr, hd, ht, ha⟩
  rw [show va_up X 2 (nI 0) 2 = 0 from rfl, pot, if_pos rfl]
  omega
theorem PR.draft (h : PR X Y Z j c) (h0 : X 2 = 0) (x y : Int32) : PR (va_up (va_up (va_up (va_up (va_up (va_up (va_up X 2 (nI 1)) 5 x) 6 y) 7 ((nI 0) + nI 1)) 8 (nI 0)) 9 (nI 0)) 10 (nI 0)) (va_up (va_up (va_up Y 2 (zf (Y 2) 6)) 4 (zf (Y 4) 6)) 5 (zf (Y 5) 6)) (va_up (va_up (va_up (va_up (va_up (va_up (va_up (va_up (va_up (va_up (va_up Z 8 (upd (Z 8) j (nI 1))) 9 (upd (Z 9) j x)) 10 (upd (Z 10) j y)) 11 (upd (Z 11) j (nI 1))) 12 (upd (Z 12) j (nI 0))) 14 (zr (Z 14) (4 * j) 4)) 15 (upd (Z 15) j (nI 0))) 16 (zr (Z 16) (4 * j) 4)) 17 (upd (Z 17) j (nI 0))) 19 (zr (Z 19) (6 * j) 6)) 20 (zr (Z 20) (6 * j) 6)) j (c + 1) := by
  obtain ⟨w, mm, k, ⟨s0, s2, s3, s4, s5, s6, s7, s10, s11⟩, ⟨n1, n2, n3, n4, n5, n6, n7, n8, n9, n10⟩, hh, hv, hr, hd, ht, ha⟩ := h
  refine ⟨w, 0, 0, ⟨s0, by simp [va_up, upd], s3, s4, by simp [va_up, upd], by simp [va_up, upd], by simp [va_up, upd, nI_add], by simp [va_up, upd], s11⟩, ⟨n1, n2, rfl, by simp [va_up, upd], rfl, by simp [va_up, upd], by omega, Nat.zero_le _, ?_, n10⟩, hh, ⟨fun i hi => absurd hi (by omega), fun i i' hi => absurd hi (by omega), fun p hp h9 => ?_⟩, ⟨fun i hi => absurd hi (by omega), fun i hi _ => zr_in hi⟩, ⟨fun i hi => (zf_in hi).trans (zr_in hi).symm, fun i hi => (zf_in hi).trans (zr_in hi).symm⟩, ht, fun h9 => absurd rfl h9⟩
  · rw [pot, if_pos h0] at n9
    show 4 * w + pot (nI 1) 0 0 (nI 0) ≤ c + 1
    rw [show pot (nI 1) 0 0 (nI 0) = 1 by decide]
    omega
  · exact absurd (zf_in hp) h9
theorem rvd_zr {mm : Nat} (h : mm ≤ 4) : pN (fun i => decide (¬ zr (Z 14) (4 * j) 4 (4 * j + i) = 0)) mm = 0 := pN_pos.mpr fun q hq => by
  rw [zr_in (by omega)]; rfl
theorem PR.change (h : PR X Y Z j c) (y : Int32) : PR (va_up (va_up (va_up (va_up X 6 y) 7 ((X 7) + nI 1)) 9 (nI 0)) 10 (nI 0)) (va_up (va_up Y 2 (zf (Y 2) 6)) 5 (zf (Y 5) 6)) (va_up (va_up (va_up (va_up (va_up (va_up (va_up Z 10 (upd (Z 10) j y)) 11 (upd (Z 11) j (Z 11 j + nI 1))) 14 (zr (Z 14) (4 * j) 4)) 15 (upd (Z 15) j (nI 0))) 16 (zr (Z 16) (4 * j) 4)) 17 (upd (Z 17) j (nI 0))) 20 (zr (Z 20) (6 * j) 6)) j (c + 1) := by
  obtain ⟨w, mm, k, ⟨s0, s2, s3, s4, s5, s6, s7, s10, s11⟩, ⟨n1, n2, n3, n4, n5, n6, n7, n8, n9, n10⟩, hh, hv, hr, hd, ht, ha⟩ := h
  refine ⟨w, mm, 0, ⟨s0, s2, s3, s4, s5, by simp [va_up, upd], by simp [va_up, upd, s7], by simp [va_up, upd], s11⟩, ⟨n1, n2, n3, n4, rfl, by simp [va_up, upd], n7, Nat.zero_le _, ?_, n10⟩, hh, ⟨fun i hi => ?_, hv.2.1, fun p hp h9 => absurd (zf_in hp) h9⟩, ⟨fun i hi => absurd hi (by omega), fun i hi _ => zr_in hi⟩, ⟨hd.1, fun i hi => (zf_in hi).trans (zr_in hi).symm⟩, ht, fun h9 => absurd rfl h9⟩
  · show 4 * w + pot (X 2) mm (pN (fun i => decide (¬ zr (Z 14) (4 * j) 4 (4 * j + i) = 0)) mm) (nI 0) ≤ c + 1
    rw [rvd_zr n7]
    revert n9
    unfold pot
    rw [if_pos (show (0 : Nat) = 0 from rfl), if_pos (show nI 0 = 0 from rfl)]
    intro n9
    split at n9
    · rename_i h9; rw [if_pos h9]; omega
    · rename_i h9; rw [if_neg h9]; omega
  · obtain ⟨e1, e2, p, hp, e3⟩ := hv.1 i hi
    refine ⟨e1, ?_, p, hp, e3⟩
    show zf (Y 2) 6 (ix (Y 1 i)) = zr (Z 14) (4 * j) 4 (4 * j + i)
    rw [zr_in (by omega), e3, ix_nI (by omega), zf_in hp]
theorem PR.reader (h : PR X Y Z j c) {p : Nat} (hp : p < 6) : PR X (va_up Y 4 (upd (Y 4) p (nI 1))) (va_up Z 19 (upd (Z 19) (6 * j + p) (nI 1))) j (c + 1) := by
  obtain ⟨w, mm, k, hs, ⟨n1, n2, n3, n4, n5, n6, n7, n8, n9, n10⟩, hh, hv, hr, hd, ht, ha⟩ := h
  refine ⟨w, mm, k, hs, ⟨n1, n2, n3, n4, n5, n6, n7, n8, Nat.le_succ_of_le n9, n10⟩, hh, hv, hr, ⟨fun i hi => ?_, hd.2⟩, ht, ha⟩
  show upd (Y 4) p (nI 1) i = upd (Z 19) (6 * j + p) (nI 1) (6 * j + i)
  by_cases e : i = p
  · subst e; rw [pk_us, pk_us]
  · rw [pk_un e, pk_un (by omega)]; exact hd.1 i hi
theorem PR.confirm (h : PR X Y Z j c) {p : Nat} (hp : p < 6) : PR X (va_up Y 5 (upd (Y 5) p (nI 1))) (va_up Z 20 (upd (Z 20) (6 * j + p) (nI 1))) j (c + 1) := by
  obtain ⟨w, mm, k, hs, ⟨n1, n2, n3, n4, n5, n6, n7, n8, n9, n10⟩, hh, hv, hr, hd, ht, ha⟩ := h
  refine ⟨w, mm, k, hs, ⟨n1, n2, n3, n4, n5, n6, n7, n8, Nat.le_succ_of_le n9, n10⟩, hh, hv, hr, ⟨hd.1, fun i hi => ?_⟩, ht, ha⟩
  show upd (Y 5) p (nI 1) i = upd (Z 20) (6 * j + p) (nI 1) (6 * j + i)
  by_cases e : i = p
  · subst e; rw [pk_us, pk_us]
  · rw [pk_un e, pk_un (by omega)]; exact hd.2 i hi
theorem PR.hang (h : PR X Y Z j c) {p : Nat} (hp : p < 8) : PR X (va_up Y 0 (upd (Y 0) p (nI 1))) (va_up Z 7 (upd (Z 7) (8 * j + p) (nI 1))) j (c + 1) := by
  obtain ⟨w, mm, k, hs, ⟨n1, n2, n3, n4, n5, n6, n7, n8, n9, n10⟩, hh, hv, hr, hd, ht, ha⟩ := h
  refine ⟨w, mm, k, hs, ⟨n1, n2, n3, n4, n5, n6, n7, n8, Nat.le_succ_of_le n9, n10⟩, fun i hi => ?_, hv, hr, hd, ht, ha⟩
  show upd (Y 0) p (nI 1) i = upd (Z 7) (8 * j + p) (nI 1) (8 * j + i)
  by_cases e : i = p
  · subst e; rw [pk_us, pk_us]
  · rw [pk_un e, pk_un (by omega)]; exact hh i hi
theorem PR.look (h : PR X Y Z j c) (t : Int32) : PR (va_up (va_up X 3 (nI 0)) 4 t) Y (va_up (va_up Z 24 (upd (Z 24) j (nI 0))) 25 (upd (Z 25) j t)) j (c + 1) := by
  obtain ⟨w, mm, k, ⟨s0, s2, s3, s4, s5, s6, s7, s10, s11⟩, ⟨n1, n2, n3, n4, n5, n6, n7, n8, n9, n10⟩, hh, hv, hr, hd, ht, ha⟩ := h
  exact ⟨w, mm, k, ⟨s0, s2, by simp [va_up, upd], by simp [va_up, upd], s5, s6, s7, s10, s11⟩, ⟨n1, n2, n3, n4, n5, n6, n7, n8, Nat.le_succ_of_le n9, Or.inl rfl⟩, hh, hv, hr, hd, ht, ha⟩
/-- the first good place is none: none is good -/
theorem pF_m1 {f : Nat → Bool} {v : Nat → Int32} : ∀ (n i : Nat), (∀ q, i ≤ q → q < i + n → ¬ v q = -1) → pF f v n i = -1 → ∀ q, i ≤ q → q < i + n → f q = false
  | 0, i, _, _ => fun q h1 h2 => absurd h1 (by omega)
  | n + 1, i, hv, h => by
    intro q h1 h2
    simp only [pF] at h
    by_cases hi : f i = true
    · rw [if_pos hi] at h; exact absurd h (hv i (Nat.le_refl _) (by omega))
    · rw [if_neg hi] at h
      by_cases e : q = i
      · subst e; simpa using hi
      · exact pF_m1 n (i + 1) (fun q a b => hv q (by omega) (by omega)) h q (by omega) (by omega)
theorem PRv.all {mm : Nat} (hv : PRv Y Z j mm) (h : dNR Y mm = -1) : ∀ i, i < mm → ¬ Y 2 (ix (Y 1 i)) = 0 := by
  intro i hi h9
  have := pF_m1 mm 0 (fun q _ hq => by obtain ⟨-, -, p, hp, e⟩ := hv.1 q (by omega); rw [e]; exact nI_nm1 (by omega)) h i (Nat.zero_le _) (by omega)
  rw [okR, h9] at this
  exact absurd this (by decide)
theorem PR.answer (h : PR X Y Z j c) {k : Nat} (h9 : X 9 = nI k) (hk4 : k ≤ 4) {p : Nat} (hp : p < k) (h0 : Y 3 p = 0) : PR X (va_up Y 3 (upd (Y 3) p (nI 1))) (va_up Z 16 (upd (Z 16) (4 * j + p) (nI 1))) j (c + 1) := by
  obtain ⟨w, mm, k2, hs, ⟨n1, n2, n3, n4, n5, n6, n7, n8, n9, n10⟩, hh, hv, hr, hd, ht, ha⟩ := h
  have hk2 : k2 ≤ 4 := Nat.le_trans n8 (Nat.le_trans (pN_le _ _) n7)
  obtain rfl : k = k2 := (nI_eq (by omega) (by omega)).mp (h9.symm.trans n5)
  refine ⟨w, mm, k, hs, ⟨n1, n2, n3, n4, n5, n6, n7, n8, Nat.le_succ_of_le n9, n10⟩, hh, hv, ⟨fun i hi => ?_, fun i hi hki => ?_⟩, hd, ht, fun hap => ?_⟩
  · show upd (Y 3) p (nI 1) i = upd (Z 16) (4 * j + p) (nI 1) (4 * j + i)
    by_cases e : i = p
    · subst e; rw [pk_us, pk_us]
    · rw [pk_un e, pk_un (by omega)]; exact hr.1 i hi
  · show upd (Z 16) (4 * j + p) (nI 1) (4 * j + i) = 0
    rw [pk_un (by omega)]; exact hr.2 i hi hki
  · have := pN_pos.mp (ha hap).2.2 p hp
    rw [h0] at this
    exact absurd this (by decide)
end QOps
