/-! REVIEWS AND APPROVALS keep the relation. -/
section QOps2
variable {X : Nat → Int32} {Y Z : Nat → Nat → Int32} {j c : Nat}
theorem pot_up {hd ap : Int32} {mm mm2 r r2 : Nat} (h : ¬ hd = 0) (h1 : mm = 0 → r = 0) (h2 : (mm2 = mm ∧ (r2 = r ∨ r2 = r + 1)) ∨ (mm2 = mm + 1 ∧ r2 = r)) : pot hd mm2 r2 ap ≤ pot hd mm r ap + 1 := by
  unfold pot
  rw [if_neg h, if_neg h]
  rcases h2 with ⟨rfl, rfl | rfl⟩ | ⟨rfl, rfl⟩
  · omega
  · rw [if_neg (show ¬ r + 1 = 0 by omega)]; split <;> split <;> split <;> omega
  · rw [if_neg (show ¬ mm + 1 = 0 by omega)]; split <;> split <;> split <;> omega
theorem PR.reviewer (h : PR X Y Z j c) {mm p : Nat} (h8 : X 8 = nI mm) (hm : mm < 4) (hp : p < 6) (hd0 : ¬ X 2 = 0) (hap : X 10 = 0) (hnm : pX (fun i => decide (Y 1 i = nI p)) mm 0 = false) : PR (va_up X 8 (nI (mm + 1))) (va_up Y 1 (upd (Y 1) mm (nI p))) (va_up (va_up (va_up Z 12 (upd (Z 12) j (nI (mm + 1)))) 13 (upd (Z 13) (4 * j + mm) (nI p))) 14 (upd (Z 14) (4 * j + mm) (nI 0))) j (c + 1) := by
  obtain ⟨w, mm2, k, ⟨s0, s2, s3, s4, s5, s6, s7, s10, s11⟩, ⟨n1, n2, n3, n4, n5, n6, n7, n8, n9, n10⟩, hh, hv, hr, hd, ht, ha⟩ := h
  obtain rfl : mm = mm2 := (nI_eq (by omega) (by omega)).mp (h8.symm.trans n3)
  have hun : ∀ i, i < mm → ¬ Y 1 i = nI p := fun i hi e => by
    have := (pX_iff (f := fun i => decide (Y 1 i = nI p)) mm 0).mpr ⟨i, by omega, by omega, decide_eq_true e⟩
    rw [hnm] at this; cases this
  have hy2 : Y 2 p = 0 := by
    by_cases h9 : Y 2 p = 0
    · exact h9
    · obtain ⟨i, hi, e⟩ := hv.2.2 p hp h9
      exact absurd e (hun i hi)
  have er : pN (fun i => decide (¬ upd (Z 14) (4 * j + mm) (nI 0) (4 * j + i) = 0)) (mm + 1) = rvd Z j mm := by
    simp only [pN]
    rw [if_neg (show ¬ decide (¬ upd (Z 14) (4 * j + mm) (nI 0) (4 * j + mm) = 0) = true by rw [decide_eq_true_eq]; exact fun h => h pk_us)]
    exact pN_cg mm fun q hq => by rw [pk_un (by omega)]
  refine ⟨w, mm + 1, k, ⟨s0, s2, s3, s4, s5, s6, s7, s10, s11⟩, ⟨n1, n2, rfl, by simp [va_up, upd], n5, n6, by omega, ?_, ?_, n10⟩, hh, ⟨fun i hi => ?_, fun i i' hi hi' e => ?_, fun q hq h9 => ?_⟩, hr, hd, ht, fun h9 => absurd hap h9⟩
  · show k ≤ pN (fun i => decide (¬ upd (Z 14) (4 * j + mm) (nI 0) (4 * j + i) = 0)) (mm + 1)
    rw [er]; exact n8
  · show 4 * w + pot (X 2) (mm + 1) (pN (fun i => decide (¬ upd (Z 14) (4 * j + mm) (nI 0) (4 * j + i) = 0)) (mm + 1)) (X 10) ≤ c + 1
    rw [er]
    have := pot_up (ap := X 10) (mm := mm) (mm2 := mm + 1) (r := rvd Z j mm) (r2 := rvd Z j mm) hd0 (fun e => by subst e; rfl) (Or.inr ⟨rfl, rfl⟩)
    omega
  · show upd (Y 1) mm (nI p) i = upd (Z 13) (4 * j + mm) (nI p) (4 * j + i) ∧ Y 2 (ix (upd (Y 1) mm (nI p) i)) = upd (Z 14) (4 * j + mm) (nI 0) (4 * j + i) ∧ ∃ q, q < 6 ∧ upd (Y 1) mm (nI p) i = nI q
    by_cases e : i = mm
    · subst e
      rw [pk_us, pk_us, pk_us, ix_nI (by omega)]
      exact ⟨rfl, hy2, p, hp, rfl⟩
    · rw [pk_un e, pk_un (by omega), pk_un (by omega)]
      exact hv.1 i (by omega)
  · have e : upd (Y 1) mm (nI p) i = upd (Y 1) mm (nI p) i' := e
    by_cases e1 : i = mm
    · by_cases e2 : i' = mm
      · omega
      · rw [e1, pk_us, pk_un e2] at e; exact absurd e.symm (hun i' (by omega))
    · by_cases e2 : i' = mm
      · rw [e2, pk_us, pk_un e1] at e; exact absurd e (hun i (by omega))
      · rw [pk_un e1, pk_un e2] at e; exact hv.2.1 i i' (by omega) (by omega) e
  · obtain ⟨i, hi, e⟩ := hv.2.2 q hq h9
    refine ⟨i, by omega, ?_⟩
    show upd (Y 1) mm (nI p) i = nI q
    rw [pk_un (by omega)]; exact e
/-- a review: the place q of the person p -/
theorem PR.review0 {w mm k q p : Nat} (h : PRb X Y Z j c w mm k) (hd0 : ¬ X 2 = 0) (hq : q < mm) (hp : p < 6) (hy : Y 1 q = nI p) (h0 : Y 2 p = 0) : PRb X (va_up Y 2 (upd (Y 2) p (nI 1))) (va_up Z 14 (upd (Z 14) (4 * j + q) (nI 1))) j (c + 1) w mm k ∧ k + 1 ≤ pN (fun i => decide (¬ upd (Z 14) (4 * j + q) (nI 1) (4 * j + i) = 0)) mm := by
  obtain ⟨hs, ⟨n1, n2, n3, n4, n5, n6, n7, n8, n9, n10⟩, hh, hv, hr, hd, ht, ha⟩ := h
  have ez : Z 14 (4 * j + q) = 0 := by rw [← (hv.1 q hq).2.1, hy, ix_nI (by omega)]; exact h0
  have er : pN (fun i => decide (¬ upd (Z 14) (4 * j + q) (nI 1) (4 * j + i) = 0)) mm = rvd Z j mm + 1 := by
    refine pN_up (a := q) (by rw [ez]; rfl) (by rw [pk_us]; rfl) (fun i hi => ?_) hq
    rw [pk_un (show 4 * j + i ≠ 4 * j + q by omega)]
  refine ⟨⟨hs, ⟨n1, n2, n3, n4, n5, n6, n7, ?_, ?_, n10⟩, hh, ⟨fun i hi => ?_, hv.2.1, fun p2 hp2 h9 => ?_⟩, hr, hd, ht, fun h9 => ?_⟩, by rw [er]; omega⟩
  · show k ≤ pN (fun i => decide (¬ upd (Z 14) (4 * j + q) (nI 1) (4 * j + i) = 0)) mm
    rw [er]; omega
  · show 4 * w + pot (X 2) mm (pN (fun i => decide (¬ upd (Z 14) (4 * j + q) (nI 1) (4 * j + i) = 0)) mm) (X 10) ≤ c + 1
    rw [er]
    have := pot_up (ap := X 10) (mm := mm) (mm2 := mm) (r := rvd Z j mm) (r2 := rvd Z j mm + 1) hd0 (fun e => by subst e; rfl) (Or.inl ⟨rfl, Or.inr rfl⟩)
    omega
  · obtain ⟨e1, e2, p2, hp2, e3⟩ := hv.1 i hi
    refine ⟨e1, ?_, p2, hp2, e3⟩
    show upd (Y 2) p (nI 1) (ix (Y 1 i)) = upd (Z 14) (4 * j + q) (nI 1) (4 * j + i)
    by_cases e : i = q
    · subst e; rw [hy, ix_nI (by omega), pk_us, pk_us]
    · rw [pk_un (show 4 * j + i ≠ 4 * j + q by omega), ← e2, pk_un ?_]
      intro h9
      rw [e3, ix_nI (by omega)] at h9
      exact e (hv.2.1 i q hi hq (by rw [e3, hy, h9]))
  · by_cases e : p2 = p
    · subst e; exact ⟨q, hq, hy⟩
    · rw [show va_up Y 2 (upd (Y 2) p (nI 1)) 2 p2 = upd (Y 2) p (nI 1) p2 from rfl, pk_un e] at h9
      exact hv.2.2 p2 hp2 h9
  · have := hv.all (ha h9).2.1 q hq
    rw [hy, ix_nI (by omega)] at this
    exact absurd h0 this
theorem PR.review (h : PR X Y Z j c) {mm k q p : Nat} (h8 : X 8 = nI mm) (hm : mm ≤ 4) (h9 : X 9 = nI k) (hk : k ≤ 4) (hd0 : ¬ X 2 = 0) (hq : q < mm) (hp : p < 6) (hy : Y 1 q = nI p) (h0 : Y 2 p = 0) (r : Int32) : k < 4 ∧ PR (if r = 0 then X else va_up X 9 (nI (k + 1))) (if r = 0 then va_up Y 2 (upd (Y 2) p (nI 1)) else va_up (va_up Y 2 (upd (Y 2) p (nI 1))) 3 (upd (Y 3) k (nI 0))) (if r = 0 then (va_up Z 14 (upd (Z 14) (4 * j + q) (nI 1))) else (va_up (va_up Z 14 (upd (Z 14) (4 * j + q) (nI 1))) 15 (upd (Z 15) j (nI (k + 1))))) j (c + 1) := by
  obtain ⟨w, mm2, k2, h⟩ := h
  obtain rfl : mm = mm2 := (nI_eq (by omega) (by have := h.2.1.2.2.2.2.2.2.1; omega)).mp (h8.symm.trans h.2.1.2.2.1)
  obtain rfl : k = k2 := (nI_eq (by omega) (Nat.lt_of_le_of_lt (Nat.le_trans h.2.1.2.2.2.2.2.2.2.1 (pN_le _ _)) (by omega))).mp (h9.symm.trans h.2.1.2.2.2.2.1)
  obtain ⟨g, hk1⟩ := PR.review0 h hd0 hq hp hy h0
  have hk4 : k < 4 := by have := pN_le (fun i => decide (¬ upd (Z 14) (4 * j + q) (nI 1) (4 * j + i) = 0)) mm; omega
  refine ⟨hk4, ?_⟩
  by_cases hr : r = 0
  · rw [if_pos hr, if_pos hr, if_pos hr]; exact ⟨w, mm, k, g⟩
  · rw [if_neg hr, if_neg hr, if_neg hr]
    obtain ⟨⟨s0, s2, s3, s4, s5, s6, s7, s10, s11⟩, ⟨n1, n2, n3, n4, n5, n6, n7, n8, n9, n10⟩, hh, hv, hrr, hd, ht, ha⟩ := g
    refine ⟨w, mm, k + 1, ⟨s0, s2, s3, s4, s5, s6, s7, s10, s11⟩, ⟨n1, n2, n3, n4, rfl, by simp [va_up, upd], n7, hk1, n9, n10⟩, hh, hv, ⟨fun i hi => ?_, fun i hi hki => hrr.2 i hi (by omega)⟩, hd, ht, fun h9 => ?_⟩
    · show upd (Y 3) k (nI 0) i = Z 16 (4 * j + i)
      by_cases e : i = k
      · subst e; rw [pk_us]; exact (hrr.2 i hk4 (Nat.le_refl _)).symm
      · rw [pk_un e]; exact hrr.1 i (by omega)
    · have := h.2.2.2.1.all (h.2.2.2.2.2.2.2 h9).2.1 q hq
      rw [hy, ix_nI (by omega)] at this
      exact absurd h0 this
theorem stp_3 {n : Nat} {nr : Int32} {op : Nat} {ap nc : Int32} (h : stp n nr op ap nc = nI 3) : ¬ n = 0 ∧ nr = -1 ∧ op = 0 ∧ ap = 0 := by
  unfold stp at h
  split at h
  · exact absurd h (by decide)
  · rename_i h1
    split at h
    · exact absurd h (by decide)
    · split at h
      · rename_i h3
        exact ⟨fun e => h1 (Or.inl e), Classical.byContradiction fun e => h1 (Or.inr e), by omega, h3⟩
      · split at h <;> exact absurd h (by decide)
theorem PR.approve (h : PR X Y Z j c) {mm k : Nat} (h8 : X 8 = nI mm) (hm : mm ≤ 4) (h9 : X 9 = nI k) (hk : k ≤ 4) {nc : Int32} (hst : stp mm (dNR Y mm) (dOR Y k) (X 10) nc = nI 3) (y : Int32) : PR (va_up (va_up X 10 (nI 1)) 11 y) Y (va_up (va_up Z 17 (upd (Z 17) j (nI 1))) 18 (upd (Z 18) j y)) j (c + 1) := by
  obtain ⟨w, mm2, k2, ⟨s0, s2, s3, s4, s5, s6, s7, s10, s11⟩, ⟨n1, n2, n3, n4, n5, n6, n7, n8, n9, n10⟩, hh, hv, hr, hd, ht, ha⟩ := h
  have hk2 : k2 ≤ 4 := Nat.le_trans n8 (Nat.le_trans (pN_le _ _) n7)
  obtain rfl : mm = mm2 := (nI_eq (by omega) (by omega)).mp (h8.symm.trans n3)
  obtain rfl : k = k2 := (nI_eq (by omega) (by omega)).mp (h9.symm.trans n5)
  obtain ⟨t1, t2, t3, t4⟩ := stp_3 hst
  refine ⟨w, mm, k, ⟨s0, s2, s3, s4, s5, s6, s7, by simp [va_up, upd], by simp [va_up, upd]⟩, ⟨n1, n2, n3, n4, n5, n6, n7, n8, ?_, n10⟩, hh, hv, hr, hd, ht, fun _ => ⟨t1, t2, t3⟩⟩
  show 4 * w + pot (X 2) mm (rvd Z j mm) (nI 1) ≤ c + 1
  rw [t4] at n9
  generalize rvd Z j mm = r at n9 ⊢
  by_cases h9 : X 2 = 0
  · simp only [pot, if_pos h9] at n9 ⊢
    omega
  · simp only [pot, if_neg h9, if_pos (show (0 : Int32) = 0 from rfl), if_neg nI10] at n9 ⊢
    split at n9 <;> split at n9 <;> simp_all <;> omega
end QOps2
