/-! THE RELATION: what the class's cells and the reference's have to do with one another, paper by paper. -/
section QRel
/-- how many calls the paper's draft has taken at the least -/
def pot (hd : Int32) (mm rvd : Nat) (ap : Int32) : Nat := if hd = 0 then 0 else 1 + (if mm = 0 then 0 else 1) + (if rvd = 0 then 0 else 1) + (if ap = 0 then 0 else 1)
abbrev rvd (Z : Nat → Nat → Int32) (j mm : Nat) : Nat := pN (fun i => decide (¬ Z 14 (4 * j + i) = 0)) mm
def PRs (X : Nat → Int32) (Z : Nat → Nat → Int32) (j : Nat) : Prop := X 0 = Z 6 j ∧ X 2 = Z 8 j ∧ X 3 = Z 24 j ∧ X 4 = Z 25 j ∧ X 5 = Z 9 j ∧ X 6 = Z 10 j ∧ X 7 = Z 11 j ∧ X 10 = Z 17 j ∧ X 11 = Z 18 j
def PRn (X : Nat → Int32) (Z : Nat → Nat → Int32) (j c w mm k : Nat) : Prop := X 1 = nI w ∧ Z 21 j = nI w ∧ X 8 = nI mm ∧ Z 12 j = nI mm ∧ X 9 = nI k ∧ Z 15 j = nI k ∧ mm ≤ 4 ∧ k ≤ rvd Z j mm ∧ 4 * w + pot (X 2) mm (rvd Z j mm) (X 10) ≤ c ∧ (X 3 = 0 ∨ X 3 = 1)
def PRv (Y Z : Nat → Nat → Int32) (j mm : Nat) : Prop := (∀ i, i < mm → Y 1 i = Z 13 (4 * j + i) ∧ Y 2 (ix (Y 1 i)) = Z 14 (4 * j + i) ∧ ∃ p, p < 6 ∧ Y 1 i = nI p) ∧ (∀ i i', i < mm → i' < mm → Y 1 i = Y 1 i' → i = i') ∧ (∀ p, p < 6 → ¬ Y 2 p = 0 → ∃ i, i < mm ∧ Y 1 i = nI p)
def PRr (Y Z : Nat → Nat → Int32) (j k : Nat) : Prop := (∀ i, i < k → Y 3 i = Z 16 (4 * j + i)) ∧ (∀ i, i < 4 → k ≤ i → Z 16 (4 * j + i) = 0)
def PRd (Y Z : Nat → Nat → Int32) (j : Nat) : Prop := (∀ i, i < 6 → Y 4 i = Z 19 (6 * j + i)) ∧ (∀ i, i < 6 → Y 5 i = Z 20 (6 * j + i))
def PRt (Y Z : Nat → Nat → Int32) (j w : Nat) : Prop := ∀ i, i < w → Y 6 i = Z 23 (400 * j + i) ∧ Y 7 i = Z 22 (400 * j + i)
def PRh (Y Z : Nat → Nat → Int32) (j : Nat) : Prop := ∀ i, i < 8 → Y 0 i = Z 7 (8 * j + i)
def PRa (X : Nat → Int32) (Y : Nat → Nat → Int32) (mm k : Nat) : Prop := ¬ X 10 = 0 → ¬ mm = 0 ∧ dNR Y mm = -1 ∧ dOR Y k = 0
def PRb (X : Nat → Int32) (Y Z : Nat → Nat → Int32) (j c w mm k : Nat) : Prop := PRs X Z j ∧ PRn X Z j c w mm k ∧ PRh Y Z j ∧ PRv Y Z j mm ∧ PRr Y Z j k ∧ PRd Y Z j ∧ PRt Y Z j w ∧ PRa X Y mm k
def PR (X : Nat → Int32) (Y Z : Nat → Nat → Int32) (j c : Nat) : Prop := ∃ w mm k, PRb X Y Z j c w mm k
-- the rows by their laws
theorem pF_congr {f g : Nat → Bool} {u v : Nat → Int32} : ∀ (n i : Nat), (∀ q, i ≤ q → q < i + n → f q = g q ∧ u q = v q) → pF f u n i = pF g v n i
  | 0, _, _ => rfl
  | n + 1, i, h => by
    have h0 := h i (Nat.le_refl _) (by omega)
    simp only [pF]
    rw [h0.1, h0.2, pF_congr n (i + 1) (fun q h1 h2 => h q (by omega) (by omega))]
theorem pN_cg {f g : Nat → Bool} : ∀ (n : Nat), (∀ q, q < n → f q = g q) → pN f n = pN g n
  | 0, _ => rfl
  | n + 1, h => by
    simp only [pN]
    rw [h n (by omega), pN_cg n (fun q hq => h q (by omega))]
theorem pL_congr {f g : Nat → Bool} {u v : Nat → Int32} : ∀ (n : Nat), (∀ q, q < n → f q = g q ∧ u q = v q) → pL f u n = pL g v n
  | 0, _ => rfl
  | n + 1, h => by
    have h0 := h n (by omega)
    simp only [pL]
    rw [h0.1, h0.2, pL_congr n (fun q hq => h q (by omega))]
theorem pX_iff {f : Nat → Bool} : ∀ (n i : Nat), pX f n i = true ↔ ∃ q, i ≤ q ∧ q < i + n ∧ f q = true
  | 0, i => by simp only [pX]; constructor; intro h; cases h; rintro ⟨q, h1, h2, -⟩; omega
  | n + 1, i => by
    simp only [pX, Bool.or_eq_true, pX_iff n (i + 1)]
    constructor
    · rintro (h | ⟨q, h1, h2, h3⟩)
      · exact ⟨i, Nat.le_refl _, by omega, h⟩
      · exact ⟨q, by omega, by omega, h3⟩
    · rintro ⟨q, h1, h2, h3⟩
      by_cases hq : q = i
      · subst hq; exact Or.inl h3
      · exact Or.inr ⟨q, by omega, by omega, h3⟩
/-- the last good place: there is none, or it's one of them -/
theorem pL_cases {f : Nat → Bool} {v : Nat → Int32} : ∀ (n : Nat), ((∀ q, q < n → f q = false) ∧ pL f v n = -1) ∨ ∃ q, q < n ∧ f q = true ∧ pL f v n = v q
  | 0 => Or.inl ⟨fun q h => absurd h (by omega), rfl⟩
  | n + 1 => by
    by_cases hn : f n = true
    · exact Or.inr ⟨n, by omega, hn, by simp only [pL]; rw [if_pos hn]⟩
    · have hn' : f n = false := by simpa using hn
      rcases pL_cases (f := f) (v := v) n with ⟨h1, h2⟩ | ⟨q, h1, h2, h3⟩
      · refine Or.inl ⟨fun q hq => ?_, by simp only [pL]; rw [if_neg hn]; exact h2⟩
        by_cases h : q = n
        · subst h; exact hn'
        · exact h1 q (by omega)
      · exact Or.inr ⟨q, by omega, h2, by simp only [pL]; rw [if_neg hn]; exact h3⟩
theorem pN_pos {f : Nat → Bool} : ∀ {n : Nat}, pN f n = 0 ↔ ∀ q, q < n → f q = false
  | 0 => ⟨fun _ q h => absurd h (by omega), fun _ => rfl⟩
  | n + 1 => by
    simp only [pN]
    constructor
    · intro h q hq
      by_cases hn : f n = true
      · rw [if_pos hn] at h; omega
      · rw [if_neg hn] at h
        by_cases h9 : q = n
        · subst h9; simpa using hn
        · exact pN_pos.mp h q (by omega)
    · intro h
      rw [if_neg (by rw [h n (by omega)]; decide)]
      exact pN_pos.mpr fun q hq => h q (by omega)
/-- one more is good than before -/
theorem pN_up {f g : Nat → Bool} {a : Nat} (hf : f a = false) (hg : g a = true) (he : ∀ q, q ≠ a → f q = g q) : ∀ {n : Nat}, a < n → pN g n = pN f n + 1
  | 0, h => absurd h (by omega)
  | n + 1, h => by
    simp only [pN]
    by_cases ha : a = n
    · subst ha
      rw [if_pos hg, if_neg (by rw [hf]; decide), pN_cg (f := f) (g := g) a (fun q hq => he q (by omega))]
    · have ih := pN_up hf hg he (n := n) (by omega)
      rw [ih, he n (fun h => ha h.symm)]
      split <;> omega
-- what follows for a paper
variable {X : Nat → Int32} {Y Z : Nat → Nat → Int32} {j c w mm k : Nat}
theorem PRv.nr (h : PRv Y Z j mm) : dNR Y mm = mNR Z j mm := by
  refine pF_congr mm 0 fun q h1 h2 => ?_
  obtain ⟨e1, e2, -⟩ := h.1 q (by omega)
  refine ⟨?_, e1⟩
  show decide (Y 2 (ix (Y 1 q)) = 0) = decide (Z 14 (4 * j + q) = 0)
  rw [e2]
theorem PRr.op (h : PRr Y Z j k) : dOR Y k = mOR Z j k := pN_cg k fun q hq => by
  show decide (Y 3 q = 0) = decide (Z 16 (4 * j + q) = 0)
  rw [h.1 q hq]
theorem PRd.nc (h : PRd Y Z j) : dNC Y = mNC Z j := by
  refine pF_congr 6 0 fun q h1 h2 => ⟨?_, rfl⟩
  simp only [okC]
  rw [h.1 q (by omega), h.2 q (by omega)]
theorem PRv.nm (h : PRv Y Z j mm) (hm : mm ≤ 4) (hj : j < 8) (x : Int32) : pX (fun i => decide (Y 1 i = x)) mm 0 = decide (¬ mPL Z j mm x = -1) := by
  rcases pL_cases (f := fun i => decide (Z 13 (4 * j + i) = x)) (v := fun i => nI (4 * j + i)) mm with ⟨h1, h2⟩ | ⟨q, h1, h2, h3⟩
  · rw [show mPL Z j mm x = -1 from h2]
    rw [show (pX (fun i => decide (Y 1 i = x)) mm 0) = false from ?_]
    · decide
    · refine Bool.eq_false_iff.mpr fun h9 => ?_
      obtain ⟨q, -, g2, g3⟩ := (pX_iff mm 0).mp h9
      have := h1 q (by omega)
      rw [← (h.1 q (by omega)).1] at this
      rw [this] at g3
      cases g3
  · rw [show mPL Z j mm x = nI (4 * j + q) from h3]
    rw [show (pX (fun i => decide (Y 1 i = x)) mm 0) = true from (pX_iff mm 0).mpr ⟨q, by omega, by omega, by rw [(h.1 q h1).1]; exact h2⟩]
    exact (decide_eq_true (nI_nm1 (by omega))).symm
/-- a named one's place -/
theorem PRv.at (h : PRv Y Z j mm) (hm : mm ≤ 4) (hj : j < 8) {x : Int32} (hx : pX (fun i => decide (Y 1 i = x)) mm 0 = true) : ∃ q, q < mm ∧ Y 1 q = x ∧ mPL Z j mm x = nI (4 * j + q) ∧ ix (mPL Z j mm x) = 4 * j + q ∧ Y 2 (ix x) = Z 14 (4 * j + q) := by
  rw [h.nm hm hj x] at hx
  have hx : ¬ mPL Z j mm x = -1 := of_decide_eq_true hx
  rcases pL_cases (f := fun i => decide (Z 13 (4 * j + i) = x)) (v := fun i => nI (4 * j + i)) mm with ⟨h1, h2⟩ | ⟨q, h1, h2, h3⟩
  · exact absurd h2 hx
  · have e : Y 1 q = x := by rw [(h.1 q h1).1]; exact of_decide_eq_true h2
    refine ⟨q, h1, e, h3, ?_, ?_⟩
    · rw [show mPL Z j mm x = nI (4 * j + q) from h3]; exact ix_nI (by omega)
    · rw [← (h.1 q h1).2.1, e]
-- the frame
def sd (q : Nat) : Nat := if q = 7 then 8 else if q = 13 ∨ q = 14 ∨ q = 16 then 4 else if q = 19 ∨ q = 20 then 6 else if q = 22 ∨ q = 23 then 400 else if q < 6 ∨ 26 < q then 0 else 1
def pl (q j i : Nat) : Nat := if q = 7 then 8 * j + i else if q = 13 ∨ q = 14 ∨ q = 16 then 4 * j + i else if q = 19 ∨ q = 20 then 6 * j + i else if q = 22 ∨ q = 23 then 400 * j + i else j
/-- the reference's numbers of the paper j are the same -/
def agr (j : Nat) (Z Z2 : Nat → Nat → Int32) : Prop := ∀ q i, i < sd q → Z2 q (pl q j i) = Z q (pl q j i)
theorem agr.rf (j : Nat) (Z : Nat → Nat → Int32) : agr j Z Z := fun _ _ _ => rfl
theorem agr_up {Z Z2 : Nat → Nat → Int32} {q0 : Nat} {g : Nat → Int32} (h : agr j Z Z2) (hg : ∀ i, i < sd q0 → g (pl q0 j i) = Z q0 (pl q0 j i)) : agr j Z (va_up Z2 q0 g) := by
  intro q i hi
  by_cases hq : q = q0
  · subst hq; rw [va_up_self]; exact hg i hi
  · rw [va_up_ne _ _ hq]; exact h q i hi
theorem PR.frame {Z2 : Nat → Nat → Int32} {c2 : Nat} (h : PR X Y Z j c) (ha : agr j Z Z2) (hc : c ≤ c2) (h5 : c ≤ 512) : PR X Y Z2 j c2 := by
  obtain ⟨w, mm, k, ⟨s0, s2, s3, s4, s5, s6, s7, s10, s11⟩, ⟨n1, n2, n3, n4, n5, n6, n7, n8, n9, n10⟩, hh, ⟨v1, v2, v3⟩, ⟨r1, r2⟩, ⟨d1, d2⟩, ht, hap⟩ := h
  have a := fun q => ha q 0
  have ev : rvd Z2 j mm = rvd Z j mm := pN_cg mm fun i hi => by
    have := ha 14 i (show i < 4 by omega)
    show decide (¬ Z2 14 (pl 14 j i) = 0) = decide (¬ Z 14 (pl 14 j i) = 0)
    rw [this]
  have hw4 : 4 * w ≤ c := by omega
  refine ⟨w, mm, k, ⟨s0.trans (a 6 (by decide)).symm, s2.trans (a 8 (by decide)).symm, s3.trans (a 24 (by decide)).symm, s4.trans (a 25 (by decide)).symm, s5.trans (a 9 (by decide)).symm, s6.trans (a 10 (by decide)).symm, s7.trans (a 11 (by decide)).symm, s10.trans (a 17 (by decide)).symm, s11.trans (a 18 (by decide)).symm⟩,
    ⟨n1, (a 21 (by decide)).trans n2, n3, (a 12 (by decide)).trans n4, n5, (a 15 (by decide)).trans n6, n7, by rw [ev]; exact n8, by rw [ev]; omega, n10⟩, fun i hi => (hh i hi).trans (ha 7 i hi).symm, ⟨fun i hi => ?_, v2, v3⟩, ⟨fun i hi => ?_, fun i hi hk => (ha 16 i hi).trans (r2 i hi hk)⟩, ⟨fun i hi => (d1 i hi).trans (ha 19 i hi).symm, fun i hi => (d2 i hi).trans (ha 20 i hi).symm⟩, ?_, hap⟩
  · obtain ⟨e1, e2, e3⟩ := v1 i hi
    exact ⟨e1.trans (ha 13 i (show i < 4 by omega)).symm, e2.trans (ha 14 i (show i < 4 by omega)).symm, e3⟩
  · have : k ≤ mm := Nat.le_trans n8 (pN_le _ _)
    exact (r1 i hi).trans (ha 16 i (show i < 4 by omega)).symm
  · intro i hi
    have h4 : i < 400 := by omega
    exact ⟨(ht i hi).1.trans (ha 23 i h4).symm, (ht i hi).2.trans (ha 22 i h4).symm⟩
end QRel
