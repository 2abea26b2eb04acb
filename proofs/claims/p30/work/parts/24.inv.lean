/-! THE INVARIANT: what the class's numbers and the law's rows have to do with one another. -/
section QInv
/-- a mask's bits are a row's truths -/
def mk6 (M : Nat) (f : Nat → Bool) : Prop := M < 64 ∧ ∀ i, i < 6 → M.testBit i = f i
def mk8 (M : Nat) (f : Nat → Bool) : Prop := M < 256 ∧ ∀ i, i < 8 → M.testBit i = f i
/-- named as a reviewer -/
abbrev nam (Y : Nat → Nat → Int32) (mm p : Nat) : Bool := pX (fun i => decide (Y 1 i = nI p)) mm 0
abbrev rvd (Y : Nat → Nat → Int32) (mm : Nat) : Nat := pN (fun i => decide (¬ Y 2 (ix (Y 1 i)) = 0)) mm
/-- a paper's numbers, draft or not -/
def LPn (X : Nat → Int32) (F : Nat → Nat → Int32) (j k w M0 M1 : Nat) : Prop :=
  (X 2 = 0 ∨ X 2 = 1) ∧ F 0 (8 * j) = X 2 ∧ X 1 = nI w ∧ F 0 (8 * j + 5) = nI w ∧ F 0 (8 * j + 6) = X 4 ∧ F 0 (8 * j + 7) = X 3 ∧ (X 3 = 0 ∨ X 3 = 1) ∧ (w = 0 → X 3 = 0) ∧ w + (if X 2 = 0 ∨ X 10 = 0 then 0 else 1) ≤ k ∧ F 7 (2 * j) = nI M0 ∧ F 7 (2 * j + 1) = nI M1 ∧ M0 < 64 ∧ M1 < 64
/-- its log -/
def LPt (Y F : Nat → Nat → Int32) (j w td : Nat) : Prop :=
  (∀ i, i < w → ∃ d, Y 7 i = nI d ∧ 1 ≤ d ∧ d ≤ td) ∧ (∀ i i', i < i' → i' < w → Y 7 i < Y 7 i') ∧
  (∀ r, r < 4 → F 2 (8 * j + 2 * r + 1) = 0 ∨ ∃ e, e < w ∧ F 2 (8 * j + 2 * r + 1) = nI (e + 1) ∧ F 2 (8 * j + 2 * r) = Y 7 e)
/-- on what it hangs -/
def LPh (Y F : Nat → Nat → Int32) (j : Nat) : Prop := ∃ M, F 1 j = nI M ∧ mk8 M (fun i => decide (¬ Y 0 i = 0))
/-- its draft's approval -/
def LPa (X : Nat → Int32) (Y F : Nat → Nat → Int32) (j mm kk : Nat) : Prop :=
  (X 10 = 0 ∧ F 0 (8 * j + 4) = 0) ∨ (¬ X 10 = 0 ∧ F 0 (8 * j + 4) = X 11 ∧ (∃ d, 0 < d ∧ d ≤ 1000 ∧ X 11 = nI d) ∧ ¬ mm = 0 ∧ dNR Y mm = -1 ∧ dOR Y kk = 0)
/-- its draft -/
def LPd (X : Nat → Int32) (Y F : Nat → Nat → Int32) (j mm kk M0 M1 : Nat) : Prop :=
  (F 0 (8 * j + 1) = X 5 ∧ F 0 (8 * j + 2) = X 6 ∧ F 0 (8 * j + 3) = X 7) ∧ LPa X Y F j mm kk ∧ (mk6 M0 (nam Y mm) ∧ pc8 M0 = mm) ∧ mk6 M1 (fun p => decide (¬ Y 4 p = 0)) ∧
  (∀ i i', i < mm → i' < mm → Y 1 i = Y 1 i' → i = i') ∧ (∀ p, p < 6 → ¬ Y 2 p = 0 → nam Y mm p = true) ∧ kk ≤ rvd Y mm ∧ (∀ p, p < 6 → ¬ Y 5 p = 0 → ¬ Y 4 p = 0)
/-- a paper -/
def LPb (X : Nat → Int32) (Y F : Nat → Nat → Int32) (j k td w mm kk M0 M1 : Nat) : Prop := LPn X F j k w M0 M1 ∧ wd X Y mm kk ∧ LPh Y F j ∧ LPt Y F j w td ∧ (¬ X 2 = 0 → LPd X Y F j mm kk M0 M1)
def LPp (X : Nat → Int32) (Y F : Nat → Nat → Int32) (j k td : Nat) : Prop := ∃ w mm kk M0 M1, LPb X Y F j k td w mm kk M0 M1
/-- the law's rows of the paper j are the same -/
def agf (j : Nat) (F G : Nat → Nat → Int32) : Prop := (∀ i, i < 8 → G 0 (8 * j + i) = F 0 (8 * j + i)) ∧ G 1 j = F 1 j ∧ (∀ i, i < 8 → G 2 (8 * j + i) = F 2 (8 * j + i)) ∧ (∀ i, i < 2 → G 7 (2 * j + i) = F 7 (2 * j + i))
theorem agf.rf (j : Nat) (F : Nat → Nat → Int32) : agf j F F := ⟨fun _ _ => rfl, rfl, fun _ _ => rfl, fun _ _ => rfl⟩
theorem LPt.mono {Y F : Nat → Nat → Int32} {j w td td2 : Nat} (h : LPt Y F j w td) (ht : td ≤ td2) : LPt Y F j w td2 :=
  ⟨fun i hi => by obtain ⟨d, h1, h2, h3⟩ := h.1 i hi; exact ⟨d, h1, h2, by omega⟩, h.2⟩
theorem LPt.frame {Y F G : Nat → Nat → Int32} {j w td : Nat} (h : LPt Y F j w td) (ha : agf j F G) : LPt Y G j w td := by
  refine ⟨h.1, h.2.1, fun r hr => ?_⟩
  rw [show 8 * j + 2 * r + 1 = 8 * j + (2 * r + 1) by omega, ha.2.2.1 (2 * r + 1) (by omega), ha.2.2.1 (2 * r) (by omega)]
  exact h.2.2 r hr
theorem LPb.frame {X : Nat → Int32} {Y F G : Nat → Nat → Int32} {j k k2 td td2 w mm kk M0 M1 : Nat} (h : LPb X Y F j k td w mm kk M0 M1) (ha : agf j F G) (hk : k ≤ k2) (ht : td ≤ td2) : LPb X Y G j k2 td2 w mm kk M0 M1 := by
  obtain ⟨⟨n1, n2, n3, n4, n5, n6, n7, n8, n9, n10, n11, n12, n13⟩, hw, ⟨M, h1, h2⟩, ht2, hd⟩ := h
  have a := ha.1
  refine ⟨⟨n1, (a 0 (by omega)).trans n2, n3, (a 5 (by omega)).trans n4, (a 6 (by omega)).trans n5, (a 7 (by omega)).trans n6, n7, n8, Nat.le_trans n9 hk, (ha.2.2.2 0 (by omega)).trans n10, (ha.2.2.2 1 (by omega)).trans n11, n12, n13⟩, hw, ⟨M, ha.2.1.trans h1, h2⟩, (ht2.mono ht).frame ha, fun h => ?_⟩
  obtain ⟨⟨d1, d2, d3⟩, d4, d5⟩ := hd h
  refine ⟨⟨(a 1 (by omega)).trans d1, (a 2 (by omega)).trans d2, (a 3 (by omega)).trans d3⟩, ?_, d5⟩
  rcases d4 with ⟨e1, e2⟩ | ⟨e1, e2, e3⟩
  · exact Or.inl ⟨e1, (a 4 (by omega)).trans e2⟩
  · exact Or.inr ⟨e1, (a 4 (by omega)).trans e2, e3⟩
theorem LPp.frame {X : Nat → Int32} {Y F G : Nat → Nat → Int32} {j k k2 td td2 : Nat} (h : LPp X Y F j k td) (ha : agf j F G) (hk : k ≤ k2) (ht : td ≤ td2) : LPp X Y G j k2 td2 := by
  obtain ⟨w, mm, kk, M0, M1, h⟩ := h
  exact ⟨w, mm, kk, M0, M1, h.frame ha hk ht⟩
/-- a paper that's just there -/
theorem LPp.fresh {F : Nat → Nat → Int32} {j k td : Nat} {x : Int32} (h : (∀ i, i < 8 → F 0 (8 * j + i) = 0) ∧ F 1 j = 0 ∧ (∀ i, i < 8 → F 2 (8 * j + i) = 0) ∧ (∀ i, i < 2 → F 7 (2 * j + i) = 0)) : LPp (va_up (fun _ => 0) 0 x) (fun _ _ => 0) F j k td := by
  obtain ⟨h0, h1, h2, h7⟩ := h
  refine ⟨0, 0, 0, 0, 0, ⟨Or.inl rfl, h0 0 (by omega), rfl, h0 5 (by omega), h0 6 (by omega), h0 7 (by omega), Or.inl rfl, fun _ => rfl, ?_, h7 0 (by omega), h7 1 (by omega), by omega, by omega⟩, ⟨rfl, by omega, rfl, by omega, fun i hi => absurd hi (by omega)⟩, ⟨0, h1, by omega, fun i _ => by simp⟩, ⟨fun i hi => absurd hi (by omega), fun i i' _ hi => absurd hi (by omega), fun r hr => Or.inl ?_⟩, fun h => absurd rfl h⟩
  · exact Nat.le_trans (Nat.le_of_eq (by rw [if_pos (Or.inl (show va_up (fun _ => (0 : Int32)) 0 x 2 = 0 from rfl))])) (Nat.zero_le _)
  · have := h2 (2 * r + 1) (by omega)
    rw [show 8 * j + 2 * r + 1 = 8 * j + (2 * r + 1) by omega]; exact this
/-- the copies -/
def GC (q : Nat) (V F : Nat → Nat → Int32) : Prop := ∀ i, i < q → F 3 (3 * i) = V 10 i ∧ F 3 (3 * i + 1) = V 11 i ∧ ((V 12 i = -1 ∧ F 3 (3 * i + 2) = 0) ∨ ∃ wl, wl < 10 ∧ V 12 i = nI wl ∧ F 3 (3 * i + 2) = nI (wl + 1))
/-- roles and deputies -/
def GRo (V F : Nat → Nat → Int32) : Prop := (∃ M, F 5 0 = nI M ∧ mk6 M (fun p => decide (¬ V 0 p = 0))) ∧ (∃ M, F 5 1 = nI M ∧ mk6 M (fun p => decide (¬ V 1 p = 0))) ∧ (∀ p, p < 6 → V 1 p = 0 ∨ V 1 p = 1) ∧ (∀ p, p < 6 → (V 2 p = -1 ∧ F 6 p = 0) ∨ ∃ d, d < 6 ∧ V 2 p = nI d ∧ F 6 p = nI (d + 1))
/-- papers that aren't there -/
def GZ (n : Nat) (F : Nat → Nat → Int32) : Prop := ∀ j, n ≤ j → j < 8 → (∀ i, i < 8 → F 0 (8 * j + i) = 0) ∧ F 1 j = 0 ∧ (∀ i, i < 8 → F 2 (8 * j + i) = 0) ∧ (∀ i, i < 2 → F 7 (2 * j + i) = 0)
/-- the numbers of all -/
def GN (n td q : Nat) (I : Nat → Int32) (F : Nat → Nat → Int32) : Prop := n ≤ 8 ∧ td ≤ 1000 ∧ q ≤ 20 ∧ I 5 = nI n ∧ F 4 1 = nI n ∧ I 7 = nI td ∧ F 4 0 = nI td ∧ I 3 = nI q ∧ F 4 3 = nI q ∧ ∃ iv, 1 ≤ iv ∧ iv ≤ 100 ∧ I 6 = nI iv ∧ F 4 2 = nI iv
/-- ALL of it, k steps done -/
def GI (n k td q : Nat) (ad : Nat → Nat → Nat) (XX : Nat → Nat → Int32) (YY : Nat → Nat → Nat → Int32) (I : Nat → Int32) (V : Nat → Nat → Int32) (P : Nat → Option Nat) (F : Nat → Nat → Int32) : Prop :=
  GN n td q I F ∧ GC q V F ∧ GRo V F ∧ GZ n F ∧ (∀ i, i < 8 → P i = if i < n then some (ad i 0) else none) ∧ ∀ j, j < n → LPp (XX j) (YY j) F j k td
/-- .. of the law's rows and the class's world -/
def LQ (cI cZ cP : ClassId) (b : Nat → Nat) (k : Nat) (F : Nat → Nat → Int32) (wk : va_W) : Prop := ∃ (n td q : Nat) (ad : Nat → Nat → Nat) (XX : Nat → Nat → Int32) (YY : Nat → Nat → Nat → Int32) (I : Nat → Int32) (V : Nat → Nat → Int32) (P : Nat → Option Nat), wk = WK cI cZ cP n ad XX YY b I V P ∧ GI n k td q ad XX YY I V P F
def KW (cI cZ cP : ClassId) (b o : Nat → Nat) (k : Nat) (u : va_W) : Prop := ∃ (F : Nat → Nat → Int32) (wk : va_W), u = lw cI o F ++ wk ∧ LQ cI cZ cP b k F wk
-- steps and persons
def sN (X : Nat → Int32) (Y : Nat → Nat → Int32) (mm kk : Nat) : Nat := if X 2 = 0 then 0 else if mm = 0 ∨ ¬ dNR Y mm = -1 then 1 else if 0 < dOR Y kk then 2 else if X 10 = 0 then 3 else if ¬ dNC Y = -1 then 4 else 5
def wN (X : Nat → Int32) (Y : Nat → Nat → Int32) (mm kk : Nat) : Int32 := if X 2 = 0 then -1 else prs (stp mm (dNR Y mm) (dOR Y kk) (X 10) (dNC Y)) (dNR Y mm) (X 5) (dNC Y)
section
variable {X : Nat → Int32} {Y F : Nat → Nat → Int32} {mm kk : Nat}
theorem sN_le : sN X Y mm kk ≤ 5 := by unfold sN; split <;> (try split) <;> (try split) <;> (try split) <;> (try split) <;> omega
theorem sN_nI : (if X 2 = 0 then nI 0 else stp mm (dNR Y mm) (dOR Y kk) (X 10) (dNC Y)) = nI (sN X Y mm kk) := by
  unfold sN stp
  split
  · rfl
  · split
    · rfl
    · split
      · rfl
      · split
        · rfl
        · split <;> rfl
theorem sN_0 : sN X Y mm kk = 0 ↔ X 2 = 0 := by
  unfold sN
  constructor
  · intro h
    by_cases h2 : X 2 = 0
    · exact h2
    · rw [if_neg h2] at h
      split at h
      · omega
      · split at h
        · omega
        · split at h
          · omega
          · split at h <;> omega
  · intro h; rw [if_pos h]
/-- what a step means -/
theorem sN_1 (h : sN X Y mm kk = 1) : ¬ X 2 = 0 ∧ (mm = 0 ∨ ¬ dNR Y mm = -1) := by
  unfold sN at h
  split at h
  · omega
  · rename_i h2
    split at h
    · rename_i h3; exact ⟨h2, h3⟩
    · split at h
      · omega
      · split at h
        · omega
        · split at h <;> omega
theorem sN_2 (h : sN X Y mm kk = 2) : ¬ X 2 = 0 ∧ ¬ mm = 0 ∧ dNR Y mm = -1 ∧ 0 < dOR Y kk := by
  unfold sN at h
  split at h
  · omega
  · rename_i h2
    split at h
    · omega
    · rename_i h3
      split at h
      · rename_i h4; exact ⟨h2, fun e => h3 (Or.inl e), Decidable.not_not.mp (fun e => h3 (Or.inr e)), h4⟩
      · split at h
        · omega
        · split at h <;> omega
theorem sN_3 (h : sN X Y mm kk = 3) : ¬ X 2 = 0 ∧ ¬ mm = 0 ∧ dNR Y mm = -1 ∧ dOR Y kk = 0 ∧ X 10 = 0 := by
  unfold sN at h
  split at h
  · omega
  · rename_i h2
    split at h
    · omega
    · rename_i h3
      split at h
      · omega
      · rename_i h4
        split at h
        · rename_i h5; exact ⟨h2, fun e => h3 (Or.inl e), Decidable.not_not.mp (fun e => h3 (Or.inr e)), by omega, h5⟩
        · split at h <;> omega
theorem sN_4 (h : sN X Y mm kk = 4) : ¬ X 2 = 0 ∧ ¬ mm = 0 ∧ dNR Y mm = -1 ∧ dOR Y kk = 0 ∧ ¬ X 10 = 0 ∧ ¬ dNC Y = -1 := by
  unfold sN at h
  split at h
  · omega
  · rename_i h2
    split at h
    · omega
    · rename_i h3
      split at h
      · omega
      · rename_i h4
        split at h
        · omega
        · rename_i h5
          split at h
          · rename_i h6; exact ⟨h2, fun e => h3 (Or.inl e), Decidable.not_not.mp (fun e => h3 (Or.inr e)), by omega, h5, h6⟩
          · omega
theorem sN_5 (h : sN X Y mm kk = 5) : ¬ X 2 = 0 ∧ ¬ mm = 0 ∧ dNR Y mm = -1 ∧ dOR Y kk = 0 ∧ ¬ X 10 = 0 ∧ dNC Y = -1 := by
  unfold sN at h
  split at h
  · omega
  · rename_i h2
    split at h
    · omega
    · rename_i h3
      split at h
      · omega
      · rename_i h4
        split at h
        · omega
        · rename_i h5
          split at h
          · omega
          · rename_i h6; exact ⟨h2, fun e => h3 (Or.inl e), Decidable.not_not.mp (fun e => h3 (Or.inr e)), by omega, h5, Decidable.not_not.mp h6⟩
-- .. and the other way
theorem sN_is1 (h2 : ¬ X 2 = 0) (h : mm = 0 ∨ ¬ dNR Y mm = -1) : sN X Y mm kk = 1 := by unfold sN; rw [if_neg h2, if_pos h]
theorem sN_is2 (h2 : ¬ X 2 = 0) (h : ¬ mm = 0) (h3 : dNR Y mm = -1) (h4 : 0 < dOR Y kk) : sN X Y mm kk = 2 := by unfold sN; rw [if_neg h2, if_neg (fun e => e.elim h (fun e => e h3)), if_pos h4]
theorem sN_is3 (h2 : ¬ X 2 = 0) (h : ¬ mm = 0) (h3 : dNR Y mm = -1) (h4 : dOR Y kk = 0) (h5 : X 10 = 0) : sN X Y mm kk = 3 := by unfold sN; rw [if_neg h2, if_neg (fun e => e.elim h (fun e => e h3)), if_neg (by omega), if_pos h5]
theorem sN_is4 (h2 : ¬ X 2 = 0) (h : ¬ mm = 0) (h3 : dNR Y mm = -1) (h4 : dOR Y kk = 0) (h5 : ¬ X 10 = 0) (h6 : ¬ dNC Y = -1) : sN X Y mm kk = 4 := by unfold sN; rw [if_neg h2, if_neg (fun e => e.elim h (fun e => e h3)), if_neg (by omega), if_neg h5, if_pos h6]
theorem sN_is5 (h2 : ¬ X 2 = 0) (h : ¬ mm = 0) (h3 : dNR Y mm = -1) (h4 : dOR Y kk = 0) (h5 : ¬ X 10 = 0) (h6 : dNC Y = -1) : sN X Y mm kk = 5 := by unfold sN; rw [if_neg h2, if_neg (fun e => e.elim h (fun e => e h3)), if_neg (by omega), if_neg h5, if_neg (fun e => e h6)]
theorem wN_is : wN X Y mm kk = if sN X Y mm kk = 1 then dNR Y mm else if sN X Y mm kk = 2 then X 5 else if sN X Y mm kk = 4 then dNC Y else -1 := by
  unfold wN
  by_cases h2 : X 2 = 0
  · rw [if_pos h2, sN_0.mpr h2]; rfl
  · rw [if_neg h2]
    have e := sN_nI (X := X) (Y := Y) (mm := mm) (kk := kk)
    rw [if_neg h2] at e
    rw [e]
    have h5 := sN_le (X := X) (Y := Y) (mm := mm) (kk := kk)
    generalize sN X Y mm kk = s at h5
    rcases (show s = 0 ∨ s = 1 ∨ s = 2 ∨ s = 3 ∨ s = 4 ∨ s = 5 by omega) with rfl | rfl | rfl | rfl | rfl | rfl <;> rfl
end
-- rows by their laws
theorem pF_first {f : Nat → Bool} {v : Nat → Int32} : ∀ (n i : Nat), ((∀ q, i ≤ q → q < i + n → f q = false) ∧ pF f v n i = -1) ∨ ∃ q, i ≤ q ∧ q < i + n ∧ f q = true ∧ (∀ q', i ≤ q' → q' < q → f q' = false) ∧ pF f v n i = v q
  | 0, i => Or.inl ⟨fun q h1 h2 => absurd h2 (by omega), rfl⟩
  | n + 1, i => by
    by_cases h : f i = true
    · exact Or.inr ⟨i, by omega, by omega, h, fun q' h1 h2 => absurd h2 (by omega), by simp only [pF]; rw [if_pos h]⟩
    · have h' : f i = false := by simpa using h
      have e : pF f v (n + 1) i = pF f v n (i + 1) := by simp only [pF]; rw [if_neg h]
      rcases pF_first (f := f) (v := v) n (i + 1) with ⟨h1, h2⟩ | ⟨q, h1, h2, h3, h4, h5⟩
      · refine Or.inl ⟨fun q g1 g2 => ?_, e.trans h2⟩
        by_cases hq : q = i
        · subst hq; exact h'
        · exact h1 q (by omega) (by omega)
      · refine Or.inr ⟨q, by omega, by omega, h3, fun q' g1 g2 => ?_, e.trans h5⟩
        by_cases hq : q' = i
        · subst hq; exact h'
        · exact h4 q' (by omega) g2
theorem pF_cg {f g : Nat → Bool} {u v : Nat → Int32} : ∀ (n i : Nat), (∀ q, i ≤ q → q < i + n → f q = g q ∧ u q = v q) → pF f u n i = pF g v n i
  | 0, _, _ => rfl
  | n + 1, i, h => by
    have h0 := h i (Nat.le_refl _) (by omega)
    simp only [pF]
    rw [h0.1, h0.2, pF_cg n (i + 1) (fun q h1 h2 => h q (by omega) (by omega))]
theorem pN_cg {f g : Nat → Bool} : ∀ (n : Nat), (∀ q, q < n → f q = g q) → pN f n = pN g n
  | 0, _ => rfl
  | n + 1, h => by
    simp only [pN]
    rw [h n (by omega), pN_cg n (fun q hq => h q (by omega))]
theorem pX_if {f : Nat → Bool} : ∀ (n i : Nat), pX f n i = true ↔ ∃ q, i ≤ q ∧ q < i + n ∧ f q = true
  | 0, i => by simp only [pX]; constructor; intro h; cases h; rintro ⟨q, h1, h2, -⟩; omega
  | n + 1, i => by
    simp only [pX, Bool.or_eq_true, pX_if n (i + 1)]
    constructor
    · rintro (h | ⟨q, h1, h2, h3⟩)
      · exact ⟨i, Nat.le_refl _, by omega, h⟩
      · exact ⟨q, by omega, by omega, h3⟩
    · rintro ⟨q, h1, h2, h3⟩
      by_cases hq : q = i
      · subst hq; exact Or.inl h3
      · exact Or.inr ⟨q, by omega, by omega, h3⟩
theorem pN_z {f : Nat → Bool} : ∀ {n : Nat}, pN f n = 0 ↔ ∀ q, q < n → f q = false
  | 0 => ⟨fun _ q h => absurd h (by omega), fun _ => rfl⟩
  | n + 1 => by
    simp only [pN]
    constructor
    · intro h q hq
      by_cases hn : f n = true
      · rw [if_pos hn] at h; omega
      · rw [if_neg hn] at h
        by_cases h9 : q = n
        · subst h9; simpa using hn
        · exact pN_z.mp h q (by omega)
    · intro h
      rw [if_neg (by rw [h n (by omega)]; decide)]
      exact pN_z.mpr fun q hq => h q (by omega)
/-- one more is good than before -/
theorem pN_1up {f g : Nat → Bool} {a : Nat} (hf : f a = false) (hg : g a = true) (he : ∀ q, q ≠ a → f q = g q) : ∀ {n : Nat}, a < n → pN g n = pN f n + 1
  | 0, h => absurd h (by omega)
  | n + 1, h => by
    simp only [pN]
    by_cases ha : a = n
    · subst ha
      rw [if_pos hg, if_neg (by rw [hf]; decide), pN_cg (f := f) (g := g) a (fun q hq => he q (by omega))]
    · have ih := pN_1up hf hg he (n := n) (by omega)
      rw [ih, he n (fun h => ha h.symm)]
      split <;> omega
theorem pN_lt {f : Nat → Bool} {n a : Nat} (h : a < n) (hf : f a = false) : pN f n < n := by
  have h1 := pN_1up (f := f) (g := fun q => f q || decide (q = a)) hf (by simp) (fun q hq => by simp [hq]) h
  have h2 := pN_le (fun q => f q || decide (q = a)) n
  omega
theorem pL_last {f : Nat → Bool} {v : Nat → Int32} {n : Nat} (h : f n = true) : pL f v (n + 1) = v n := by simp only [pL]; rw [if_pos h]
-- masks
theorem pc8_0 : ∀ M, M < 64 → pc8 M = 0 → M = 0 := by decide +kernel
theorem pc8_bs : ∀ M, M < 64 → ∀ k, k < 6 → M.testBit k = false → pc8 (bs M k) = pc8 M + 1 := by decide +kernel
theorem pc8_bs8 : ∀ M, M < 256 → pc8 M = pN (fun i => M.testBit i) 8 := fun _ _ => rfl
theorem pc8_6 : ∀ M, M < 64 → pc8 M = pN (fun i => M.testBit i) 6 := by decide +kernel
theorem mk6.ext {M : Nat} {f g : Nat → Bool} (h : mk6 M f) (he : ∀ i, i < 6 → f i = g i) : mk6 M g := ⟨h.1, fun i hi => (h.2 i hi).trans (he i hi)⟩
theorem mk6.add {M p : Nat} {f g : Nat → Bool} (h : mk6 M f) (hp : p < 6) (he : ∀ i, i < 6 → g i = (f i || decide (i = p))) : mk6 (bs M p) g := ⟨bs_64 M h.1 p hp, fun i hi => by rw [bs_bit, h.2 i hi, he i hi]⟩
theorem mk8.add {M p : Nat} {f g : Nat → Bool} (h : mk8 M f) (hp : p < 8) (he : ∀ i, i < 8 → g i = (f i || decide (i = p))) : mk8 (bs M p) g := ⟨bs_lt h.1 hp, fun i hi => by rw [bs_bit, h.2 i hi, he i hi]⟩
end QInv
