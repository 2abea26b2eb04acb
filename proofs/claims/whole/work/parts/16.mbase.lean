/-! THE REFERENCE: the words of its answers. -/
theorem inr_vn {x : Int32} {n : Nat} (hn : n < 2 ^ 31) : rg x (nI 0) (vn n) = inr x n := by
  cases n with
  | zero =>
    have e : (nI 0).toInt = 0 := by decide
    have e1 : (-1 : Int32).toInt = -1 := by decide
    have h1 : rg x (nI 0) (vn 0) = false := by
      simp only [rg, vn, Bool.and_eq_false_iff, decide_eq_false_iff_not, Int32.le_iff_toInt_le, e, e1]; omega
    have h2 : inr x 0 = false := by
      simp only [inr, Bool.and_eq_false_iff, decide_eq_false_iff_not, Int32.lt_iff_toInt_lt, e, Int32.toInt_zero]; omega
    rw [h1, h2]
  | succ k =>
    have e : (nI 0).toInt = 0 := by decide
    have hk : (nI k).toInt = k := nI_toInt (by omega)
    have hk1 : (nI (k + 1)).toInt = k + 1 := nI_toInt hn
    rw [Bool.eq_iff_iff]
    simp only [rg, inr, vn, Bool.and_eq_true, decide_eq_true_eq, Int32.le_iff_toInt_le, Int32.lt_iff_toInt_lt, e, hk, hk1, Int32.toInt_zero]
    omega
theorem inr_nI {j n : Nat} (h : j < n) (hn : n < 2 ^ 31) : inr (nI j) n = true := by
  simp only [inr, Bool.and_eq_true, decide_eq_true_eq]
  exact ⟨nI_pos (by omega), nI_lt h hn⟩
theorem bI2 {v : Option Value} {b : Bool} (h : v = some (.int (bI b))) : (v = some (.int (nI 1)) ∧ b = true) ∨ (v = some (.int (nI 0)) ∧ b = false) := q_if2 h
theorem inr_ex {x : Int32} {n : Nat} (hn : n < 2 ^ 31) (h : inr x n = true) : ∃ j : Nat, j < n ∧ x = nI j := by
  simp only [inr, Bool.and_eq_true, decide_eq_true_eq] at h
  exact inr_of hn h.1 h.2
theorem rg_1 {x lo hi : Int32} (h1 : ¬ x < lo) (h2 : ¬ hi < x) : nI 1 = bI (rg x lo hi) := bI_t (rg_of h1 h2)
theorem rg_01 {x lo hi : Int32} (h1 : x < lo) : nI 0 = bI (rg x lo hi) := bI_f (rg_lo h1)
theorem rg_02 {x lo hi : Int32} (h1 : hi < x) : nI 0 = bI (rg x lo hi) := bI_f (rg_hi h1)
theorem dec_sub (x : Int32) : x + Int32.ofInt (-1) = x - nI 1 := by rw [Int32.sub_eq_add_neg]; rfl
theorem nI_lt1 {s : Nat} (h : s < 2 ^ 30) : nI s - nI 1 < nI s := by
  rw [vn_eq]
  cases s with
  | zero => decide
  | succ k => exact nI_lt (by omega) (by omega)
/-- some places from s on set to nothing -/
def zr (f : Nat → Int32) (s i : Nat) : Nat → Int32 := fun k => if s ≤ k ∧ k < s + i then nI 0 else f k
theorem zr_0 (f : Nat → Int32) (s : Nat) : zr f s 0 = f := by
  funext k; simp only [zr]; rw [if_neg (by omega)]
theorem zr_s (f : Nat → Int32) (s i : Nat) : upd (zr f s i) (s + i) (nI 0) = zr f s (i + 1) := by
  funext k
  by_cases h : k = s + i
  · subst h; simp only [upd, zr, if_true]; rw [if_pos (by omega)]
  · simp only [upd, zr, if_neg h]
    by_cases h2 : s ≤ k ∧ k < s + i
    · rw [if_pos h2, if_pos (by omega)]
    · rw [if_neg h2, if_neg (by omega)]
theorem pN_not (ok : Nat → Bool) (k : Nat) : pN ok k + pN (fun i => !(ok i)) k = k := by
  induction k with
  | zero => rfl
  | succ k ih => simp only [pN]; by_cases h : ok k = true <;> simp [h] <;> omega
theorem pN_congr {a b : Nat → Bool} {n : Nat} (h : ∀ i, i < n → a i = b i) : pN a n = pN b n := by
  induction n with
  | zero => rfl
  | succ n ih => simp only [pN]; rw [ih (fun i hi => h i (by omega)), h n (by omega)]
abbrev mOK (Z : Nat → Nat → Int32) (j : Nat) : Nat → Bool := fun i => decide (Z 14 (4 * j + i) = 0)
abbrev mNR (Z : Nat → Nat → Int32) (j m : Nat) : Int32 := pF (mOK Z j) (fun i => Z 13 (4 * j + i)) m 0
abbrev mNC (Z : Nat → Nat → Int32) (j : Nat) : Int32 := pF (okC (fun i => Z 19 (6 * j + i)) (fun i => Z 20 (6 * j + i))) nI 6 0
abbrev mOR (Z : Nat → Nat → Int32) (j k : Nat) : Nat := pN (fun i => decide (Z 16 (4 * j + i) = 0)) k
abbrev mPL (Z : Nat → Nat → Int32) (j m : Nat) (x : Int32) : Int32 := pL (fun i => decide (Z 13 (4 * j + i) = x)) (fun i => nI (4 * j + i)) m
theorem mOR_eq (Z : Nat → Nat → Int32) (j k : Nat) (hk : k < 2 ^ 30) : nI k - nI (pN (fun i => decide (¬ Z 16 (4 * j + i) = 0)) k) = nI (mOR Z j k) := by
  have h := pN_not (fun i => decide (Z 16 (4 * j + i) = 0)) k
  have e : pN (fun i => !(decide (Z 16 (4 * j + i) = 0))) k = pN (fun i => decide (¬ Z 16 (4 * j + i) = 0)) k := pN_congr fun i _ => by simp
  rw [e] at h
  have h2 : pN (fun i => decide (¬ Z 16 (4 * j + i) = 0)) k ≤ k := pN_le _ _
  rw [pk_sub h2]
  congr 1
  show k - pN (fun i => decide (¬ Z 16 (4 * j + i) = 0)) k = pN (fun i => decide (Z 16 (4 * j + i) = 0)) k
  omega
/-- where the last place is that names the person: none, or one of them -/
theorem pL_or {ok : Nat → Bool} {v : Nat → Int32} (n : Nat) : (pL ok v n = -1 ∧ ∀ i, i < n → ok i = false) ∨ ∃ i, i < n ∧ ok i = true ∧ pL ok v n = v i := by
  induction n with
  | zero => exact Or.inl ⟨rfl, fun i h => absurd h (Nat.not_lt_zero i)⟩
  | succ n ih =>
    cases h : ok n with
    | true => exact Or.inr ⟨n, by omega, h, pL_yes h⟩
    | false =>
      rw [pL_no h]
      rcases ih with ⟨h1, h2⟩ | ⟨i, h1, h2, h3⟩
      · refine Or.inl ⟨h1, fun i hi => ?_⟩
        by_cases he : i = n
        · subst he; exact h
        · exact h2 i (by omega)
      · exact Or.inr ⟨i, by omega, h2, h3⟩
/-- the papers called, of the first i -/
def mcl (f hg vs : Nat → Int32) (j i : Nat) : Nat → Int32 := fun k => if k < i then bI (decide (¬ f k = 0) || (decide (¬ hg (8 * k + j) = 0) && decide (¬ vs k ≤ 0))) else f k
theorem mcl_0 (f hg vs : Nat → Int32) (j : Nat) : mcl f hg vs j 0 = f := by funext k; simp [mcl]
theorem mcl_i (f hg vs : Nat → Int32) (j i : Nat) : mcl f hg vs j i i = f i := by simp [mcl]
theorem mcl_s (f hg vs : Nat → Int32) (j i : Nat) {x : Int32} (h : x = bI (decide (¬ f i = 0) || (decide (¬ hg (8 * i + j) = 0) && decide (¬ vs i ≤ 0)))) : upd (mcl f hg vs j i) i x = mcl f hg vs j (i + 1) := by
  funext k
  by_cases hk : k = i
  · subst hk; simp only [upd, mcl, if_true]; rw [if_pos (by omega)]; exact h
  · simp only [upd, mcl, if_neg hk]
    by_cases h2 : k < i
    · rw [if_pos h2, if_pos (by omega)]
    · rw [if_neg h2, if_neg (by omega)]
theorem bI_nar (b : Bool) : vp_nar .boolean (bI b) = bI b := by cases b <;> rfl
theorem bI_narrow (b : Bool) : narrow .boolean (.int (bI b)) = .int (bI b) := by cases b <;> rfl
theorem rgm_t {y : Int32} (h : rg y (-1) (nI 5) = true) : y = -1 ∨ rg y (nI 0) (nI 5) = true := by
  by_cases e : y = -1
  · exact Or.inl e
  · refine Or.inr ?_
    have e0 : (nI 0).toInt = 0 := by decide
    have e1 : (-1 : Int32).toInt = -1 := by decide
    have e2 : ¬ y.toInt = -1 := fun h9 => e (Int32.toInt_inj.mp (by rw [h9, e1]))
    simp only [rg, Bool.and_eq_true, decide_eq_true_eq, Int32.le_iff_toInt_le, e0, e1] at h ⊢
    omega
theorem rgm_f {y : Int32} (h : rg y (-1) (nI 5) = false) : ¬ (y = -1 ∨ rg y (nI 0) (nI 5) = true) := by
  have e0 : (nI 0).toInt = 0 := by decide
  have e1 : (-1 : Int32).toInt = -1 := by decide
  have e5 : (nI 5).toInt = 5 := by decide
  rintro (rfl | h2)
  · exact absurd h (by decide)
  · simp only [rg, Bool.and_eq_true, Bool.and_eq_false_iff, decide_eq_true_eq, decide_eq_false_iff_not, Int32.le_iff_toInt_le, e0, e1, e5] at h h2
    omega
theorem stp3 (n : Nat) (nr : Int32) (op : Nat) (ap nc : Int32) : stp n nr op ap nc = nI 3 ↔ (0 < n ∧ nr = -1 ∧ op = 0) ∧ ap = 0 := by
  unfold stp
  by_cases h1 : n = 0 ∨ ¬ nr = -1
  · rw [if_pos h1]
    constructor
    · intro h; exact absurd h (by decide)
    · rintro ⟨⟨h2, h3, -⟩, -⟩
      rcases h1 with h1 | h1
      · omega
      · exact absurd h3 h1
  · rw [if_neg h1]
    have h2 : 0 < n ∧ nr = -1 := ⟨by omega, Classical.byContradiction fun h => h1 (Or.inr h)⟩
    by_cases h3 : 0 < op
    · rw [if_pos h3]
      constructor
      · intro h; exact absurd h (by decide)
      · rintro ⟨⟨-, -, h4⟩, -⟩; omega
    · rw [if_neg h3]
      by_cases h4 : ap = 0
      · rw [if_pos h4]; exact ⟨fun _ => ⟨⟨h2.1, h2.2, by omega⟩, h4⟩, fun _ => rfl⟩
      · rw [if_neg h4]
        constructor
        · intro h
          split at h
          · exact absurd h (by decide)
          · exact absurd h (by decide)
        · rintro ⟨-, h5⟩; exact absurd h5 h4
theorem ov_t {a b c : Prop} [Decidable a] [Decidable b] [Decidable c] (h : (decide a && decide b && decide c) = true) : a ∧ b ∧ c := by
  simp only [Bool.and_eq_true, decide_eq_true_eq] at h; exact ⟨h.1.1, h.1.2, h.2⟩
theorem ov_f {a b c : Prop} [Decidable a] [Decidable b] [Decidable c] (h : (decide a && decide b && decide c) = false) : ¬ (a ∧ b ∧ c) := by
  rintro ⟨h1, h2, h3⟩
  simp [h1, h2, h3] at h
theorem ap_t {a : Bool} {b : Prop} [Decidable b] (h : (a && decide (¬ b)) = true) : ¬ b ∧ a = true := by
  simp only [Bool.and_eq_true, decide_eq_true_eq] at h; exact ⟨h.2, h.1⟩
theorem ap_f {a : Bool} {b : Prop} [Decidable b] (h : (a && decide (¬ b)) = false) : b ∨ a = false := by
  cases a
  · exact Or.inr rfl
  · left; simpa using h
theorem pl2 {ok : Nat → Bool} {f : Nat → Nat} {n : Nat} {v : Option Value} (h : v = some (.int (pL ok (fun i => nI (f i)) n))) : (v = some (.int (-1)) ∧ pL ok (fun i => nI (f i)) n = -1) ∨ ∃ i, i < n ∧ ok i = true ∧ v = some (.int (nI (f i))) ∧ pL ok (fun i => nI (f i)) n = nI (f i) := by
  rcases pL_or (ok := ok) (v := fun i => nI (f i)) n with ⟨h1, -⟩ | ⟨i, h1, h2, h3⟩
  · exact Or.inl ⟨by rw [h, h1], h1⟩
  · exact Or.inr ⟨i, h1, h2, by rw [h, h3], h3⟩
theorem if8 {v : Option Value} {p : Prop} [Decidable p] {a b : Int32} (h : v = some (.int (if p then a else b))) : (v = some (.int a) ∧ p) ∨ (v = some (.int b) ∧ ¬ p) := by
  by_cases hp : p
  · exact Or.inl ⟨by rw [h, if_pos hp], hp⟩
  · exact Or.inr ⟨by rw [h, if_neg hp], hp⟩
theorem n41 : ¬ nI 4 = nI 1 := by decide
theorem n42 : ¬ nI 4 = nI 2 := by decide
theorem n21 : ¬ nI 2 = nI 1 := by decide
theorem nl_1 {w : Nat} {a t s i : Int32} (h : ¬ nl w a t s i = 0) : nI 1 = nl w a t s i := by
  unfold nl at h ⊢
  split
  · rfl
  · rename_i h2; rw [if_neg h2] at h; exact absurd rfl h
theorem nl_0 {w : Nat} {a t s i : Int32} (h : nl w a t s i = 0) : nI 0 = nl w a t s i := by rw [h]; rfl
