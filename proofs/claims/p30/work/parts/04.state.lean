/-! THE STATE: how the objects lie, and the words of what the methods answer. -/
section QS
/-- a draft and its arrays: a 2 the draft, a 3 .. a 7 reviewers, reviewed, answered, reads, confirmed; X k field k; Y 1 .. Y 5 -/
def dw (cI cZ : ClassId) (a : Nat → Nat) (X : Nat → Int32) (Y : Nat → Nat → Int32) : va_W :=
  [(a 2, .inr (1, [.ref (a 3), .ref (a 4), .ref (a 5), .ref (a 6), .ref (a 7), .int (X 5), .int (X 6), .int (X 7), .int (X 8), .int (X 9), .int (X 10), .int (X 11)])),
   (a 3, .inl (cI, 4, .inl (Y 1))), (a 4, .inl (cZ, 6, .inl (Y 2))), (a 5, .inl (cZ, 4, .inl (Y 3))), (a 6, .inl (cZ, 6, .inl (Y 4))), (a 7, .inl (cZ, 6, .inl (Y 5)))]
/-- a paper beside its draft: X 0 in order, X 1 versions, X 2 has a draft, X 3 asked, X 4 since; Y 0 hangs on, Y 6 texts, Y 7 first days -/
def ppw (cI cZ : ClassId) (a : Nat → Nat) (X : Nat → Int32) (Y : Nat → Nat → Int32) : va_W :=
  [(a 0, .inr (2, [.int (X 0), .ref (a 1), .ref (a 2), .ref (a 8), .ref (a 9), .int (X 1), .int (X 2), .int (X 3), .int (X 4)])),
   (a 1, .inl (cZ, 8, .inl (Y 0))), (a 8, .inl (cI, 128, .inl (Y 6))), (a 9, .inl (cI, 128, .inl (Y 7)))]
/-- the keeper: I 5 papers, I 6 interval, I 7 today; V 0 may review, V 1 may approve, V 2 deputies; P the papers -/
def kq (cI cZ cP : ClassId) (b : Nat → Nat) (I : Nat → Int32) (V : Nat → Nat → Int32) (P : Nat → Option Nat) : va_W :=
  [(b 0, .inr (3, [.ref (b 1), .ref (b 2), .ref (b 3), .ref (b 4), .ref (b 5), .int (I 5), .int (I 6), .int (I 7)])),
   (b 1, .inl (cZ, 6, .inl (V 0))), (b 2, .inl (cZ, 6, .inl (V 1))), (b 3, .inl (cI, 6, .inl (V 2))), (b 4, .inl (cP, 8, .inr (.inr (.inr (.inr P)))))]
/-- the copies: I 3 how many; V 10 papers, V 11 versions, V 12 walls -/
def cw (cI : ClassId) (b : Nat → Nat) (I : Nat → Int32) (V : Nat → Nat → Int32) : va_W :=
  [(b 5, .inr (0, [.ref (b 6), .ref (b 7), .ref (b 8), .int (I 3)])), (b 6, .inl (cI, 30, .inl (V 10))), (b 7, .inl (cI, 30, .inl (V 11))), (b 8, .inl (cI, 30, .inl (V 12)))]
/-- the first of k places from i on that is good: its value; else -1 -/
def pF (ok : Nat → Bool) (v : Nat → Int32) : Nat → Nat → Int32
  | 0, _ => -1
  | k + 1, i => if ok i = true then v i else pF ok v k (i + 1)
/-- the last of the first n places that is good: its value; else -1 -/
def pL (ok : Nat → Bool) (v : Nat → Int32) : Nat → Int32
  | 0 => -1
  | n + 1 => if ok n = true then v n else pL ok v n
/-- is one of k places from i on good? -/
def pX (ok : Nat → Bool) : Nat → Nat → Bool
  | 0, _ => false
  | k + 1, i => ok i || pX ok k (i + 1)
/-- how many of the first n places are good -/
def pN (ok : Nat → Bool) : Nat → Nat
  | 0 => 0
  | n + 1 => if ok n = true then pN ok n + 1 else pN ok n
/-- a place in a row, from a number -/
def ix (x : Int32) : Nat := x.toNatClampNeg
theorem ix_nI {n : Nat} (h : n < 2 ^ 31) : ix (nI n) = n := nI_clamp h
/-- is it in the range? -/
def rg (x lo hi : Int32) : Bool := decide (lo ≤ x) && decide (x ≤ hi)
theorem rg_of {x lo hi : Int32} (h1 : ¬ x < lo) (h2 : ¬ hi < x) : rg x lo hi = true := by
  rw [Int32.lt_iff_toInt_lt] at h1 h2
  simp only [rg, Bool.and_eq_true, decide_eq_true_eq, Int32.le_iff_toInt_le]
  omega
theorem rg_lo {x lo hi : Int32} (h : x < lo) : rg x lo hi = false := by
  rw [Int32.lt_iff_toInt_lt] at h
  simp only [rg, Bool.and_eq_false_iff, decide_eq_false_iff_not, Int32.le_iff_toInt_le]
  omega
theorem rg_hi {x lo hi : Int32} (h : hi < x) : rg x lo hi = false := by
  rw [Int32.lt_iff_toInt_lt] at h
  simp only [rg, Bool.and_eq_false_iff, decide_eq_false_iff_not, Int32.le_iff_toInt_le]
  omega
/-- a number from 0 to n -/
theorem rg_nI {x : Int32} {n : Nat} (hn : n < 2 ^ 31) (h : rg x 0 (nI n) = true) : ∃ j : Nat, j ≤ n ∧ x = nI j := by
  simp only [rg, Bool.and_eq_true, decide_eq_true_eq] at h
  refine nI_of2 (M := nI n) (nI_toInt hn) ?_ h.2
  have h1 := h.1
  rw [Int32.le_iff_toInt_le] at h1
  rw [Int32.lt_iff_toInt_lt]
  omega
theorem nI_eq0 {n : Nat} (h : n < 2 ^ 31) : nI n = 0 ↔ n = 0 := by
  rw [← nI_0]; exact nI_eq h (by omega)
theorem nI_nm1 {n : Nat} (h : n < 2 ^ 31) : ¬ nI n = -1 := by
  intro e
  have h1 := nI_toInt h
  rw [e] at h1
  have h2 : (-1 : Int32).toInt = -1 := by decide
  omega
end QS
