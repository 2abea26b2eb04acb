/-! CODES: which exception a call throws, by its place in the throws clause; 0: it answers. -/
/-- is it a place of the first n? -/
def inr (x : Int32) (n : Nat) : Bool := decide (¬ x < 0) && decide (x < nI n)
theorem inr_of {x : Int32} {n : Nat} (hn : n < 2 ^ 31) (h1 : ¬ x < 0) (h2 : x < nI n) : ∃ j : Nat, j < n ∧ x = nI j := by
  obtain ⟨j, hj, rfl⟩ := nI_of h1
  exact ⟨j, (nI_ltI hj hn).mp h2, rfl⟩
theorem inr_no {x : Int32} {n : Nat} (h : ¬ x < 0) (h2 : ¬ nI n ≤ x) : x < nI n := by
  rw [Int32.le_iff_toInt_le] at h2; rw [Int32.lt_iff_toInt_lt]; omega
theorem inr_nn {x : Int32} {n : Nat} (h2 : nI n ≤ x) : ¬ x < nI n := by
  rw [Int32.le_iff_toInt_le] at h2; rw [Int32.lt_iff_toInt_lt]; omega
theorem rg_le {x lo hi : Int32} (h1 : ¬ x < lo) (h2 : x ≤ hi) : rg x lo hi = true := rg_of h1 (by rw [Int32.le_iff_toInt_le] at h2; rw [Int32.lt_iff_toInt_lt]; omega)
theorem rg_nle {x lo hi : Int32} (h : ¬ x ≤ hi) : rg x lo hi = false := rg_hi (by rw [Int32.le_iff_toInt_le] at h; rw [Int32.lt_iff_toInt_lt]; omega)
theorem rg_j {x : Int32} {n : Nat} (hn : n < 2 ^ 31) (h : rg x (nI 0) (nI n) = true) : ∃ j : Nat, j < n + 1 ∧ x = nI j := by
  obtain ⟨j, hj, e⟩ := rg_nI hn h
  exact ⟨j, by omega, e⟩
theorem q_if2 {v : Option Value} {b : Bool} (h : v = some (.int (if b = true then nI 1 else nI 0))) : (v = some (.int (nI 1)) ∧ b = true) ∨ (v = some (.int (nI 0)) ∧ b = false) := by
  cases b
  · exact Or.inr ⟨h, rfl⟩
  · exact Or.inl ⟨h, rfl⟩
def kSetRoles (x : Int32) : Nat := if rg x (nI 0) (nI 5) = true then 0 else 1
def kSetDeputy (x y : Int32) : Nat := if rg x (nI 0) (nI 5) = true ∧ (y = -1 ∨ rg y (nI 0) (nI 5) = true) ∧ ¬ x = y then 0 else 1
def kOpen (n : Nat) : Nat := if n < 8 then 0 else 1
def kHang (x y : Int32) : Nat := if x = y then 2 else 0
def kSetInterval (x : Int32) : Nat := if rg x (nI 1) (nI 100) = true then 0 else 1
def kDraft (x y hd : Int32) : Nat := if rg x (nI 0) (nI 5) = false ∨ rg y (nI 0) (nI 9999) = false then 2 else if hd = 0 then 0 else 3
def kChange (y hd dt : Int32) : Nat := if rg y (nI 0) (nI 9999) = false then 2 else if hd = 0 ∨ dt = y then 3 else 0
def kDrop (hd : Int32) : Nat := if hd = 0 then 2 else 0
def kReviewer (x hd ap au mr : Int32) (nm : Bool) (n : Nat) : Nat := if rg x (nI 0) (nI 5) = false then 2 else if hd = 0 ∨ ¬ ap = 0 ∨ x = au ∨ mr = 0 ∨ nm = true ∨ ¬ n < 4 then 3 else 0
def kReader (x hd re : Int32) : Nat := if rg x (nI 0) (nI 5) = false then 2 else if hd = 0 ∨ ¬ re = 0 then 3 else 0
def kReview (x hd : Int32) (nm : Bool) (rd io nr : Int32) : Nat := if rg x (nI 0) (nI 5) = false then 2 else if hd = 0 ∨ nm = false ∨ ¬ rd = 0 ∨ (¬ io = 0 ∧ ¬ nr = x) then 3 else 0
def kAnswer (r hd : Int32) (k : Nat) (an : Int32) : Nat := if hd = 0 then 2 else if inr r k = false then 1 else if an = 0 then 0 else 2
def kApprove (x y td hd st au : Int32) (can : Bool) : Nat := if rg x (nI 0) (nI 5) = false ∨ rg y (td + nI 1) (nI 1000) = false then 2 else if hd = 0 ∨ ¬ st = nI 3 ∨ x = au ∨ can = false then 3 else 0
def kConfirm (x hd ap re cf : Int32) : Nat := if rg x (nI 0) (nI 5) = false then 2 else if hd = 0 ∨ ap = 0 ∨ re = 0 ∨ ¬ cf = 0 then 3 else 0
def kPass (x td : Int32) : Nat := if rg x (nI 1) (nI 50) = false then 1 else if td + x ≤ nI 1000 then 0 else 2
def kLook (w : Nat) : Nat := if w = 0 then 2 else 0
def kCopy (x : Int32) (w q : Nat) : Nat := if rg x (nI 0) (nI 9) = false then 2 else if w = 0 ∨ ¬ q < 30 then 3 else 0
def kTakeDown (x : Int32) (q : Nat) (wl : Int32) : Nat := if inr x q = true ∧ ¬ wl = -1 then 0 else 1
def kInForceOn (y td : Int32) : Nat := if rg y (nI 0) td = true then 0 else 2
def kSince (y : Int32) (w : Nat) : Nat := if inr y w = true then 0 else 1
/-- who may be asked: a paper that is there -/
def nop (P : Nat → Option Nat) (x : Int32) : Prop := ∀ j, j < 8 → x = nI j → P j = none
theorem nl_z (w : Nat) (a t s i : Int32) : narrow .boolean (.int (nl w a t s i)) = .int (nl w a t s i) := by
  unfold nl; split <;> rfl
theorem nar_b {r : Int32} (h : r = 0 ∨ r = 1) : vp_nar .boolean r = r := by
  rcases h with rfl | rfl <;> rfl
theorem rg_1j {x : Int32} {n : Nat} (hn : n < 2 ^ 31) (h : rg x (nI 1) (nI n) = true) : ∃ j : Nat, j < n + 1 ∧ x = nI j := by
  simp only [rg, Bool.and_eq_true, decide_eq_true_eq] at h
  have h1 := h.1
  rw [Int32.le_iff_toInt_le] at h1
  have e : (nI 1).toInt = 1 := by decide
  obtain ⟨j, hj, e⟩ := nI_of2 (M := nI n) (nI_toInt hn) (by rw [Int32.lt_iff_toInt_lt, Int32.toInt_zero]; omega) h.2
  exact ⟨j, by omega, e⟩
