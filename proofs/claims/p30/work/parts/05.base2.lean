/-! LOOPS, FRAMES IN A ROW, and small facts. -/
section QL
variable {p : Program} {l : Launch} {e : Env} {R : Room} {s : State} {m : MethodId} {args : Array Value} {below : List Frame} {meth : Method} {c : Code} {H : Heap} {locs : List Loc} {cells slots : Nat} {Q : State → Prop}
variable {D : va_G} {A : Nat → Prop} {pc nL : Nat} {ls : Array Slot} {st0 : List Value}
/-- a loop that writes nothing -/
theorem q_loop (I : Nat → Prop) (μ : Nat → Nat) (lv : Nat → List (Nat × Value)) (x0 : Nat) (h0 : I x0) (hl : lv_has ls nL (lv x0))
    (hs : ∀ x, I x → (∀ y, I y → μ y < μ x → ∀ ls, lv_has ls nL (lv y) → W p l e R s m args below meth c H locs cells slots Q (F0 m pc ls st0)) → ∀ ls, lv_has ls nL (lv x) → W p l e R s m args below meth c H locs cells slots Q (F0 m pc ls st0)) :
    W p l e R s m args below meth c H locs cells slots Q (F0 m pc ls st0) := by
  have key : ∀ N x, μ x < N → I x → ∀ ls, lv_has ls nL (lv x) → W p l e R s m args below meth c H locs cells slots Q (F0 m pc ls st0) := by
    intro N
    induction N with
    | zero => intro x h; exact absurd h (Nat.not_lt_zero _)
    | succ N ih => intro x h hI ls hl; exact hs x hI (fun y hy hlt => ih y (by omega) hy) ls hl
  exact key (μ x0 + 1) x0 (by omega) h0 ls hl
/-- a loop that changes its world -/
theorem q_loopW (I : Nat → Prop) (μ : Nat → Nat) (lv : Nat → List (Nat × Value)) (wf : Nat → va_W) (x0 : Nat) (h0 : I x0) (hl : lv_has ls nL (lv x0)) (hP : va_P D vwCl (wf x0) H) (hD : va_D A (wf x0)) (hS : va_S A s.heap H locs)
    (hs : ∀ x, I x → (∀ y, I y → μ y < μ x → ∀ (ls : Array Slot) (H : Heap) (locs : List Loc), lv_has ls nL (lv y) → va_P D vwCl (wf y) H → va_D A (wf y) → va_S A s.heap H locs → W p l e R s m args below meth c H locs cells slots Q (F0 m pc ls st0)) → ∀ (ls : Array Slot) (H : Heap) (locs : List Loc), lv_has ls nL (lv x) → va_P D vwCl (wf x) H → va_D A (wf x) → va_S A s.heap H locs → W p l e R s m args below meth c H locs cells slots Q (F0 m pc ls st0)) :
    W p l e R s m args below meth c H locs cells slots Q (F0 m pc ls st0) := by
  have key : ∀ N x, μ x < N → I x → ∀ (ls : Array Slot) (H : Heap) (locs : List Loc), lv_has ls nL (lv x) → va_P D vwCl (wf x) H → va_D A (wf x) → va_S A s.heap H locs → W p l e R s m args below meth c H locs cells slots Q (F0 m pc ls st0) := by
    intro N
    induction N with
    | zero => intro x h; exact absurd h (Nat.not_lt_zero _)
    | succ N ih => intro x h hI ls H locs hl hP hD hS; exact hs x hI (fun y hy hlt => ih y (by omega) hy) ls H locs hl hP hD hS
  exact key (μ x0 + 1) x0 (by omega) h0 ls H locs hl hP hD hS
end QL
section QF
variable {l : Launch} {y : MethodName} {ws : List Cond} {rm : Room} {D : va_G} {cI cZ cP : ClassId} {av : List Value} {S : Type} {post : Option Value → S → Prop} {xp : String → Prop} {mc ms : Nat}
/-- a contract of w1 ++ w2, in w1 ++ (w2 ++ x) -/
theorem q_C.fr2 {w1 w2 : va_W} {W1 W2 : S → va_W} (h : q_C l y ws rm D cI cZ cP av (w1 ++ w2) post (fun u => W1 u ++ W2 u) xp mc ms) (x : va_W) : q_C l y ws rm D cI cZ cP av (w1 ++ (w2 ++ x)) post (fun u => W1 u ++ (W2 u ++ x)) xp mc ms := by
  have h2 := h.fr x
  simp only [List.append_assoc] at h2
  exact h2
/-- a contract of w, in x1 ++ (x2 ++ w) -/
theorem q_C.fl2 {w : va_W} {W' : S → va_W} (h : q_C l y ws rm D cI cZ cP av w post W' xp mc ms) (x1 x2 : va_W) : q_C l y ws rm D cI cZ cP av (x1 ++ (x2 ++ w)) post (fun u => x1 ++ (x2 ++ W' u)) xp mc ms := (h.fl x2).fl x1
theorem q_C.fl3 {w : va_W} {W' : S → va_W} (h : q_C l y ws rm D cI cZ cP av w post W' xp mc ms) (x1 x2 x3 : va_W) : q_C l y ws rm D cI cZ cP av (x1 ++ (x2 ++ (x3 ++ w))) post (fun u => x1 ++ (x2 ++ (x3 ++ W' u))) xp mc ms := ((h.fl x3).fl x2).fl x1
end QF
theorem q_allg_IAE : ((vx_atS RX3 51 "java/lang/IllegalArgumentException" ["java/lang/RuntimeException", "java/lang/Exception"]).filter goodWord).all goodWord = true := by simp
theorem q_allg_ISE : ((vx_atS RX3 58 "java/lang/IllegalStateException" ["java/lang/RuntimeException", "java/lang/Exception"]).filter goodWord).all goodWord = true := by simp
theorem q_allg_IOB : ((vx_atS RX3 161 "java/lang/IndexOutOfBoundsException" ["java/lang/RuntimeException", "java/lang/Exception"]).filter goodWord).all goodWord = true := by simp
theorem nI_le0 {n : Nat} (h : n < 2 ^ 31) : nI n ≤ 0 ↔ n = 0 := by
  rw [← nI_0, nI_leI h (by omega)]; omega
theorem nI_gt0 {n : Nat} (h : n < 2 ^ 31) : 0 < nI n ↔ 0 < n := by
  rw [← nI_0, nI_ltI (by omega) h]
/-- the version before the count -/
def vn : Nat → Int32
  | 0 => -1
  | k + 1 => nI k
theorem vn_eq (w : Nat) : nI w - nI 1 = vn w := by
  cases w with
  | zero => decide
  | succ k => exact nI_pred k
theorem vn_s {w : Nat} (h : 0 < w) : vn w = nI (w - 1) := by
  cases w with
  | zero => omega
  | succ k => rfl
theorem vn_m1 {w : Nat} (hw : w < 2 ^ 31) : vn w = -1 ↔ w = 0 := by
  cases w with
  | zero => simp [vn]
  | succ k =>
    constructor
    · intro h; exact absurd h (nI_nm1 (by omega))
    · intro h; omega
/-- one down: 'k--' -/
theorem nI_dec (n : Nat) : nI (n + 1) + Int32.ofInt (-1) = nI n := pk_m1 n
theorem pF_no {ok : Nat → Bool} {v : Nat → Int32} {n i : Nat} (h : i < n) (hk : ok i = false) : pF ok v (n - i) i = pF ok v (n - (i + 1)) (i + 1) := by
  obtain ⟨k, hk2⟩ : ∃ k, n - i = k + 1 := ⟨n - i - 1, by omega⟩
  rw [hk2, show n - (i + 1) = k by omega, pF, if_neg (by rw [hk]; decide)]
theorem pF_yes {ok : Nat → Bool} {v : Nat → Int32} {n i : Nat} (h : i < n) (hk : ok i = true) : pF ok v (n - i) i = v i := by
  obtain ⟨k, hk2⟩ : ∃ k, n - i = k + 1 := ⟨n - i - 1, by omega⟩
  rw [hk2, pF, if_pos hk]
theorem pF_end {ok : Nat → Bool} {v : Nat → Int32} {n i : Nat} (h : n ≤ i) : pF ok v (n - i) i = -1 := by
  rw [show n - i = 0 by omega, pF]
theorem pX_no {ok : Nat → Bool} {n i : Nat} (h : i < n) (hk : ok i = false) : pX ok (n - i) i = pX ok (n - (i + 1)) (i + 1) := by
  obtain ⟨k, hk2⟩ : ∃ k, n - i = k + 1 := ⟨n - i - 1, by omega⟩
  rw [hk2, show n - (i + 1) = k by omega, pX, hk, Bool.false_or]
theorem pX_yes {ok : Nat → Bool} {n i : Nat} (h : i < n) (hk : ok i = true) : pX ok (n - i) i = true := by
  obtain ⟨k, hk2⟩ : ∃ k, n - i = k + 1 := ⟨n - i - 1, by omega⟩
  rw [hk2, pX, hk, Bool.true_or]
theorem pX_end {ok : Nat → Bool} {n i : Nat} (h : n ≤ i) : pX ok (n - i) i = false := by
  rw [show n - i = 0 by omega, pX]
theorem pN_no {ok : Nat → Bool} {i : Nat} (hk : ok i = false) : pN ok (i + 1) = pN ok i := by
  rw [pN, if_neg (by rw [hk]; decide)]
theorem pN_yes {ok : Nat → Bool} {i : Nat} (hk : ok i = true) : pN ok (i + 1) = pN ok i + 1 := by
  rw [pN, if_pos hk]
theorem pN_le (ok : Nat → Bool) (n : Nat) : pN ok n ≤ n := by
  induction n with
  | zero => exact Nat.le_refl 0
  | succ n ih => rw [pN]; split <;> omega
theorem pL_no {ok : Nat → Bool} {v : Nat → Int32} {i : Nat} (hk : ok i = false) : pL ok v (i + 1) = pL ok v i := by
  rw [pL, if_neg (by rw [hk]; decide)]
theorem pL_yes {ok : Nat → Bool} {v : Nat → Int32} {i : Nat} (hk : ok i = true) : pL ok v (i + 1) = v i := by
  rw [pL, if_pos hk]
/-- has the reviewer at this place still to review? -/
def okR (rv rd : Nat → Int32) (i : Nat) : Bool := decide (rd (ix (rv i)) = 0)
theorem okR_nI {rv rd : Nat → Int32} {i j : Nat} (h : rv i = nI j) (hj : j < 6) : okR rv rd i = decide (rd j = 0) := by
  rw [okR, h, ix_nI (by omega)]
/-- has this reader still to confirm? -/
def okC (re cf : Nat → Int32) (i : Nat) : Bool := decide (re i ≠ 0) && decide (cf i = 0)
/-- a draft's counts: n reviewers, all persons; k remarks -/
def wd (X : Nat → Int32) (Y : Nat → Nat → Int32) (n k : Nat) : Prop := X 8 = nI n ∧ n ≤ 4 ∧ X 9 = nI k ∧ k ≤ 4 ∧ ∀ i, i < n → ∃ j, j < 6 ∧ Y 1 i = nI j
abbrev dNR (Y : Nat → Nat → Int32) (n : Nat) : Int32 := pF (okR (Y 1) (Y 2)) (Y 1) n 0
abbrev dNC (Y : Nat → Nat → Int32) : Int32 := pF (okC (Y 4) (Y 5)) nI 6 0
abbrev dOR (Y : Nat → Nat → Int32) (k : Nat) : Nat := pN (fun i => decide (Y 3 i = 0)) k
/-- the step of a draft: n reviewers, the next of them, the open remarks, the approval, the next reader -/
def stp (n : Nat) (nr : Int32) (op : Nat) (ap nc : Int32) : Int32 := if n = 0 ∨ ¬ nr = -1 then nI 1 else if 0 < op then nI 2 else if ap = 0 then nI 3 else if ¬ nc = -1 then nI 4 else nI 5
/-- the first n places set to nothing -/
def zf (f : Nat → Int32) (n : Nat) : Nat → Int32 := fun j => if j < n then nI 0 else f j
theorem zf_0 (f : Nat → Int32) : zf f 0 = f := by funext j; simp [zf]
theorem zf_s (f : Nat → Int32) (i : Nat) : upd (zf f i) i (nI 0) = zf f (i + 1) := by
  funext j
  by_cases h : j = i
  · subst h; simp [upd, zf]
  · simp only [upd, zf, if_neg h]
    by_cases h2 : j < i
    · rw [if_pos h2, if_pos (by omega)]
    · rw [if_neg h2, if_neg (by omega)]
/-- on whom a step waits -/
def prs (st nr au nc : Int32) : Int32 := if st = nI 1 then nr else if st = nI 2 then au else if st = nI 4 then nc else -1
theorem stp_or (n : Nat) (nr : Int32) (op : Nat) (ap nc : Int32) : stp n nr op ap nc = nI 1 ∨ stp n nr op ap nc = nI 2 ∨ stp n nr op ap nc = nI 3 ∨ stp n nr op ap nc = nI 4 ∨ stp n nr op ap nc = nI 5 := by
  unfold stp
  split
  · exact Or.inl rfl
  · split
    · exact Or.inr (Or.inl rfl)
    · split
      · exact Or.inr (Or.inr (Or.inl rfl))
      · split
        · exact Or.inr (Or.inr (Or.inr (Or.inl rfl)))
        · exact Or.inr (Or.inr (Or.inr (Or.inr rfl)))
theorem vn_dec (k : Nat) : nI k + Int32.ofInt (-1) = vn k := by
  cases k with
  | zero => decide
  | succ k => exact nI_dec k
/-- is a look due? -/
def nl (w : Nat) (asked t since iv : Int32) : Int32 := if 0 < w ∧ (¬ asked = 0 ∨ ¬ t - since < iv) then nI 1 else nI 0
/-- a truth as a number -/
def bI (b : Bool) : Int32 := if b = true then nI 1 else nI 0
theorem bI_t {b : Bool} (h : b = true) : nI 1 = bI b := by rw [bI, if_pos h]
theorem bI_f {b : Bool} (h : b = false) : nI 0 = bI b := by rw [bI, if_neg (by rw [h]; decide)]
/-- is one of the first n places good? -/
def pE (ok : Nat → Bool) : Nat → Bool
  | 0 => false
  | n + 1 => pE ok n || ok n
/-- may this person approve: by role, or as a deputy? -/
def ca (f d : Nat → Int32) (j n : Nat) : Bool := decide (¬ f j = 0) || pE (fun i => decide (¬ f i = 0) && decide (d i = nI j)) n
theorem ca_0 {f d : Nat → Int32} {j : Nat} (h : f j = 0 ∨ f j = 1) : f j = bI (ca f d j 0) := by
  rcases h with h | h
  · simp [ca, pE, bI, h]; rfl
  · simp [ca, pE, bI, h]; rfl
theorem ca_s {f d : Nat → Int32} {j i : Nat} : ca f d j (i + 1) = (ca f d j i || (decide (¬ f i = 0) && decide (d i = nI j))) := by
  simp only [ca, pE, Bool.or_assoc]
theorem bI_0 {b : Bool} : bI b = 0 ↔ b = false := by
  cases b
  · exact ⟨fun _ => rfl, fun _ => rfl⟩
  · exact ⟨fun h => absurd h (by decide), fun h => absurd h (by decide)⟩
/-- a method that needs no cell -/
theorem q_C.fr0 {l : Launch} {y : MethodName} {ws : List Cond} {rm : Room} {D : va_G} {cI cZ cP : ClassId} {av : List Value} {S : Type} {post : Option Value → S → Prop} {xp : String → Prop} {mc ms : Nat} (h : q_C l y ws rm D cI cZ cP av [] post (fun _ => []) xp mc ms) (x : va_W) : q_C l y ws rm D cI cZ cP av x post (fun _ => x) xp mc ms := h.fr x
theorem cf_yes {a b c : Prop} [Decidable (b ∧ c)] (h1 : ¬ a) (h2 : ¬ (if b ∧ c then nI 1 else nI 0) = 0) : ¬ a ∧ b ∧ c := by
  refine ⟨h1, ?_⟩
  by_cases h : b ∧ c
  · exact h
  · rw [if_neg h] at h2; exact absurd rfl h2
theorem cf_no1 {a b c : Prop} (h1 : a) : ¬ (¬ a ∧ b ∧ c) := fun h => h.1 h1
theorem cf_no2 {a b c : Prop} [Decidable (b ∧ c)] (h2 : (if b ∧ c then nI 1 else nI 0) = 0) : ¬ (¬ a ∧ b ∧ c) := by
  intro h
  rw [if_pos h.2] at h2
  exact absurd h2 (by decide)
