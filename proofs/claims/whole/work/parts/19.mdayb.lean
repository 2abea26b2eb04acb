/-! THE REFERENCE'S DAYS. -/
/-- is the paper to come? -/
def mrdy (t : Int32) (Z : Nat → Nat → Int32) (i : Nat) : Prop := ¬ Z 8 i = 0 ∧ ¬ Z 17 i = 0 ∧ ¬ t < Z 18 i ∧ mNC Z i = -1
def comZ (t : Int32) (n j : Nat) (Z : Nat → Nat → Int32) : Nat → Nat → Int32 :=
  va_up (va_up (va_up (va_up (va_up (va_up Z 8 (upd (Z 8) j (nI 0))) 21 (upd (Z 21) j (nI (ix (Z 21 j) + 1)))) 22 (upd (Z 22) (400 * j + ix (Z 21 j)) t)) 23 (upd (Z 23) (400 * j + ix (Z 21 j)) (Z 10 j))) 24 (mcl (upd (Z 24) j (nI 0)) (Z 7) (upd (Z 21) j (nI (ix (Z 21 j) + 1))) j n)) 25 (upd (Z 25) j t)
abbrev MS : Type := Nat × (Nat → Nat → Int32)
noncomputable def mdS (t : Int32) (n : Nat) (s : MS) : Nat → MS
  | 0 => s
  | i + 1 => @ite _ (mrdy t (mdS t n s i).2 i) (Classical.propDecidable _) ((mdS t n s i).1 + 1, comZ t n i (mdS t n s i).2) (mdS t n s i)
theorem mdS_yes {t : Int32} {n i : Nat} {s : MS} (h : mrdy t (mdS t n s i).2 i) : mdS t n s (i + 1) = ((mdS t n s i).1 + 1, comZ t n i (mdS t n s i).2) := by
  rw [mdS]; exact @if_pos _ (Classical.propDecidable _) h _ _ _
theorem mdS_no {t : Int32} {n i : Nat} {s : MS} (h : ¬ mrdy t (mdS t n s i).2 i) : mdS t n s (i + 1) = mdS t n s i := by
  rw [mdS]; exact @if_neg _ (Classical.propDecidable _) h _ _ _
noncomputable def mpS (td n : Nat) (s : MS) : Nat → MS
  | 0 => s
  | k + 1 => mdS (nI (td + (k + 1))) n (mpS td n s k) n
def wfm (Z : Nat → Nat → Int32) (i : Nat) : Prop := Z 21 i = nI (ix (Z 21 i)) ∧ ix (Z 21 i) ≤ 128 ∧ (¬ Z 8 i = 0 → ix (Z 21 i) < 128)
theorem wfm_com {t : Int32} {n j i : Nat} {Z : Nat → Nat → Int32} (h : wfm Z i) (h2 : i = j → ¬ Z 8 j = 0) : wfm (comZ t n j Z) i := by
  obtain ⟨h3, h4, h5⟩ := h
  have e21 : comZ t n j Z 21 = upd (Z 21) j (nI (ix (Z 21 j) + 1)) := rfl
  have e8 : comZ t n j Z 8 = upd (Z 8) j (nI 0) := rfl
  unfold wfm
  rw [e21, e8]
  by_cases hi : i = j
  · subst hi
    have hw := h5 (h2 rfl)
    have e : ix (nI (ix (Z 21 i) + 1)) = ix (Z 21 i) + 1 := ix_nI (by omega)
    rw [pk_us, pk_us, e]
    exact ⟨rfl, by omega, fun h9 => absurd rfl h9⟩
  · rw [pk_un hi, pk_un hi]
    exact ⟨h3, h4, h5⟩
theorem wfm_mdS {t : Int32} {n k i : Nat} {s : MS} (h : wfm s.2 i) : wfm (mdS t n s k).2 i := by
  induction k with
  | zero => exact h
  | succ k ih =>
    by_cases h2 : mrdy t (mdS t n s k).2 k
    · rw [mdS_yes h2]; exact wfm_com ih (fun _ => h2.1)
    · rw [mdS_no h2]; exact ih
theorem wfm_mpS {td n k i : Nat} {s : MS} (h : wfm s.2 i) : wfm (mpS td n s k).2 i := by
  induction k with
  | zero => exact h
  | succ k ih => exact wfm_mdS ih
