/-! ALL PAPERS: their cells side by side, one of them ahead, and what a day does to them. -/
def pws (cI cZ : ClassId) (n : Nat) (ad : Nat → Nat → Nat) (XX : Nat → Nat → Int32) (YY : Nat → Nat → Nat → Int32) : va_W := (List.range n).flatMap (fun i => dw cI cZ (ad i) (XX i) (YY i) ++ ppw cI cZ (ad i) (XX i) (YY i))
/-- all but the i-th -/
def pwx (cI cZ : ClassId) (n i : Nat) (ad : Nat → Nat → Nat) (XX : Nat → Nat → Int32) (YY : Nat → Nat → Nat → Int32) : va_W := ((List.range n).erase i).flatMap (fun i => dw cI cZ (ad i) (XX i) (YY i) ++ ppw cI cZ (ad i) (XX i) (YY i))
theorem pws_one {cI cZ : ClassId} {n i : Nat} {ad : Nat → Nat → Nat} {XX : Nat → Nat → Int32} {YY : Nat → Nat → Nat → Int32} (hi : i < n) : (pws cI cZ n ad XX YY).Perm ((dw cI cZ (ad i) (XX i) (YY i) ++ ppw cI cZ (ad i) (XX i) (YY i)) ++ pwx cI cZ n i ad XX YY) := by
  have h := List.Perm.flatMap_right (fun i => dw cI cZ (ad i) (XX i) (YY i) ++ ppw cI cZ (ad i) (XX i) (YY i)) (List.perm_cons_erase (a := i) (l := List.range n) (List.mem_range.mpr hi))
  rw [List.flatMap_cons] at h
  exact h
theorem pwx_congr {cI cZ : ClassId} {n i : Nat} {ad : Nat → Nat → Nat} {XX XX' : Nat → Nat → Int32} {YY YY' : Nat → Nat → Nat → Int32} (h : ∀ k, k ≠ i → XX k = XX' k ∧ YY k = YY' k) : pwx cI cZ n i ad XX YY = pwx cI cZ n i ad XX' YY' := by
  unfold pwx
  rw [List.flatMap_def, List.flatMap_def]
  refine congrArg List.flatten (List.map_congr_left fun k hk => ?_)
  have hne : k ≠ i := ((List.Nodup.mem_erase_iff List.nodup_range).mp hk).1
  rw [(h k hne).1, (h k hne).2]
/-- the keeper with all its papers -/
abbrev WK (cI cZ cP : ClassId) (n : Nat) (ad : Nat → Nat → Nat) (XX : Nat → Nat → Int32) (YY : Nat → Nat → Nat → Int32) (b : Nat → Nat) (I : Nat → Int32) (V : Nat → Nat → Int32) (P : Nat → Option Nat) : va_W := pws cI cZ n ad XX YY ++ (kq cI cZ cP b I V P ++ cw cI b I V)
/-- .. with the i-th ahead -/
theorem foc {cI cZ cP : ClassId} {n i : Nat} {ad : Nat → Nat → Nat} {XX : Nat → Nat → Int32} {YY : Nat → Nat → Nat → Int32} {b : Nat → Nat} {I : Nat → Int32} {V : Nat → Nat → Int32} {P : Nat → Option Nat} (hi : i < n) :
    (WK cI cZ cP n ad XX YY b I V P).Perm (dw cI cZ (ad i) (XX i) (YY i) ++ (ppw cI cZ (ad i) (XX i) (YY i) ++ (kq cI cZ cP b I V P ++ (cw cI b I V ++ pwx cI cZ n i ad XX YY)))) := by
  have h1 := (pws_one (cI := cI) (cZ := cZ) (ad := ad) (XX := XX) (YY := YY) hi).append_right (kq cI cZ cP b I V P ++ cw cI b I V)
  refine h1.trans ?_
  rw [List.append_assoc, List.append_assoc]
  refine List.Perm.append_left _ (List.Perm.append_left _ ?_)
  refine List.perm_append_comm.trans ?_
  rw [List.append_assoc]
/-- .. and back, the i-th another -/
theorem unf {cI cZ cP : ClassId} {n i : Nat} {ad : Nat → Nat → Nat} {XX : Nat → Nat → Int32} {YY : Nat → Nat → Nat → Int32} {b : Nat → Nat} {I : Nat → Int32} {V : Nat → Nat → Int32} {P : Nat → Option Nat} (hi : i < n) (X : Nat → Int32) (Y : Nat → Nat → Int32) :
    (dw cI cZ (ad i) X Y ++ (ppw cI cZ (ad i) X Y ++ (kq cI cZ cP b I V P ++ (cw cI b I V ++ pwx cI cZ n i ad XX YY)))).Perm (WK cI cZ cP n ad (va_up XX i X) (va_up YY i Y) b I V P) := by
  have h := foc (cI := cI) (cZ := cZ) (cP := cP) (ad := ad) (XX := va_up XX i X) (YY := va_up YY i Y) (b := b) (I := I) (V := V) (P := P) hi
  have e1 : va_up XX i X i = X := by simp [va_up]
  have e2 : va_up YY i Y i = Y := by simp [va_up]
  have e3 : pwx cI cZ n i ad (va_up XX i X) (va_up YY i Y) = pwx cI cZ n i ad XX YY := pwx_congr fun k hk => ⟨by simp [va_up, hk], by simp [va_up, hk]⟩
  rw [e1, e2, e3] at h
  exact h.symm
/-- the keeper's own cells ahead -/
theorem fok {cI cZ cP : ClassId} {n : Nat} {ad : Nat → Nat → Nat} {XX : Nat → Nat → Int32} {YY : Nat → Nat → Nat → Int32} {b : Nat → Nat} {I : Nat → Int32} {V : Nat → Nat → Int32} {P : Nat → Option Nat} :
    (WK cI cZ cP n ad XX YY b I V P).Perm (kq cI cZ cP b I V P ++ (cw cI b I V ++ pws cI cZ n ad XX YY)) := by
  refine List.perm_append_comm.trans ?_
  rw [List.append_assoc]
theorem up_same {α : Type} (f : Nat → α) (i : Nat) : va_up f i (f i) = f := by
  funext k
  by_cases h : k = i
  · subst h; simp [va_up]
  · simp [va_up, h]
/-- the papers that hang on r, of the first i, asked -/
def askX (YY : Nat → Nat → Nat → Int32) (r : Nat) (XX : Nat → Nat → Int32) (i : Nat) : Nat → Nat → Int32 := fun k => if k < i ∧ ¬ YY k 0 r = 0 ∧ ¬ XX k 1 = nI 0 then va_up (XX k) 3 (nI 1) else XX k
theorem askX_0 (YY : Nat → Nat → Nat → Int32) (r : Nat) (XX : Nat → Nat → Int32) : askX YY r XX 0 = XX := by
  funext k; simp [askX]
theorem askX_i (YY : Nat → Nat → Nat → Int32) (r : Nat) (XX : Nat → Nat → Int32) (i : Nat) : askX YY r XX i i = XX i := by simp [askX]
theorem askX_no {YY : Nat → Nat → Nat → Int32} {r : Nat} {XX : Nat → Nat → Int32} {i : Nat} (h : YY i 0 r = 0 ∨ XX i 1 = nI 0) : askX YY r XX i = askX YY r XX (i + 1) := by
  funext k
  by_cases hk : k = i
  · subst hk; simp only [askX]; rw [if_neg (by omega), if_neg (by rcases h with h | h <;> simp [h])]
  · simp only [askX]
    by_cases h2 : k < i
    · simp only [h2, show k < i + 1 by omega]
    · simp only [h2, show ¬ k < i + 1 by omega]
theorem askX_yes {YY : Nat → Nat → Nat → Int32} {r : Nat} {XX : Nat → Nat → Int32} {i : Nat} (h : ¬ YY i 0 r = 0) (h2 : ¬ XX i 1 = nI 0) : va_up (askX YY r XX i) i (va_up (XX i) 3 (nI 1)) = askX YY r XX (i + 1) := by
  funext k
  by_cases hk : k = i
  · subst hk
    rw [show va_up (askX YY r XX k) k (va_up (XX k) 3 (nI 1)) k = va_up (XX k) 3 (nI 1) by simp [va_up]]
    simp only [askX]; rw [if_pos ⟨by omega, h, h2⟩]
  · rw [show va_up (askX YY r XX i) i (va_up (XX i) 3 (nI 1)) k = askX YY r XX i k by simp [va_up, hk]]
    simp only [askX]
    by_cases h3 : k < i
    · simp only [h3, show k < i + 1 by omega]
    · simp only [h3, show ¬ k < i + 1 by omega]
theorem askX_ge {YY : Nat → Nat → Nat → Int32} {r : Nat} {XX : Nat → Nat → Int32} {i k : Nat} (h : ¬ k = 3) (j : Nat) : askX YY r XX i j k = XX j k := by
  simp only [askX]
  split
  · simp [va_up, h]
  · rfl
/-- the draft is to come into force on day t -/
def rdy (t : Int32) (X : Nat → Int32) (Y : Nat → Nat → Int32) : Prop := ¬ X 2 = 0 ∧ stp (ix (X 8)) (dNR Y (ix (X 8))) (dOR Y (ix (X 9))) (X 10) (dNC Y) = nI 5 ∧ ¬ t < X 11
def comX (t : Int32) (X : Nat → Int32) : Nat → Int32 := va_up (va_up (va_up (va_up X 1 (nI (ix (X 1) + 1))) 2 (nI 0)) 3 (nI 0)) 4 t
def comY (t : Int32) (X : Nat → Int32) (Y : Nat → Nat → Int32) : Nat → Nat → Int32 := va_up (va_up Y 6 (upd (Y 6) (ix (X 1)) (X 6))) 7 (upd (Y 7) (ix (X 1)) t)
/-- a paper's numbers are what they should be -/
def wfp (X : Nat → Int32) (Y : Nat → Nat → Int32) : Prop := wd X Y (ix (X 8)) (ix (X 9)) ∧ X 1 = nI (ix (X 1)) ∧ ix (X 1) ≤ 128 ∧ (¬ X 2 = 0 → ix (X 1) < 128)
/-- the state: how many came, and the papers -/
abbrev PS : Type := Nat × (Nat → Nat → Int32) × (Nat → Nat → Nat → Int32)
def comS (t : Int32) (i : Nat) (s : PS) : PS := (s.1 + 1, askX (va_up s.2.2 i (comY t (s.2.1 i) (s.2.2 i))) i (va_up s.2.1 i (comX t (s.2.1 i))) 8, va_up s.2.2 i (comY t (s.2.1 i) (s.2.2 i)))
noncomputable def bdS (t : Int32) (n : Nat) (s : PS) : Nat → PS
  | 0 => s
  | i + 1 => @ite _ (i < n ∧ rdy t ((bdS t n s i).2.1 i) ((bdS t n s i).2.2 i)) (Classical.propDecidable _) (comS t i (bdS t n s i)) (bdS t n s i)
theorem bdS_yes {t : Int32} {n i : Nat} {s : PS} (h : i < n) (h2 : rdy t ((bdS t n s i).2.1 i) ((bdS t n s i).2.2 i)) : bdS t n s (i + 1) = comS t i (bdS t n s i) := by
  rw [bdS]; exact @if_pos _ (Classical.propDecidable _) ⟨h, h2⟩ _ _ _
theorem bdS_no {t : Int32} {n i : Nat} {s : PS} (h : ¬ (i < n ∧ rdy t ((bdS t n s i).2.1 i) ((bdS t n s i).2.2 i))) : bdS t n s (i + 1) = bdS t n s i := by
  rw [bdS]; exact @if_neg _ (Classical.propDecidable _) h _ _ _
/-- the days one by one: td the day before -/
noncomputable def psS (td n : Nat) (s : PS) : Nat → PS
  | 0 => s
  | k + 1 => ((psS td n s k).1 + (bdS (nI (td + (k + 1))) n (0, (psS td n s k).2) 8).1, (bdS (nI (td + (k + 1))) n (0, (psS td n s k).2) 8).2)
theorem wfp_ask {YY : Nat → Nat → Nat → Int32} {r i k : Nat} {XX : Nat → Nat → Int32} {Y : Nat → Nat → Int32} (h : wfp (XX k) Y) : wfp (askX YY r XX i k) Y := by
  have e : ∀ q, ¬ q = 3 → askX YY r XX i k q = XX k q := fun q hq => askX_ge hq k
  unfold wfp wd at h ⊢
  rw [e 8 (by decide), e 9 (by decide), e 1 (by decide), e 2 (by decide)]
  exact h
theorem wfp_com {t : Int32} {X : Nat → Int32} {Y : Nat → Nat → Int32} (h : wfp X Y) (h2 : ¬ X 2 = 0) : wfp (comX t X) (comY t X Y) := by
  obtain ⟨h3, h4, h5, h6⟩ := h
  have hw := h6 h2
  have e : ix (nI (ix (X 1) + 1)) = ix (X 1) + 1 := ix_nI (by omega)
  refine ⟨?_, ?_, ?_, ?_⟩
  · exact h3
  · show nI (ix (X 1) + 1) = nI (ix (nI (ix (X 1) + 1)))
    rw [e]
  · show ix (nI (ix (X 1) + 1)) ≤ 128
    rw [e]; omega
  · intro h9; exact absurd rfl h9
theorem wfp_comS {t : Int32} {i k : Nat} {s : PS} (h : wfp (s.2.1 k) (s.2.2 k)) (h2 : k = i → ¬ s.2.1 i 2 = 0) : wfp ((comS t i s).2.1 k) ((comS t i s).2.2 k) := by
  refine wfp_ask ?_
  show wfp (va_up s.2.1 i (comX t (s.2.1 i)) k) (va_up s.2.2 i (comY t (s.2.1 i) (s.2.2 i)) k)
  by_cases hk : k = i
  · subst hk
    rw [show va_up s.2.1 k (comX t (s.2.1 k)) k = comX t (s.2.1 k) by simp [va_up], show va_up s.2.2 k (comY t (s.2.1 k) (s.2.2 k)) k = comY t (s.2.1 k) (s.2.2 k) by simp [va_up]]
    exact wfp_com h (h2 rfl)
  · rw [show va_up s.2.1 i (comX t (s.2.1 i)) k = s.2.1 k by simp [va_up, hk], show va_up s.2.2 i (comY t (s.2.1 i) (s.2.2 i)) k = s.2.2 k by simp [va_up, hk]]
    exact h
theorem wfp_bdS {t : Int32} {n i k : Nat} {s : PS} (h : wfp (s.2.1 k) (s.2.2 k)) : wfp ((bdS t n s i).2.1 k) ((bdS t n s i).2.2 k) := by
  induction i with
  | zero => exact h
  | succ i ih =>
    by_cases h2 : i < n ∧ rdy t ((bdS t n s i).2.1 i) ((bdS t n s i).2.2 i)
    · rw [bdS_yes h2.1 h2.2]
      refine wfp_comS ih (fun hk => h2.2.1)
    · rw [bdS_no h2]; exact ih
theorem wfp_psS {td n k j : Nat} {s : PS} (h : wfp (s.2.1 j) (s.2.2 j)) : wfp ((psS td n s k).2.1 j) ((psS td n s k).2.2 j) := by
  induction k with
  | zero => exact h
  | succ k ih => exact wfp_bdS (s := (0, (psS td n s k).2)) ih
theorem pws_congr {cI cZ : ClassId} {n : Nat} {ad : Nat → Nat → Nat} {XX XX' : Nat → Nat → Int32} {YY YY' : Nat → Nat → Nat → Int32} (h : ∀ k, k < n → XX k = XX' k ∧ YY k = YY' k) : pws cI cZ n ad XX YY = pws cI cZ n ad XX' YY' := by
  unfold pws
  rw [List.flatMap_def, List.flatMap_def]
  refine congrArg List.flatten (List.map_congr_left fun k hk => ?_)
  rw [(h k (List.mem_range.mp hk)).1, (h k (List.mem_range.mp hk)).2]
theorem askX_ne {YY : Nat → Nat → Nat → Int32} {r : Nat} {XX : Nat → Nat → Int32} {i k : Nat} (h : k ≠ i) : askX YY r XX i k = askX YY r XX (i + 1) k := by
  simp only [askX]
  by_cases h3 : k < i
  · simp only [h3, show k < i + 1 by omega]
  · simp only [h3, show ¬ k < i + 1 by omega]
theorem pws_ask {cI cZ : ClassId} {n i r : Nat} {ad : Nat → Nat → Nat} {XX : Nat → Nat → Int32} {YY : Nat → Nat → Nat → Int32} (h : ¬ i < n) : pws cI cZ n ad (askX YY r XX i) YY = pws cI cZ n ad (askX YY r XX (i + 1)) YY :=
  pws_congr fun k hk => ⟨askX_ne (by omega), rfl⟩
theorem wfp_up {t : Int32} {i k : Nat} {s : PS} (h : wfp (s.2.1 k) (s.2.2 k)) (h2 : k = i → ¬ s.2.1 i 2 = 0) : wfp (va_up s.2.1 i (comX t (s.2.1 i)) k) (va_up s.2.2 i (comY t (s.2.1 i) (s.2.2 i)) k) := by
  by_cases hk : k = i
  · subst hk
    rw [show va_up s.2.1 k (comX t (s.2.1 k)) k = comX t (s.2.1 k) by simp [va_up], show va_up s.2.2 k (comY t (s.2.1 k) (s.2.2 k)) k = comY t (s.2.1 k) (s.2.2 k) by simp [va_up]]
    exact wfp_com h (h2 rfl)
  · rw [show va_up s.2.1 i (comX t (s.2.1 i)) k = s.2.1 k by simp [va_up, hk], show va_up s.2.2 i (comY t (s.2.1 i) (s.2.2 i)) k = s.2.2 k by simp [va_up, hk]]
    exact h
theorem wfp_w {X : Nat → Int32} {Y : Nat → Nat → Int32} (h : wfp X Y) : ∃ w, w < 2 ^ 30 ∧ X 1 = nI w := ⟨ix (X 1), by have := h.2.2.1; omega, h.2.1⟩
