/-! A DAY: what the class does to all papers is what the law tells. -/
section QDay
/-- a paper's numbers, by its own cells -/
theorem LPp.own {X : Nat → Int32} {Y F : Nat → Nat → Int32} {j k td : Nat} (h : LPp X Y F j k td) (hk : k ≤ 90) : ∃ M0 M1, LPb X Y F j k td (ix (X 1)) (ix (X 8)) (ix (X 9)) M0 M1 := by
  obtain ⟨w, mm, kk, M0, M1, h⟩ := h
  have hw := h.w
  have e1 : ix (X 1) = w := by rw [h.1.2.2.1]; exact ix_nI (by omega)
  have e8 : ix (X 8) = mm := by rw [h.2.1.1]; exact ix_nI (by have := h.2.1.2.1; omega)
  have e9 : ix (X 9) = kk := by rw [h.2.1.2.2.1]; exact ix_nI (by have := h.2.1.2.2.2.1; omega)
  rw [e1, e8, e9]
  exact ⟨M0, M1, h⟩
variable {F : Nat → Nat → Int32} {n k td q : Nat} {XX : Nat → Nat → Int32} {YY : Nat → Nat → Nat → Int32}
def sfq (XX : Nat → Nat → Int32) (YY : Nat → Nat → Nat → Int32) (j : Nat) : Nat := sN (XX j) (YY j) (ix (XX j 8)) (ix (XX j 9))
def wvq (XX : Nat → Nat → Int32) (j : Nat) : Nat := ix (XX j 1)
def hmq (F : Nat → Nat → Int32) (j : Nat) : Nat := ix (F 1 j)
abbrev fq (F : Nat → Nat → Int32) (td : Nat) (XX : Nat → Nat → Int32) (YY : Nat → Nat → Nat → Int32) : Nat → Bool := duf F td (sfq XX YY)
/-- the law's rows behind the first i papers of the day -/
def Fq (F : Nat → Nat → Int32) (td n : Nat) (XX : Nat → Nat → Int32) (YY : Nat → Nat → Nat → Int32) (i : Nat) : Nat → Nat → Int32 := va_up (va_up F 0 (psA F td n (hmq F) (fq F td XX YY) i)) 2 (psV F td (wvq XX) (fq F td XX YY) i)
noncomputable def Bq (td n : Nat) (XX : Nat → Nat → Int32) (YY : Nat → Nat → Nat → Int32) (i : Nat) : PS := bdS (nI (td + 1)) n (0, XX, YY) i
/-- who is to come -/
theorem fq_rdy {X : Nat → Int32} {Y : Nat → Nat → Int32} {j : Nat} (h : LPp X Y F j k td) (hk : k ≤ 90) {X2 : Nat → Int32} (hX : ∀ q, ¬ q = 3 → X2 q = X q) : rdy (nI (td + 1)) X2 Y ↔ (decide (sN X Y (ix (X 8)) (ix (X 9)) = 5) && decide (¬ nI (td + 1) < F 0 (8 * j + 4))) = true := by
  obtain ⟨M0, M1, hl⟩ := h.own hk
  unfold rdy
  rw [hX 2 (by omega), hX 8 (by omega), hX 9 (by omega), hX 10 (by omega), hX 11 (by omega), Bool.and_eq_true, decide_eq_true_eq, decide_eq_true_eq]
  have h5 := sN_le (X := X) (Y := Y) (mm := ix (X 8)) (kk := ix (X 9))
  constructor
  · rintro ⟨a, b, c⟩
    rw [st_of a, nI_eq (by omega) (by omega)] at b
    obtain ⟨a1, a2, a3, a4, a5, a6⟩ := sN_5 b
    refine ⟨b, ?_⟩
    rcases (hl.2.2.2.2 a1).2.1 with ⟨e, -⟩ | ⟨-, e, -⟩
    · exact absurd e a5
    · rw [e]; exact c
  · rintro ⟨b, c⟩
    obtain ⟨a1, a2, a3, a4, a5, a6⟩ := sN_5 b
    refine ⟨a1, by rw [st_of a1, b], ?_⟩
    rcases (hl.2.2.2.2 a1).2.1 with ⟨e, -⟩ | ⟨-, e, -⟩
    · exact absurd e a5
    · rw [← e]; exact c
theorem comX_e {t : Int32} {X X2 : Nat → Int32} (hX : ∀ q, ¬ q = 3 → X2 q = X q) : comX t X2 = comX t X := by
  funext q
  have e1 := hX 1 (by omega)
  unfold comX
  rw [e1]
  by_cases h4 : q = 4
  · subst h4; rw [va_up_self, va_up_self]
  · rw [va_up_ne _ _ h4, va_up_ne _ _ h4]
    by_cases h3 : q = 3
    · subst h3; rw [va_up_self, va_up_self]
    · rw [va_up_ne _ _ h3, va_up_ne _ _ h3]
      by_cases h2 : q = 2
      · subst h2; rw [va_up_self, va_up_self]
      · rw [va_up_ne _ _ h2, va_up_ne _ _ h2]
        by_cases h1 : q = 1
        · subst h1; rw [va_up_self, va_up_self]
        · rw [va_up_ne _ _ h1, va_up_ne _ _ h1]
          exact hX q h3
theorem comY_e {t : Int32} {X X2 : Nat → Int32} {Y : Nat → Nat → Int32} (hX : ∀ q, ¬ q = 3 → X2 q = X q) : comY t X2 Y = comY t X Y := by
  simp only [comY]
  rw [hX 1 (by omega), hX 6 (by omega)]
/-- the law's row a where papers are called for -/
theorem askA_7 {A : Nat → Int32} {hm : Nat → Nat} {i : Nat} : ∀ {m j : Nat}, j < m → askA A hm i m (8 * j + 7) = askv A (hm j) i j
  | 0, j, h => absurd h (by omega)
  | m + 1, j, h => by
    simp only [askA]
    by_cases e : j = m
    · subst e
      rw [pk_us]
      have e7 : ∀ {m' : Nat}, m' ≤ j → askA A hm i m' (8 * j + 7) = A (8 * j + 7) := fun {m'} hm' => by
        induction m' with
        | zero => rfl
        | succ m' ih => simp only [askA]; rw [pk_un (by omega)]; exact ih (by omega)
      simp only [askv]
      rw [askA_ne (by omega), e7 (Nat.le_refl j)]
    · rw [pk_un (by omega)]; exact askA_7 (by omega)
theorem askA_ge {A : Nat → Int32} {hm : Nat → Nat} {i : Nat} : ∀ {m q : Nat}, 8 * m ≤ q → askA A hm i m q = A q
  | 0, q, _ => rfl
  | m + 1, q, h => by
    simp only [askA]; rw [pk_un (by omega)]; exact askA_ge (by omega)
/-- rows of papers that aren't there stay -/
theorem psA_ge {hm : Nat → Nat} {f : Nat → Bool} {q : Nat} : ∀ {i : Nat}, i ≤ n → 8 * n ≤ q → psA F td n hm f i q = F 0 q
  | 0, _, _ => rfl
  | i + 1, hi, h => by
    simp only [psA]
    split
    · rw [askA_ge h, comA, pk_un (by omega), pk_un (by omega), pk_un (by omega), pk_un (by omega)]
      exact psA_ge (by omega) h
    · exact psA_ge (by omega) h
theorem psV_ge {wv : Nat → Nat} {f : Nat → Bool} {q : Nat} : ∀ {i : Nat}, 8 * i ≤ q → psV F td wv f i q = F 2 q
  | 0, _ => rfl
  | i + 1, h => by
    simp only [psV]
    split
    · rw [pk_un (by omega), pk_un (by omega)]; exact psV_ge (by omega)
    · exact psV_ge (by omega)
/-- one paper more -/
theorem day_one (hn : n ≤ 8) (hk : k ≤ 90) (htd : td < 1000) {i : Nat} (hi : i < n) (hf : fq F td XX YY i = true) {X' : Nat → Nat → Int32} {Y' : Nat → Nat → Nat → Int32} (hL0 : LPp (XX i) (YY i) F i k td) (hX3 : ∀ q, ¬ q = 3 → X' i q = XX i q) (hY3 : Y' i = YY i)
    (hhm : ∀ j, j < n → F 1 j = nI (hmq F j))
    (hL : ∀ j, j < n → LPp (X' j) (Y' j) (Fq F td n XX YY i) j k (if j < i then td + 1 else td)) :
    ∀ j, j < n → LPp (askX (va_up Y' i (comY (nI (td + 1)) (X' i) (Y' i))) i (va_up X' i (comX (nI (td + 1)) (X' i))) 8 j) (va_up Y' i (comY (nI (td + 1)) (X' i) (Y' i)) j) (Fq F td n XX YY (i + 1)) j k (if j < i + 1 then td + 1 else td) := by
  intro j hj
  have hs5 : sN (XX i) (YY i) (ix (XX i 8)) (ix (XX i 9)) = 5 := by
    have := (Bool.and_eq_true _ _).mp hf
    exact of_decide_eq_true this.1
  obtain ⟨a1, a2, a3, a4, a5, a6⟩ := sN_5 hs5
  have eA := psA_y (F := F) (td := td) (n := n) (k := i) (hm := hmq F) hf
  have eV := psV_y (F := F) (td := td) (k := i) (wv := wvq XX) hf
  generalize hA : psA F td n (hmq F) (fq F td XX YY) i = A at eA
  generalize hV : psV F td (wvq XX) (fq F td XX YY) i = Vr at eV
  have eF : Fq F td n XX YY i = va_up (va_up F 0 A) 2 Vr := by simp only [Fq]; rw [hA, hV]
  have eF2 : Fq F td n XX YY (i + 1) = va_up (va_up F 0 (askA (comA A td i) (hmq F) i n)) 2 (upd (upd Vr (8 * i + (wvq XX i % 4) * 2) (nI (td + 1))) (8 * i + (wvq XX i % 4) * 2 + 1) (nI (wvq XX i + 1))) := by simp only [Fq]; rw [eA, eV]
  rw [eF] at hL
  rw [eF2]
  -- between: the paper has come, nobody is called for yet
  have hmid : LPp (va_up X' i (comX (nI (td + 1)) (X' i)) j) (va_up Y' i (comY (nI (td + 1)) (X' i) (Y' i)) j) (va_up (va_up F 0 (comA A td i)) 2 (upd (upd Vr (8 * i + (wvq XX i % 4) * 2) (nI (td + 1))) (8 * i + (wvq XX i % 4) * 2 + 1) (nI (wvq XX i + 1)))) j k (if j < i + 1 then td + 1 else td) := by
    by_cases e : j = i
    · subst e
      rw [va_up_self, va_up_self, if_pos (by omega)]
      have h1 := hL j hj
      rw [if_neg (by omega)] at h1
      obtain ⟨M0, M1, hl⟩ := h1.own hk
      have ew : ix (X' j 1) = wvq XX j := by rw [hX3 1 (by omega)]; rfl
      have hA5 : A (8 * j + 5) = nI (wvq XX j) := by rw [← ew]; exact hl.1.2.2.2.1
      rw [ew] at hl
      have hwk := hl.w
      have h9 := hl.come (G := va_up (va_up F 0 (comA A td j)) 2 (upd (upd Vr (8 * j + (wvq XX j % 4) * 2) (nI (td + 1))) (8 * j + (wvq XX j % 4) * 2 + 1) (nI (wvq XX j + 1)))) (by rw [hX3 2 (by omega)]; exact a1) (by rw [hX3 10 (by omega)]; exact a5) (by omega)
        (show comA A td j (8 * j) = 0 from by simp only [comA]; rw [pk_un (by omega), pk_un (by omega), pk_un (by omega), pk_us]; rfl)
        (show comA A td j (8 * j + 5) = nI (wvq XX j + 1) from by simp only [comA]; rw [pk_un (by omega), pk_un (by omega), pk_us, hA5]; exact nI_add _ _)
        (show comA A td j (8 * j + 6) = nI (td + 1) from by simp only [comA]; rw [pk_un (by omega), pk_us])
        (show comA A td j (8 * j + 7) = 0 from by simp only [comA]; rw [pk_us]; rfl) rfl rfl rfl
        (fun r hr hne => ⟨show upd (upd Vr (8 * j + (wvq XX j % 4) * 2) (nI (td + 1))) (8 * j + (wvq XX j % 4) * 2 + 1) (nI (wvq XX j + 1)) (8 * j + 2 * r + 1) = Vr (8 * j + 2 * r + 1) from by rw [pk_un (by omega), pk_un (by omega)], show upd (upd Vr (8 * j + (wvq XX j % 4) * 2) (nI (td + 1))) (8 * j + (wvq XX j % 4) * 2 + 1) (nI (wvq XX j + 1)) (8 * j + 2 * r) = Vr (8 * j + 2 * r) from by rw [pk_un (by omega), pk_un (by omega)]⟩)
        ⟨show upd (upd Vr (8 * j + (wvq XX j % 4) * 2) (nI (td + 1))) (8 * j + (wvq XX j % 4) * 2 + 1) (nI (wvq XX j + 1)) (8 * j + 2 * (wvq XX j % 4) + 1) = nI (wvq XX j + 1) from by rw [show 8 * j + 2 * (wvq XX j % 4) + 1 = 8 * j + (wvq XX j % 4) * 2 + 1 by omega, pk_us], show upd (upd Vr (8 * j + (wvq XX j % 4) * 2) (nI (td + 1))) (8 * j + (wvq XX j % 4) * 2 + 1) (nI (wvq XX j + 1)) (8 * j + 2 * (wvq XX j % 4)) = nI (td + 1) from by rw [show 8 * j + 2 * (wvq XX j % 4) = 8 * j + (wvq XX j % 4) * 2 by omega, pk_un (by omega), pk_us]⟩ (by omega)
      exact ⟨_, _, _, _, _, h9⟩
    · rw [va_up_ne _ _ e, va_up_ne _ _ e, show (if j < i + 1 then td + 1 else td) = (if j < i then td + 1 else td) by split <;> split <;> omega]
      refine (hL j hj).frame ⟨fun c hc => ?_, rfl, fun c hc => ?_, fun _ _ => rfl⟩ (Nat.le_refl k) (Nat.le_refl _)
      · show comA A td i (8 * j + c) = A (8 * j + c)
        simp only [comA]; rw [pk_un (by omega), pk_un (by omega), pk_un (by omega), pk_un (by omega)]
      · show upd (upd Vr (8 * i + (wvq XX i % 4) * 2) (nI (td + 1))) (8 * i + (wvq XX i % 4) * 2 + 1) (nI (wvq XX i + 1)) (8 * j + c) = Vr (8 * j + c)
        rw [pk_un (by omega), pk_un (by omega)]
  generalize va_up X' i (comX (nI (td + 1)) (X' i)) = X1 at hmid ⊢
  generalize va_up Y' i (comY (nI (td + 1)) (X' i) (Y' i)) = Y1 at hmid ⊢
  generalize upd (upd Vr (8 * i + (wvq XX i % 4) * 2) (nI (td + 1))) (8 * i + (wvq XX i % 4) * 2 + 1) (nI (wvq XX i + 1)) = V1 at hmid ⊢
  generalize comA A td i = C1 at hmid ⊢
  obtain ⟨w, mm, kk, M0, M1, hl⟩ := hmid
  have hwk := hl.w
  obtain ⟨Mh, h1, h2⟩ := hl.2.2.1
  have hMh : Mh = hmq F j := by
    have e : nI Mh = nI (hmq F j) := h1.symm.trans (hhm j hj)
    have hlt : hmq F j < 2 ^ 31 := by
      have : hmq F j = ix (F 1 j) := rfl
      have h3 : F 1 j = nI Mh := h1
      rw [this, h3, ix_nI (by have := h2.1; omega)]; have := h2.1; omega
    exact (nI_eq (by have := h2.1; omega) hlt).mp e
  have hC5 : C1 (8 * j + 5) = nI w := hl.1.2.2.2.1
  have h7 : askA C1 (hmq F) i n (8 * j + 7) = askv C1 (hmq F j) i j := askA_7 hj
  have hcond : ((hmq F j).testBit i = true ∧ ¬ C1 (8 * j + 5) ≤ 0) ↔ (¬ Y1 j 0 i = 0 ∧ ¬ X1 j 1 = nI 0) := by
    rw [← hMh, h2.2 i (by omega), decide_eq_true_eq, hC5, hl.1.2.2.1, nI_le0 (by omega), nI_eq (by omega) (by omega)]
  by_cases hc : ¬ Y1 j 0 i = 0 ∧ ¬ X1 j 1 = nI 0
  · have ex : askX Y1 i X1 8 j = va_up (X1 j) 3 (nI 1) := by simp only [askX]; rw [if_pos ⟨by omega, hc.1, hc.2⟩]
    rw [ex]
    have hw0 : ¬ w = 0 := fun e => hc.2 (by rw [hl.1.2.2.1, e])
    refine ⟨w, mm, kk, M0, M1, hl.ask hw0 (fun c hc7 => ?_) ?_ rfl rfl ⟨rfl, fun _ _ => rfl⟩⟩
    · show askA C1 (hmq F) i n (8 * j + c) = C1 (8 * j + c)
      exact askA_ne (by omega)
    · show askA C1 (hmq F) i n (8 * j + 7) = nI 1
      rw [h7]; simp only [askv]; rw [if_pos (hcond.mpr hc)]
  · have ex : askX Y1 i X1 8 j = X1 j := by simp only [askX]; rw [if_neg (fun e => hc e.2)]
    rw [ex]
    refine ⟨w, mm, kk, M0, M1, hl.frame ⟨fun c hc8 => ?_, rfl, fun _ _ => rfl, fun _ _ => rfl⟩ (Nat.le_refl k) (Nat.le_refl _)⟩
    show askA C1 (hmq F) i n (8 * j + c) = C1 (8 * j + c)
    by_cases e : c = 7
    · subst e
      rw [h7]; simp only [askv]; rw [if_neg (fun e => hc (hcond.mp e))]
    · exact askA_ne (by omega)
/-- the first i papers -/
theorem day_all (hn : n ≤ 8) (hk : k ≤ 90) (htd : td < 1000) (hL : ∀ j, j < n → LPp (XX j) (YY j) F j k td) (hhm : ∀ j, j < n → F 1 j = nI (hmq F j)) : ∀ i, i ≤ n →
    (Bq td n XX YY i).1 = pN (fq F td XX YY) i ∧ (∀ j, (Bq td n XX YY i).2.2 j = if j < i ∧ fq F td XX YY j = true then comY (nI (td + 1)) (XX j) (YY j) else YY j) ∧
    (∀ j q, ¬ q = 3 → (Bq td n XX YY i).2.1 j q = if j < i ∧ fq F td XX YY j = true then comX (nI (td + 1)) (XX j) q else XX j q) ∧
    (∀ j, j < n → LPp ((Bq td n XX YY i).2.1 j) ((Bq td n XX YY i).2.2 j) (Fq F td n XX YY i) j k (if j < i then td + 1 else td)) := by
  intro i
  induction i with
  | zero =>
    intro _
    refine ⟨rfl, fun j => ?_, fun j q _ => ?_, fun j hj => ?_⟩
    · rw [if_neg (fun e => absurd e.1 (by omega))]; rfl
    · rw [if_neg (fun e => absurd e.1 (by omega))]; rfl
    · rw [if_neg (by omega)]
      exact (hL j hj).frame ⟨fun _ _ => rfl, rfl, fun _ _ => rfl, fun _ _ => rfl⟩ (Nat.le_refl k) (Nat.le_refl td)
  | succ i ih =>
    intro hi
    obtain ⟨b1, b2, b3, b4⟩ := ih (by omega)
    have hX3 : ∀ q, ¬ q = 3 → (Bq td n XX YY i).2.1 i q = XX i q := fun q hq => by
      rw [b3 i q hq, if_neg (fun e => absurd e.1 (by omega))]
    have hY3 : (Bq td n XX YY i).2.2 i = YY i := by rw [b2 i, if_neg (fun e => absurd e.1 (by omega))]
    have hr : rdy (nI (td + 1)) ((Bq td n XX YY i).2.1 i) ((Bq td n XX YY i).2.2 i) ↔ fq F td XX YY i = true := by
      rw [hY3]; exact fq_rdy (hL i (by omega)) hk hX3
    by_cases hf : fq F td XX YY i = true
    · have e : Bq td n XX YY (i + 1) = comS (nI (td + 1)) i (Bq td n XX YY i) := bdS_yes (by omega) (hr.mpr hf)
      have hone := day_one hn hk htd (by omega) hf (hL i (by omega)) hX3 hY3 hhm b4
      rw [e]
      refine ⟨?_, fun j => ?_, fun j q hq => ?_, hone⟩
      · show (Bq td n XX YY i).1 + 1 = _
        rw [b1, pN_yes hf]
      · show va_up (Bq td n XX YY i).2.2 i (comY (nI (td + 1)) ((Bq td n XX YY i).2.1 i) ((Bq td n XX YY i).2.2 i)) j = _
        by_cases ej : j = i
        · subst ej; rw [va_up_self, if_pos ⟨by omega, hf⟩, hY3]; exact comY_e hX3
        · rw [va_up_ne _ _ ej, b2 j]
          have : (j < i ∧ fq F td XX YY j = true) ↔ (j < i + 1 ∧ fq F td XX YY j = true) := ⟨fun e => ⟨by omega, e.2⟩, fun e => ⟨by omega, e.2⟩⟩
          by_cases hc : j < i ∧ fq F td XX YY j = true
          · rw [if_pos hc, if_pos (this.mp hc)]
          · rw [if_neg hc, if_neg (fun e => hc (this.mpr e))]
      · show askX (va_up (Bq td n XX YY i).2.2 i (comY (nI (td + 1)) ((Bq td n XX YY i).2.1 i) ((Bq td n XX YY i).2.2 i))) i (va_up (Bq td n XX YY i).2.1 i (comX (nI (td + 1)) ((Bq td n XX YY i).2.1 i))) 8 j q = _
        rw [askX_ge hq]
        by_cases ej : j = i
        · subst ej; rw [va_up_self, if_pos ⟨by omega, hf⟩, comX_e hX3]
        · rw [va_up_ne _ _ ej, b3 j q hq]
          have : (j < i ∧ fq F td XX YY j = true) ↔ (j < i + 1 ∧ fq F td XX YY j = true) := ⟨fun e => ⟨by omega, e.2⟩, fun e => ⟨by omega, e.2⟩⟩
          by_cases hc : j < i ∧ fq F td XX YY j = true
          · rw [if_pos hc, if_pos (this.mp hc)]
          · rw [if_neg hc, if_neg (fun e => hc (this.mpr e))]
    · have hf' : fq F td XX YY i = false := by simpa using hf
      have e : Bq td n XX YY (i + 1) = Bq td n XX YY i := bdS_no (fun h => hf (hr.mp h.2))
      have eF : Fq F td n XX YY (i + 1) = Fq F td n XX YY i := by simp only [Fq]; rw [psA_n hf', psV_n hf']
      rw [e, eF]
      have hcc : ∀ j, (j < i ∧ fq F td XX YY j = true) ↔ (j < i + 1 ∧ fq F td XX YY j = true) := fun j => ⟨fun e => ⟨by omega, e.2⟩, fun e => ⟨by
        have : ¬ j = i := fun h9 => by subst h9; exact hf e.2
        omega, e.2⟩⟩
      refine ⟨by rw [b1, pN_no hf'], fun j => ?_, fun j q hq => ?_, fun j hj => ?_⟩
      · rw [b2 j]
        by_cases hc : j < i ∧ fq F td XX YY j = true
        · rw [if_pos hc, if_pos ((hcc j).mp hc)]
        · rw [if_neg hc, if_neg (fun e => hc ((hcc j).mpr e))]
      · rw [b3 j q hq]
        by_cases hc : j < i ∧ fq F td XX YY j = true
        · rw [if_pos hc, if_pos ((hcc j).mp hc)]
        · rw [if_neg hc, if_neg (fun e => hc ((hcc j).mpr e))]
      · exact (b4 j hj).frame (agf.rf j _) (Nat.le_refl k) (by split <;> split <;> omega)
/-- behind the last paper nobody comes -/
theorem Bq_ge : ∀ (m : Nat), Bq td n XX YY (n + m) = Bq td n XX YY n
  | 0 => rfl
  | m + 1 => by
    have e : Bq td n XX YY (n + m + 1) = Bq td n XX YY (n + m) := bdS_no (fun h => absurd h.1 (by omega))
    rw [show n + (m + 1) = n + m + 1 by omega, e]
    exact Bq_ge m
theorem pN_cut {f : Nat → Bool} {n : Nat} : ∀ {m : Nat}, n ≤ m → pN (fun i => decide (i < n) && f i) m = pN f n
  | 0, h => by obtain rfl : n = 0 := by omega
               rfl
  | m + 1, h => by
    by_cases e : n = m + 1
    · subst e
      exact pN_cg _ fun q hq => by rw [decide_eq_true hq]; rfl
    · simp only [pN]
      rw [if_neg (by rw [decide_eq_false (show ¬ m < n by omega), Bool.false_and]; decide)]
      exact pN_cut (by omega)
theorem pc8_due {f : Nat → Bool} {n : Nat} (hn : n ≤ 8) : pc8 (dueM f n) = pN f n := by
  rw [← pN_cut (f := f) hn]
  exact pN_cg 8 fun q _ => dueM_bit
end QDay
