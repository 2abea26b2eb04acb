/-! THE OPERATIONS on a paper keep the invariant. -/
section QLOps
variable {X : Nat → Int32} {Y F G : Nat → Nat → Int32} {j k td w mm kk M0 M1 : Nat}
theorem zf_i {f : Nat → Int32} {n i : Nat} (h : i < n) : zf f n i = nI 0 := by unfold zf; rw [if_pos h]
theorem nI0z : nI 0 = (0 : Int32) := rfl
theorem nI1n : ¬ nI 1 = (0 : Int32) := by decide
/-- one more is good than before -/
theorem pN_1u {f g : Nat → Bool} {a : Nat} (hf : f a = false) (hg : g a = true) : ∀ {n : Nat}, (∀ q, q < n → q ≠ a → f q = g q) → a < n → pN g n = pN f n + 1
  | 0, _, h => absurd h (by omega)
  | n + 1, he, h => by
    simp only [pN]
    by_cases ha : a = n
    · subst ha
      rw [if_pos hg, if_neg (by rw [hf]; decide), pN_cg (f := f) (g := g) a (fun q hq => he q (by omega) (by omega))]
    · have ih := pN_1u hf hg (n := n) (fun q hq => he q (by omega)) (by omega)
      rw [ih, he n (by omega) (fun h => ha h.symm)]
      split <;> omega
def xDraft (X : Nat → Int32) (x y : Int32) : Nat → Int32 := va_up (va_up (va_up (va_up (va_up (va_up (va_up X 2 (nI 1)) 5 x) 6 y) 7 ((nI 0) + nI 1)) 8 (nI 0)) 9 (nI 0)) 10 (nI 0)
def yDraft (Y : Nat → Nat → Int32) : Nat → Nat → Int32 := va_up (va_up (va_up Y 2 (zf (Y 2) 6)) 4 (zf (Y 4) 6)) 5 (zf (Y 5) 6)
def xChange (X : Nat → Int32) (y : Int32) : Nat → Int32 := va_up (va_up (va_up (va_up X 6 y) 7 ((X 7) + nI 1)) 9 (nI 0)) 10 (nI 0)
def yChange (Y : Nat → Nat → Int32) : Nat → Nat → Int32 := va_up (va_up Y 2 (zf (Y 2) 6)) 5 (zf (Y 5) 6)
/-- the rows of the log and of what it hangs on -/
def agv (j : Nat) (F G : Nat → Nat → Int32) : Prop := G 1 j = F 1 j ∧ ∀ i, i < 8 → G 2 (8 * j + i) = F 2 (8 * j + i)
theorem LPt.v (h : LPt Y F j w td) (ha : agv j F G) : LPt Y G j w td := by
  refine ⟨h.1, h.2.1, fun r hr => ?_⟩
  rw [show 8 * j + 2 * r + 1 = 8 * j + (2 * r + 1) by omega, ha.2 (2 * r + 1) (by omega), ha.2 (2 * r) (by omega)]
  exact h.2.2 r hr
theorem LPh.v (h : LPh Y F j) (ha : agv j F G) : LPh Y G j := by
  obtain ⟨M, h1, h2⟩ := h
  exact ⟨M, ha.1.trans h1, h2⟩
/-- the numbers that a draft doesn't change -/
def ag5 (j : Nat) (F G : Nat → Nat → Int32) : Prop := G 0 (8 * j + 5) = F 0 (8 * j + 5) ∧ G 0 (8 * j + 6) = F 0 (8 * j + 6) ∧ G 0 (8 * j + 7) = F 0 (8 * j + 7)
theorem LPb.draft (h : LPb X Y F j k td w mm kk M0 M1) (x y : Int32) (g0 : G 0 (8 * j) = nI 1) (g1 : G 0 (8 * j + 1) = x) (g2 : G 0 (8 * j + 2) = y) (g3 : G 0 (8 * j + 3) = nI 1) (g4 : G 0 (8 * j + 4) = 0) (g5 : ag5 j F G) (m0 : G 7 (2 * j) = nI 0) (m1 : G 7 (2 * j + 1) = nI 0) (gv : agv j F G) : LPb (xDraft X x y) (yDraft Y) G j k td w 0 0 0 0 := by
  obtain ⟨⟨n1, n2, n3, n4, n5, n6, n7, n8, n9, n10, n11, n12, n13⟩, hw, hh, ht, hd⟩ := h
  refine ⟨⟨Or.inr rfl, g0, n3, g5.1.trans n4, g5.2.1.trans n5, g5.2.2.trans n6, n7, n8, ?_, m0, m1, by omega, by omega⟩, ⟨rfl, by omega, rfl, by omega, fun i hi => absurd hi (by omega)⟩, hh.v gv, ht.v gv, fun _ => ⟨⟨g1, g2, g3.trans (nI_add 0 1).symm⟩, Or.inl ⟨rfl, g4⟩, ⟨⟨by omega, fun i hi => by rw [Nat.zero_testBit]; rfl⟩, by decide⟩, ⟨by omega, fun i hi => ?_⟩, fun i i' hi => absurd hi (by omega), fun p hp h9 => absurd (zf_i hp) h9, Nat.zero_le _, fun p hp h9 => absurd (zf_i hp) h9⟩⟩
  · rw [if_pos (Or.inr (show xDraft X x y 10 = 0 from rfl))]; omega
  · rw [Nat.zero_testBit]
    exact (decide_eq_false (fun h9 => h9 (zf_i hi))).symm
theorem LPb.change (h : LPb X Y F j k td w mm kk M0 M1) (h0 : ¬ X 2 = 0) (y : Int32) (g0 : G 0 (8 * j) = F 0 (8 * j)) (g1 : G 0 (8 * j + 1) = F 0 (8 * j + 1)) (g2 : G 0 (8 * j + 2) = y) (g3 : G 0 (8 * j + 3) = F 0 (8 * j + 3) + nI 1) (g4 : G 0 (8 * j + 4) = 0) (g5 : ag5 j F G) (m0 : G 7 (2 * j) = F 7 (2 * j)) (m1 : G 7 (2 * j + 1) = F 7 (2 * j + 1)) (gv : agv j F G) : LPb (xChange X y) (yChange Y) G j k td w mm 0 M0 M1 := by
  obtain ⟨⟨n1, n2, n3, n4, n5, n6, n7, n8, n9, n10, n11, n12, n13⟩, ⟨w1, w2, w3, w4, w5⟩, hh, ht, hd⟩ := h
  obtain ⟨⟨d1, d2, d3⟩, d4, d5, d6, d7, d8, d9, d10⟩ := hd h0
  refine ⟨⟨n1, g0.trans n2, n3, g5.1.trans n4, g5.2.1.trans n5, g5.2.2.trans n6, n7, n8, ?_, m0.trans n10, m1.trans n11, n12, n13⟩, ⟨w1, w2, rfl, by omega, w5⟩, hh.v gv, ht.v gv, fun _ => ⟨⟨g1.trans d1, g2, g3.trans (congrArg (· + nI 1) d3)⟩, Or.inl ⟨rfl, g4⟩, d5, d6, d7, fun p hp h9 => absurd (zf_i hp) h9, Nat.zero_le _, fun p hp h9 => absurd (zf_i hp) h9⟩⟩
  rw [if_pos (Or.inr (show xChange X y 10 = 0 from rfl))]; omega
theorem LPb.drop (h : LPb X Y F j k td w mm kk M0 M1) (g0 : G 0 (8 * j) = 0) (g5 : ag5 j F G) (m0 : G 7 (2 * j) = F 7 (2 * j)) (m1 : G 7 (2 * j + 1) = F 7 (2 * j + 1)) (gv : agv j F G) : LPb (va_up X 2 (nI 0)) Y G j k td w mm kk M0 M1 := by
  obtain ⟨⟨n1, n2, n3, n4, n5, n6, n7, n8, n9, n10, n11, n12, n13⟩, hw, hh, ht, hd⟩ := h
  refine ⟨⟨Or.inl rfl, g0, n3, g5.1.trans n4, g5.2.1.trans n5, g5.2.2.trans n6, n7, n8, ?_, m0.trans n10, m1.trans n11, n12, n13⟩, hw, hh.v gv, ht.v gv, fun h => absurd rfl h⟩
  rw [if_pos (Or.inl (show va_up X 2 (nI 0) 2 = 0 from rfl))]; omega
theorem nam_add {p : Nat} {q : Nat} (hp : p < 6) (hq : q < 6) : nam (va_up Y 1 (upd (Y 1) mm (nI p))) (mm + 1) q = (nam Y mm q || decide (q = p)) := by
  rw [Bool.eq_iff_iff, Bool.or_eq_true, pX_if, pX_if, decide_eq_true_eq]
  constructor
  · rintro ⟨i, -, hi, he⟩
    have he : upd (Y 1) mm (nI p) i = nI q := of_decide_eq_true he
    by_cases e : i = mm
    · subst e; rw [pk_us] at he
      exact Or.inr ((nI_eq (by omega) (by omega)).mp he).symm
    · rw [pk_un e] at he
      exact Or.inl ⟨i, by omega, by omega, decide_eq_true he⟩
  · rintro (⟨i, -, hi, he⟩ | rfl)
    · have he : Y 1 i = nI q := of_decide_eq_true he
      exact ⟨i, by omega, by omega, decide_eq_true (show upd (Y 1) mm (nI p) i = nI q by rw [pk_un (by omega)]; exact he)⟩
    · exact ⟨mm, by omega, by omega, decide_eq_true (show upd (Y 1) mm (nI q) mm = nI q from pk_us)⟩
theorem LPb.reviewer (h : LPb X Y F j k td w mm kk M0 M1) (h0 : ¬ X 2 = 0) (h10 : X 10 = 0) {p : Nat} (hp : p < 6) (hn : nam Y mm p = false) (hm : mm < 4) (g : ∀ i, i < 8 → G 0 (8 * j + i) = F 0 (8 * j + i)) (m0 : G 7 (2 * j) = nI (bs M0 p)) (m1 : G 7 (2 * j + 1) = F 7 (2 * j + 1)) (gv : agv j F G) :
    LPb (va_up X 8 (nI (mm + 1))) (va_up Y 1 (upd (Y 1) mm (nI p))) G j k td w (mm + 1) kk (bs M0 p) M1 ∧ sN (va_up X 8 (nI (mm + 1))) (va_up Y 1 (upd (Y 1) mm (nI p))) (mm + 1) kk = 1 := by
  obtain ⟨⟨n1, n2, n3, n4, n5, n6, n7, n8, n9, n10, n11, n12, n13⟩, ⟨w1, w2, w3, w4, w5⟩, hh, ht, hd⟩ := h
  obtain ⟨⟨d1, d2, d3⟩, d4, ⟨d5, d55⟩, d6, d7, d8, d9, d10⟩ := hd h0
  have hbit : M0.testBit p = false := (d5.2 p hp).trans hn
  have hno : ∀ i, i < mm → ¬ Y 1 i = nI p := fun i hi e => by
    have : nam Y mm p = true := (pX_if mm 0).mpr ⟨i, by omega, by omega, decide_eq_true e⟩
    rw [hn] at this; cases this
  have h4 : F 0 (8 * j + 4) = 0 := by
    rcases d4 with ⟨-, e⟩ | ⟨e, -⟩
    · exact e
    · exact absurd h10 e
  refine ⟨⟨⟨n1, (g 0 (by omega)).trans n2, n3, (g 5 (by omega)).trans n4, (g 6 (by omega)).trans n5, (g 7 (by omega)).trans n6, n7, n8, n9, m0, m1.trans n11, bs_64 M0 n12 p hp, n13⟩, ⟨rfl, by omega, w3, w4, fun i hi => ?_⟩, hh.v gv, ht.v gv, fun _ => ⟨⟨(g 1 (by omega)).trans d1, (g 2 (by omega)).trans d2, (g 3 (by omega)).trans d3⟩, Or.inl ⟨h10, (g 4 (by omega)).trans h4⟩, ⟨d5.add hp (fun i hi => nam_add hp hi), by rw [pc8_bs M0 n12 p hp hbit, d55]⟩, d6, fun i i' hi hi' he => ?_, fun q hq h9 => ?_, ?_, d10⟩⟩, ?_⟩
  · show ∃ q, q < 6 ∧ upd (Y 1) mm (nI p) i = nI q
    by_cases e : i = mm
    · subst e; exact ⟨p, hp, pk_us⟩
    · rw [pk_un e]; exact w5 i (by omega)
  · have he : upd (Y 1) mm (nI p) i = upd (Y 1) mm (nI p) i' := he
    by_cases e : i = mm
    · by_cases e' : i' = mm
      · omega
      · subst e; rw [pk_us, pk_un e'] at he; exact absurd he.symm (hno i' (by omega))
    · by_cases e' : i' = mm
      · subst e'; rw [pk_us, pk_un e] at he; exact absurd he (hno i (by omega))
      · rw [pk_un e, pk_un e'] at he; exact d7 i i' (by omega) (by omega) he
  · rw [nam_add hp hq, d8 q hq h9]; rfl
  · refine Nat.le_trans d9 ?_
    show rvd Y mm ≤ pN (fun i => decide (¬ Y 2 (ix (upd (Y 1) mm (nI p) i)) = 0)) (mm + 1)
    have e : pN (fun i => decide (¬ Y 2 (ix (upd (Y 1) mm (nI p) i)) = 0)) mm = rvd Y mm := pN_cg mm fun i hi => by
      show decide (¬ Y 2 (ix (upd (Y 1) mm (nI p) i)) = 0) = decide (¬ Y 2 (ix (Y 1 i)) = 0)
      rw [pk_un (by omega)]
    rw [← e]
    simp only [pN]
    split <;> omega
  · refine sN_is1 h0 (Or.inr ?_)
    show ¬ pF (okR (upd (Y 1) mm (nI p)) (Y 2)) (upd (Y 1) mm (nI p)) (mm + 1) 0 = -1
    rcases pF_first (f := okR (upd (Y 1) mm (nI p)) (Y 2)) (v := upd (Y 1) mm (nI p)) (mm + 1) 0 with ⟨e, -⟩ | ⟨q, e1, e2, e3, -, e5⟩
    · have e := e mm (by omega) (by omega)
      rw [okR, pk_us, ix_nI (by omega)] at e
      have h2 : Y 2 p = 0 := Decidable.byContradiction fun h9 => by
        have := d8 p hp h9
        rw [hn] at this; cases this
      exact absurd h2 (of_decide_eq_false e)
    · rw [e5]
      by_cases e : q = mm
      · subst e; rw [pk_us]; exact nI_nm1 (by omega)
      · rw [pk_un e]
        obtain ⟨r, hr, er⟩ := w5 q (by omega)
        rw [er]; exact nI_nm1 (by omega)
theorem dNC_add {p : Nat} (hp : p < 6) (h5 : Y 5 p = 0) : ¬ dNC (va_up Y 4 (upd (Y 4) p (nI 1))) = -1 := by
  show ¬ pF (okC (upd (Y 4) p (nI 1)) (Y 5)) nI 6 0 = -1
  rcases pF_first (f := okC (upd (Y 4) p (nI 1)) (Y 5)) (v := nI) 6 0 with ⟨e, -⟩ | ⟨q, e1, e2, e3, -, e5⟩
  · have e := e p (by omega) (by omega)
    simp [okC, pk_us, h5, nI1n] at e
  · rw [e5]; exact nI_nm1 (by omega)
theorem LPb.reader (h : LPb X Y F j k td w mm kk M0 M1) (h0 : ¬ X 2 = 0) {p : Nat} (hp : p < 6) (hn : Y 4 p = 0) (g : ∀ i, i < 8 → G 0 (8 * j + i) = F 0 (8 * j + i)) (m0 : G 7 (2 * j) = F 7 (2 * j)) (m1 : G 7 (2 * j + 1) = nI (bs M1 p)) (gv : agv j F G) :
    LPb X (va_up Y 4 (upd (Y 4) p (nI 1))) G j k td w mm kk M0 (bs M1 p) ∧ sN X (va_up Y 4 (upd (Y 4) p (nI 1))) mm kk = (if sN X Y mm kk = 5 then 4 else sN X Y mm kk) := by
  obtain ⟨⟨n1, n2, n3, n4, n5, n6, n7, n8, n9, n10, n11, n12, n13⟩, hw, hh, ht, hd⟩ := h
  obtain ⟨⟨d1, d2, d3⟩, d4, d5, d6, d7, d8, d9, d10⟩ := hd h0
  have h5 : Y 5 p = 0 := Decidable.byContradiction fun h9 => d10 p hp h9 hn
  refine ⟨⟨⟨n1, (g 0 (by omega)).trans n2, n3, (g 5 (by omega)).trans n4, (g 6 (by omega)).trans n5, (g 7 (by omega)).trans n6, n7, n8, n9, m0.trans n10, m1, n12, bs_64 M1 n13 p hp⟩, hw, hh.v gv, ht.v gv, fun _ => ⟨⟨(g 1 (by omega)).trans d1, (g 2 (by omega)).trans d2, (g 3 (by omega)).trans d3⟩, ?_, d5, d6.add hp (fun i hi => ?_), d7, d8, d9, fun q hq h9 => ?_⟩⟩, ?_⟩
  · rcases d4 with ⟨e1, e2⟩ | ⟨e1, e2, e3⟩
    · exact Or.inl ⟨e1, (g 4 (by omega)).trans e2⟩
    · exact Or.inr ⟨e1, (g 4 (by omega)).trans e2, e3⟩
  · show decide (¬ upd (Y 4) p (nI 1) i = 0) = (decide (¬ Y 4 i = 0) || decide (i = p))
    by_cases e : i = p
    · subst e; rw [pk_us]; simp [nI1n]
    · rw [pk_un e]; simp [e]
  · show ¬ upd (Y 4) p (nI 1) q = 0
    by_cases e : q = p
    · subst e; rw [pk_us]; exact nI1n
    · rw [pk_un e]; exact d10 q hq h9
  · have hs := sN_le (X := X) (Y := Y) (mm := mm) (kk := kk)
    rcases (show sN X Y mm kk = 0 ∨ sN X Y mm kk = 1 ∨ sN X Y mm kk = 2 ∨ sN X Y mm kk = 3 ∨ sN X Y mm kk = 4 ∨ sN X Y mm kk = 5 by omega) with e | e | e | e | e | e
    · exact absurd (sN_0.mp e) h0
    · obtain ⟨a1, a2⟩ := sN_1 e; rw [e, if_neg (by omega)]; exact sN_is1 a1 a2
    · obtain ⟨a1, a2, a3, a4⟩ := sN_2 e; rw [e, if_neg (by omega)]; exact sN_is2 a1 a2 a3 a4
    · obtain ⟨a1, a2, a3, a4, a5⟩ := sN_3 e; rw [e, if_neg (by omega)]; exact sN_is3 a1 a2 a3 a4 a5
    · obtain ⟨a1, a2, a3, a4, a5, a6⟩ := sN_4 e; rw [e, if_neg (by omega)]; exact sN_is4 a1 a2 a3 a4 a5 (dNC_add hp h5)
    · obtain ⟨a1, a2, a3, a4, a5, a6⟩ := sN_5 e; rw [e, if_pos rfl]; exact sN_is4 a1 a2 a3 a4 a5 (dNC_add hp h5)
/-- the next reviewer is one, and hasn't reviewed -/
theorem LPb.next (h : LPb X Y F j k td w mm kk M0 M1) (h1 : ¬ dNR Y mm = -1) : ∃ i p, i < mm ∧ p < 6 ∧ dNR Y mm = nI p ∧ Y 1 i = nI p ∧ Y 2 p = 0 := by
  obtain ⟨hn, ⟨w1, w2, w3, w4, w5⟩, hh, ht, hd⟩ := h
  rcases pF_first (f := okR (Y 1) (Y 2)) (v := Y 1) mm 0 with ⟨-, e⟩ | ⟨q, e1, e2, e3, -, e5⟩
  · exact absurd e h1
  · obtain ⟨p, hp, ep⟩ := w5 q (by omega)
    rw [okR_nI ep hp] at e3
    exact ⟨q, p, by omega, hp, e5.trans ep, ep, of_decide_eq_true e3⟩
theorem LPb.not_ap (h : LPb X Y F j k td w mm kk M0 M1) (h1 : sN X Y mm kk = 1 ∨ sN X Y mm kk = 2 ∨ sN X Y mm kk = 3) : X 10 = 0 := by
  obtain ⟨hn, hw, hh, ht, hd⟩ := h
  have h0 : ¬ X 2 = 0 := fun e => by rw [sN_0.mpr e] at h1; omega
  obtain ⟨-, d4, -⟩ := hd h0
  rcases d4 with ⟨e1, e2⟩ | ⟨e1, e2, e3, e4, e5, e6⟩
  · exact e1
  · rcases h1 with e | e | e
    · obtain ⟨-, a⟩ := sN_1 e
      exact (a.elim e4 (fun h9 => h9 e5)).elim
    · obtain ⟨-, -, -, a⟩ := sN_2 e; omega
    · exact absurd (sN_3 e).2.2.2.2 e1
theorem LPb.rv1 (h : LPb X Y F j k td w mm kk M0 M1) (h0 : ¬ X 2 = 0) {i p : Nat} (hi : i < mm) (hp : p < 6) (ei : Y 1 i = nI p) (h2 : Y 2 p = 0) : kk < mm ∧ rvd (va_up Y 2 (upd (Y 2) p (nI 1))) mm = rvd Y mm + 1 := by
  obtain ⟨hn, ⟨w1, w2, w3, w4, w5⟩, hh, ht, hd⟩ := h
  obtain ⟨-, -, -, -, d7, -, d9, -⟩ := hd h0
  refine ⟨Nat.lt_of_le_of_lt d9 (pN_lt hi ?_), ?_⟩
  · rw [ei, ix_nI (by omega), h2]; rfl
  · refine pN_1u (a := i) ?_ ?_ (fun q hq hne => ?_) hi
    · rw [ei, ix_nI (by omega), h2]; rfl
    · show decide (¬ upd (Y 2) p (nI 1) (ix (Y 1 i)) = 0) = true
      rw [ei, ix_nI (by omega), pk_us]; rfl
    · obtain ⟨r, hr, er⟩ := w5 q hq
      show decide (¬ Y 2 (ix (Y 1 q)) = 0) = decide (¬ upd (Y 2) p (nI 1) (ix (Y 1 q)) = 0)
      rw [er, ix_nI (by omega), pk_un]
      intro e
      subst e
      exact hne (d7 q i hq hi (er.trans ei.symm))
theorem LPb.review (h : LPb X Y F j k td w mm kk M0 M1) (h1 : sN X Y mm kk = 1) {i p : Nat} (hi : i < mm) (hp : p < 6) (ei : Y 1 i = nI p) (h2 : Y 2 p = 0) :
    LPb X (va_up Y 2 (upd (Y 2) p (nI 1))) F j k td w mm kk M0 M1 ∧ LPb (va_up X 9 (nI (kk + 1))) (va_up (va_up Y 2 (upd (Y 2) p (nI 1))) 3 (upd (Y 3) kk (nI 0))) F j k td w mm (kk + 1) M0 M1 := by
  have h10 := h.not_ap (Or.inl h1)
  have h0 := (sN_1 h1).1
  obtain ⟨k1, k2⟩ := h.rv1 h0 hi hp ei h2
  obtain ⟨hn, ⟨w1, w2, w3, w4, w5⟩, hh, ht, hd⟩ := h
  obtain ⟨d1, d4, d5, d6, d7, d8, d9, d10⟩ := hd h0
  have d4' : X 10 = 0 ∧ F 0 (8 * j + 4) = 0 := by
    rcases d4 with e | ⟨e, -⟩
    · exact e
    · exact absurd h10 e
  have hr : ∀ q, q < 6 → ¬ upd (Y 2) p (nI 1) q = 0 → nam Y mm q = true := fun q hq h9 => by
    by_cases e : q = p
    · subst e; exact (pX_if mm 0).mpr ⟨i, by omega, by omega, decide_eq_true ei⟩
    · rw [pk_un e] at h9; exact d8 q hq h9
  refine ⟨⟨hn, ⟨w1, w2, w3, w4, w5⟩, hh, ht, fun _ => ⟨d1, Or.inl d4', d5, d6, d7, hr, by omega, d10⟩⟩, ⟨hn, ⟨w1, w2, rfl, by omega, w5⟩, hh, ht, fun _ => ⟨d1, Or.inl d4', d5, d6, d7, hr, ?_, d10⟩⟩⟩
  show kk + 1 ≤ rvd (va_up Y 2 (upd (Y 2) p (nI 1))) mm
  omega
/-- behind it another one is next -/
theorem dNR_next {p : Nat} (hp : p < 6) (hw5 : ∀ i, i < mm → ∃ q, q < 6 ∧ Y 1 i = nI q) : ¬ dNR (va_up Y 2 (upd (Y 2) p (nI 1))) mm = nI p := by
  show ¬ pF (okR (Y 1) (upd (Y 2) p (nI 1))) (Y 1) mm 0 = nI p
  rcases pF_first (f := okR (Y 1) (upd (Y 2) p (nI 1))) (v := Y 1) mm 0 with ⟨-, e⟩ | ⟨q, e1, e2, e3, -, e5⟩
  · rw [e]; exact fun h => nI_nm1 (by omega) h.symm
  · rw [e5]
    intro e
    rw [okR_nI e hp, pk_us] at e3
    cases e3
end QLOps
