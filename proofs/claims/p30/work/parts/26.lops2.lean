/-! MORE OPERATIONS: answers, approval, confirmations, looks, what hangs, days. -/
section QLOp2
variable {X : Nat → Int32} {Y F G : Nat → Nat → Int32} {j k td w mm kk M0 M1 : Nat}
theorem up_up {α : Type} (f : Nat → α) (i : Nat) (x y : α) : va_up (va_up f i x) i y = va_up f i y := by
  funext q
  by_cases h : q = i
  · subst h; simp [va_up]
  · simp [va_up, h]
/-- the marks of answers behind the first k -/
def y3 (f : Nat → Int32) (kk : Nat) : Nat → Nat → Int32
  | 0 => f
  | k + 1 => if k < kk ∧ f k = 0 then upd (y3 f kk k) k (nI 1) else y3 f kk k
def opf (f : Nat → Int32) (kk : Nat) : Nat → Nat
  | 0 => 5
  | k + 1 => if k < kk ∧ f k = 0 then pN (fun i => decide (y3 f kk (k + 1) i = 0)) kk else opf f kk k
section
variable {f : Nat → Int32} {kk : Nat}
theorem y3_ge : ∀ {k q : Nat}, k ≤ q → y3 f kk k q = f q
  | 0, q, _ => rfl
  | k + 1, q, h => by
    simp only [y3]
    split
    · rw [pk_un (by omega)]; exact y3_ge (by omega)
    · exact y3_ge (by omega)
theorem y3_lt : ∀ {k q : Nat}, q < k → q < kk → ¬ y3 f kk k q = 0
  | 0, q, h, _ => absurd h (by omega)
  | k + 1, q, h, h2 => by
    simp only [y3]
    by_cases e : q = k
    · subst e
      by_cases h3 : f q = 0
      · rw [if_pos ⟨h2, h3⟩, pk_us]; exact nI1n
      · rw [if_neg (fun h9 => h3 h9.2), y3_ge (Nat.le_refl _)]; exact h3
    · split
      · rw [pk_un e]; exact y3_lt (by omega) h2
      · exact y3_lt (by omega) h2
theorem opf_inv (hk : kk ≤ 4) : ∀ k, opf f kk k ≤ 5 ∧ ((opf f kk k = 5 ∧ ∀ i, i < k → i < kk → ¬ f i = 0) ∨ opf f kk k = pN (fun i => decide (y3 f kk k i = 0)) kk)
  | 0 => ⟨Nat.le_refl 5, Or.inl ⟨rfl, fun i h => absurd h (by omega)⟩⟩
  | k + 1 => by
    obtain ⟨h1, h2⟩ := opf_inv hk k
    by_cases h : k < kk ∧ f k = 0
    · have e : opf f kk (k + 1) = pN (fun i => decide (y3 f kk (k + 1) i = 0)) kk := by simp only [opf]; rw [if_pos h]
      have := pN_le (fun i => decide (y3 f kk (k + 1) i = 0)) kk
      exact ⟨by omega, Or.inr e⟩
    · have e : opf f kk (k + 1) = opf f kk k := by simp only [opf]; rw [if_neg h]
      have e2 : y3 f kk (k + 1) = y3 f kk k := by simp only [y3]; rw [if_neg h]
      rw [e, e2]
      refine ⟨h1, ?_⟩
      rcases h2 with ⟨a, b⟩ | a
      · refine Or.inl ⟨a, fun i hi hi2 => ?_⟩
        by_cases e3 : i = k
        · subst e3; exact fun h9 => h ⟨hi2, h9⟩
        · exact b i (by omega) hi2
      · exact Or.inr a
theorem opf_s (h : k < kk ∧ f k = 0) : opf f kk (k + 1) = pN (fun i => decide (upd (y3 f kk k) k (nI 1) i = 0)) kk := by
  simp only [opf, y3]; rw [if_pos h]; simp only [if_pos h]
theorem opf_lt (hk : kk ≤ 4) (h : k < kk ∧ f k = 0) : opf f kk (k + 1) < opf f kk k := by
  have e1 : pN (fun i => decide (y3 f kk k i = 0)) kk = opf f kk (k + 1) + 1 := by
    rw [opf_s h]
    refine pN_1u (a := k) ?_ ?_ (fun q hq hne => ?_) h.1
    · show decide (upd (y3 f kk k) k (nI 1) k = 0) = false
      rw [pk_us]; rfl
    · show decide (y3 f kk k k = 0) = true
      rw [y3_ge (Nat.le_refl _), h.2]; rfl
    · show decide (upd (y3 f kk k) k (nI 1) q = 0) = decide (y3 f kk k q = 0)
      rw [pk_un hne]
  rcases (opf_inv (f := f) hk k).2 with ⟨a, -⟩ | a
  · have := pN_le (fun i => decide (y3 f kk k i = 0)) kk
    omega
  · omega
theorem opf_4 (hk : kk ≤ 4) (h : 0 < pN (fun i => decide (f i = 0)) kk) : opf f kk 4 = 0 := by
  rcases (opf_inv (f := f) hk 4).2 with ⟨-, b⟩ | a
  · have : pN (fun i => decide (f i = 0)) kk = 0 := pN_z.mpr fun q hq => decide_eq_false (b q (by omega) hq)
    omega
  · rw [a]
    exact pN_z.mpr fun q hq => decide_eq_false (y3_lt (by omega) hq)
end
theorem LPb.y3 (h : LPb X Y F j k td w mm kk M0 M1) (h10 : X 10 = 0) (g : Nat → Int32) : LPb X (va_up Y 3 g) F j k td w mm kk M0 M1 := by
  obtain ⟨hn, hw, hh, ht, hd⟩ := h
  refine ⟨hn, hw, hh, ht, fun h0 => ?_⟩
  obtain ⟨d1, d4, d5, d6, d7, d8, d9, d10⟩ := hd h0
  refine ⟨d1, ?_, d5, d6, d7, d8, d9, d10⟩
  rcases d4 with e | ⟨e, -⟩
  · exact Or.inl e
  · exact absurd h10 e
theorem LPb.approve (h : LPb X Y F j k td w mm kk M0 M1) (h3 : sN X Y mm kk = 3) {d : Nat} (hd0 : 0 < d) (hd1 : d ≤ 1000) (g : ∀ i, i < 8 → ¬ i = 4 → G 0 (8 * j + i) = F 0 (8 * j + i)) (g4 : G 0 (8 * j + 4) = nI d) (m0 : G 7 (2 * j) = F 7 (2 * j)) (m1 : G 7 (2 * j + 1) = F 7 (2 * j + 1)) (gv : agv j F G) :
    LPb (va_up (va_up X 10 (nI 1)) 11 (nI d)) Y G j (k + 1) td w mm kk M0 M1 ∧ 3 < sN (va_up (va_up X 10 (nI 1)) 11 (nI d)) Y mm kk := by
  obtain ⟨a1, a2, a3, a4, a5⟩ := sN_3 h3
  obtain ⟨⟨n1, n2, n3, n4, n5, n6, n7, n8, n9, n10, n11, n12, n13⟩, hw, hh, ht, hd⟩ := h
  obtain ⟨⟨d1, d2, d3⟩, d4, d5, d6, d7, d8, d9, d10⟩ := hd a1
  refine ⟨⟨⟨n1, (g 0 (by omega) (by omega)).trans n2, n3, (g 5 (by omega) (by omega)).trans n4, (g 6 (by omega) (by omega)).trans n5, (g 7 (by omega) (by omega)).trans n6, n7, n8, ?_, m0.trans n10, m1.trans n11, n12, n13⟩, hw, hh.v gv, ht.v gv, fun _ => ⟨⟨(g 1 (by omega) (by omega)).trans d1, (g 2 (by omega) (by omega)).trans d2, (g 3 (by omega) (by omega)).trans d3⟩, Or.inr ⟨nI1n, g4, ⟨d, hd0, hd1, rfl⟩, a2, a3, a4⟩, d5, d6, d7, d8, d9, d10⟩⟩, ?_⟩
  · split <;> omega
  · by_cases h6 : dNC Y = -1
    · rw [sN_is5 (X := va_up (va_up X 10 (nI 1)) 11 (nI d)) a1 a2 a3 a4 nI1n h6]; omega
    · rw [sN_is4 (X := va_up (va_up X 10 (nI 1)) 11 (nI d)) a1 a2 a3 a4 nI1n h6]; omega
/-- readers: those who have, and those who haven't -/
theorem pN_okC {re cf : Nat → Int32} : ∀ {n : Nat}, (∀ p, p < n → ¬ cf p = 0 → ¬ re p = 0) → pN (fun i => decide (¬ re i = 0)) n = pN (fun i => decide (¬ cf i = 0)) n + pN (okC re cf) n
  | 0, _ => rfl
  | n + 1, h => by
    have ih := pN_okC (re := re) (cf := cf) (n := n) (fun p hp => h p (by omega))
    have hn := h n (by omega)
    simp only [pN, okC, ne_eq] at ih ⊢
    by_cases h1 : re n = 0
    · by_cases h2 : cf n = 0
      · simp only [h1, h2, not_true, decide_false, decide_true, Bool.false_and, if_false, Bool.false_eq_true] at ih ⊢; omega
      · exact absurd h1 (hn h2)
    · by_cases h2 : cf n = 0
      · simp only [h1, h2, not_true, not_false_eq_true, decide_false, decide_true, Bool.true_and, if_true, if_false, Bool.false_eq_true] at ih ⊢; omega
      · simp only [h1, h2, not_true, not_false_eq_true, decide_false, decide_true, Bool.and_false, if_true, if_false, Bool.false_eq_true] at ih ⊢; omega
theorem LPb.nextC (h : LPb X Y F j k td w mm kk M0 M1) (h4 : sN X Y mm kk = 4) : ∃ p, p < 6 ∧ dNC Y = nI p ∧ ¬ Y 4 p = 0 ∧ Y 5 p = 0 ∧ ∀ q, q < p → okC (Y 4) (Y 5) q = false := by
  obtain ⟨a1, a2, a3, a4, a5, a6⟩ := sN_4 h4
  rcases pF_first (f := okC (Y 4) (Y 5)) (v := nI) 6 0 with ⟨-, e⟩ | ⟨q, e1, e2, e3, e4, e5⟩
  · exact absurd e a6
  · simp only [okC, Bool.and_eq_true, decide_eq_true_eq] at e3
    exact ⟨q, by omega, e5, e3.1, e3.2, fun q' hq' => e4 q' (by omega) hq'⟩
theorem LPb.confirm (h : LPb X Y F j k td w mm kk M0 M1) (h4 : sN X Y mm kk = 4) {p : Nat} (hp : p < 6) (hr : ¬ Y 4 p = 0) (hc : Y 5 p = 0) (hq : ∀ q, q < p → okC (Y 4) (Y 5) q = false) :
    LPb X (va_up Y 5 (upd (Y 5) p (nI 1))) F j k td w mm kk M0 M1 ∧ ∃ t, t < 6 ∧ nI (pN (fun i => decide (¬ Y 4 i = 0)) 6) - nI (pN (fun i => decide (¬ (upd (Y 5) p (nI 1)) i = 0)) 6) = nI t ∧ ((t = 0 ∧ sN X (va_up Y 5 (upd (Y 5) p (nI 1))) mm kk = 5) ∨ (0 < t ∧ sN X (va_up Y 5 (upd (Y 5) p (nI 1))) mm kk = 4 ∧ ∃ p8, p < p8 ∧ p8 < 6 ∧ dNC (va_up Y 5 (upd (Y 5) p (nI 1))) = nI p8)) := by
  obtain ⟨a1, a2, a3, a4, a5, a6⟩ := sN_4 h4
  obtain ⟨hn, hw, hh, ht, hd⟩ := h
  obtain ⟨d1, d4, d5, d6, d7, d8, d9, d10⟩ := hd a1
  have hsub : ∀ q, q < 6 → ¬ upd (Y 5) p (nI 1) q = 0 → ¬ Y 4 q = 0 := fun q hq6 h9 => by
    by_cases e : q = p
    · subst e; exact hr
    · rw [pk_un e] at h9; exact d10 q hq6 h9
  refine ⟨⟨hn, hw, hh, ht, fun _ => ⟨d1, d4, d5, d6, d7, d8, d9, hsub⟩⟩, pN (okC (Y 4) (upd (Y 5) p (nI 1))) 6, pN_lt hp ?_, ?_, ?_⟩
  · simp [okC, pk_us, nI1n]
  · have e := pN_okC (re := Y 4) (cf := upd (Y 5) p (nI 1)) (n := 6) hsub
    rw [pk_sub (by omega), e]
    exact congrArg nI (by omega)
  · rcases pF_first (f := okC (Y 4) (upd (Y 5) p (nI 1))) (v := nI) 6 0 with ⟨e, e'⟩ | ⟨q, e1, e2, e3, e4, e5⟩
    · refine Or.inl ⟨pN_z.mpr fun q hq6 => e q (by omega) (by omega), sN_is5 a1 a2 a3 a4 a5 e'⟩
    · refine Or.inr ⟨?_, sN_is4 a1 a2 a3 a4 a5 ?_, q, ?_, by omega, e5⟩
      · refine Nat.pos_of_ne_zero fun h0 => ?_
        rw [pN_z.mp h0 q (by omega)] at e3
        cases e3
      · show ¬ pF (okC (Y 4) (upd (Y 5) p (nI 1))) nI 6 0 = -1
        rw [e5]; exact nI_nm1 (by omega)
      · refine Decidable.byContradiction fun h9 => ?_
        by_cases e : q = p
        · subst e
          simp [okC, pk_us, nI1n] at e3
        · have := hq q (by omega)
          simp only [okC] at this e3
          rw [pk_un e] at e3
          rw [this] at e3; cases e3
theorem LPb.look (h : LPb X Y F j k td w mm kk M0 M1) (g : ∀ i, i < 6 → G 0 (8 * j + i) = F 0 (8 * j + i)) {x : Int32} (g6 : G 0 (8 * j + 6) = x) (g7 : G 0 (8 * j + 7) = 0) (m0 : G 7 (2 * j) = F 7 (2 * j)) (m1 : G 7 (2 * j + 1) = F 7 (2 * j + 1)) (gv : agv j F G) :
    LPb (va_up (va_up X 3 (nI 0)) 4 x) Y G j k td w mm kk M0 M1 := by
  obtain ⟨⟨n1, n2, n3, n4, n5, n6, n7, n8, n9, n10, n11, n12, n13⟩, hw, hh, ht, hd⟩ := h
  refine ⟨⟨n1, (g 0 (by omega)).trans n2, n3, (g 5 (by omega)).trans n4, g6, g7, Or.inl rfl, fun _ => rfl, n9, m0.trans n10, m1.trans n11, n12, n13⟩, hw, hh.v gv, ht.v gv, fun h0 => ?_⟩
  obtain ⟨⟨d1, d2, d3⟩, d4, d5⟩ := hd h0
  refine ⟨⟨(g 1 (by omega)).trans d1, (g 2 (by omega)).trans d2, (g 3 (by omega)).trans d3⟩, ?_, d5⟩
  rcases d4 with ⟨e1, e2⟩ | ⟨e1, e2, e3⟩
  · exact Or.inl ⟨e1, (g 4 (by omega)).trans e2⟩
  · exact Or.inr ⟨e1, (g 4 (by omega)).trans e2, e3⟩
/-- called for -/
theorem LPb.ask (h : LPb X Y F j k td w mm kk M0 M1) (hw0 : ¬ w = 0) (g : ∀ i, i < 7 → G 0 (8 * j + i) = F 0 (8 * j + i)) (g7 : G 0 (8 * j + 7) = nI 1) (m0 : G 7 (2 * j) = F 7 (2 * j)) (m1 : G 7 (2 * j + 1) = F 7 (2 * j + 1)) (gv : agv j F G) :
    LPb (va_up X 3 (nI 1)) Y G j k td w mm kk M0 M1 := by
  obtain ⟨⟨n1, n2, n3, n4, n5, n6, n7, n8, n9, n10, n11, n12, n13⟩, hw, hh, ht, hd⟩ := h
  refine ⟨⟨n1, (g 0 (by omega)).trans n2, n3, (g 5 (by omega)).trans n4, (g 6 (by omega)).trans n5, g7, Or.inr rfl, fun h9 => absurd h9 hw0, n9, m0.trans n10, m1.trans n11, n12, n13⟩, hw, hh.v gv, ht.v gv, fun h0 => ?_⟩
  obtain ⟨⟨d1, d2, d3⟩, d4, d5⟩ := hd h0
  refine ⟨⟨(g 1 (by omega)).trans d1, (g 2 (by omega)).trans d2, (g 3 (by omega)).trans d3⟩, ?_, d5⟩
  rcases d4 with ⟨e1, e2⟩ | ⟨e1, e2, e3⟩
  · exact Or.inl ⟨e1, (g 4 (by omega)).trans e2⟩
  · exact Or.inr ⟨e1, (g 4 (by omega)).trans e2, e3⟩
theorem LPb.hang (h : LPb X Y F j k td w mm kk M0 M1) {M o : Nat} (hM : F 1 j = nI M) (hM2 : M < 256) (ho : o < 8) (g0 : G 0 = F 0) (g1 : G 1 j = nI (bs M o)) (g2 : G 2 = F 2) (g7 : G 7 = F 7) :
    LPb X (va_up Y 0 (upd (Y 0) o (nI 1))) G j k td w mm kk M0 M1 ∧ pc8 (bs M o) = pN (fun i => decide (¬ (upd (Y 0) o (nI 1)) i = 0)) 8 := by
  obtain ⟨hn, hw, ⟨M', h1, h2⟩, ht, hd⟩ := h
  obtain rfl : M' = M := (nI_eq (by have := h2.1; omega) (by omega)).mp (h1.symm.trans hM)
  have hm : mk8 (bs M' o) (fun i => decide (¬ upd (Y 0) o (nI 1) i = 0)) := h2.add ho fun i hi => by
    show decide (¬ upd (Y 0) o (nI 1) i = 0) = (decide (¬ Y 0 i = 0) || decide (i = o))
    by_cases e : i = o
    · subst e; rw [pk_us]; simp [nI1n]
    · rw [pk_un e]; simp [e]
  refine ⟨⟨?_, hw, ⟨_, g1, hm⟩, ?_, fun h0 => ?_⟩, pN_cg 8 fun q hq => hm.2 q hq⟩
  · simp only [LPn] at hn ⊢; rw [g0, g7]; exact hn
  · refine ⟨ht.1, ht.2.1, ?_⟩; rw [g2]; exact ht.2.2
  · have := hd h0
    simp only [LPd, LPa] at this ⊢; rw [g0]; exact this
/-- it comes into force -/
theorem LPb.come (h : LPb X Y F j k td w mm kk M0 M1) (h2 : ¬ X 2 = 0) (h10 : ¬ X 10 = 0) (hw8 : w < 128) (g0 : G 0 (8 * j) = 0) (g5 : G 0 (8 * j + 5) = nI (w + 1)) (g6 : G 0 (8 * j + 6) = nI (td + 1)) (g7 : G 0 (8 * j + 7) = 0) (m0 : G 7 (2 * j) = F 7 (2 * j)) (m1 : G 7 (2 * j + 1) = F 7 (2 * j + 1)) (g1 : G 1 j = F 1 j)
    (gv : ∀ r, r < 4 → ¬ r = w % 4 → G 2 (8 * j + 2 * r + 1) = F 2 (8 * j + 2 * r + 1) ∧ G 2 (8 * j + 2 * r) = F 2 (8 * j + 2 * r)) (gw : G 2 (8 * j + 2 * (w % 4) + 1) = nI (w + 1) ∧ G 2 (8 * j + 2 * (w % 4)) = nI (td + 1)) (htd : td ≤ 1000) :
    LPb (comX (nI (td + 1)) X) (comY (nI (td + 1)) X Y) G j k (td + 1) (w + 1) mm kk M0 M1 := by
  obtain ⟨⟨n1, n2, n3, n4, n5, n6, n7, n8, n9, n10, n11, n12, n13⟩, hw, ⟨M, q1, q2⟩, ⟨t1, t2, t3⟩, hd⟩ := h
  have ew : ix (X 1) = w := by rw [n3]; exact ix_nI (by omega)
  have e7 : comY (nI (td + 1)) X Y 7 = upd (Y 7) w (nI (td + 1)) := by
    show upd (Y 7) (ix (X 1)) (nI (td + 1)) = _
    rw [ew]
  refine ⟨⟨Or.inl rfl, g0, ?_, g5, g6, g7, Or.inl rfl, fun _ => rfl, ?_, m0.trans n10, m1.trans n11, n12, n13⟩, hw, ⟨M, g1.trans q1, q2⟩, ⟨fun i hi => ?_, fun i i' hi hi' => ?_, fun r hr => ?_⟩, fun h9 => absurd rfl h9⟩
  · show nI (ix (X 1) + 1) = nI (w + 1)
    rw [ew]
  · rw [if_pos (Or.inl (show comX (nI (td + 1)) X 2 = 0 from rfl))]
    rw [if_neg (fun e => e.elim h2 h10)] at n9
    omega
  · rw [e7]
    by_cases e : i = w
    · subst e; exact ⟨td + 1, pk_us, by omega, by omega⟩
    · rw [pk_un e]; obtain ⟨d, a1, a2, a3⟩ := t1 i (by omega); exact ⟨d, a1, a2, by omega⟩
  · rw [e7]
    by_cases e : i' = w
    · subst e
      rw [pk_us, pk_un (by omega)]
      obtain ⟨d, a1, a2, a3⟩ := t1 i hi
      rw [a1, nI_ltI (by omega) (by omega)]; omega
    · rw [pk_un e, pk_un (by omega)]; exact t2 i i' hi (by omega)
  · by_cases e : r = w % 4
    · subst e
      exact Or.inr ⟨w, by omega, gw.1, by rw [e7, pk_us]; exact gw.2⟩
    · obtain ⟨a1, a2⟩ := gv r hr e
      rw [a1, a2]
      rcases t3 r hr with h9 | ⟨e9, b1, b2, b3⟩
      · exact Or.inl h9
      · exact Or.inr ⟨e9, by omega, b2, by rw [e7, pk_un (by omega)]; exact b3⟩
end QLOp2
