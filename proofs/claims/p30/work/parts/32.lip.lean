/-! A PAPER AS THE LAW ASKS OF IT: over the invariant. -/
theorem LPb.stw {X : Nat → Int32} {Y F : Nat → Nat → Int32} {j k td w mm kk M0 M1 : Nat} (h : LPb X Y F j k td w mm kk M0 M1) : stw F j M0 M1 (sN X Y mm kk) (wN X Y mm kk) := by
  have h5 := sN_le (X := X) (Y := Y) (mm := mm) (kk := kk)
  have hd := h.2.2.2.2
  have n12 := h.1.2.2.2.2.2.2.2.2.2.2.2.1
  rw [wN_is]
  rcases (show sN X Y mm kk = 0 ∨ sN X Y mm kk = 1 ∨ sN X Y mm kk = 2 ∨ sN X Y mm kk = 3 ∨ sN X Y mm kk = 4 ∨ sN X Y mm kk = 5 by omega) with e | e | e | e | e | e
  · rw [e]; exact Or.inr (Or.inr (Or.inr (Or.inr (Or.inl ⟨rfl, rfl⟩))))
  · obtain ⟨a1, a2⟩ := sN_1 e
    obtain ⟨-, -, ⟨d5, d55⟩, -⟩ := hd a1
    rw [if_pos e, e]
    by_cases hm : mm = 0
    · subst hm
      exact Or.inl ⟨rfl, rfl, pc8_0 M0 n12 d55⟩
    · obtain ⟨i, p, hi, hp, edn, eY, h2⟩ := h.next (a2.resolve_left hm)
      exact Or.inr (Or.inl ⟨rfl, p, hp, edn, (d5.2 p hp).trans ((pX_if mm 0).mpr ⟨i, by omega, by omega, decide_eq_true eY⟩)⟩)
  · obtain ⟨a1, a2, a3, a4⟩ := sN_2 e
    obtain ⟨⟨d1, d2, d3⟩, -⟩ := hd a1
    rw [e]
    exact Or.inr (Or.inr (Or.inl ⟨rfl, d1.symm⟩))
  · rw [e]; exact Or.inr (Or.inr (Or.inr (Or.inr (Or.inr (Or.inl ⟨rfl, rfl⟩)))))
  · obtain ⟨p, hp, edn, hr4, hc5, hfi⟩ := h.nextC e
    obtain ⟨a1, a2, a3, a4, a5, a6⟩ := sN_4 e
    obtain ⟨-, -, -, d6, -⟩ := hd a1
    rw [e]
    exact Or.inr (Or.inr (Or.inr (Or.inl ⟨rfl, p, hp, edn, (d6.2 p hp).trans (decide_eq_true hr4)⟩)))
  · rw [e]; exact Or.inr (Or.inr (Or.inr (Or.inr (Or.inr (Or.inr ⟨rfl, rfl⟩)))))
theorem olf_pN {q j w : Nat} {V F : Nat → Nat → Int32} (hC : GC q V F) : pN (fun i => decide (¬ (V 12) i = -1) && decide ((V 10) i = (nI j)) && decide (¬ (V 11) i = (vn w))) q = pN (olf F j (vn w)) q := pN_cg q fun i hi => by
  obtain ⟨e1, e2, e3⟩ := hC i hi
  show (decide (¬ (V 12) i = -1) && decide ((V 10) i = (nI j)) && decide (¬ (V 11) i = (vn w))) = (decide (F 3 (3 * i) = nI j) && decide (¬ F 3 (3 * i + 2) ≤ 0) && decide (¬ F 3 (3 * i + 1) = vn w))
  rw [e1, e2]
  have e4 : decide (¬ (V 12) i = -1) = decide (¬ F 3 (3 * i + 2) ≤ 0) := by
    rcases e3 with ⟨a, c⟩ | ⟨wl, a1, a2, a3⟩
    · rw [a, c]; rfl
    · rw [a2, a3, decide_eq_true (nI_nm1 (by omega)), decide_eq_true (by rw [nI_le0 (by omega)]; omega)]
  rw [e4, Bool.and_comm (decide (¬ F 3 (3 * i + 2) ≤ 0))]
set_option maxHeartbeats 1000000 in
theorem lip_all (l : Launch) (hfl : l.stackTraces = false) (D : va_G) (cI cZ cP : ClassId) {b o : Nat → Nat} {F : Nat → Nat → Int32} {n k td q : Nat} {ad : Nat → Nat → Nat} {XX : Nat → Nat → Int32} {YY : Nat → Nat → Nat → Int32} {I : Nat → Int32} {V : Nat → Nat → Int32} {P : Nat → Option Nat} (hG : GI n k td q ad XX YY I V P F) (hk : k ≤ 90) (j : Nat) (hj : j < n) : q_C l yL_isPaper wsL_isPaper ({ frames := 8, cells := 7, slots := 42, locals := 127 }) D cI cZ cP [.ref (b 0), .ref (o 0), .ref (o 4), .ref (o 7), .ref (o 3), .int (nI j)] (lw cI o F ++ (WK cI cZ cP n ad XX YY b I V P)) (S := Unit) (fun v _ => v = some (.int (nI 1))) (fun _ => lw cI o F ++ (WK cI cZ cP n ad XX YY b I V P)) (fun _ => False) 7 42 := by
  have hj8 := hG.j8 hj
  have hpj := hG.pj hj
  obtain ⟨hN, hC, hR, hZ, hP, hL⟩ := id hG
  obtain ⟨w, mm, kk, M0, M1, hl⟩ := hL j hj
  have hw := hl.w
  have hstw := hl.stw
  obtain ⟨⟨n1, n2, n3, n4, n5, n6, n7, n8, n9, n10, n11, n12, n13⟩, hW, hh, ⟨t1, t2, t3⟩, hd⟩ := id hl
  obtain ⟨fs_ha, ha⟩ := WKat (cI := cI) (cZ := cZ) (cP := cP) (n := n) (ad := ad) (XX := XX) (YY := YY) (b := b) (I := I) (V := V) (P := P)
  obtain ⟨hn8, htd, hq20, hI5, f41, hI7, f40, hI3, f43, iv, hiv1, hiv2, hI6, f42⟩ := id hN
  have hst0 : nI (sN (XX j) (YY j) mm kk) = 0 ↔ F 0 (8 * j) = 0 := by
    rw [nI_eq0 (by have := sN_le (X := XX j) (Y := YY j) (mm := mm) (kk := kk); omega), sN_0, n2]
  have h45 : 4 ≤ sN (XX j) (YY j) mm kk → ¬ F 0 (8 * j + 4) ≤ 0 := fun h => by
    have h5 := sN_le (X := XX j) (Y := YY j) (mm := mm) (kk := kk)
    have ha : ¬ XX j 2 = 0 ∧ ¬ XX j 10 = 0 := by
      rcases (show sN (XX j) (YY j) mm kk = 4 ∨ sN (XX j) (YY j) mm kk = 5 by omega) with e | e
      · obtain ⟨a1, a2, a3, a4, a5, a6⟩ := sN_4 e; exact ⟨a1, a5⟩
      · obtain ⟨a1, a2, a3, a4, a5, a6⟩ := sN_5 e; exact ⟨a1, a5⟩
    rcases (hd ha.1).2.1 with ⟨e, -⟩ | ⟨-, e, ⟨d, d1, d2, d3⟩, -⟩
    · exact absurd e ha.2
    · rw [e, d3, nI_le0 (by omega)]; omega
  have h3 : sN (XX j) (YY j) mm kk = 3 → F 0 (8 * j + 4) = 0 := fun h => by
    obtain ⟨a1, a2, a3, a4, a5⟩ := sN_3 h
    rcases (hd a1).2.1 with ⟨-, e⟩ | ⟨e, -⟩
    · exact e
    · exact absurd a5 e
  have hrg : rg (nI td) (nI 0) (I 7) = true := by rw [hI7]; exact rg_n (Nat.le_refl _) (by omega)
  have hol := congrArg nI (olf_pN (j := j) (w := w) hC)
  by_cases hw0 : w = 0
  · subst hw0
    have hnl : nl 0 (XX j 3) (I 7) (XX j 4) (I 6) = bI false := by simp only [nl]; rw [if_neg (fun e => absurd e.1 (by omega))]; rfl
    have hco1 : pL (fun i => decide (¬ nI td < YY j 7 i)) nI 0 = -1 := rfl
    exact cl_isPaper0 l D cI cZ cP o F (WK cI cZ cP n ad XX YY b I V P) ha j td q M0 M1 (sN (XX j) (YY j) mm kk) (wN (XX j) (YY j) mm kk) false  hj8 hq20 htd sN_le n12 n13 n4  f43 f40 n10 n11 hst0 hstw h45 h3 rfl (lk_step l hfl D cI cZ cP hj hj8 hpj rfl rfl hW) (lk_waitsFor l hfl D cI cZ cP hj hj8 hpj rfl rfl hW) (lk_inForce l hfl D cI cZ cP hj hj8 hpj rfl rfl n3 (by omega)) (q_C.vl hco1 (lk_inForceOn l hfl D cI cZ cP hj hj8 hpj rfl rfl n3 (by omega) (y := nI td) hrg)) (q_C.vl hnl (lk_isDue l hfl D cI cZ cP hj hj8 hpj rfl rfl n3 (by omega))) (q_C.vl hol (lk_outOfDate l hfl D cI cZ cP hj hj8 hpj rfl rfl n3 (by omega) hI3 (by omega))) (lk_text l hfl D cI cZ cP hj hj8 hpj rfl rfl n3 (by omega))
  · obtain ⟨w0, rfl⟩ : ∃ w0, w = w0 + 1 := ⟨w - 1, by omega⟩
    obtain ⟨d, ed, hd1, hd2⟩ := t1 w0 (by omega)
    obtain ⟨d0, rfl⟩ : ∃ d0, d = d0 + 1 := ⟨d - 1, by omega⟩
    have hnl : nl (w0 + 1) (XX j 3) (I 7) (XX j 4) (I 6) = bI (decide (¬ XX j 3 = 0 ∨ ¬ I 7 - XX j 4 < I 6)) := by
      simp only [nl]
      by_cases e : (¬ XX j 3 = 0 ∨ ¬ I 7 - XX j 4 < I 6)
      · rw [if_pos ⟨by omega, e⟩, decide_eq_true e]; rfl
      · rw [if_neg (fun h => e h.2), decide_eq_false e]; rfl
    have hco1 : pL (fun i => decide (¬ nI td < YY j 7 i)) nI (w0 + 1) = nI w0 := pL_last (decide_eq_true (by rw [ed, nI_ltI (by omega) (by omega)]; omega))
    have hco3 : pL (fun i => decide (¬ nI (d0 + 1) < YY j 7 i)) nI (w0 + 1) = nI w0 := pL_last (decide_eq_true (by rw [ed, nI_ltI (by omega) (by omega)]; omega))
    have hco2 : pL (fun i => decide (¬ nI d0 < YY j 7 i)) nI (w0 + 1) = vn w0 := by
      have e1 : pL (fun i => decide (¬ nI d0 < YY j 7 i)) nI (w0 + 1) = pL (fun i => decide (¬ nI d0 < YY j 7 i)) nI w0 := pL_no (decide_eq_false (by rw [ed, nI_ltI (by omega) (by omega)]; omega))
      rw [e1]
      cases w0 with
      | zero => rfl
      | succ w1 =>
        obtain ⟨d1, e1, f1, f2⟩ := t1 w1 (by omega)
        have h9 := t2 w1 (w1 + 1) (by omega) (by omega)
        rw [e1, ed, nI_ltI (by omega) (by omega)] at h9
        exact pL_last (decide_eq_true (by rw [e1, nI_ltI (by omega) (by omega)]; omega))
    exact cl_isPaper1 l D cI cZ cP o F (WK cI cZ cP n ad XX YY b I V P) ha j td q M0 M1 (sN (XX j) (YY j) mm kk) (wN (XX j) (YY j) mm kk) (decide (¬ XX j 3 = 0 ∨ ¬ I 7 - XX j 4 < I 6)) w0 d0 hj8 hq20 htd sN_le n12 n13 n4 (by omega) hd2 f43 f40 n10 n11 hst0 hstw h45 h3 (fun e => decide_eq_true (Or.inl (by rw [← n6, e]; exact nI1n))) (fun _ e => decide_eq_true (Or.inr (by rw [hI7, ← n5, hI6, ← f42]; exact e))) (fun e1 e2 => decide_eq_false (fun e3 => e3.elim (fun e4 => n7.elim (fun e5 => e4 e5) (fun e5 => e1 (n6.trans e5))) (fun e4 => e4 (by rw [hI7, ← n5, hI6, ← f42]; exact e2)))) (lk_step l hfl D cI cZ cP hj hj8 hpj rfl rfl hW) (lk_waitsFor l hfl D cI cZ cP hj hj8 hpj rfl rfl hW) (lk_inForce l hfl D cI cZ cP hj hj8 hpj rfl rfl n3 (by omega)) (q_C.vl hco1 (lk_inForceOn l hfl D cI cZ cP hj hj8 hpj rfl rfl n3 (by omega) (y := nI td) hrg)) (q_C.vl hnl (lk_isDue l hfl D cI cZ cP hj hj8 hpj rfl rfl n3 (by omega))) (q_C.vl hol (lk_outOfDate l hfl D cI cZ cP hj hj8 hpj rfl rfl n3 (by omega) hI3 (by omega))) (q_C.vl ed (lk_since l hfl D cI cZ cP hj hj8 hpj rfl rfl n3 (by omega) (by omega))) (q_C.vl hco2 (lk_inForceOn l hfl D cI cZ cP hj hj8 hpj rfl rfl n3 (by omega) (y := nI d0) (by rw [hI7]; exact rg_n (by omega) (by omega)))) (q_C.vl hco3 (lk_inForceOn l hfl D cI cZ cP hj hj8 hpj rfl rfl n3 (by omega) (y := nI (d0 + 1)) (by rw [hI7]; exact rg_n (by omega) (by omega))))
