/-! GOES ON: every case of it, over the invariant. -/
theorem st_of {X : Nat → Int32} {Y : Nat → Nat → Int32} {mm kk : Nat} (h : ¬ X 2 = 0) : stp mm (dNR Y mm) (dOR Y kk) (X 10) (dNC Y) = nI (sN X Y mm kk) := by
  have e := sN_nI (X := X) (Y := Y) (mm := mm) (kk := kk)
  rw [if_neg h] at e
  exact e
theorem LPb.done {X : Nat → Int32} {Y F : Nat → Nat → Int32} {j k td w mm kk M0 M1 p : Nat} (h : LPb X Y F j k td w mm kk M0 M1) (h1 : dNR Y mm = -1) (hp : p < 6) (hn : nam Y mm p = true) : ¬ Y 2 p = 0 := by
  obtain ⟨i, -, hi, e⟩ := (pX_if mm 0).mp hn
  have e : Y 1 i = nI p := of_decide_eq_true e
  rcases pF_first (f := okR (Y 1) (Y 2)) (v := Y 1) mm 0 with ⟨e2, -⟩ | ⟨q, e1, e2, e3, -, e5⟩
  · have e2 := e2 i (by omega) (by omega)
    rw [okR_nI e hp] at e2
    exact of_decide_eq_false e2
  · have h9 : pF (okR (Y 1) (Y 2)) (Y 1) mm 0 = -1 := h1
    obtain ⟨r, hr, er⟩ := h.2.1.2.2.2.2 q (by omega)
    rw [e5, er] at h9
    exact absurd h9 (nI_nm1 (by omega))
theorem dNC_done {Y : Nat → Nat → Int32} {p : Nat} (h : dNC Y = -1) (hp : p < 6) : Y 4 p = 0 ∨ ¬ Y 5 p = 0 := by
  rcases pF_first (f := okC (Y 4) (Y 5)) (v := nI) 6 0 with ⟨e, -⟩ | ⟨q, e1, e2, e3, -, e5⟩
  · have e := e p (by omega) (by omega)
    simp only [okC, Bool.and_eq_false_iff, decide_eq_false_iff_not] at e
    rcases e with e | e
    · exact Or.inl (Decidable.not_not.mp e)
    · exact Or.inr e
  · have h9 : pF (okC (Y 4) (Y 5)) nI 6 0 = -1 := h
    rw [e5] at h9
    exact absurd h9 (nI_nm1 (by omega))
theorem pE_cg {f g : Nat → Bool} : ∀ (n : Nat), (∀ q, q < n → f q = g q) → pE f n = pE g n
  | 0, _ => rfl
  | n + 1, h => by
    simp only [pE]
    rw [h n (by omega), pE_cg n (fun q hq => h q (by omega))]
theorem lmA_ca {M p : Nat} {V F : Nat → Nat → Int32} (hM : mk6 M (fun p => decide (¬ V 1 p = 0))) (hd : ∀ p, p < 6 → (V 2 p = -1 ∧ F 6 p = 0) ∨ ∃ d, d < 6 ∧ V 2 p = nI d ∧ F 6 p = nI (d + 1)) (hp : p < 6) : lmA M (F 6) p 6 = ca (V 1) (V 2) p 6 := by
  unfold lmA ca
  rw [hM.2 p hp]
  congr 1
  refine pE_cg 6 fun q hq => ?_
  rw [hM.2 q hq]
  congr 1
  rw [Bool.eq_iff_iff, decide_eq_true_eq, decide_eq_true_eq]
  rcases hd q hq with ⟨e1, e2⟩ | ⟨d, h1, e1, e2⟩
  · rw [e1, e2]
    constructor
    · intro h; have := (nI_eq0 (n := p + 1) (by omega)).mp h.symm; omega
    · intro h; exact absurd h.symm (nI_nm1 (by omega))
  · rw [e1, e2, nI_eq (by omega) (by omega), nI_eq (by omega) (by omega)]; omega
set_option maxHeartbeats 1000000 in
theorem go_0 (l : Launch) (hfl : l.stackTraces = false) (D : va_G) (cI cZ cP : ClassId) {b o : Nat → Nat} {F : Nat → Nat → Int32} {n k td q : Nat} {ad : Nat → Nat → Nat} {XX : Nat → Nat → Int32} {YY : Nat → Nat → Nat → Int32} {I : Nat → Int32} {V : Nat → Nat → Int32} {P : Nat → Option Nat} (hG : GI n k td q ad XX YY I V P F) (hk : k < 90) (j xx yy : Nat) (hj : j < n) (hx : xx < 2 ^ 30) (hy : yy < 2 ^ 30) {w mm kk M0 M1 : Nat} (hl : LPb (XX j) (YY j) F j k td w mm kk M0 M1) (hs : sN (XX j) (YY j) mm kk = 0) : q_C l yL_goesOn wsL_goesOn ({ frames := 11, cells := 18, slots := 108, locals := 197 }) D cI cZ cP [.ref (b 0), .int (nI j), .int (nI xx), .int (nI yy), .ref (o 0), .ref (o 5), .ref (o 6), .ref (o 4)] (lw cI o F ++ (WK cI cZ cP n ad XX YY b I V P)) (S := va_W) (fun v u => v = some (.int (nI 1)) ∧ KW cI cZ cP b o (k + 1) u) (fun u => u) (fun _ => False) 18 108 := by
  have hj8 := hG.j8 hj
  have hpj := hG.pj hj
  obtain ⟨hN, hC, hR, hZ, hP, hL⟩ := id hG
  have hw := hl.w
  obtain ⟨⟨n1, n2, n3, n4, n5, n6, n7, n8, n9, n10, n11, n12, n13⟩, hW, hh, ht, hd⟩ := id hl
  obtain ⟨hn8, htd, hq20, hI5, f41, hI7, f40, hI3, f43, iv, hiv1, hiv2, hI6, f42⟩ := hN
  obtain ⟨fs_ha, ha⟩ := WKat (cI := cI) (cZ := cZ) (cP := cP) (n := n) (ad := ad) (XX := XX) (YY := YY) (b := b) (I := I) (V := V) (P := P)
  have hp6 : xx % 6 < 6 := by omega
  have ei : ix (nI (xx % 6)) = xx % 6 := ix_nI (by omega)
  have h0 := sN_0.mp hs
  have hk1 := kW_3 (hd := (XX j) 2) (nm := nam (YY j) mm (xx % 6)) (rd := (YY j) 2 (ix (nI (xx % 6)))) (io := (XX j) 0) (nr := dNR (YY j) mm) hp6 (Or.inl h0)
  by_cases h1000 : td = 1000
  · subst h1000
    exact (lg5b l D cI cZ cP o F (WK cI cZ cP n ad XX YY b I V P) (WK cI cZ cP n ad XX YY b I V P) ha ha j xx yy (wN (XX j) (YY j) mm kk) hj8 hx hy 0 (by omega) f40 (q_C.vl (congrArg nI hs) (lk_step l hfl D cI cZ cP hj hj8 hpj rfl rfl hW)) (lk_waitsFor l hfl D cI cZ cP hj hj8 hpj rfl rfl hW) (la5n l hfl D cI cZ cP hj hj8 hpj rfl rfl hW (nI (xx % 6)) (nI 0) (fun h => absurd (hk1.symm.trans h) (by decide)) hk1) (la7a l hfl D cI cZ cP hj hj8 hpj rfl rfl hW hR.2.2.1 (nI (xx % 6)) (nI 1000) (by rw [hI7]; exact kAp_2 (Or.inl (Nat.le_refl _)) (by omega) (by omega))) (la8n l hfl D cI cZ cP hj hj8 hpj rfl rfl (nI (xx % 6)) (kCf_3 hp6 (Or.inl h0)))).kw (hG.same (Nat.le_succ k)).kw
  · exact (lg5a l D cI cZ cP o F (WK cI cZ cP n ad XX YY b I V P) (WK cI cZ cP n ad XX YY b I V P) ha ha j xx yy (wN (XX j) (YY j) mm kk) hj8 hx hy 0 (by omega) td (by omega) f40 (q_C.vl (congrArg nI hs) (lk_step l hfl D cI cZ cP hj hj8 hpj rfl rfl hW)) (lk_waitsFor l hfl D cI cZ cP hj hj8 hpj rfl rfl hW) (la5n l hfl D cI cZ cP hj hj8 hpj rfl rfl hW (nI (xx % 6)) (nI 0) (fun h => absurd (hk1.symm.trans h) (by decide)) hk1) (la7n l hfl D cI cZ cP hj hj8 hpj rfl rfl hW hR.2.2.1 (nI (xx % 6)) (nI (td + 1)) (by rw [hI7]; exact kAp_3 hp6 (by omega) (by omega) (Or.inl h0))) (la8n l hfl D cI cZ cP hj hj8 hpj rfl rfl (nI (xx % 6)) (kCf_3 hp6 (Or.inl h0)))).kw (hG.same (Nat.le_succ k)).kw

set_option maxHeartbeats 1000000 in
theorem go_5 (l : Launch) (hfl : l.stackTraces = false) (D : va_G) (cI cZ cP : ClassId) {b o : Nat → Nat} {F : Nat → Nat → Int32} {n k td q : Nat} {ad : Nat → Nat → Nat} {XX : Nat → Nat → Int32} {YY : Nat → Nat → Nat → Int32} {I : Nat → Int32} {V : Nat → Nat → Int32} {P : Nat → Option Nat} (hG : GI n k td q ad XX YY I V P F) (hk : k < 90) (j xx yy : Nat) (hj : j < n) (hx : xx < 2 ^ 30) (hy : yy < 2 ^ 30) {w mm kk M0 M1 : Nat} (hl : LPb (XX j) (YY j) F j k td w mm kk M0 M1) (hs : sN (XX j) (YY j) mm kk = 5) : q_C l yL_goesOn wsL_goesOn ({ frames := 11, cells := 18, slots := 108, locals := 197 }) D cI cZ cP [.ref (b 0), .int (nI j), .int (nI xx), .int (nI yy), .ref (o 0), .ref (o 5), .ref (o 6), .ref (o 4)] (lw cI o F ++ (WK cI cZ cP n ad XX YY b I V P)) (S := va_W) (fun v u => v = some (.int (nI 1)) ∧ KW cI cZ cP b o (k + 1) u) (fun u => u) (fun _ => False) 18 108 := by
  have hj8 := hG.j8 hj
  have hpj := hG.pj hj
  obtain ⟨hN, hC, hR, hZ, hP, hL⟩ := id hG
  have hw := hl.w
  obtain ⟨⟨n1, n2, n3, n4, n5, n6, n7, n8, n9, n10, n11, n12, n13⟩, hW, hh, ht, hd⟩ := id hl
  obtain ⟨hn8, htd, hq20, hI5, f41, hI7, f40, hI3, f43, iv, hiv1, hiv2, hI6, f42⟩ := hN
  obtain ⟨fs_ha, ha⟩ := WKat (cI := cI) (cZ := cZ) (cP := cP) (n := n) (ad := ad) (XX := XX) (YY := YY) (b := b) (I := I) (V := V) (P := P)
  have hp6 : xx % 6 < 6 := by omega
  have ei : ix (nI (xx % 6)) = xx % 6 := ix_nI (by omega)
  obtain ⟨a1, a2, a3, a4, a5, a6⟩ := sN_5 hs
  have hrv : nam (YY j) mm (xx % 6) = false ∨ ¬ YY j 2 (ix (nI (xx % 6))) = 0 := by
    rw [ei]
    by_cases e : nam (YY j) mm (xx % 6) = true
    · exact Or.inr (hl.done a3 hp6 e)
    · exact Or.inl (by simpa using e)
  have hcf : YY j 4 (ix (nI (xx % 6))) = 0 ∨ ¬ YY j 5 (ix (nI (xx % 6))) = 0 := by
    rw [ei]; exact dNC_done a6 hp6
  have hst : ¬ stp mm (dNR (YY j) mm) (dOR (YY j) kk) (XX j 10) (dNC (YY j)) = nI 3 := by
    rw [st_of a1, hs]; decide
  have hk1 := kW_3 (hd := (XX j) 2) (nm := nam (YY j) mm (xx % 6)) (rd := (YY j) 2 (ix (nI (xx % 6)))) (io := (XX j) 0) (nr := dNR (YY j) mm) hp6 (Or.inr (hrv.elim Or.inl (fun e => Or.inr (Or.inl e))))
  by_cases h1000 : td = 1000
  · subst h1000
    exact (lg5b l D cI cZ cP o F (WK cI cZ cP n ad XX YY b I V P) (WK cI cZ cP n ad XX YY b I V P) ha ha j xx yy (wN (XX j) (YY j) mm kk) hj8 hx hy 5 (by omega) f40 (q_C.vl (congrArg nI hs) (lk_step l hfl D cI cZ cP hj hj8 hpj rfl rfl hW)) (lk_waitsFor l hfl D cI cZ cP hj hj8 hpj rfl rfl hW) (la5n l hfl D cI cZ cP hj hj8 hpj rfl rfl hW (nI (xx % 6)) (nI 0) (fun h => absurd (hk1.symm.trans h) (by decide)) hk1) (la7a l hfl D cI cZ cP hj hj8 hpj rfl rfl hW hR.2.2.1 (nI (xx % 6)) (nI 1000) (by rw [hI7]; exact kAp_2 (Or.inl (Nat.le_refl _)) (by omega) (by omega))) (la8n l hfl D cI cZ cP hj hj8 hpj rfl rfl (nI (xx % 6)) (kCf_3 hp6 (Or.inr (Or.inr (hcf.elim Or.inl Or.inr)))))).kw (hG.same (Nat.le_succ k)).kw
  · exact (lg5a l D cI cZ cP o F (WK cI cZ cP n ad XX YY b I V P) (WK cI cZ cP n ad XX YY b I V P) ha ha j xx yy (wN (XX j) (YY j) mm kk) hj8 hx hy 5 (by omega) td (by omega) f40 (q_C.vl (congrArg nI hs) (lk_step l hfl D cI cZ cP hj hj8 hpj rfl rfl hW)) (lk_waitsFor l hfl D cI cZ cP hj hj8 hpj rfl rfl hW) (la5n l hfl D cI cZ cP hj hj8 hpj rfl rfl hW (nI (xx % 6)) (nI 0) (fun h => absurd (hk1.symm.trans h) (by decide)) hk1) (la7n l hfl D cI cZ cP hj hj8 hpj rfl rfl hW hR.2.2.1 (nI (xx % 6)) (nI (td + 1)) (by rw [hI7]; exact kAp_3 hp6 (by omega) (by omega) (Or.inr (Or.inl hst)))) (la8n l hfl D cI cZ cP hj hj8 hpj rfl rfl (nI (xx % 6)) (kCf_3 hp6 (Or.inr (Or.inr (hcf.elim Or.inl Or.inr)))))).kw (hG.same (Nat.le_succ k)).kw

set_option maxHeartbeats 1000000 in
theorem go_1 (l : Launch) (hfl : l.stackTraces = false) (D : va_G) (cI cZ cP : ClassId) {b o : Nat → Nat} {F : Nat → Nat → Int32} {n k td q : Nat} {ad : Nat → Nat → Nat} {XX : Nat → Nat → Int32} {YY : Nat → Nat → Nat → Int32} {I : Nat → Int32} {V : Nat → Nat → Int32} {P : Nat → Option Nat} (hG : GI n k td q ad XX YY I V P F) (hk : k < 90) (j xx yy : Nat) (hj : j < n) (hx : xx < 2 ^ 30) (hy : yy < 2 ^ 30) {w mm kk M0 M1 : Nat} (hl : LPb (XX j) (YY j) F j k td w mm kk M0 M1) (hs : sN (XX j) (YY j) mm kk = 1) : q_C l yL_goesOn wsL_goesOn ({ frames := 11, cells := 18, slots := 108, locals := 197 }) D cI cZ cP [.ref (b 0), .int (nI j), .int (nI xx), .int (nI yy), .ref (o 0), .ref (o 5), .ref (o 6), .ref (o 4)] (lw cI o F ++ (WK cI cZ cP n ad XX YY b I V P)) (S := va_W) (fun v u => v = some (.int (nI 1)) ∧ KW cI cZ cP b o (k + 1) u) (fun u => u) (fun _ => False) 18 108 := by
  have hj8 := hG.j8 hj
  have hpj := hG.pj hj
  obtain ⟨hN, hC, hR, hZ, hP, hL⟩ := id hG
  have hw := hl.w
  obtain ⟨⟨n1, n2, n3, n4, n5, n6, n7, n8, n9, n10, n11, n12, n13⟩, hW, hh, ht, hd⟩ := id hl
  obtain ⟨hn8, htd, hq20, hI5, f41, hI7, f40, hI3, f43, iv, hiv1, hiv2, hI6, f42⟩ := hN
  obtain ⟨fs_ha, ha⟩ := WKat (cI := cI) (cZ := cZ) (cP := cP) (n := n) (ad := ad) (XX := XX) (YY := YY) (b := b) (I := I) (V := V) (P := P)
  have hp6 : xx % 6 < 6 := by omega
  have ei : ix (nI (xx % 6)) = xx % 6 := ix_nI (by omega)
  obtain ⟨a1, a2⟩ := sN_1 hs
  by_cases hm : mm = 0
  · subst hm
    have hk1 := kW_3 (hd := (XX j) 2) (nm := nam (YY j) 0 (xx % 6)) (rd := (YY j) 2 (ix (nI (xx % 6)))) (io := (XX j) 0) (nr := dNR (YY j) 0) hp6 (Or.inr (Or.inl rfl))
    exact (lg1a l D cI cZ cP o F (WK cI cZ cP n ad XX YY b I V P) (WK cI cZ cP n ad XX YY b I V P) ha ha j xx yy  hj8 hx hy  (q_C.vl (congrArg nI hs) (lk_step l hfl D cI cZ cP hj hj8 hpj rfl rfl hW)) (q_C.vl (by rw [wN_is, if_pos hs]; rfl) (lk_waitsFor l hfl D cI cZ cP hj hj8 hpj rfl rfl hW)) (la5n l hfl D cI cZ cP hj hj8 hpj rfl rfl hW (nI (xx % 6)) (bI (decide ((nI (yy % 3)) = 0))) (fun h => absurd (hk1.symm.trans h) (by decide)) hk1)).kw (hG.same (Nat.le_succ k)).kw
  have hnr : ¬ dNR (YY j) mm = -1 := a2.resolve_left hm
  obtain ⟨i, p, hi, hp, edn, eY, h2⟩ := hl.next hnr
  have epp : ix (nI p) = p := ix_nI (by omega)
  have h10 := hl.not_ap (Or.inl hs)
  obtain ⟨hkm, hrv⟩ := hl.rv1 a1 hi hp eY h2
  have hm4 : mm ≤ 4 := hW.2.1
  have hk0 := kW_0 (hd := (XX j) 2) (nm := nam (YY j) mm p) (rd := (YY j) 2 (ix (nI p))) (io := (XX j) 0) (nr := dNR (YY j) mm) hp (fun e => e.elim a1 (fun e => e.elim (fun e => absurd (e.symm.trans ((pX_if mm 0).mpr ⟨i, by omega, by omega, decide_eq_true eY⟩)) (by decide)) (fun e => e.elim (fun e => e (by rw [epp]; exact h2)) (fun e => e.2 edn))))
  by_cases h3 : yy % 3 = 0
  · have ez : (bI (decide ((nI (yy % 3)) = 0))) = nI 1 := by rw [h3]; rfl
    have hz : ¬ (bI (decide ((nI (yy % 3)) = 0))) ≤ 0 := by rw [ez]; decide
    have hl2 := (hl.review hs hi hp eY h2).2
    have hG2 := hG.paper hj (agx.rf j F) (Nat.le_succ k) ⟨w, mm, (kk + 1), M0, M1, hl2.frame (agf.rf j _) (Nat.le_succ k) (Nat.le_refl td)⟩
    obtain ⟨fs_ha2, ha2⟩ := WKat (cI := cI) (cZ := cZ) (cP := cP) (n := n) (ad := ad) (XX := (va_up XX j (va_up (XX j) 9 (nI (kk + 1))))) (YY := (va_up YY j (va_up (va_up (YY j) 2 (upd (YY j 2) p (nI 1))) 3 (upd (YY j 3) kk (nI 0))))) (b := b) (I := I) (V := V) (P := P)
    have hca := la5r l hfl D cI cZ cP (n := n) (ad := ad) (XX := XX) (YY := YY) (b := b) (I := I) (V := V) (P := P) hj hj8 hpj rfl rfl hW (nI p) (bI (decide ((nI (yy % 3)) = 0))) (fun _ => by omega) hz hk0
    rw [epp] at hca
    have hk2 := kW_3 (hd := (va_up (XX j) 9 (nI (kk + 1))) 2) (nm := nam (va_up (va_up (YY j) 2 (upd (YY j 2) p (nI 1))) 3 (upd (YY j 3) kk (nI 0))) mm p) (rd := (va_up (va_up (YY j) 2 (upd (YY j 2) p (nI 1))) 3 (upd (YY j 3) kk (nI 0))) 2 (ix (nI p))) (io := (va_up (XX j) 9 (nI (kk + 1))) 0) (nr := dNR (va_up (va_up (YY j) 2 (upd (YY j 2) p (nI 1))) 3 (upd (YY j 3) kk (nI 0))) mm) hp (Or.inr (Or.inr (Or.inl (by rw [epp]; show ¬ upd (YY j 2) p (nI 1) p = 0; rw [pk_us]; exact nI1n))))
    have hs2 : (sN (va_up (XX j) 9 (nI (kk + 1))) (va_up (va_up (YY j) 2 (upd (YY j 2) p (nI 1))) 3 (upd (YY j 3) kk (nI 0))) mm (kk + 1) = 1 ∧ ¬ wN (va_up (XX j) 9 (nI (kk + 1))) (va_up (va_up (YY j) 2 (upd (YY j 2) p (nI 1))) 3 (upd (YY j 3) kk (nI 0))) mm (kk + 1) = nI p) ∨ sN (va_up (XX j) 9 (nI (kk + 1))) (va_up (va_up (YY j) 2 (upd (YY j 2) p (nI 1))) 3 (upd (YY j 3) kk (nI 0))) mm (kk + 1) = 2 ∨ (sN (va_up (XX j) 9 (nI (kk + 1))) (va_up (va_up (YY j) 2 (upd (YY j 2) p (nI 1))) 3 (upd (YY j 3) kk (nI 0))) mm (kk + 1) = 3 ∧ 0 < yy % 3) := by
      have hop : 0 < dOR (va_up (va_up (YY j) 2 (upd (YY j 2) p (nI 1))) 3 (upd (YY j 3) kk (nI 0))) (kk + 1) := by
        show 0 < pN (fun q => decide (upd (YY j 3) kk (nI 0) q = 0)) (kk + 1)
        simp only [pN]; rw [if_pos (by rw [pk_us]; rfl)]; omega
      by_cases e : dNR (va_up (va_up (YY j) 2 (upd (YY j 2) p (nI 1))) 3 (upd (YY j 3) kk (nI 0))) mm = -1
      · exact Or.inr (Or.inl (sN_is2 a1 hm e hop))
      · have e1 : sN (va_up (XX j) 9 (nI (kk + 1))) (va_up (va_up (YY j) 2 (upd (YY j 2) p (nI 1))) 3 (upd (YY j 3) kk (nI 0))) mm (kk + 1) = 1 := sN_is1 a1 (Or.inr e)
        exact Or.inl ⟨e1, by rw [wN_is, if_pos e1]; exact dNR_next hp hW.2.2.2.2⟩
    exact (lg1r l D cI cZ cP o F (WK cI cZ cP n ad XX YY b I V P) (WK cI cZ cP n ad (va_up XX j (va_up (XX j) 9 (nI (kk + 1)))) (va_up YY j (va_up (va_up (YY j) 2 (upd (YY j 2) p (nI 1))) 3 (upd (YY j 3) kk (nI 0)))) b I V P) ha ha2 j xx yy  hj8 hx hy p (sN (va_up (XX j) 9 (nI (kk + 1))) (va_up (va_up (YY j) 2 (upd (YY j 2) p (nI 1))) 3 (upd (YY j 3) kk (nI 0))) mm (kk + 1)) (wN (va_up (XX j) 9 (nI (kk + 1))) (va_up (va_up (YY j) 2 (upd (YY j 2) p (nI 1))) 3 (upd (YY j 3) kk (nI 0))) mm (kk + 1)) hp sN_le hs2 h3 kk (by omega) (q_C.vl (congrArg nI hs) (lk_step l hfl D cI cZ cP hj hj8 hpj rfl rfl hW)) (q_C.vl (by rw [wN_is, if_pos hs]; exact edn) (lk_waitsFor l hfl D cI cZ cP hj hj8 hpj rfl rfl hW)) hca (lk_step l hfl D cI cZ cP hj hj8 hpj (va_up_self _ _ _) (va_up_self _ _ _) hl2.2.1) (lk_waitsFor l hfl D cI cZ cP hj hj8 hpj (va_up_self _ _ _) (va_up_self _ _ _) hl2.2.1) (la5n l hfl D cI cZ cP hj hj8 hpj (va_up_self _ _ _) (va_up_self _ _ _) hl2.2.1 (nI p) (nI 0) (fun h => absurd (hk2.symm.trans h) (by decide)) hk2)).kw hG2.kw
  · have ez : (bI (decide ((nI (yy % 3)) = 0))) = nI 0 := by rw [decide_eq_false (fun e => h3 ((nI_eq0 (by omega)).mp e))]; rfl
    have hz : (bI (decide ((nI (yy % 3)) = 0))) ≤ 0 := by rw [ez]; decide
    have hl2 := (hl.review hs hi hp eY h2).1
    have hG2 := hG.paper hj (agx.rf j F) (Nat.le_succ k) ⟨w, mm, kk, M0, M1, hl2.frame (agf.rf j _) (Nat.le_succ k) (Nat.le_refl td)⟩
    obtain ⟨fs_ha2, ha2⟩ := WKat (cI := cI) (cZ := cZ) (cP := cP) (n := n) (ad := ad) (XX := (va_up XX j (XX j))) (YY := (va_up YY j (va_up (YY j) 2 (upd (YY j 2) p (nI 1))))) (b := b) (I := I) (V := V) (P := P)
    have hca := la5m l hfl D cI cZ cP (n := n) (ad := ad) (XX := XX) (YY := YY) (b := b) (I := I) (V := V) (P := P) hj hj8 hpj rfl rfl hW (nI p) (bI (decide ((nI (yy % 3)) = 0))) (fun _ => by omega) hz hk0
    rw [epp] at hca
    have hk2 := kW_3 (hd := (XX j) 2) (nm := nam (va_up (YY j) 2 (upd (YY j 2) p (nI 1))) mm p) (rd := (va_up (YY j) 2 (upd (YY j 2) p (nI 1))) 2 (ix (nI p))) (io := (XX j) 0) (nr := dNR (va_up (YY j) 2 (upd (YY j 2) p (nI 1))) mm) hp (Or.inr (Or.inr (Or.inl (by rw [epp]; show ¬ upd (YY j 2) p (nI 1) p = 0; rw [pk_us]; exact nI1n))))
    have hs2 : (sN (XX j) (va_up (YY j) 2 (upd (YY j 2) p (nI 1))) mm kk = 1 ∧ ¬ wN (XX j) (va_up (YY j) 2 (upd (YY j 2) p (nI 1))) mm kk = nI p) ∨ sN (XX j) (va_up (YY j) 2 (upd (YY j 2) p (nI 1))) mm kk = 2 ∨ (sN (XX j) (va_up (YY j) 2 (upd (YY j 2) p (nI 1))) mm kk = 3 ∧ 0 < yy % 3) := by
      by_cases e : dNR (va_up (YY j) 2 (upd (YY j 2) p (nI 1))) mm = -1
      · by_cases hop : 0 < dOR (YY j) kk
        · exact Or.inr (Or.inl (sN_is2 a1 hm e hop))
        · exact Or.inr (Or.inr ⟨sN_is3 a1 hm e (show dOR (YY j) kk = 0 by omega) h10, by omega⟩)
      · have e1 : sN (XX j) (va_up (YY j) 2 (upd (YY j 2) p (nI 1))) mm kk = 1 := sN_is1 a1 (Or.inr e)
        exact Or.inl ⟨e1, by rw [wN_is, if_pos e1]; exact dNR_next hp hW.2.2.2.2⟩
    exact (lg1n l D cI cZ cP o F (WK cI cZ cP n ad XX YY b I V P) (WK cI cZ cP n ad (va_up XX j (XX j)) (va_up YY j (va_up (YY j) 2 (upd (YY j 2) p (nI 1)))) b I V P) ha ha2 j xx yy  hj8 hx hy p (sN (XX j) (va_up (YY j) 2 (upd (YY j 2) p (nI 1))) mm kk) (wN (XX j) (va_up (YY j) 2 (upd (YY j 2) p (nI 1))) mm kk) hp sN_le hs2 h3 (q_C.vl (congrArg nI hs) (lk_step l hfl D cI cZ cP hj hj8 hpj rfl rfl hW)) (q_C.vl (by rw [wN_is, if_pos hs]; exact edn) (lk_waitsFor l hfl D cI cZ cP hj hj8 hpj rfl rfl hW)) hca (lk_step l hfl D cI cZ cP hj hj8 hpj (va_up_self _ _ _) (va_up_self _ _ _) hl2.2.1) (lk_waitsFor l hfl D cI cZ cP hj hj8 hpj (va_up_self _ _ _) (va_up_self _ _ _) hl2.2.1) (la5n l hfl D cI cZ cP hj hj8 hpj (va_up_self _ _ _) (va_up_self _ _ _) hl2.2.1 (nI p) (nI 0) (fun h => absurd (hk2.symm.trans h) (by decide)) hk2)).kw hG2.kw

set_option maxHeartbeats 1000000 in
theorem go_ans (l : Launch) (hfl : l.stackTraces = false) (D : va_G) (cI cZ cP : ClassId) {b : Nat → Nat} {n : Nat} {ad : Nat → Nat → Nat} {XX : Nat → Nat → Int32} {YY : Nat → Nat → Nat → Int32} {I : Nat → Int32} {V : Nat → Nat → Int32} {P : Nat → Option Nat} {j mm kk : Nat} (hj : j < n) (hj8 : j < 8) (hpj : P j = some (ad j 0)) (hW : wd (XX j) (YY j) mm kk) (h0 : ¬ XX j 2 = 0) (i : Nat) (hi : i < 4) : q_C l yL_asks wsL_asks ({ frames := 8, cells := 3, slots := 18, locals := 126 }) D cI cZ cP [.ref (b 0), .int (nI 6), .int (nI j), .int (nI i), .int (nI 0)] (WK cI cZ cP n ad XX (va_up YY j (va_up (YY j) 3 (y3 (YY j 3) kk i))) b I V P) (S := Unit) (fun v _ => v = some (.int (if i < kk then (if YY j 3 i = 0 then nI (opf (YY j 3) kk (i + 1)) else -8) else -7))) (fun _ => (WK cI cZ cP n ad XX (va_up YY j (va_up (YY j) 3 (y3 (YY j 3) kk (i + 1)))) b I V P)) (fun _ => False) 3 18 := by
  have hk4 : kk ≤ 4 := hW.2.2.2.1
  have ei : ix (nI i) = i := ix_nI (by omega)
  have hWi : wd (XX j) (va_up (YY j) 3 (y3 (YY j 3) kk i)) mm kk := hW
  have ey : (va_up (YY j) 3 (y3 (YY j 3) kk i)) 3 i = YY j 3 i := y3_ge (Nat.le_refl i)
  by_cases hik : i < kk
  · have hin : inr (nI i) kk = true := by simp only [inr, Bool.and_eq_true, decide_eq_true_eq]; exact ⟨nI_pos (by omega), (nI_ltI (by omega) (by omega)).mpr hik⟩
    by_cases hz : YY j 3 i = 0
    · rw [if_pos hik, if_pos hz]
      have h := la6y l hfl D cI cZ cP (n := n) (ad := ad) (XX := XX) (YY := (va_up YY j (va_up (YY j) 3 (y3 (YY j 3) kk i)))) (b := b) (I := I) (V := V) (P := P) hj hj8 hpj rfl (va_up_self _ _ _) (mm := mm) (kk := kk) hWi (nI i) (z9 := nI 0) (by rw [ei, ey]; simp only [kAnswer]; rw [if_neg h0, if_neg (by rw [hin]; decide), if_pos hz])
      rw [ei, up_same, up_up, up_up] at h
      have e1 : y3 (YY j 3) kk (i + 1) = upd (y3 (YY j 3) kk i) i (nI 1) := by simp only [y3]; rw [if_pos ⟨hik, hz⟩]
      rw [e1, opf_s ⟨hik, hz⟩]
      exact h
    · rw [if_pos hik, if_neg hz]
      have h := la6n l hfl D cI cZ cP (n := n) (ad := ad) (XX := XX) (YY := (va_up YY j (va_up (YY j) 3 (y3 (YY j 3) kk i)))) (b := b) (I := I) (V := V) (P := P) hj hj8 hpj rfl (va_up_self _ _ _) (mm := mm) (kk := kk) hWi (nI i) (z9 := nI 0) (by rw [ei, ey]; simp only [kAnswer]; rw [if_neg h0, if_neg (by rw [hin]; decide), if_neg hz])
      have e1 : y3 (YY j 3) kk (i + 1) = y3 (YY j 3) kk i := by simp only [y3]; rw [if_neg (fun e => hz e.2)]
      rw [e1]; exact h
  · rw [if_neg hik]
    have hin : inr (nI i) kk = false := Bool.eq_false_iff.mpr fun e => by simp only [inr, Bool.and_eq_true, decide_eq_true_eq] at e; exact hik ((nI_ltI (by omega) (by omega)).mp e.2)
    have h := la6b l hfl D cI cZ cP (n := n) (ad := ad) (XX := XX) (YY := (va_up YY j (va_up (YY j) 3 (y3 (YY j 3) kk i)))) (b := b) (I := I) (V := V) (P := P) hj hj8 hpj rfl (va_up_self _ _ _) (mm := mm) (kk := kk) hWi (nI i) (z9 := nI 0) (by simp only [kAnswer]; rw [if_neg h0, if_pos hin])
    have e1 : y3 (YY j 3) kk (i + 1) = y3 (YY j 3) kk i := by simp only [y3]; rw [if_neg (fun e => hik e.1)]
    rw [e1]; exact h

set_option maxHeartbeats 1000000 in
theorem go_2 (l : Launch) (hfl : l.stackTraces = false) (D : va_G) (cI cZ cP : ClassId) {b o : Nat → Nat} {F : Nat → Nat → Int32} {n k td q : Nat} {ad : Nat → Nat → Nat} {XX : Nat → Nat → Int32} {YY : Nat → Nat → Nat → Int32} {I : Nat → Int32} {V : Nat → Nat → Int32} {P : Nat → Option Nat} (hG : GI n k td q ad XX YY I V P F) (hk : k < 90) (j xx yy : Nat) (hj : j < n) (hx : xx < 2 ^ 30) (hy : yy < 2 ^ 30) {w mm kk M0 M1 : Nat} (hl : LPb (XX j) (YY j) F j k td w mm kk M0 M1) (hs : sN (XX j) (YY j) mm kk = 2) : q_C l yL_goesOn wsL_goesOn ({ frames := 11, cells := 18, slots := 108, locals := 197 }) D cI cZ cP [.ref (b 0), .int (nI j), .int (nI xx), .int (nI yy), .ref (o 0), .ref (o 5), .ref (o 6), .ref (o 4)] (lw cI o F ++ (WK cI cZ cP n ad XX YY b I V P)) (S := va_W) (fun v u => v = some (.int (nI 1)) ∧ KW cI cZ cP b o (k + 1) u) (fun u => u) (fun _ => False) 18 108 := by
  have hj8 := hG.j8 hj
  have hpj := hG.pj hj
  obtain ⟨hN, hC, hR, hZ, hP, hL⟩ := id hG
  have hw := hl.w
  obtain ⟨⟨n1, n2, n3, n4, n5, n6, n7, n8, n9, n10, n11, n12, n13⟩, hW, hh, ht, hd⟩ := id hl
  obtain ⟨hn8, htd, hq20, hI5, f41, hI7, f40, hI3, f43, iv, hiv1, hiv2, hI6, f42⟩ := hN
  obtain ⟨fs_ha, ha⟩ := WKat (cI := cI) (cZ := cZ) (cP := cP) (n := n) (ad := ad) (XX := XX) (YY := YY) (b := b) (I := I) (V := V) (P := P)
  have hp6 : xx % 6 < 6 := by omega
  have ei : ix (nI (xx % 6)) = xx % 6 := ix_nI (by omega)
  obtain ⟨a1, a2, a3, a4⟩ := sN_2 hs
  have h10 := hl.not_ap (Or.inr (Or.inl hs))
  have hk4 : kk ≤ 4 := hW.2.2.2.1
  have hl2 := hl.y3 h10 (y3 (YY j 3) kk 4)
  have hG2 := hG.paper hj (agx.rf j F) (Nat.le_succ k) ⟨w, mm, kk, M0, M1, hl2.frame (agf.rf j _) (Nat.le_succ k) (Nat.le_refl td)⟩
  rw [up_same] at hG2
  obtain ⟨fs_ha2, ha2⟩ := WKat (cI := cI) (cZ := cZ) (cP := cP) (n := n) (ad := ad) (XX := XX) (YY := (va_up YY j (va_up (YY j) 3 (y3 (YY j 3) kk 4)))) (b := b) (I := I) (V := V) (P := P)
  have hY0 : va_up (YY j) 3 (y3 (YY j 3) kk 0) = YY j := up_same (YY j) 3
  have hw0 : (WK cI cZ cP n ad XX (va_up YY j (va_up (YY j) 3 (y3 (YY j 3) kk 0))) b I V P) = (WK cI cZ cP n ad XX YY b I V P) := by rw [hY0, up_same]
  have hW4 : wd (XX j) (va_up (YY j) 3 (y3 (YY j 3) kk 4)) mm kk := hW
  have e3 : sN (XX j) (va_up (YY j) 3 (y3 (YY j 3) kk 4)) mm kk = 3 := sN_is3 a1 a2 a3 (pN_z.mpr fun q hq => decide_eq_false (y3_lt (by omega) hq)) h10
  have i4 : inr (nI 4) kk = false := Bool.eq_false_iff.mpr fun e => by simp only [inr, Bool.and_eq_true, decide_eq_true_eq] at e; have := (nI_ltI (by omega) (by omega)).mp e.2; omega
  have i5 : inr (-1) kk = false := by simp only [inr]; rw [decide_eq_false (by decide)]; rfl
  exact (lg2 l D cI cZ cP o F (WK cI cZ cP n ad XX YY b I V P) (WK cI cZ cP n ad XX YY b I V P) ha ha j xx yy (wN (XX j) (YY j) mm kk) hj8 hx hy (fun i => (WK cI cZ cP n ad XX (va_up YY j (va_up (YY j) 3 (y3 (YY j 3) kk i))) b I V P)) (fun i => if i < kk then (if YY j 3 i = 0 then nI (opf (YY j 3) kk (i + 1)) else -8) else -7) (opf (YY j 3) kk) hw0 rfl (opf_4 hk4 a4) (fun i _ => (opf_inv hk4 i).1) ha2 (fun i hi => by
    by_cases h1 : i < kk
    · by_cases h2 : YY j 3 i = 0
      · exact Or.inr (Or.inr ⟨opf (YY j 3) kk (i + 1), by show (if i < kk then (if YY j 3 i = 0 then nI (opf (YY j 3) kk (i + 1)) else -8) else -7) = _; rw [if_pos h1, if_pos h2], opf_lt hk4 ⟨h1, h2⟩, rfl⟩)
      · exact Or.inr (Or.inl ⟨by show (if i < kk then (if YY j 3 i = 0 then nI (opf (YY j 3) kk (i + 1)) else -8) else -7) = _; rw [if_pos h1, if_neg h2], by simp only [opf]; rw [if_neg (fun e => h2 e.2)]⟩)
    · exact Or.inl ⟨by show (if i < kk then (if YY j 3 i = 0 then nI (opf (YY j 3) kk (i + 1)) else -8) else -7) = _; rw [if_neg h1], by simp only [opf]; rw [if_neg (fun e => h1 e.1)]⟩) (q_C.vl (congrArg nI hs) (lk_step l hfl D cI cZ cP hj hj8 hpj rfl rfl hW)) (lk_waitsFor l hfl D cI cZ cP hj hj8 hpj rfl rfl hW) (fun i hi => go_ans l hfl D cI cZ cP hj hj8 hpj hW a1 i hi) (q_C.vl (congrArg nI e3) (lk_step l hfl D cI cZ cP (n := n) (ad := ad) (XX := XX) (YY := (va_up YY j (va_up (YY j) 3 (y3 (YY j 3) kk 4)))) (b := b) (I := I) (V := V) (P := P) hj hj8 hpj rfl (va_up_self _ _ _) hW4)) (la6b l hfl D cI cZ cP (n := n) (ad := ad) (XX := XX) (YY := (va_up YY j (va_up (YY j) 3 (y3 (YY j 3) kk 4)))) (b := b) (I := I) (V := V) (P := P) hj hj8 hpj rfl (va_up_self _ _ _) (mm := mm) (kk := kk) hW4 (nI 4) (by simp only [kAnswer]; rw [if_neg a1, if_pos i4])) (la6b l hfl D cI cZ cP (n := n) (ad := ad) (XX := XX) (YY := (va_up YY j (va_up (YY j) 3 (y3 (YY j 3) kk 4)))) (b := b) (I := I) (V := V) (P := P) hj hj8 hpj rfl (va_up_self _ _ _) (mm := mm) (kk := kk) hW4 (-1) (by simp only [kAnswer]; rw [if_neg a1, if_pos i5]))).kw hG2.kw

set_option maxHeartbeats 1000000 in
theorem go_3 (l : Launch) (hfl : l.stackTraces = false) (D : va_G) (cI cZ cP : ClassId) {b o : Nat → Nat} {F : Nat → Nat → Int32} {n k td q : Nat} {ad : Nat → Nat → Nat} {XX : Nat → Nat → Int32} {YY : Nat → Nat → Nat → Int32} {I : Nat → Int32} {V : Nat → Nat → Int32} {P : Nat → Option Nat} (hG : GI n k td q ad XX YY I V P F) (hk : k < 90) (j xx yy : Nat) (hj : j < n) (hx : xx < 2 ^ 30) (hy : yy < 2 ^ 30) {w mm kk M0 M1 : Nat} (hl : LPb (XX j) (YY j) F j k td w mm kk M0 M1) (hs : sN (XX j) (YY j) mm kk = 3) : q_C l yL_goesOn wsL_goesOn ({ frames := 11, cells := 18, slots := 108, locals := 197 }) D cI cZ cP [.ref (b 0), .int (nI j), .int (nI xx), .int (nI yy), .ref (o 0), .ref (o 5), .ref (o 6), .ref (o 4)] (lw cI o F ++ (WK cI cZ cP n ad XX YY b I V P)) (S := va_W) (fun v u => v = some (.int (nI 1)) ∧ KW cI cZ cP b o (k + 1) u) (fun u => u) (fun _ => False) 18 108 := by
  have hj8 := hG.j8 hj
  have hpj := hG.pj hj
  obtain ⟨hN, hC, hR, hZ, hP, hL⟩ := id hG
  have hw := hl.w
  obtain ⟨⟨n1, n2, n3, n4, n5, n6, n7, n8, n9, n10, n11, n12, n13⟩, hW, hh, ht, hd⟩ := id hl
  obtain ⟨hn8, htd, hq20, hI5, f41, hI7, f40, hI3, f43, iv, hiv1, hiv2, hI6, f42⟩ := hN
  obtain ⟨fs_ha, ha⟩ := WKat (cI := cI) (cZ := cZ) (cP := cP) (n := n) (ad := ad) (XX := XX) (YY := YY) (b := b) (I := I) (V := V) (P := P)
  have hp6 : xx % 6 < 6 := by omega
  have ei : ix (nI (xx % 6)) = xx % 6 := ix_nI (by omega)
  obtain ⟨a1, a2, a3, a4, a5⟩ := sN_3 hs
  obtain ⟨hR1, ⟨M, f51, hM⟩, hb, hdp⟩ := id hR
  obtain ⟨⟨d1, d2, d3⟩, d4, d5, d6, d7, d8, d9, d10⟩ := hd a1
  have hst : stp mm (dNR (YY j) mm) (dOR (YY j) kk) (XX j 10) (dNC (YY j)) = nI 3 := by rw [st_of a1, hs]
  have hca : ca (V 1) (V 2) (ix (nI (xx % 6))) 6 = lmA M (F 6) (xx % 6) 6 := by rw [ei]; exact (lmA_ca hM hdp hp6).symm
  have hF4 : F 0 (8 * j + 4) = 0 := by
    rcases d4 with ⟨-, a⟩ | ⟨a, -⟩
    · exact a
    · exact absurd a5 a
  have hlaw : GI n (k + 1) td q ad XX YY I V P (va_up F 0 (upd (F 0) (8 * j + 4) (nI 0))) := hG.law hj (agx.c0 (F := F) (j := j) (g := (upd (F 0) (8 * j + 4) (nI 0))) (fun q9 hq9 => by rw [pk_un (by omega)])) (Nat.le_succ k) ⟨w, mm, kk, M0, M1, hl.frame ⟨fun i hi => by
    show upd (F 0) (8 * j + 4) (nI 0) (8 * j + i) = F 0 (8 * j + i)
    by_cases e : i = 4
    · subst e; rw [pk_us, hF4]; rfl
    · rw [pk_un (by omega)], rfl, fun _ _ => rfl, fun _ _ => rfl⟩ (Nat.le_succ k) (Nat.le_refl td)⟩
  by_cases hd9 : td + 1 + yy % 9 ≤ 1000
  · by_cases hc : (XX j 2 = 0 ∨ ¬ stp mm (dNR (YY j) mm) (dOR (YY j) kk) (XX j 10) (dNC (YY j)) = nI 3 ∨ nI (xx % 6) = XX j 5 ∨ ca (V 1) (V 2) (ix (nI (xx % 6))) 6 = false)
    · have hno : ¬ nI (xx % 6) = F 0 (8 * j + 1) → lmA M (F 6) (xx % 6) 6 = true → False := fun e1 e2 => by
        rcases hc with e | e | e | e
        · exact a1 e
        · exact e hst
        · exact e1 (e.trans d1.symm)
        · rw [hca, e2] at e; cases e
      exact (lg3n l D cI cZ cP o F (WK cI cZ cP n ad XX YY b I V P) (WK cI cZ cP n ad XX YY b I V P) ha ha j xx yy (wN (XX j) (YY j) mm kk) hj8 hx hy td (by omega) M hM.1 f40 f51 hno hd9 (q_C.vl (congrArg nI hs) (lk_step l hfl D cI cZ cP hj hj8 hpj rfl rfl hW)) (lk_waitsFor l hfl D cI cZ cP hj hj8 hpj rfl rfl hW) (la7n l hfl D cI cZ cP hj hj8 hpj rfl rfl hW hb (nI (xx % 6)) (nI (td + 1 + (yy % 9))) (by rw [hI7]; exact kAp_3 hp6 (by omega) hd9 hc)) (la7a l hfl D cI cZ cP hj hj8 hpj rfl rfl hW hb (nI (xx % 6)) (nI td) (by rw [hI7]; exact kAp_2 (Or.inl (Nat.le_refl _)) (by omega) (by omega)))).kw hlaw.kw
    · have hau : ¬ nI (xx % 6) = F 0 (8 * j + 1) := fun e => hc (Or.inr (Or.inr (Or.inl (e.trans d1))))
      have hm : lmA M (F 6) (xx % 6) 6 = true := by
        rw [← hca]
        by_cases e : ca (V 1) (V 2) (ix (nI (xx % 6))) 6 = true
        · exact e
        · exact absurd (Or.inr (Or.inr (Or.inr (by simpa using e)))) hc
      obtain ⟨hl2, e1⟩ := hl.approve (G := (va_up F 0 (upd (F 0) (8 * j + 4) (nI (td + 1 + (yy % 9)))))) hs (d := td + 1 + yy % 9) (by omega) hd9 (fun i hi hne => (show upd (F 0) (8 * j + 4) (nI (td + 1 + (yy % 9))) (8 * j + i) = F 0 (8 * j + i) from by rw [pk_un (by omega)])) (show upd (F 0) (8 * j + 4) (nI (td + 1 + (yy % 9))) (8 * j + 4) = (nI (td + 1 + (yy % 9))) from pk_us) rfl rfl ⟨rfl, fun _ _ => rfl⟩
      have hG2 := hG.paper hj (agx.c0 (F := F) (j := j) (g := (upd (F 0) (8 * j + 4) (nI (td + 1 + (yy % 9))))) (fun q9 hq9 => by rw [pk_un (by omega)])) (Nat.le_succ k) ⟨w, mm, kk, M0, M1, hl2⟩
      obtain ⟨fs_ha2, ha2⟩ := WKat (cI := cI) (cZ := cZ) (cP := cP) (n := n) (ad := ad) (XX := (va_up XX j (va_up (va_up (XX j) 10 (nI 1)) 11 (nI (td + 1 + (yy % 9)))))) (YY := (va_up YY j (YY j))) (b := b) (I := I) (V := V) (P := P)
      exact (lg3y l D cI cZ cP o F (WK cI cZ cP n ad XX YY b I V P) (WK cI cZ cP n ad (va_up XX j (va_up (va_up (XX j) 10 (nI 1)) 11 (nI (td + 1 + (yy % 9))))) (va_up YY j (YY j)) b I V P) ha ha2 j xx yy (wN (XX j) (YY j) mm kk) hj8 hx hy td (by omega) M hM.1 f40 f51 (sN (va_up (va_up (XX j) 10 (nI 1)) 11 (nI (td + 1 + (yy % 9)))) (YY j) mm kk) e1 sN_le hau hm hd9 (q_C.vl (congrArg nI hs) (lk_step l hfl D cI cZ cP hj hj8 hpj rfl rfl hW)) (lk_waitsFor l hfl D cI cZ cP hj hj8 hpj rfl rfl hW) (la7y l hfl D cI cZ cP hj hj8 hpj rfl rfl hW hb (nI (xx % 6)) (nI (td + 1 + (yy % 9))) (by rw [hI7]; exact kAp_0 hp6 (by omega) hd9 hc)) (lk_step l hfl D cI cZ cP hj hj8 hpj (va_up_self _ _ _) (va_up_self _ _ _) hl2.2.1) (la7a l hfl D cI cZ cP hj hj8 hpj (va_up_self _ _ _) (va_up_self _ _ _) hl2.2.1 hb (nI (xx % 6)) (nI td) (by rw [hI7]; exact kAp_2 (Or.inl (Nat.le_refl _)) (by omega) (by omega)))).kw hG2.kw
  · exact (lg3d l D cI cZ cP o F (WK cI cZ cP n ad XX YY b I V P) (WK cI cZ cP n ad XX YY b I V P) ha ha j xx yy (wN (XX j) (YY j) mm kk) hj8 hx hy td (by omega) M hM.1 f40 f51 (by omega) (q_C.vl (congrArg nI hs) (lk_step l hfl D cI cZ cP hj hj8 hpj rfl rfl hW)) (lk_waitsFor l hfl D cI cZ cP hj hj8 hpj rfl rfl hW) (la7a l hfl D cI cZ cP hj hj8 hpj rfl rfl hW hb (nI (xx % 6)) (nI (td + 1 + (yy % 9))) (by rw [hI7]; exact kAp_2 (Or.inr (by omega)) (by omega) (by omega))) (la7a l hfl D cI cZ cP hj hj8 hpj rfl rfl hW hb (nI (xx % 6)) (nI td) (by rw [hI7]; exact kAp_2 (Or.inl (Nat.le_refl _)) (by omega) (by omega)))).kw hlaw.kw

set_option maxHeartbeats 1000000 in
theorem go_4 (l : Launch) (hfl : l.stackTraces = false) (D : va_G) (cI cZ cP : ClassId) {b o : Nat → Nat} {F : Nat → Nat → Int32} {n k td q : Nat} {ad : Nat → Nat → Nat} {XX : Nat → Nat → Int32} {YY : Nat → Nat → Nat → Int32} {I : Nat → Int32} {V : Nat → Nat → Int32} {P : Nat → Option Nat} (hG : GI n k td q ad XX YY I V P F) (hk : k < 90) (j xx yy : Nat) (hj : j < n) (hx : xx < 2 ^ 30) (hy : yy < 2 ^ 30) {w mm kk M0 M1 : Nat} (hl : LPb (XX j) (YY j) F j k td w mm kk M0 M1) (hs : sN (XX j) (YY j) mm kk = 4) : q_C l yL_goesOn wsL_goesOn ({ frames := 11, cells := 18, slots := 108, locals := 197 }) D cI cZ cP [.ref (b 0), .int (nI j), .int (nI xx), .int (nI yy), .ref (o 0), .ref (o 5), .ref (o 6), .ref (o 4)] (lw cI o F ++ (WK cI cZ cP n ad XX YY b I V P)) (S := va_W) (fun v u => v = some (.int (nI 1)) ∧ KW cI cZ cP b o (k + 1) u) (fun u => u) (fun _ => False) 18 108 := by
  have hj8 := hG.j8 hj
  have hpj := hG.pj hj
  obtain ⟨hN, hC, hR, hZ, hP, hL⟩ := id hG
  have hw := hl.w
  obtain ⟨⟨n1, n2, n3, n4, n5, n6, n7, n8, n9, n10, n11, n12, n13⟩, hW, hh, ht, hd⟩ := id hl
  obtain ⟨hn8, htd, hq20, hI5, f41, hI7, f40, hI3, f43, iv, hiv1, hiv2, hI6, f42⟩ := hN
  obtain ⟨fs_ha, ha⟩ := WKat (cI := cI) (cZ := cZ) (cP := cP) (n := n) (ad := ad) (XX := XX) (YY := YY) (b := b) (I := I) (V := V) (P := P)
  have hp6 : xx % 6 < 6 := by omega
  have ei : ix (nI (xx % 6)) = xx % 6 := ix_nI (by omega)
  obtain ⟨a1, a2, a3, a4, a5, a6⟩ := sN_4 hs
  obtain ⟨p, hp, edn, hr4, hc5, hfi⟩ := hl.nextC hs
  have epp : ix (nI p) = p := ix_nI (by omega)
  obtain ⟨hl2, t, ht6, et, hcase⟩ := hl.confirm hs hp hr4 hc5 hfi
  have hG2 := hG.paper hj (agx.rf j F) (Nat.le_succ k) ⟨w, mm, kk, M0, M1, hl2.frame (agf.rf j _) (Nat.le_succ k) (Nat.le_refl td)⟩
  obtain ⟨fs_ha2, ha2⟩ := WKat (cI := cI) (cZ := cZ) (cP := cP) (n := n) (ad := ad) (XX := (va_up XX j (XX j))) (YY := (va_up YY j (va_up (YY j) 5 (upd (YY j 5) p (nI 1))))) (b := b) (I := I) (V := V) (P := P)
  have hca := la8y l hfl D cI cZ cP (n := n) (ad := ad) (XX := XX) (YY := YY) (b := b) (I := I) (V := V) (P := P) hj hj8 hpj rfl rfl (nI p) (z9 := nI 0) (kCf_0 hp (fun e => e.elim a1 (fun e => e.elim a5 (fun e => e.elim (fun e => hr4 (by rw [epp] at e; exact e)) (fun e => e (by rw [epp]; exact hc5))))))
  rw [epp] at hca
  have hca := q_C.vl et hca
  have hwt : wN (XX j) (YY j) mm kk = nI p := by rw [wN_is, hs]; exact edn
  have hk2 := kCf_3 (hd := XX j 2) (ap := XX j 10) (re := (va_up (YY j) 5 (upd (YY j 5) p (nI 1))) 4 (ix (nI p))) (cf := (va_up (YY j) 5 (upd (YY j 5) p (nI 1))) 5 (ix (nI p))) hp (Or.inr (Or.inr (Or.inr (by rw [epp]; show ¬ upd (YY j 5) p (nI 1) p = 0; rw [pk_us]; exact nI1n))))
  rcases hcase with ⟨rfl, e1⟩ | ⟨ht0, e1, p8, hp8, hp86, e8⟩
  · exact (lg4a l D cI cZ cP o F (WK cI cZ cP n ad XX YY b I V P) (WK cI cZ cP n ad (va_up XX j (XX j)) (va_up YY j (va_up (YY j) 5 (upd (YY j 5) p (nI 1)))) b I V P) ha ha2 j xx yy  hj8 hx hy p 0 hp (q_C.vl (congrArg nI hs) (lk_step l hfl D cI cZ cP hj hj8 hpj rfl rfl hW)) (q_C.vl hwt (lk_waitsFor l hfl D cI cZ cP hj hj8 hpj rfl rfl hW)) hca (la8n l hfl D cI cZ cP hj hj8 hpj (va_up_self _ _ _) (va_up_self _ _ _) (nI p) hk2) (q_C.vl (congrArg nI e1) (lk_step l hfl D cI cZ cP hj hj8 hpj (va_up_self _ _ _) (va_up_self _ _ _) hl2.2.1))).kw hG2.kw
  · exact (lg4b l D cI cZ cP o F (WK cI cZ cP n ad XX YY b I V P) (WK cI cZ cP n ad (va_up XX j (XX j)) (va_up YY j (va_up (YY j) 5 (upd (YY j 5) p (nI 1)))) b I V P) ha ha2 j xx yy  hj8 hx hy p t hp p8 hp8 hp86 ht0 ht6 (q_C.vl (congrArg nI hs) (lk_step l hfl D cI cZ cP hj hj8 hpj rfl rfl hW)) (q_C.vl hwt (lk_waitsFor l hfl D cI cZ cP hj hj8 hpj rfl rfl hW)) hca (la8n l hfl D cI cZ cP hj hj8 hpj (va_up_self _ _ _) (va_up_self _ _ _) (nI p) hk2) (q_C.vl (congrArg nI e1) (lk_step l hfl D cI cZ cP hj hj8 hpj (va_up_self _ _ _) (va_up_self _ _ _) hl2.2.1)) (q_C.vl (by rw [wN_is, e1]; exact e8) (lk_waitsFor l hfl D cI cZ cP hj hj8 hpj (va_up_self _ _ _) (va_up_self _ _ _) hl2.2.1))).kw hG2.kw

set_option maxHeartbeats 1000000 in
theorem go_all (l : Launch) (hfl : l.stackTraces = false) (D : va_G) (cI cZ cP : ClassId) {b o : Nat → Nat} {F : Nat → Nat → Int32} {n k td q : Nat} {ad : Nat → Nat → Nat} {XX : Nat → Nat → Int32} {YY : Nat → Nat → Nat → Int32} {I : Nat → Int32} {V : Nat → Nat → Int32} {P : Nat → Option Nat} (hG : GI n k td q ad XX YY I V P F) (hk : k < 90) (j xx yy : Nat) (hj : j < n) (hx : xx < 2 ^ 30) (hy : yy < 2 ^ 30) : q_C l yL_goesOn wsL_goesOn ({ frames := 11, cells := 18, slots := 108, locals := 197 }) D cI cZ cP [.ref (b 0), .int (nI j), .int (nI xx), .int (nI yy), .ref (o 0), .ref (o 5), .ref (o 6), .ref (o 4)] (lw cI o F ++ (WK cI cZ cP n ad XX YY b I V P)) (S := va_W) (fun v u => v = some (.int (nI 1)) ∧ KW cI cZ cP b o (k + 1) u) (fun u => u) (fun _ => False) 18 108 := by
  obtain ⟨w, mm, kk, M0, M1, hl⟩ := hG.2.2.2.2.2 j hj
  have hs5 := sN_le (X := XX j) (Y := YY j) (mm := mm) (kk := kk)
  rcases (show sN (XX j) (YY j) mm kk = 0 ∨ sN (XX j) (YY j) mm kk = 1 ∨ sN (XX j) (YY j) mm kk = 2 ∨ sN (XX j) (YY j) mm kk = 3 ∨ sN (XX j) (YY j) mm kk = 4 ∨ sN (XX j) (YY j) mm kk = 5 by omega) with h | h | h | h | h | h
  · exact go_0 l hfl D cI cZ cP hG hk j xx yy hj hx hy hl h
  · exact go_1 l hfl D cI cZ cP hG hk j xx yy hj hx hy hl h
  · exact go_2 l hfl D cI cZ cP hG hk j xx yy hj hx hy hl h
  · exact go_3 l hfl D cI cZ cP hG hk j xx yy hj hx hy hl h
  · exact go_4 l hfl D cI cZ cP hG hk j xx yy hj hx hy hl h
  · exact go_5 l hfl D cI cZ cP hG hk j xx yy hj hx hy hl h
