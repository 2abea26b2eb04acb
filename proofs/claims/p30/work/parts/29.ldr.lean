/-! DRAFTS: every case of it, over the invariant. -/
theorem dNR_fresh {Y : Nat → Nat → Int32} {mm : Nat} (hm : 0 < mm) (h5 : ∀ i, i < mm → ∃ p, p < 6 ∧ Y 1 i = nI p) (hz : ∀ p, p < 6 → yChange Y 2 p = nI 0) : ¬ dNR (yChange Y) mm = -1 := by
  rcases pF_first (f := okR (yChange Y 1) (yChange Y 2)) (v := yChange Y 1) mm 0 with ⟨e, -⟩ | ⟨q, e1, e2, e3, -, e5⟩
  · obtain ⟨p, hp, ep⟩ := h5 0 hm
    have e := e 0 (by omega) (by omega)
    rw [okR_nI (show yChange Y 1 0 = nI p from ep) hp, hz p hp] at e
    cases e
  · obtain ⟨p, hp, ep⟩ := h5 q (by omega)
    show ¬ pF (okR (yChange Y 1) (yChange Y 2)) (yChange Y 1) mm 0 = -1
    rw [e5, show yChange Y 1 q = nI p from ep]
    exact nI_nm1 (by omega)
set_option maxHeartbeats 1000000 in
theorem dr_0 (l : Launch) (hfl : l.stackTraces = false) (D : va_G) (cI cZ cP : ClassId) {b o : Nat → Nat} {F : Nat → Nat → Int32} {n k td q : Nat} {ad : Nat → Nat → Nat} {XX : Nat → Nat → Int32} {YY : Nat → Nat → Nat → Int32} {I : Nat → Int32} {V : Nat → Nat → Int32} {P : Nat → Option Nat} (hG : GI n k td q ad XX YY I V P F) (hk : k < 90) (j xx yy : Nat) (hj : j < n) (hx : xx < 2 ^ 30) (hy : yy < 2 ^ 30) : q_C l yL_drafts wsL_drafts ({ frames := 11, cells := 3, slots := 18, locals := 196 }) D cI cZ cP [.ref (b 0), .int (nI 0), .int (nI j), .int (nI xx), .int (nI yy), .ref (o 0), .ref (o 5), .ref (o 4), .ref (o 7)] (lw cI o F ++ (WK cI cZ cP n ad XX YY b I V P)) (S := va_W) (fun v u => v = some (.int (nI 1)) ∧ KW cI cZ cP b o (k + 1) u) (fun u => u) (fun _ => False) 3 18 := by
  have hj8 := hG.j8 hj
  have hpj := hG.pj hj
  obtain ⟨hN, hC, hR, hZ, hP, hL⟩ := id hG
  obtain ⟨w, mm, kk, M0, M1, hl⟩ := hL j hj
  have hw := hl.w
  obtain ⟨⟨n1, n2, n3, n4, n5, n6, n7, n8, n9, n10, n11, n12, n13⟩, hW, hh, ht, hd⟩ := id hl
  obtain ⟨fs_ha, ha⟩ := WKat (cI := cI) (cZ := cZ) (cP := cP) (n := n) (ad := ad) (XX := XX) (YY := YY) (b := b) (I := I) (V := V) (P := P)
  by_cases h0 : XX j 2 = 0
  · have hl2 := hl.draft (G := (va_up (va_up F 0 (upd (upd (upd (upd (upd (F 0) (8 * j) (nI 1)) (8 * j + 1) (nI (xx % 6))) (8 * j + 2) (nI (yy % 20))) (8 * j + 3) (nI 1)) (8 * j + 4) (nI 0))) 7 (upd (upd (F 7) (2 * j) (nI 0)) (2 * j + 1) (nI 0)))) (nI (xx % 6)) (nI (yy % 20)) (show (upd (upd (upd (upd (upd (F 0) (8 * j) (nI 1)) (8 * j + 1) (nI (xx % 6))) (8 * j + 2) (nI (yy % 20))) (8 * j + 3) (nI 1)) (8 * j + 4) (nI 0)) (8 * j) = (nI 1) from by rw [pk_un (by omega), pk_un (by omega), pk_un (by omega), pk_un (by omega), pk_us]) (show (upd (upd (upd (upd (upd (F 0) (8 * j) (nI 1)) (8 * j + 1) (nI (xx % 6))) (8 * j + 2) (nI (yy % 20))) (8 * j + 3) (nI 1)) (8 * j + 4) (nI 0)) (8 * j + 1) = (nI (xx % 6)) from by rw [pk_un (by omega), pk_un (by omega), pk_un (by omega), pk_us]) (show (upd (upd (upd (upd (upd (F 0) (8 * j) (nI 1)) (8 * j + 1) (nI (xx % 6))) (8 * j + 2) (nI (yy % 20))) (8 * j + 3) (nI 1)) (8 * j + 4) (nI 0)) (8 * j + 2) = (nI (yy % 20)) from by rw [pk_un (by omega), pk_un (by omega), pk_us]) (show (upd (upd (upd (upd (upd (F 0) (8 * j) (nI 1)) (8 * j + 1) (nI (xx % 6))) (8 * j + 2) (nI (yy % 20))) (8 * j + 3) (nI 1)) (8 * j + 4) (nI 0)) (8 * j + 3) = (nI 1) from by rw [pk_un (by omega), pk_us]) (show (upd (upd (upd (upd (upd (F 0) (8 * j) (nI 1)) (8 * j + 1) (nI (xx % 6))) (8 * j + 2) (nI (yy % 20))) (8 * j + 3) (nI 1)) (8 * j + 4) (nI 0)) (8 * j + 4) = 0 from by rw [pk_us]; rfl) ⟨(show (upd (upd (upd (upd (upd (F 0) (8 * j) (nI 1)) (8 * j + 1) (nI (xx % 6))) (8 * j + 2) (nI (yy % 20))) (8 * j + 3) (nI 1)) (8 * j + 4) (nI 0)) (8 * j + 5) = ((F 0) (8 * j + 5)) from by rw [pk_un (by omega), pk_un (by omega), pk_un (by omega), pk_un (by omega), pk_un (by omega)]), (show (upd (upd (upd (upd (upd (F 0) (8 * j) (nI 1)) (8 * j + 1) (nI (xx % 6))) (8 * j + 2) (nI (yy % 20))) (8 * j + 3) (nI 1)) (8 * j + 4) (nI 0)) (8 * j + 6) = ((F 0) (8 * j + 6)) from by rw [pk_un (by omega), pk_un (by omega), pk_un (by omega), pk_un (by omega), pk_un (by omega)]), (show (upd (upd (upd (upd (upd (F 0) (8 * j) (nI 1)) (8 * j + 1) (nI (xx % 6))) (8 * j + 2) (nI (yy % 20))) (8 * j + 3) (nI 1)) (8 * j + 4) (nI 0)) (8 * j + 7) = ((F 0) (8 * j + 7)) from by rw [pk_un (by omega), pk_un (by omega), pk_un (by omega), pk_un (by omega), pk_un (by omega)])⟩ (show (upd (upd (F 7) (2 * j) (nI 0)) (2 * j + 1) (nI 0)) (2 * j) = (nI 0) from by rw [pk_un (by omega), pk_us]) (show (upd (upd (F 7) (2 * j) (nI 0)) (2 * j + 1) (nI 0)) (2 * j + 1) = (nI 0) from by rw [pk_us]) ⟨rfl, fun _ _ => rfl⟩
    have hG2 := hG.paper hj (agx.c07 (F := F) (j := j) (g := (upd (upd (upd (upd (upd (F 0) (8 * j) (nI 1)) (8 * j + 1) (nI (xx % 6))) (8 * j + 2) (nI (yy % 20))) (8 * j + 3) (nI 1)) (8 * j + 4) (nI 0))) (g7 := (upd (upd (F 7) (2 * j) (nI 0)) (2 * j + 1) (nI 0))) (fun q9 hq9 => by rw [pk_un (by omega), pk_un (by omega), pk_un (by omega), pk_un (by omega), pk_un (by omega)]) (fun q9 hq9 => by rw [pk_un (by omega), pk_un (by omega)])) (Nat.le_succ k) ⟨w, 0, 0, 0, 0, hl2.frame (agf.rf j _) (Nat.le_succ k) (Nat.le_refl td)⟩
    obtain ⟨fs_ha2, ha2⟩ := WKat (cI := cI) (cZ := cZ) (cP := cP) (n := n) (ad := ad) (XX := (va_up XX j (xDraft (XX j) (nI (xx % 6)) (nI (yy % 20))))) (YY := (va_up YY j (yDraft (YY j)))) (b := b) (I := I) (V := V) (P := P)
    have e1 : sN (xDraft (XX j) (nI (xx % 6)) (nI (yy % 20))) (yDraft (YY j)) 0 0 = 1 := sN_is1 nI1n (Or.inl rfl)
    exact (ld0y l D cI cZ cP o F (WK cI cZ cP n ad XX YY b I V P) (WK cI cZ cP n ad (va_up XX j (xDraft (XX j) (nI (xx % 6)) (nI (yy % 20)))) (va_up YY j (yDraft (YY j))) b I V P) ha ha2 j xx yy (wN (XX j) (YY j) mm kk) hj8 hx hy  (q_C.vl (congrArg nI (sN_0.mpr h0)) (lk_step l hfl D cI cZ cP hj hj8 hpj rfl rfl hW)) (lk_waitsFor l hfl D cI cZ cP hj hj8 hpj rfl rfl hW) (la0y l hfl D cI cZ cP hj hj8 hpj rfl rfl (nI (xx % 6)) (nI (yy % 20)) (kD_0 (by omega) (by omega) h0)) (q_C.vl (congrArg nI e1) (lk_step l hfl D cI cZ cP hj hj8 hpj (va_up_self _ _ _) (va_up_self _ _ _) hl2.2.1)) (q_C.vl (by rw [wN_is, if_pos e1]; rfl) (lk_waitsFor l hfl D cI cZ cP hj hj8 hpj (va_up_self _ _ _) (va_up_self _ _ _) hl2.2.1))).kw hG2.kw
  · have hs : ¬ sN (XX j) (YY j) mm kk = 0 := fun e => h0 (sN_0.mp e)
    exact (ld0n l D cI cZ cP o F (WK cI cZ cP n ad XX YY b I V P) (WK cI cZ cP n ad XX YY b I V P) ha ha j xx yy (wN (XX j) (YY j) mm kk) hj8 hx hy (sN (XX j) (YY j) mm kk) (by omega) sN_le (lk_step l hfl D cI cZ cP hj hj8 hpj rfl rfl hW) (lk_waitsFor l hfl D cI cZ cP hj hj8 hpj rfl rfl hW) (la0n l hfl D cI cZ cP hj hj8 hpj rfl rfl (nI (xx % 6)) (nI (yy % 20)) (kD_3 (by omega) (by omega) h0))).kw (hG.same (Nat.le_succ k)).kw

set_option maxHeartbeats 1000000 in
theorem dr_1 (l : Launch) (hfl : l.stackTraces = false) (D : va_G) (cI cZ cP : ClassId) {b o : Nat → Nat} {F : Nat → Nat → Int32} {n k td q : Nat} {ad : Nat → Nat → Nat} {XX : Nat → Nat → Int32} {YY : Nat → Nat → Nat → Int32} {I : Nat → Int32} {V : Nat → Nat → Int32} {P : Nat → Option Nat} (hG : GI n k td q ad XX YY I V P F) (hk : k < 90) (j xx yy : Nat) (hj : j < n) (hx : xx < 2 ^ 30) (hy : yy < 2 ^ 30) : q_C l yL_drafts wsL_drafts ({ frames := 11, cells := 3, slots := 18, locals := 196 }) D cI cZ cP [.ref (b 0), .int (nI 1), .int (nI j), .int (nI xx), .int (nI yy), .ref (o 0), .ref (o 5), .ref (o 4), .ref (o 7)] (lw cI o F ++ (WK cI cZ cP n ad XX YY b I V P)) (S := va_W) (fun v u => v = some (.int (nI 1)) ∧ KW cI cZ cP b o (k + 1) u) (fun u => u) (fun _ => False) 3 18 := by
  have hj8 := hG.j8 hj
  have hpj := hG.pj hj
  obtain ⟨hN, hC, hR, hZ, hP, hL⟩ := id hG
  obtain ⟨w, mm, kk, M0, M1, hl⟩ := hL j hj
  have hw := hl.w
  obtain ⟨⟨n1, n2, n3, n4, n5, n6, n7, n8, n9, n10, n11, n12, n13⟩, hW, hh, ht, hd⟩ := id hl
  obtain ⟨fs_ha, ha⟩ := WKat (cI := cI) (cZ := cZ) (cP := cP) (n := n) (ad := ad) (XX := XX) (YY := YY) (b := b) (I := I) (V := V) (P := P)
  by_cases h0 : XX j 2 = 0
  · exact (ld1n0 l D cI cZ cP o F (WK cI cZ cP n ad XX YY b I V P) (WK cI cZ cP n ad XX YY b I V P) ha ha j xx yy (wN (XX j) (YY j) mm kk) hj8 hx hy  (q_C.vl (congrArg nI (sN_0.mpr h0)) (lk_step l hfl D cI cZ cP hj hj8 hpj rfl rfl hW)) (lk_waitsFor l hfl D cI cZ cP hj hj8 hpj rfl rfl hW) (la1n l hfl D cI cZ cP hj hj8 hpj rfl rfl (nI (yy % 20)) (kC_3 (by omega) (Or.inl h0)))).kw (hG.same (Nat.le_succ k)).kw
  · have hs : ¬ sN (XX j) (YY j) mm kk = 0 := fun e => h0 (sN_0.mp e)
    obtain ⟨⟨d1, d2, d3⟩, d4, d5, d6, d7, d8, d9, d10⟩ := hd h0
    by_cases he : F 0 (8 * j + 2) = nI (yy % 20)
    · exact (ld1n1 l D cI cZ cP o F (WK cI cZ cP n ad XX YY b I V P) (WK cI cZ cP n ad XX YY b I V P) ha ha j xx yy (wN (XX j) (YY j) mm kk) hj8 hx hy (sN (XX j) (YY j) mm kk) (by omega) sN_le he (lk_step l hfl D cI cZ cP hj hj8 hpj rfl rfl hW) (lk_waitsFor l hfl D cI cZ cP hj hj8 hpj rfl rfl hW) (la1n l hfl D cI cZ cP hj hj8 hpj rfl rfl (nI (yy % 20)) (kC_3 (by omega) (Or.inr (d2.symm.trans he))))).kw (hG.same (Nat.le_succ k)).kw
    · have hl2 := hl.change (G := (va_up F 0 (upd (upd (upd (F 0) (8 * j + 2) (nI (yy % 20))) (8 * j + 3) (F 0 (8 * j + 3) + nI 1)) (8 * j + 4) (nI 0)))) h0 (nI (yy % 20)) (show (upd (upd (upd (F 0) (8 * j + 2) (nI (yy % 20))) (8 * j + 3) (F 0 (8 * j + 3) + nI 1)) (8 * j + 4) (nI 0)) (8 * j) = ((F 0) (8 * j)) from by rw [pk_un (by omega), pk_un (by omega), pk_un (by omega)]) (show (upd (upd (upd (F 0) (8 * j + 2) (nI (yy % 20))) (8 * j + 3) (F 0 (8 * j + 3) + nI 1)) (8 * j + 4) (nI 0)) (8 * j + 1) = ((F 0) (8 * j + 1)) from by rw [pk_un (by omega), pk_un (by omega), pk_un (by omega)]) (show (upd (upd (upd (F 0) (8 * j + 2) (nI (yy % 20))) (8 * j + 3) (F 0 (8 * j + 3) + nI 1)) (8 * j + 4) (nI 0)) (8 * j + 2) = (nI (yy % 20)) from by rw [pk_un (by omega), pk_un (by omega), pk_us]) (show (upd (upd (upd (F 0) (8 * j + 2) (nI (yy % 20))) (8 * j + 3) (F 0 (8 * j + 3) + nI 1)) (8 * j + 4) (nI 0)) (8 * j + 3) = (F 0 (8 * j + 3) + nI 1) from by rw [pk_un (by omega), pk_us]) (show (upd (upd (upd (F 0) (8 * j + 2) (nI (yy % 20))) (8 * j + 3) (F 0 (8 * j + 3) + nI 1)) (8 * j + 4) (nI 0)) (8 * j + 4) = 0 from by rw [pk_us]; rfl) ⟨(show (upd (upd (upd (F 0) (8 * j + 2) (nI (yy % 20))) (8 * j + 3) (F 0 (8 * j + 3) + nI 1)) (8 * j + 4) (nI 0)) (8 * j + 5) = ((F 0) (8 * j + 5)) from by rw [pk_un (by omega), pk_un (by omega), pk_un (by omega)]), (show (upd (upd (upd (F 0) (8 * j + 2) (nI (yy % 20))) (8 * j + 3) (F 0 (8 * j + 3) + nI 1)) (8 * j + 4) (nI 0)) (8 * j + 6) = ((F 0) (8 * j + 6)) from by rw [pk_un (by omega), pk_un (by omega), pk_un (by omega)]), (show (upd (upd (upd (F 0) (8 * j + 2) (nI (yy % 20))) (8 * j + 3) (F 0 (8 * j + 3) + nI 1)) (8 * j + 4) (nI 0)) (8 * j + 7) = ((F 0) (8 * j + 7)) from by rw [pk_un (by omega), pk_un (by omega), pk_un (by omega)])⟩ rfl rfl ⟨rfl, fun _ _ => rfl⟩
      have hG2 := hG.paper hj (agx.c0 (F := F) (j := j) (g := (upd (upd (upd (F 0) (8 * j + 2) (nI (yy % 20))) (8 * j + 3) (F 0 (8 * j + 3) + nI 1)) (8 * j + 4) (nI 0))) (fun q9 hq9 => by rw [pk_un (by omega), pk_un (by omega), pk_un (by omega)])) (Nat.le_succ k) ⟨w, mm, 0, M0, M1, hl2.frame (agf.rf j _) (Nat.le_succ k) (Nat.le_refl td)⟩
      obtain ⟨fs_ha2, ha2⟩ := WKat (cI := cI) (cZ := cZ) (cP := cP) (n := n) (ad := ad) (XX := (va_up XX j (xChange (XX j) (nI (yy % 20))))) (YY := (va_up YY j (yChange (YY j)))) (b := b) (I := I) (V := V) (P := P)
      have e1 : sN (xChange (XX j) (nI (yy % 20))) (yChange (YY j)) mm 0 = 1 := sN_is1 h0 (if h : mm = 0 then Or.inl h else Or.inr (dNR_fresh (Nat.pos_of_ne_zero h) hW.2.2.2.2 (fun p hp => zf_i hp)))
      exact (ld1y l D cI cZ cP o F (WK cI cZ cP n ad XX YY b I V P) (WK cI cZ cP n ad (va_up XX j (xChange (XX j) (nI (yy % 20)))) (va_up YY j (yChange (YY j))) b I V P) ha ha2 j xx yy (wN (XX j) (YY j) mm kk) hj8 hx hy (sN (XX j) (YY j) mm kk) (by omega) sN_le he (lk_step l hfl D cI cZ cP hj hj8 hpj rfl rfl hW) (lk_waitsFor l hfl D cI cZ cP hj hj8 hpj rfl rfl hW) (q_C.vl (by rw [d3]) (la1y l hfl D cI cZ cP hj hj8 hpj rfl rfl (nI (yy % 20)) (kC_0 (by omega) h0 (fun e => he (d2.trans e))))) (q_C.vl (congrArg nI e1) (lk_step l hfl D cI cZ cP hj hj8 hpj (va_up_self _ _ _) (va_up_self _ _ _) hl2.2.1))).kw hG2.kw

set_option maxHeartbeats 1000000 in
theorem dr_2 (l : Launch) (hfl : l.stackTraces = false) (D : va_G) (cI cZ cP : ClassId) {b o : Nat → Nat} {F : Nat → Nat → Int32} {n k td q : Nat} {ad : Nat → Nat → Nat} {XX : Nat → Nat → Int32} {YY : Nat → Nat → Nat → Int32} {I : Nat → Int32} {V : Nat → Nat → Int32} {P : Nat → Option Nat} (hG : GI n k td q ad XX YY I V P F) (hk : k < 90) (j xx yy : Nat) (hj : j < n) (hx : xx < 2 ^ 30) (hy : yy < 2 ^ 30) : q_C l yL_drafts wsL_drafts ({ frames := 11, cells := 3, slots := 18, locals := 196 }) D cI cZ cP [.ref (b 0), .int (nI 2), .int (nI j), .int (nI xx), .int (nI yy), .ref (o 0), .ref (o 5), .ref (o 4), .ref (o 7)] (lw cI o F ++ (WK cI cZ cP n ad XX YY b I V P)) (S := va_W) (fun v u => v = some (.int (nI 1)) ∧ KW cI cZ cP b o (k + 1) u) (fun u => u) (fun _ => False) 3 18 := by
  have hj8 := hG.j8 hj
  have hpj := hG.pj hj
  obtain ⟨hN, hC, hR, hZ, hP, hL⟩ := id hG
  obtain ⟨w, mm, kk, M0, M1, hl⟩ := hL j hj
  have hw := hl.w
  obtain ⟨⟨n1, n2, n3, n4, n5, n6, n7, n8, n9, n10, n11, n12, n13⟩, hW, hh, ht, hd⟩ := id hl
  obtain ⟨fs_ha, ha⟩ := WKat (cI := cI) (cZ := cZ) (cP := cP) (n := n) (ad := ad) (XX := XX) (YY := YY) (b := b) (I := I) (V := V) (P := P)
  have hx2 : agx j F (va_up F 0 (upd (F 0) (8 * j) (nI 0))) := agx.c0 (fun q9 hq9 => by rw [pk_un (by omega)])
  by_cases h0 : XX j 2 = 0
  · have ha5 : agf j F (va_up F 0 (upd (F 0) (8 * j) (nI 0))) := ⟨fun i hi => by
      show upd (F 0) (8 * j) (nI 0) (8 * j + i) = F 0 (8 * j + i)
      by_cases e : i = 0
      · subst e; rw [Nat.add_zero, pk_us, n2, h0]; rfl
      · rw [pk_un (by omega)], rfl, fun _ _ => rfl, fun _ _ => rfl⟩
    have hG2 := hG.law hj hx2 (Nat.le_succ k) ⟨w, mm, kk, M0, M1, hl.frame ha5 (Nat.le_succ k) (Nat.le_refl td)⟩
    exact (ld2n l D cI cZ cP o F (WK cI cZ cP n ad XX YY b I V P) (WK cI cZ cP n ad XX YY b I V P) ha ha j xx yy (wN (XX j) (YY j) mm kk) hj8 hx hy  (q_C.vl (congrArg nI (sN_0.mpr h0)) (lk_step l hfl D cI cZ cP hj hj8 hpj rfl rfl hW)) (lk_waitsFor l hfl D cI cZ cP hj hj8 hpj rfl rfl hW) (la2n l hfl D cI cZ cP hj hj8 hpj rfl rfl (if_pos h0))).kw hG2.kw
  · have hs : ¬ sN (XX j) (YY j) mm kk = 0 := fun e => h0 (sN_0.mp e)
    obtain ⟨⟨d1, d2, d3⟩, d4, d5, d6, d7, d8, d9, d10⟩ := hd h0
    have hl2 := hl.drop (G := (va_up F 0 (upd (F 0) (8 * j) (nI 0)))) (show (upd (F 0) (8 * j) (nI 0)) (8 * j) = 0 from by rw [pk_us]; rfl) ⟨(show (upd (F 0) (8 * j) (nI 0)) (8 * j + 5) = ((F 0) (8 * j + 5)) from by rw [pk_un (by omega)]), (show (upd (F 0) (8 * j) (nI 0)) (8 * j + 6) = ((F 0) (8 * j + 6)) from by rw [pk_un (by omega)]), (show (upd (F 0) (8 * j) (nI 0)) (8 * j + 7) = ((F 0) (8 * j + 7)) from by rw [pk_un (by omega)])⟩ rfl rfl ⟨rfl, fun _ _ => rfl⟩
    have hG2 := hG.paper hj hx2 (Nat.le_succ k) ⟨w, mm, kk, M0, M1, hl2.frame (agf.rf j _) (Nat.le_succ k) (Nat.le_refl td)⟩
    obtain ⟨fs_ha2, ha2⟩ := WKat (cI := cI) (cZ := cZ) (cP := cP) (n := n) (ad := ad) (XX := (va_up XX j (va_up (XX j) 2 (nI 0)))) (YY := (va_up YY j (YY j))) (b := b) (I := I) (V := V) (P := P)
    exact (ld2y l D cI cZ cP o F (WK cI cZ cP n ad XX YY b I V P) (WK cI cZ cP n ad (va_up XX j (va_up (XX j) 2 (nI 0))) (va_up YY j (YY j)) b I V P) ha ha2 j xx yy (wN (XX j) (YY j) mm kk) hj8 hx hy (sN (XX j) (YY j) mm kk) (by omega) sN_le (lk_step l hfl D cI cZ cP hj hj8 hpj rfl rfl hW) (lk_waitsFor l hfl D cI cZ cP hj hj8 hpj rfl rfl hW) (q_C.vl d2.symm (la2y l hfl D cI cZ cP hj hj8 hpj rfl rfl (if_neg h0))) (q_C.vl (congrArg nI (sN_0.mpr rfl)) (lk_step l hfl D cI cZ cP hj hj8 hpj (va_up_self _ _ _) (va_up_self _ _ _) hl2.2.1))).kw hG2.kw

set_option maxHeartbeats 1000000 in
theorem dr_3 (l : Launch) (hfl : l.stackTraces = false) (D : va_G) (cI cZ cP : ClassId) {b o : Nat → Nat} {F : Nat → Nat → Int32} {n k td q : Nat} {ad : Nat → Nat → Nat} {XX : Nat → Nat → Int32} {YY : Nat → Nat → Nat → Int32} {I : Nat → Int32} {V : Nat → Nat → Int32} {P : Nat → Option Nat} (hG : GI n k td q ad XX YY I V P F) (hk : k < 90) (j xx yy : Nat) (hj : j < n) (hx : xx < 2 ^ 30) (hy : yy < 2 ^ 30) : q_C l yL_drafts wsL_drafts ({ frames := 11, cells := 3, slots := 18, locals := 196 }) D cI cZ cP [.ref (b 0), .int (nI 3), .int (nI j), .int (nI xx), .int (nI yy), .ref (o 0), .ref (o 5), .ref (o 4), .ref (o 7)] (lw cI o F ++ (WK cI cZ cP n ad XX YY b I V P)) (S := va_W) (fun v u => v = some (.int (nI 1)) ∧ KW cI cZ cP b o (k + 1) u) (fun u => u) (fun _ => False) 3 18 := by
  have hj8 := hG.j8 hj
  have hpj := hG.pj hj
  obtain ⟨hN, hC, hR, hZ, hP, hL⟩ := id hG
  obtain ⟨w, mm, kk, M0, M1, hl⟩ := hL j hj
  have hw := hl.w
  obtain ⟨⟨n1, n2, n3, n4, n5, n6, n7, n8, n9, n10, n11, n12, n13⟩, hW, hh, ht, hd⟩ := id hl
  obtain ⟨fs_ha, ha⟩ := WKat (cI := cI) (cZ := cZ) (cP := cP) (n := n) (ad := ad) (XX := XX) (YY := YY) (b := b) (I := I) (V := V) (P := P)
  have hp6 : xx % 6 < 6 := by omega
  have ei : ix (nI (xx % 6)) = xx % 6 := ix_nI (by omega)
  obtain ⟨⟨r0, f50, hr0⟩, hR2, hR3⟩ := hR
  by_cases hc : (XX j 2 = 0 ∨ ¬ XX j 10 = 0 ∨ nI (xx % 6) = XX j 5 ∨ V 0 (ix (nI (xx % 6))) = 0 ∨ (pX (fun i => decide (YY j 1 i = nI (xx % 6))) mm 0) = true ∨ ¬ mm < 4)
  · have ha7 : agf j F (va_up F 7 (upd (F 7) (2 * j) (nI M0))) := ⟨fun _ _ => rfl, rfl, fun _ _ => rfl, fun i hi => by
      show upd (F 7) (2 * j) (nI M0) (2 * j + i) = F 7 (2 * j + i)
      by_cases e : i = 0
      · subst e; rw [Nat.add_zero, pk_us, n10]
      · rw [pk_un (by omega)]⟩
    have hG2 := hG.law hj (agx.c7 (F := F) (j := j) (g := (upd (F 7) (2 * j) (nI M0))) (fun q9 hq9 => by rw [pk_un (by omega)])) (Nat.le_succ k) ⟨w, mm, kk, M0, M1, hl.frame ha7 (Nat.le_succ k) (Nat.le_refl td)⟩
    refine (ld3n l D cI cZ cP o F (WK cI cZ cP n ad XX YY b I V P) (WK cI cZ cP n ad XX YY b I V P) ha ha j xx yy (wN (XX j) (YY j) mm kk) hj8 hx hy (sN (XX j) (YY j) mm kk) sN_le M0 r0 n12 hr0.1 f50 n10 (fun hs g4 gau grb gm gp => ?_) (lk_step l hfl D cI cZ cP hj hj8 hpj rfl rfl hW) (lk_waitsFor l hfl D cI cZ cP hj hj8 hpj rfl rfl hW) (la3n l hfl D cI cZ cP hj hj8 hpj rfl rfl hW (nI (xx % 6)) (kRv_3 hp6 hc))).kw hG2.kw
    have h0 : ¬ XX j 2 = 0 := fun e => by rw [sN_0.mpr e] at hs; omega
    obtain ⟨⟨d1, d2, d3⟩, d4, ⟨d5, d55⟩, d6, d7, d8, d9, d10⟩ := hd h0
    rcases hc with e | e | e | e | e | e
    · exact h0 e
    · rcases d4 with ⟨a, -⟩ | ⟨-, a, ⟨dd, a1, a2, a3⟩, -⟩
      · exact e a
      · rw [a, a3] at g4
        have := (nI_eq0 (by omega)).mp g4
        omega
    · exact gau (e.trans d1.symm)
    · rw [ei] at e; have g9 : decide (¬ V 0 (xx % 6) = 0) = true := (hr0.2 _ hp6).symm.trans grb; exact of_decide_eq_true g9 e
    · have g9 : nam (YY j) mm (xx % 6) = false := (d5.2 _ hp6).symm.trans gm; exact absurd (g9.symm.trans e) (by decide)
    · omega
  · have h0 : ¬ XX j 2 = 0 := fun e => hc (Or.inl e)
    have h10 : XX j 10 = 0 := Decidable.byContradiction fun e => hc (Or.inr (Or.inl e))
    have hau : ¬ nI (xx % 6) = XX j 5 := fun e => hc (Or.inr (Or.inr (Or.inl e)))
    have hmr : ¬ V 0 (xx % 6) = 0 := fun e => hc (Or.inr (Or.inr (Or.inr (Or.inl (by rw [ei]; exact e)))))
    have hnm : nam (YY j) mm (xx % 6) = false := Bool.eq_false_iff.mpr fun e => hc (Or.inr (Or.inr (Or.inr (Or.inr (Or.inl e)))))
    have hm4 : mm < 4 := Decidable.byContradiction fun e => hc (Or.inr (Or.inr (Or.inr (Or.inr (Or.inr e)))))
    obtain ⟨⟨d1, d2, d3⟩, d4, ⟨d5, d55⟩, d6, d7, d8, d9, d10⟩ := hd h0
    have hs : ¬ sN (XX j) (YY j) mm kk = 0 := fun e => h0 (sN_0.mp e)
    have h4 : F 0 (8 * j + 4) = 0 := by
      rcases d4 with ⟨-, a⟩ | ⟨a, -⟩
      · exact a
      · exact absurd h10 a
    have hbit : M0.testBit (xx % 6) = false := (d5.2 _ hp6).trans hnm
    obtain ⟨hl2, e1⟩ := hl.reviewer (G := (va_up F 7 (upd (F 7) (2 * j) (nI (bs M0 (xx % 6)))))) h0 h10 hp6 hnm hm4 (fun _ _ => rfl) (show (upd (F 7) (2 * j) (nI (bs M0 (xx % 6)))) (2 * j) = (nI (bs M0 (xx % 6))) from by rw [pk_us]) (show (upd (F 7) (2 * j) (nI (bs M0 (xx % 6)))) (2 * j + 1) = ((F 7) (2 * j + 1)) from by rw [pk_un (by omega)]) ⟨rfl, fun _ _ => rfl⟩
    have hG2 := hG.paper hj (agx.c7 (F := F) (j := j) (g := (upd (F 7) (2 * j) (nI (bs M0 (xx % 6))))) (fun q9 hq9 => by rw [pk_un (by omega)])) (Nat.le_succ k) ⟨w, mm + 1, kk, bs M0 (xx % 6), M1, hl2.frame (agf.rf j _) (Nat.le_succ k) (Nat.le_refl td)⟩
    obtain ⟨fs_ha2, ha2⟩ := WKat (cI := cI) (cZ := cZ) (cP := cP) (n := n) (ad := ad) (XX := (va_up XX j (va_up (XX j) 8 (nI (mm + 1))))) (YY := (va_up YY j (va_up (YY j) 1 (upd (YY j 1) mm (nI (xx % 6)))))) (b := b) (I := I) (V := V) (P := P)
    exact (ld3y l D cI cZ cP o F (WK cI cZ cP n ad XX YY b I V P) (WK cI cZ cP n ad (va_up XX j (va_up (XX j) 8 (nI (mm + 1)))) (va_up YY j (va_up (YY j) 1 (upd (YY j 1) mm (nI (xx % 6))))) b I V P) ha ha2 j xx yy (wN (XX j) (YY j) mm kk) hj8 hx hy (sN (XX j) (YY j) mm kk) (by omega) sN_le M0 r0 n12 hr0.1 f50 n10 h4 (fun e => hau (e.trans d1)) ((hr0.2 _ hp6).trans (decide_eq_true hmr)) hbit (by omega) (lk_step l hfl D cI cZ cP hj hj8 hpj rfl rfl hW) (lk_waitsFor l hfl D cI cZ cP hj hj8 hpj rfl rfl hW) (q_C.vl (congrArg nI (by rw [pc8_bs M0 n12 _ hp6 hbit, d55])) (la3y l hfl D cI cZ cP hj hj8 hpj rfl rfl hW (nI (xx % 6)) (kRv_0 hp6 hc))) (q_C.vl (congrArg nI e1) (lk_step l hfl D cI cZ cP hj hj8 hpj (va_up_self _ _ _) (va_up_self _ _ _) hl2.2.1))).kw hG2.kw

set_option maxHeartbeats 1000000 in
theorem dr_4 (l : Launch) (hfl : l.stackTraces = false) (D : va_G) (cI cZ cP : ClassId) {b o : Nat → Nat} {F : Nat → Nat → Int32} {n k td q : Nat} {ad : Nat → Nat → Nat} {XX : Nat → Nat → Int32} {YY : Nat → Nat → Nat → Int32} {I : Nat → Int32} {V : Nat → Nat → Int32} {P : Nat → Option Nat} (hG : GI n k td q ad XX YY I V P F) (hk : k < 90) (j xx yy : Nat) (hj : j < n) (hx : xx < 2 ^ 30) (hy : yy < 2 ^ 30) : q_C l yL_drafts wsL_drafts ({ frames := 11, cells := 3, slots := 18, locals := 196 }) D cI cZ cP [.ref (b 0), .int (nI 4), .int (nI j), .int (nI xx), .int (nI yy), .ref (o 0), .ref (o 5), .ref (o 4), .ref (o 7)] (lw cI o F ++ (WK cI cZ cP n ad XX YY b I V P)) (S := va_W) (fun v u => v = some (.int (nI 1)) ∧ KW cI cZ cP b o (k + 1) u) (fun u => u) (fun _ => False) 3 18 := by
  have hj8 := hG.j8 hj
  have hpj := hG.pj hj
  obtain ⟨hN, hC, hR, hZ, hP, hL⟩ := id hG
  obtain ⟨w, mm, kk, M0, M1, hl⟩ := hL j hj
  have hw := hl.w
  obtain ⟨⟨n1, n2, n3, n4, n5, n6, n7, n8, n9, n10, n11, n12, n13⟩, hW, hh, ht, hd⟩ := id hl
  obtain ⟨fs_ha, ha⟩ := WKat (cI := cI) (cZ := cZ) (cP := cP) (n := n) (ad := ad) (XX := XX) (YY := YY) (b := b) (I := I) (V := V) (P := P)
  have hp6 : xx % 6 < 6 := by omega
  have ei : ix (nI (xx % 6)) = xx % 6 := ix_nI (by omega)
  by_cases hc : (XX j 2 = 0 ∨ ¬ YY j 4 (ix (nI (xx % 6))) = 0)
  · have ha7 : agf j F (va_up F 7 (upd (F 7) (2 * j + 1) (nI M1))) := ⟨fun _ _ => rfl, rfl, fun _ _ => rfl, fun i hi => by
      show upd (F 7) (2 * j + 1) (nI M1) (2 * j + i) = F 7 (2 * j + i)
      by_cases e : i = 1
      · subst e; rw [pk_us, n11]
      · rw [pk_un (by omega)]⟩
    have hG2 := hG.law hj (agx.c7 (F := F) (j := j) (g := (upd (F 7) (2 * j + 1) (nI M1))) (fun q9 hq9 => by rw [pk_un (by omega)])) (Nat.le_succ k) ⟨w, mm, kk, M0, M1, hl.frame ha7 (Nat.le_succ k) (Nat.le_refl td)⟩
    refine (ld4n l D cI cZ cP o F (WK cI cZ cP n ad XX YY b I V P) (WK cI cZ cP n ad XX YY b I V P) ha ha j xx yy (wN (XX j) (YY j) mm kk) hj8 hx hy (sN (XX j) (YY j) mm kk) sN_le M1 n13 n11 (fun hs gm => ?_) (lk_step l hfl D cI cZ cP hj hj8 hpj rfl rfl hW) (lk_waitsFor l hfl D cI cZ cP hj hj8 hpj rfl rfl hW) (la4n l hfl D cI cZ cP hj hj8 hpj rfl rfl (nI (xx % 6)) (kRe_3 hp6 hc))).kw hG2.kw
    have h0 : ¬ XX j 2 = 0 := fun e => by rw [sN_0.mpr e] at hs; omega
    obtain ⟨⟨d1, d2, d3⟩, d4, d5, d6, d7, d8, d9, d10⟩ := hd h0
    rcases hc with e | e
    · exact h0 e
    · rw [ei] at e; have g9 : decide (¬ YY j 4 (xx % 6) = 0) = false := (d6.2 _ hp6).symm.trans gm; exact of_decide_eq_false g9 e
  · have h0 : ¬ XX j 2 = 0 := fun e => hc (Or.inl e)
    have h4 : YY j 4 (xx % 6) = 0 := Decidable.byContradiction fun e => hc (Or.inr (by rw [ei]; exact e))
    obtain ⟨⟨d1, d2, d3⟩, d4, d5, d6, d7, d8, d9, d10⟩ := hd h0
    have hs : ¬ sN (XX j) (YY j) mm kk = 0 := fun e => h0 (sN_0.mp e)
    have hsl := sN_le (X := XX j) (Y := YY j) (mm := mm) (kk := kk)
    have hbit : M1.testBit (xx % 6) = false := (d6.2 _ hp6).trans (decide_eq_false (fun e => e h4))
    obtain ⟨hl2, e1⟩ := hl.reader (G := (va_up F 7 (upd (F 7) (2 * j + 1) (nI (bs M1 (xx % 6)))))) h0 hp6 h4 (fun _ _ => rfl) (show (upd (F 7) (2 * j + 1) (nI (bs M1 (xx % 6)))) (2 * j) = ((F 7) (2 * j)) from by rw [pk_un (by omega)]) (show (upd (F 7) (2 * j + 1) (nI (bs M1 (xx % 6)))) (2 * j + 1) = (nI (bs M1 (xx % 6))) from by rw [pk_us]) ⟨rfl, fun _ _ => rfl⟩
    have hl2d := (hl2.2.2.2.2 h0).2.2.2.1
    have hG2 := hG.paper hj (agx.c7 (F := F) (j := j) (g := (upd (F 7) (2 * j + 1) (nI (bs M1 (xx % 6))))) (fun q9 hq9 => by rw [pk_un (by omega)])) (Nat.le_succ k) ⟨w, mm, kk, M0, bs M1 (xx % 6), hl2.frame (agf.rf j _) (Nat.le_succ k) (Nat.le_refl td)⟩
    obtain ⟨fs_ha2, ha2⟩ := WKat (cI := cI) (cZ := cZ) (cP := cP) (n := n) (ad := ad) (XX := (va_up XX j (XX j))) (YY := (va_up YY j (va_up (YY j) 4 (upd (YY j 4) (xx % 6) (nI 1))))) (b := b) (I := I) (V := V) (P := P)
    have hca := la4y l hfl D cI cZ cP (n := n) (ad := ad) (XX := XX) (YY := YY) (b := b) (I := I) (V := V) (P := P) hj hj8 hpj rfl rfl (nI (xx % 6)) (z9 := nI 0) (kRe_0 hp6 h0 (by rw [ei]; exact h4))
    rw [ei] at hca
    have hca9 : pc8 (bs M1 (xx % 6)) = pN (fun i => decide (¬ (upd (YY j 4) (xx % 6) (nI 1)) i = 0)) 6 := (pc8_6 _ (bs_64 M1 n13 _ hp6)).trans (pN_cg 6 (fun q9 hq9 => hl2d.2 q9 hq9))
    by_cases hs5 : sN (XX j) (YY j) mm kk = 5
    · rw [if_pos hs5] at e1
      exact (ld4y5 l D cI cZ cP o F (WK cI cZ cP n ad XX YY b I V P) (WK cI cZ cP n ad (va_up XX j (XX j)) (va_up YY j (va_up (YY j) 4 (upd (YY j 4) (xx % 6) (nI 1)))) b I V P) ha ha2 j xx yy (wN (XX j) (YY j) mm kk) hj8 hx hy M1 n13 n11 hbit (q_C.vl (congrArg nI hs5) (lk_step l hfl D cI cZ cP hj hj8 hpj rfl rfl hW)) (lk_waitsFor l hfl D cI cZ cP hj hj8 hpj rfl rfl hW) (q_C.vl (congrArg nI hca9.symm) hca) (q_C.vl (congrArg nI e1) (lk_step l hfl D cI cZ cP hj hj8 hpj (va_up_self _ _ _) (va_up_self _ _ _) hl2.2.1))).kw hG2.kw
    · rw [if_neg hs5] at e1
      by_cases hs1 : sN (XX j) (YY j) mm kk = 1
      · rw [hs1] at e1
        exact (ld4y1 l D cI cZ cP o F (WK cI cZ cP n ad XX YY b I V P) (WK cI cZ cP n ad (va_up XX j (XX j)) (va_up YY j (va_up (YY j) 4 (upd (YY j 4) (xx % 6) (nI 1)))) b I V P) ha ha2 j xx yy (wN (XX j) (YY j) mm kk) hj8 hx hy M1 n13 n11 hbit (q_C.vl (congrArg nI hs1) (lk_step l hfl D cI cZ cP hj hj8 hpj rfl rfl hW)) (lk_waitsFor l hfl D cI cZ cP hj hj8 hpj rfl rfl hW) (q_C.vl (congrArg nI hca9.symm) hca) (q_C.vl (congrArg nI e1) (lk_step l hfl D cI cZ cP hj hj8 hpj (va_up_self _ _ _) (va_up_self _ _ _) hl2.2.1)) (q_C.vl (by rw [wN_is, wN_is, if_pos e1, if_pos hs1]; rfl) (lk_waitsFor l hfl D cI cZ cP hj hj8 hpj (va_up_self _ _ _) (va_up_self _ _ _) hl2.2.1))).kw hG2.kw
      · exact (ld4y l D cI cZ cP o F (WK cI cZ cP n ad XX YY b I V P) (WK cI cZ cP n ad (va_up XX j (XX j)) (va_up YY j (va_up (YY j) 4 (upd (YY j 4) (xx % 6) (nI 1)))) b I V P) ha ha2 j xx yy (wN (XX j) (YY j) mm kk) hj8 hx hy (sN (XX j) (YY j) mm kk) (by omega) (by omega) M1 n13 n11 hbit (lk_step l hfl D cI cZ cP hj hj8 hpj rfl rfl hW) (lk_waitsFor l hfl D cI cZ cP hj hj8 hpj rfl rfl hW) (q_C.vl (congrArg nI hca9.symm) hca) (q_C.vl (congrArg nI e1) (lk_step l hfl D cI cZ cP hj hj8 hpj (va_up_self _ _ _) (va_up_self _ _ _) hl2.2.1))).kw hG2.kw
