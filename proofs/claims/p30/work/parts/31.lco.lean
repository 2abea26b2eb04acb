/-! COPIES AND LOOKS: every case, over the invariant. -/
set_option maxHeartbeats 1000000 in
theorem lco_0 (l : Launch) (hfl : l.stackTraces = false) (D : va_G) (cI cZ cP : ClassId) {b o : Nat → Nat} {F : Nat → Nat → Int32} {n k td q : Nat} {ad : Nat → Nat → Nat} {XX : Nat → Nat → Int32} {YY : Nat → Nat → Nat → Int32} {I : Nat → Int32} {V : Nat → Nat → Int32} {P : Nat → Option Nat} (hG : GI n k td q ad XX YY I V P F) (hk : k < 90) (j xx : Nat) (hj : j < n) (hx : xx < 2 ^ 30) : q_C l yL_copies wsL_copies ({ frames := 9, cells := 3, slots := 18, locals := 152 }) D cI cZ cP [.ref (b 0), .int (nI 0), .int (nI j), .int (nI xx), .ref (o 0), .ref (o 4), .ref (o 3)] (lw cI o F ++ (WK cI cZ cP n ad XX YY b I V P)) (S := va_W) (fun v u => v = some (.int (nI 1)) ∧ KW cI cZ cP b o (k + 1) u) (fun u => u) (fun _ => False) 3 18 := by
  have hj8 := hG.j8 hj
  have hpj := hG.pj hj
  obtain ⟨hN, hC, hR, hZ, hP, hL⟩ := id hG
  obtain ⟨w, mm, kk, M0, M1, hl⟩ := hL j hj
  have hw := hl.w
  obtain ⟨⟨n1, n2, n3, n4, n5, n6, n7, n8, n9, n10, n11, n12, n13⟩, hW, hh, ht, hd⟩ := id hl
  obtain ⟨fs_ha, ha⟩ := WKat (cI := cI) (cZ := cZ) (cP := cP) (n := n) (ad := ad) (XX := XX) (YY := YY) (b := b) (I := I) (V := V) (P := P)
  obtain ⟨hn8, htd, hq20, hI5, f41, hI7, f40, hI3, f43, iv, hiv1, hiv2, hI6, f42⟩ := id hN
  by_cases hq : q = 20
  · subst hq
    exact (lc0f l D cI cZ cP o F (WK cI cZ cP n ad XX YY b I V P) (WK cI cZ cP n ad XX YY b I V P) ha ha j xx hj8 hx w (by omega) n4 f43 ).kw (hG.same (Nat.le_succ k)).kw
  · have hq9 : q < 20 := by omega
    have hrg : ¬ rg (nI (xx % 10)) (nI 0) (nI 9) = false := by rw [rg_n (by omega) (by decide)]; decide
    by_cases hw0 : w = 0
    · subst hw0
      exact (lc0n l D cI cZ cP o F (WK cI cZ cP n ad XX YY b I V P) (WK cI cZ cP n ad XX YY b I V P) ha ha j xx hj8 hx q hq9 f43 n4 (la10n l hfl D cI cZ cP hj hj8 hpj rfl rfl n3 (by omega) hI3 (by omega) (nI (xx % 10)) (by unfold kCopy; rw [if_neg hrg, if_pos (Or.inl rfl)]))).kw (hG.same (Nat.le_succ k)).kw
    · obtain ⟨w0, rfl⟩ : ∃ w0, w = w0 + 1 := ⟨w - 1, by omega⟩
      have hag : ∀ i, agf i F (va_up (va_up F 3 (upd (upd (upd (F 3) (3 * q) (nI j)) (3 * q + 1) (nI w0)) (3 * q + 2) (nI ((xx % 10) + 1)))) 4 (upd (F 4) 3 (nI (q + 1)))) := fun i => ⟨fun _ _ => rfl, rfl, fun _ _ => rfl, fun _ _ => rfl⟩
      have hG2 : GI n (k + 1) td (q + 1) ad XX YY (va_up I 3 (nI (q + 1))) (va_up (va_up (va_up V 10 (upd (V 10) q (nI j))) 11 (upd (V 11) q (vn (w0 + 1)))) 12 (upd (V 12) q (nI (xx % 10)))) P (va_up (va_up F 3 (upd (upd (upd (F 3) (3 * q) (nI j)) (3 * q + 1) (nI w0)) (3 * q + 2) (nI ((xx % 10) + 1)))) 4 (upd (F 4) 3 (nI (q + 1)))) := by
        refine ⟨⟨hn8, htd, by omega, hI5, (show upd (F 4) 3 (nI (q + 1)) 1 = nI n from by rw [pk_un (by omega)]; exact f41), hI7, (show upd (F 4) 3 (nI (q + 1)) 0 = nI td from by rw [pk_un (by omega)]; exact f40), rfl, (show upd (F 4) 3 (nI (q + 1)) 3 = nI (q + 1) from pk_us), iv, hiv1, hiv2, hI6, (show upd (F 4) 3 (nI (q + 1)) 2 = nI iv from by rw [pk_un (by omega)]; exact f42)⟩, fun i hi => ?_, hR, hZ.x hj (fun i _ _ => hag i), hP, fun i hi => (hL i hi).frame (hag i) (Nat.le_succ k) (Nat.le_refl td)⟩
        show (upd (upd (upd (F 3) (3 * q) (nI j)) (3 * q + 1) (nI w0)) (3 * q + 2) (nI ((xx % 10) + 1))) (3 * i) = upd (V 10) q (nI j) i ∧ (upd (upd (upd (F 3) (3 * q) (nI j)) (3 * q + 1) (nI w0)) (3 * q + 2) (nI ((xx % 10) + 1))) (3 * i + 1) = upd (V 11) q (vn (w0 + 1)) i ∧ ((upd (V 12) q (nI (xx % 10)) i = -1 ∧ (upd (upd (upd (F 3) (3 * q) (nI j)) (3 * q + 1) (nI w0)) (3 * q + 2) (nI ((xx % 10) + 1))) (3 * i + 2) = 0) ∨ ∃ wl, wl < 10 ∧ upd (V 12) q (nI (xx % 10)) i = nI wl ∧ (upd (upd (upd (F 3) (3 * q) (nI j)) (3 * q + 1) (nI w0)) (3 * q + 2) (nI ((xx % 10) + 1))) (3 * i + 2) = nI (wl + 1))
        by_cases e : i = q
        · subst e
          refine ⟨by rw [pk_un (by omega), pk_un (by omega), pk_us, pk_us], by rw [pk_un (by omega), pk_us, pk_us]; rfl, Or.inr ⟨xx % 10, by omega, pk_us, pk_us⟩⟩
        · have h := hC i (by omega)
          repeat rw [pk_un (by omega)]
          exact h
      obtain ⟨fs_ha2, ha2⟩ := WKat (cI := cI) (cZ := cZ) (cP := cP) (n := n) (ad := ad) (XX := XX) (YY := YY) (b := b) (I := (va_up I 3 (nI (q + 1)))) (V := (va_up (va_up (va_up V 10 (upd (V 10) q (nI j))) 11 (upd (V 11) q (vn (w0 + 1)))) 12 (upd (V 12) q (nI (xx % 10))))) (P := P)
      exact (lc0y l D cI cZ cP o F (WK cI cZ cP n ad XX YY b I V P) (WK cI cZ cP n ad XX YY b (va_up I 3 (nI (q + 1))) (va_up (va_up (va_up V 10 (upd (V 10) q (nI j))) 11 (upd (V 11) q (vn (w0 + 1)))) 12 (upd (V 12) q (nI (xx % 10)))) P) ha ha2 j xx hj8 hx q w0 hq9 (by omega) f43 n4 (la10y l hfl D cI cZ cP hj hj8 hpj rfl rfl n3 (by omega) hI3 (by omega) (nI (xx % 10)) (by simp only [kCopy]; rw [if_neg hrg, if_neg (fun e => e.elim (by omega) (fun e => e (by omega)))]))).kw hG2.kw

set_option maxHeartbeats 1000000 in
theorem lco_1 (l : Launch) (hfl : l.stackTraces = false) (D : va_G) (cI cZ cP : ClassId) {b o : Nat → Nat} {F : Nat → Nat → Int32} {n k td q : Nat} {ad : Nat → Nat → Nat} {XX : Nat → Nat → Int32} {YY : Nat → Nat → Nat → Int32} {I : Nat → Int32} {V : Nat → Nat → Int32} {P : Nat → Option Nat} (hG : GI n k td q ad XX YY I V P F) (hk : k < 90) (j xx : Nat) (hj : j < n) (hx : xx < 2 ^ 30) : q_C l yL_copies wsL_copies ({ frames := 9, cells := 3, slots := 18, locals := 152 }) D cI cZ cP [.ref (b 0), .int (nI 1), .int (nI j), .int (nI xx), .ref (o 0), .ref (o 4), .ref (o 3)] (lw cI o F ++ (WK cI cZ cP n ad XX YY b I V P)) (S := va_W) (fun v u => v = some (.int (nI 1)) ∧ KW cI cZ cP b o (k + 1) u) (fun u => u) (fun _ => False) 3 18 := by
  have hj8 := hG.j8 hj
  have hpj := hG.pj hj
  obtain ⟨hN, hC, hR, hZ, hP, hL⟩ := id hG
  obtain ⟨w, mm, kk, M0, M1, hl⟩ := hL j hj
  have hw := hl.w
  obtain ⟨⟨n1, n2, n3, n4, n5, n6, n7, n8, n9, n10, n11, n12, n13⟩, hW, hh, ht, hd⟩ := id hl
  obtain ⟨fs_ha, ha⟩ := WKat (cI := cI) (cZ := cZ) (cP := cP) (n := n) (ad := ad) (XX := XX) (YY := YY) (b := b) (I := I) (V := V) (P := P)
  obtain ⟨hn8, htd, hq20, hI5, f41, hI7, f40, hI3, f43, iv, hiv1, hiv2, hI6, f42⟩ := id hN
  have ei : ix (nI (xx % 20)) = xx % 20 := ix_nI (by omega)
  by_cases hc : xx % 20 < q
  · have hin : inr (nI (xx % 20)) q = true := by simp only [inr, Bool.and_eq_true, decide_eq_true_eq]; exact ⟨nI_pos (by omega), (nI_ltI (by omega) (by omega)).mpr hc⟩
    rcases (hC _ hc).2.2 with ⟨c1, c2⟩ | ⟨wl, hwl, c1, c2⟩
    · have hG2 : GI n (k + 1) td q ad XX YY I V P (va_up F 3 (upd (F 3) (3 * (xx % 20) + 2) (nI 0))) := by
        have hag : ∀ i, agf i F (va_up F 3 (upd (F 3) (3 * (xx % 20) + 2) (nI 0))) := fun i => ⟨fun _ _ => rfl, rfl, fun _ _ => rfl, fun _ _ => rfl⟩
        refine ⟨hN, fun i hi => ?_, hR, hZ.x hj (fun i _ _ => hag i), hP, fun i hi => (hL i hi).frame (hag i) (Nat.le_succ k) (Nat.le_refl td)⟩
        show upd (F 3) (3 * (xx % 20) + 2) (nI 0) (3 * i) = V 10 i ∧ upd (F 3) (3 * (xx % 20) + 2) (nI 0) (3 * i + 1) = V 11 i ∧ ((V 12 i = -1 ∧ upd (F 3) (3 * (xx % 20) + 2) (nI 0) (3 * i + 2) = 0) ∨ ∃ wl, wl < 10 ∧ V 12 i = nI wl ∧ upd (F 3) (3 * (xx % 20) + 2) (nI 0) (3 * i + 2) = nI (wl + 1))
        rw [pk_un (by omega), pk_un (by omega)]
        by_cases e : i = xx % 20
        · subst e; rw [pk_us]; exact ⟨(hC _ hc).1, (hC _ hc).2.1, Or.inl ⟨c1, rfl⟩⟩
        · rw [pk_un (by omega)]; exact hC i hi
      exact (lc1a l D cI cZ cP o F (WK cI cZ cP n ad XX YY b I V P) (WK cI cZ cP n ad XX YY b I V P) ha ha j xx hj8 hx (xx % 20) rfl (by omega) q (by omega) hc f43 c2 (la11b l hfl D cI cZ cP (n := n) (ad := ad) (XX := XX) (YY := YY) (b := b) (I := I) (V := V) (P := P) hI3 (by omega) (nI (xx % 20)) (by rw [ei]; simp only [kTakeDown]; rw [if_neg (fun e => e.2 c1)]))).kw hG2.kw
    · have hG2 : GI n (k + 1) td q ad XX YY I (va_up V 12 (upd (V 12) (xx % 20) (-1))) P (va_up F 3 (upd (F 3) (3 * (xx % 20) + 2) (nI 0))) := by
        have hag : ∀ i, agf i F (va_up F 3 (upd (F 3) (3 * (xx % 20) + 2) (nI 0))) := fun i => ⟨fun _ _ => rfl, rfl, fun _ _ => rfl, fun _ _ => rfl⟩
        refine ⟨hN, fun i hi => ?_, hR, hZ.x hj (fun i _ _ => hag i), hP, fun i hi => (hL i hi).frame (hag i) (Nat.le_succ k) (Nat.le_refl td)⟩
        show upd (F 3) (3 * (xx % 20) + 2) (nI 0) (3 * i) = V 10 i ∧ upd (F 3) (3 * (xx % 20) + 2) (nI 0) (3 * i + 1) = V 11 i ∧ ((upd (V 12) (xx % 20) (-1) i = -1 ∧ upd (F 3) (3 * (xx % 20) + 2) (nI 0) (3 * i + 2) = 0) ∨ ∃ wl, wl < 10 ∧ upd (V 12) (xx % 20) (-1) i = nI wl ∧ upd (F 3) (3 * (xx % 20) + 2) (nI 0) (3 * i + 2) = nI (wl + 1))
        rw [pk_un (by omega), pk_un (by omega)]
        by_cases e : i = xx % 20
        · subst e; rw [pk_us, pk_us]; exact ⟨(hC _ hc).1, (hC _ hc).2.1, Or.inl ⟨rfl, rfl⟩⟩
        · repeat rw [pk_un (by omega)]
          exact hC i hi
      obtain ⟨fs_ha2, ha2⟩ := WKat (cI := cI) (cZ := cZ) (cP := cP) (n := n) (ad := ad) (XX := XX) (YY := YY) (b := b) (I := I) (V := (va_up V 12 (upd (V 12) (xx % 20) (-1)))) (P := P)
      have hca := la11y l hfl D cI cZ cP (n := n) (ad := ad) (XX := XX) (YY := YY) (b := b) (I := I) (V := V) (P := P) hI3 (by omega) (nI (xx % 20)) (z8 := nI 0) (z9 := nI 0) (by rw [ei]; simp only [kTakeDown]; rw [if_pos ⟨hin, by rw [c1]; exact nI_nm1 (by omega)⟩])
      rw [ei] at hca
      exact (lc1b l D cI cZ cP o F (WK cI cZ cP n ad XX YY b I V P) (WK cI cZ cP n ad XX YY b I (va_up V 12 (upd (V 12) (xx % 20) (-1))) P) ha ha2 j xx hj8 hx (xx % 20) rfl (by omega) q wl (by omega) hwl hc f43 c2 (q_C.vl c1 hca)).kw hG2.kw
  · have hG2 : GI n (k + 1) td q ad XX YY I V P (va_up F 3 (upd (F 3) (3 * (xx % 20) + 2) ((F 3) (3 * (xx % 20) + 2)))) := by
      have hag : ∀ i, agf i F (va_up F 3 (upd (F 3) (3 * (xx % 20) + 2) ((F 3) (3 * (xx % 20) + 2)))) := fun i => ⟨fun _ _ => rfl, rfl, fun _ _ => rfl, fun _ _ => rfl⟩
      refine ⟨hN, fun i hi => ?_, hR, hZ.x hj (fun i _ _ => hag i), hP, fun i hi => (hL i hi).frame (hag i) (Nat.le_succ k) (Nat.le_refl td)⟩
      show upd (F 3) (3 * (xx % 20) + 2) (F 3 (3 * (xx % 20) + 2)) (3 * i) = V 10 i ∧ upd (F 3) (3 * (xx % 20) + 2) (F 3 (3 * (xx % 20) + 2)) (3 * i + 1) = V 11 i ∧ ((V 12 i = -1 ∧ upd (F 3) (3 * (xx % 20) + 2) (F 3 (3 * (xx % 20) + 2)) (3 * i + 2) = 0) ∨ ∃ wl, wl < 10 ∧ V 12 i = nI wl ∧ upd (F 3) (3 * (xx % 20) + 2) (F 3 (3 * (xx % 20) + 2)) (3 * i + 2) = nI (wl + 1))
      rw [pk_un (by omega), pk_un (by omega), pk_un (by omega)]
      exact hC i hi
    have hin : inr (nI (xx % 20)) q = false := Bool.eq_false_iff.mpr fun e => by simp only [inr, Bool.and_eq_true, decide_eq_true_eq] at e; exact hc ((nI_ltI (by omega) (by omega)).mp e.2)
    exact (lc1c l D cI cZ cP o F (WK cI cZ cP n ad XX YY b I V P) (WK cI cZ cP n ad XX YY b I V P) ha ha j xx hj8 hx (xx % 20) rfl (by omega) q (by omega) (by omega) f43 (la11b l hfl D cI cZ cP (n := n) (ad := ad) (XX := XX) (YY := YY) (b := b) (I := I) (V := V) (P := P) hI3 (by omega) (nI (xx % 20)) (by rw [ei]; simp only [kTakeDown]; rw [if_neg (fun e => by rw [hin] at e; cases e.1)]))).kw hG2.kw

set_option maxHeartbeats 1000000 in
theorem lco_2 (l : Launch) (hfl : l.stackTraces = false) (D : va_G) (cI cZ cP : ClassId) {b o : Nat → Nat} {F : Nat → Nat → Int32} {n k td q : Nat} {ad : Nat → Nat → Nat} {XX : Nat → Nat → Int32} {YY : Nat → Nat → Nat → Int32} {I : Nat → Int32} {V : Nat → Nat → Int32} {P : Nat → Option Nat} (hG : GI n k td q ad XX YY I V P F) (hk : k < 90) (j xx : Nat) (hj : j < n) (hx : xx < 2 ^ 30) : q_C l yL_copies wsL_copies ({ frames := 9, cells := 3, slots := 18, locals := 152 }) D cI cZ cP [.ref (b 0), .int (nI 2), .int (nI j), .int (nI xx), .ref (o 0), .ref (o 4), .ref (o 3)] (lw cI o F ++ (WK cI cZ cP n ad XX YY b I V P)) (S := va_W) (fun v u => v = some (.int (nI 1)) ∧ KW cI cZ cP b o (k + 1) u) (fun u => u) (fun _ => False) 3 18 := by
  have hj8 := hG.j8 hj
  have hpj := hG.pj hj
  obtain ⟨hN, hC, hR, hZ, hP, hL⟩ := id hG
  obtain ⟨w, mm, kk, M0, M1, hl⟩ := hL j hj
  have hw := hl.w
  obtain ⟨⟨n1, n2, n3, n4, n5, n6, n7, n8, n9, n10, n11, n12, n13⟩, hW, hh, ht, hd⟩ := id hl
  obtain ⟨fs_ha, ha⟩ := WKat (cI := cI) (cZ := cZ) (cP := cP) (n := n) (ad := ad) (XX := XX) (YY := YY) (b := b) (I := I) (V := V) (P := P)
  obtain ⟨hn8, htd, hq20, hI5, f41, hI7, f40, hI3, f43, iv, hiv1, hiv2, hI6, f42⟩ := id hN
  by_cases hw0 : w = 0
  · subst hw0
    have hG2 := hG.law hj (agx.c0 (F := F) (j := j) (g := (upd (upd (F 0) (8 * j + 6) ((F 0) (8 * j + 6))) (8 * j + 7) (nI 0))) (fun q9 hq9 => by rw [pk_un (by omega), pk_un (by omega)])) (Nat.le_succ k) ⟨0, mm, kk, M0, M1, hl.frame ⟨fun i hi => by
      show (upd (upd (F 0) (8 * j + 6) ((F 0) (8 * j + 6))) (8 * j + 7) (nI 0)) (8 * j + i) = F 0 (8 * j + i)
      by_cases e : i = 7
      · subst e; rw [pk_us, n6, n8 rfl]; rfl
      · rw [pk_un (by omega)]
        by_cases e6 : i = 6
        · subst e6; rw [pk_us]
        · rw [pk_un (by omega)], rfl, fun _ _ => rfl, fun _ _ => rfl⟩ (Nat.le_succ k) (Nat.le_refl td)⟩
    have hnl : nl 0 (XX j 3) (I 7) (XX j 4) (I 6) = nI 0 := by simp only [nl]; rw [if_neg (fun e => absurd e.1 (by omega))]
    exact (lc2n l D cI cZ cP o F (WK cI cZ cP n ad XX YY b I V P) (WK cI cZ cP n ad XX YY b I V P) ha ha j xx hj8 hx n4 (q_C.vl hnl (lk_isDue l hfl D cI cZ cP hj hj8 hpj rfl rfl n3 (by omega))) (la9n l hfl D cI cZ cP hj hj8 hpj rfl rfl n3 (by omega) (du := false) hnl rfl)).kw hG2.kw
  · obtain ⟨w0, rfl⟩ : ∃ w0, w = w0 + 1 := ⟨w - 1, by omega⟩
    have hl2 := hl.look (G := (va_up F 0 (upd (upd (F 0) (8 * j + 6) ((F 4) 0)) (8 * j + 7) (nI 0)))) (fun i hi => (show (upd (upd (F 0) (8 * j + 6) ((F 4) 0)) (8 * j + 7) (nI 0)) (8 * j + i) = F 0 (8 * j + i) from by rw [pk_un (by omega), pk_un (by omega)])) (x := I 7) (show (upd (upd (F 0) (8 * j + 6) ((F 4) 0)) (8 * j + 7) (nI 0)) (8 * j + 6) = I 7 from by rw [pk_un (by omega), pk_us, f40, hI7]) (show (upd (upd (F 0) (8 * j + 6) ((F 4) 0)) (8 * j + 7) (nI 0)) (8 * j + 7) = 0 from by rw [pk_us]; rfl) rfl rfl ⟨rfl, fun _ _ => rfl⟩
    have hG2 := hG.paper hj (agx.c0 (F := F) (j := j) (g := (upd (upd (F 0) (8 * j + 6) ((F 4) 0)) (8 * j + 7) (nI 0))) (fun q9 hq9 => by rw [pk_un (by omega), pk_un (by omega)])) (Nat.le_succ k) ⟨w0 + 1, mm, kk, M0, M1, hl2.frame (agf.rf j _) (Nat.le_succ k) (Nat.le_refl td)⟩
    obtain ⟨fs_ha2, ha2⟩ := WKat (cI := cI) (cZ := cZ) (cP := cP) (n := n) (ad := ad) (XX := (va_up XX j (va_up (va_up (XX j) 3 (nI 0)) 4 (I 7)))) (YY := (va_up YY j (YY j))) (b := b) (I := I) (V := V) (P := P)
    have hnl2 : nl (w0 + 1) ((va_up (va_up (XX j) 3 (nI 0)) 4 (I 7)) 3) (I 7) ((va_up (va_up (XX j) 3 (nI 0)) 4 (I 7)) 4) (I 6) = nI 0 := by
      show nl (w0 + 1) (nI 0) (I 7) (I 7) (I 6) = nI 0
      simp only [nl]; rw [if_neg]
      rintro ⟨-, e | e⟩
      · exact e rfl
      · rw [hI7, hI6, pk_sub (Nat.le_refl _), Nat.sub_self] at e; exact e ((nI_ltI (by omega) (by omega)).mpr (by omega))
    by_cases hdu : nl (w0 + 1) (XX j 3) (I 7) (XX j 4) (I 6) = nI 1
    · exact (lc2yt l D cI cZ cP o F (WK cI cZ cP n ad XX YY b I V P) (WK cI cZ cP n ad (va_up XX j (va_up (va_up (XX j) 3 (nI 0)) 4 (I 7))) (va_up YY j (YY j)) b I V P) ha ha2 j xx hj8 hx w0 (by omega) n4 (q_C.vl hdu (lk_isDue l hfl D cI cZ cP hj hj8 hpj rfl rfl n3 (by omega))) (la9y l hfl D cI cZ cP hj hj8 hpj rfl rfl n3 (by omega) (du := true) hdu (by simp only [kLook]; rw [if_neg (by omega)])) (q_C.vl hnl2 (lk_isDue l hfl D cI cZ cP hj hj8 hpj (va_up_self _ _ _) (va_up_self _ _ _) hl2.1.2.2.1 (by omega)))).kw hG2.kw
    · have hdu0 : nl (w0 + 1) (XX j 3) (I 7) (XX j 4) (I 6) = nI 0 := by
        simp only [nl] at hdu ⊢
        split
        · rename_i h9; exact absurd (if_pos h9) hdu
        · rfl
      exact (lc2yf l D cI cZ cP o F (WK cI cZ cP n ad XX YY b I V P) (WK cI cZ cP n ad (va_up XX j (va_up (va_up (XX j) 3 (nI 0)) 4 (I 7))) (va_up YY j (YY j)) b I V P) ha ha2 j xx hj8 hx w0 (by omega) n4 (q_C.vl hdu0 (lk_isDue l hfl D cI cZ cP hj hj8 hpj rfl rfl n3 (by omega))) (la9y l hfl D cI cZ cP hj hj8 hpj rfl rfl n3 (by omega) (du := false) hdu0 (by simp only [kLook]; rw [if_neg (by omega)])) (q_C.vl hnl2 (lk_isDue l hfl D cI cZ cP hj hj8 hpj (va_up_self _ _ _) (va_up_self _ _ _) hl2.1.2.2.1 (by omega)))).kw hG2.kw
