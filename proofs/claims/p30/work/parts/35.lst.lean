/-! A STEP: every case of it, over the invariant. -/
theorem bI_or (b : Bool) : bI b = 0 ∨ bI b = 1 := by
  cases b
  · exact Or.inl rfl
  · exact Or.inr rfl
theorem pws_new {cI cZ : ClassId} {n : Nat} {ad : Nat → Nat → Nat} {XX : Nat → Nat → Int32} {YY : Nat → Nat → Nat → Int32} (a : Nat → Nat) (X : Nat → Int32) (Y : Nat → Nat → Int32) : pws cI cZ (n + 1) (va_up ad n a) (va_up XX n X) (va_up YY n Y) = pws cI cZ n ad XX YY ++ (dw cI cZ a X Y ++ ppw cI cZ a X Y) := by
  unfold pws
  rw [List.range_succ, List.flatMap_append, List.flatMap_cons, List.flatMap_nil, List.append_nil, va_up_self, va_up_self, va_up_self]
  congr 1
  rw [List.flatMap_def, List.flatMap_def]
  refine congrArg List.flatten (List.map_congr_left fun k hk => ?_)
  have e : k ≠ n := by have := List.mem_range.mp hk; omega
  rw [va_up_ne _ _ e, va_up_ne _ _ e, va_up_ne _ _ e]
/-- a role set: mask and row -/
theorem roles_mk {M p : Nat} {v : Nat → Int32} (hM : mk6 M (fun p => decide (¬ v p = 0))) (hp : p < 6) (c : Bool) : mk6 (bw M p c) (fun q => decide (¬ upd v p (bI ((bw M p c).testBit p)) q = 0)) := by
  refine ⟨bw_lt hM.1 hp c, fun i hi => ?_⟩
  show (bw M p c).testBit i = decide (¬ upd v p (bI ((bw M p c).testBit p)) i = 0)
  by_cases e : i = p
  · subst e
    rw [pk_us]
    cases (bw M i c).testBit i <;> rfl
  · rw [pk_un e, bw_bit hM.1 hp c hi, if_neg e]
    exact hM.2 i hi
set_option maxHeartbeats 1000000 in
theorem lst_0 (l : Launch) (hfl : l.stackTraces = false) (D : va_G) (cI cZ cP : ClassId) {b o : Nat → Nat} {F : Nat → Nat → Int32} {n k td q : Nat} {ad : Nat → Nat → Nat} {XX : Nat → Nat → Int32} {YY : Nat → Nat → Nat → Int32} {I : Nat → Int32} {V : Nat → Nat → Int32} {P : Nat → Option Nat} (hG : GI n k td q ad XX YY I V P F) (hk : k < 90) (xx yy : Nat) (hx : xx < 2 ^ 30) (hy : yy < 2 ^ 30) (wh : Nat) (hw : wh = 0 ∨ n = 0) (hwh : wh < 25) : q_C l yL_step wsL_step ({ frames := 12, cells := 294, slots := 1764, locals := 231 }) D cI cZ cP [.ref (b 0), .int (nI wh), .int (nI xx), .int (nI yy), .ref (o 0), .ref (o 1), .ref (o 2), .ref (o 3), .ref (o 4), .ref (o 5), .ref (o 6), .ref (o 7)] (lw cI o F ++ (WK cI cZ cP n ad XX YY b I V P)) (S := va_W) (fun v u => v = some (.int (nI 1)) ∧ KW cI cZ cP b o (k + 1) u) (fun u => u) (fun _ => False) 294 1764 := by
  obtain ⟨hN, hC, hR, hZ, hP, hL⟩ := id hG
  obtain ⟨hn8, htd, hq20, hI5, f41, hI7, f40, hI3, f43, iv, hiv1, hiv2, hI6, f42⟩ := id hN
  obtain ⟨fs_ha, ha⟩ := WKat (cI := cI) (cZ := cZ) (cP := cP) (n := n) (ad := ad) (XX := XX) (YY := YY) (b := b) (I := I) (V := V) (P := P)
  by_cases hn : n = 8
  · exact (ls0f l D cI cZ cP o F (WK cI cZ cP n ad XX YY b I V P) ha xx yy hx hy (hn ▸ f41) wh (by omega) hwh).kw (hG.same (Nat.le_succ k)).kw
  · have hn9 : n < 8 := by omega
    have hco := ((c3_open l hfl D cI cZ cP b I V P n hI5 hn8 (bI (decide ((nI (xx % 2)) = 0))) (bI_or _)).fl (pws cI cZ n ad XX YY)).perm (List.Perm.refl _) (V' := fun a => (WK cI cZ cP (n + 1) (va_up ad n a) (va_up XX n (va_up (fun _ => 0) 0 (bI (decide ((nI (xx % 2)) = 0))))) (va_up YY n (fun _ _ => 0)) b (va_up I 5 (nI (n + 1))) V (va_up P n (some (a 0))))) (fun a => by
      show (pws cI cZ n ad XX YY ++ (dw cI cZ a (va_up (fun _ => 0) 0 (bI (decide ((nI (xx % 2)) = 0)))) (fun _ _ => 0) ++ (ppw cI cZ a (va_up (fun _ => 0) 0 (bI (decide ((nI (xx % 2)) = 0)))) (fun _ _ => 0) ++ (kq cI cZ cP b (va_up I 5 (nI (n + 1))) V (va_up P n (some (a 0))) ++ cw cI b (va_up I 5 (nI (n + 1))) V)))).Perm _
      rw [WK, pws_new]
      simp only [List.append_assoc]
      exact List.Perm.refl _)
    have co := hco.post (S2 := Nat → Nat) (post2 := fun v _ => v = some (.int (nI n))) (W2 := fun a => (WK cI cZ cP (n + 1) (va_up ad n a) (va_up XX n (va_up (fun _ => 0) 0 (bI (decide ((nI (xx % 2)) = 0))))) (va_up YY n (fun _ _ => 0)) b (va_up I 5 (nI (n + 1))) V (va_up P n (some (a 0))))) (xp2 := fun _ => False) (fun v u h => ⟨u, h.1, rfl⟩) (fun E h => by have h2 := h.2; unfold kOpen at h2; rw [if_pos hn9] at h2; omega)
    have hwd : wd (va_up (fun _ => 0) 0 (bI (decide ((nI (xx % 2)) = 0)))) (fun _ _ => 0) 0 0 := ⟨rfl, by omega, rfl, by omega, fun i hi => absurd hi (by omega)⟩
    have hx0 : sN (va_up (fun _ => 0) 0 (bI (decide ((nI (xx % 2)) = 0)))) (fun _ _ => 0) 0 0 = 0 := sN_0.mpr rfl
    have hx1 : (va_up (fun _ => 0) 0 (bI (decide ((nI (xx % 2)) = 0)))) 1 = nI 0 := rfl
    have hq2 : ∀ a : Nat → Nat, (WK cI cZ cP (n + 1) (va_up ad n a) (va_up XX n (va_up (fun _ => 0) 0 (bI (decide ((nI (xx % 2)) = 0))))) (va_up YY n (fun _ _ => 0)) b (va_up I 5 (nI (n + 1))) V (va_up P n (some (a 0))))[(pws cI cZ (n + 1) (va_up ad n a) (va_up XX n (va_up (fun _ => 0) 0 (bI (decide ((nI (xx % 2)) = 0))))) (va_up YY n (fun _ _ => 0))).length]? = some (b 0, .inr (3, [.ref (b 1), .ref (b 2), .ref (b 3), .ref (b 4), .ref (b 5), .int (va_up I 5 (nI (n + 1)) 5), .int (va_up I 5 (nI (n + 1)) 6), .int (va_up I 5 (nI (n + 1)) 7)])) := fun a => by
      rw [List.getElem?_append_right (Nat.le_refl _), Nat.sub_self]; rfl
    have hkw : ∀ a : Nat → Nat, KW cI cZ cP b o (k + 1) (lw cI o (va_up F 4 (upd (F 4) 1 (nI (n + 1)))) ++ (WK cI cZ cP (n + 1) (va_up ad n a) (va_up XX n (va_up (fun _ => 0) 0 (bI (decide ((nI (xx % 2)) = 0))))) (va_up YY n (fun _ _ => 0)) b (va_up I 5 (nI (n + 1))) V (va_up P n (some (a 0))))) := fun a => by
      refine ⟨_, _, rfl, n + 1, td, q, _, _, _, _, _, _, rfl, ⟨by omega, htd, hq20, rfl, (show upd (F 4) 1 (nI (n + 1)) 1 = nI (n + 1) from pk_us), hI7, (show upd (F 4) 1 (nI (n + 1)) 0 = nI td from by rw [pk_un (by omega)]; exact f40), hI3, (show upd (F 4) 1 (nI (n + 1)) 3 = nI q from by rw [pk_un (by omega)]; exact f43), iv, hiv1, hiv2, hI6, (show upd (F 4) 1 (nI (n + 1)) 2 = nI iv from by rw [pk_un (by omega)]; exact f42)⟩, fun i hi => hC i hi, hR, fun j hj hj8 => hZ j (by omega) hj8, fun i hi => ?_, fun j hj => ?_⟩
      · by_cases e : i = n
        · rw [e, va_up_self, va_up_self, if_pos (by omega)]
        · rw [va_up_ne _ _ e, va_up_ne _ _ e, hP i hi]
          by_cases h9 : i < n
          · rw [if_pos h9, if_pos (by omega)]
          · rw [if_neg h9, if_neg (by omega)]
      · by_cases e : j = n
        · rw [e, va_up_self, va_up_self]
          exact LPp.fresh (F := (va_up F 4 (upd (F 4) 1 (nI (n + 1))))) (hZ n (Nat.le_refl n) (by omega))
        · rw [va_up_ne _ _ e, va_up_ne _ _ e]
          exact (hL j (by omega)).frame ⟨fun _ _ => rfl, rfl, fun _ _ => rfl, fun _ _ => rfl⟩ (Nat.le_succ k) (Nat.le_refl td)
    exact (ls0n l D cI cZ cP o F (WK cI cZ cP n ad XX YY b I V P) (fun a => (WK cI cZ cP (n + 1) (va_up ad n a) (va_up XX n (va_up (fun _ => 0) 0 (bI (decide ((nI (xx % 2)) = 0))))) (va_up YY n (fun _ _ => 0)) b (va_up I 5 (nI (n + 1))) V (va_up P n (some (a 0))))) ha (q2 := fun a => (pws cI cZ (n + 1) (va_up ad n a) (va_up XX n (va_up (fun _ => 0) 0 (bI (decide ((nI (xx % 2)) = 0))))) (va_up YY n (fun _ _ => 0))).length) (fs2 := fun a => [.ref (b 1), .ref (b 2), .ref (b 3), .ref (b 4), .ref (b 5), .int (va_up I 5 (nI (n + 1)) 5), .int (va_up I 5 (nI (n + 1)) 6), .int (va_up I 5 (nI (n + 1)) 7)]) hq2 xx yy hx hy n f41 wh hw hwh hn9 co (fun a => q_C.vl (congrArg nI hx0) (lk_step l hfl D cI cZ cP (Nat.lt_succ_self n) hn9 (by rw [va_up_self, va_up_self]) (va_up_self _ _ _) (va_up_self _ _ _) hwd)) (fun a => lk_inForce l hfl D cI cZ cP (Nat.lt_succ_self n) hn9 (by rw [va_up_self, va_up_self]) (va_up_self _ _ _) (va_up_self _ _ _) hx1 (by omega))).post (fun _ a hv => ⟨_, ⟨hv, hkw a⟩, rfl⟩) (fun _ h => h)

set_option maxHeartbeats 1000000 in
theorem lst_1 (l : Launch) (hfl : l.stackTraces = false) (D : va_G) (cI cZ cP : ClassId) {b o : Nat → Nat} {F : Nat → Nat → Int32} {n k td q : Nat} {ad : Nat → Nat → Nat} {XX : Nat → Nat → Int32} {YY : Nat → Nat → Nat → Int32} {I : Nat → Int32} {V : Nat → Nat → Int32} {P : Nat → Option Nat} (hG : GI n k td q ad XX YY I V P F) (hk : k < 90) (xx yy : Nat) (hx : xx < 2 ^ 30) (hy : yy < 2 ^ 30) (hn1 : 1 ≤ n) : q_C l yL_step wsL_step ({ frames := 12, cells := 294, slots := 1764, locals := 231 }) D cI cZ cP [.ref (b 0), .int (nI 1), .int (nI xx), .int (nI yy), .ref (o 0), .ref (o 1), .ref (o 2), .ref (o 3), .ref (o 4), .ref (o 5), .ref (o 6), .ref (o 7)] (lw cI o F ++ (WK cI cZ cP n ad XX YY b I V P)) (S := va_W) (fun v u => v = some (.int (nI 1)) ∧ KW cI cZ cP b o (k + 1) u) (fun u => u) (fun _ => False) 294 1764 := by
  obtain ⟨hN, hC, hR, hZ, hP, hL⟩ := id hG
  obtain ⟨hn8, htd, hq20, hI5, f41, hI7, f40, hI3, f43, iv, hiv1, hiv2, hI6, f42⟩ := id hN
  obtain ⟨fs_ha, ha⟩ := WKat (cI := cI) (cZ := cZ) (cP := cP) (n := n) (ad := ad) (XX := XX) (YY := YY) (b := b) (I := I) (V := V) (P := P)
  have hj : xx % n < n := Nat.mod_lt _ (by omega)
  have hj8 := hG.j8 hj
  have hpj := hG.pj hj
  have hi : yy % n < n := Nat.mod_lt _ (by omega)
  obtain ⟨w, mm, kk, M0, M1, hl⟩ := hL _ hj
  obtain ⟨M, h1, h2⟩ := hl.2.2.1
  by_cases e : yy % n = xx % n
  · have hG2 := hG.law hj (agx.c1 (F := F) (g := (upd (F 1) (xx % n) (nI M))) (fun q9 hq9 => pk_un hq9)) (Nat.le_succ k) ⟨w, mm, kk, M0, M1, hl.frame ⟨fun _ _ => rfl, (show upd (F 1) (xx % n) (nI M) (xx % n) = F 1 (xx % n) from by rw [pk_us, h1]), fun _ _ => rfl, fun _ _ => rfl⟩ (Nat.le_succ k) (Nat.le_refl td)⟩
    exact (ls1e l D cI cZ cP o F (WK cI cZ cP n ad XX YY b I V P) ha xx yy hx hy n hn1 hn8 f41 (xx % n) rfl hj8 e M h2.1 h1).kw hG2.kw
  · have hi8 : yy % n < 8 := by omega
    obtain ⟨hl2, hpc⟩ := hl.hang (G := (va_up F 1 (upd (F 1) (xx % n) (nI (bs M (yy % n)))))) h1 h2.1 hi8 rfl (show upd (F 1) (xx % n) (nI (bs M (yy % n))) (xx % n) = nI (bs M (yy % n)) from pk_us) rfl rfl
    have hG2 := hG.paper hj (agx.c1 (F := F) (g := (upd (F 1) (xx % n) (nI (bs M (yy % n))))) (fun q9 hq9 => pk_un hq9)) (Nat.le_succ k) ⟨w, mm, kk, M0, M1, hl2.frame (agf.rf _ _) (Nat.le_succ k) (Nat.le_refl td)⟩
    obtain ⟨fs_ha2, ha2⟩ := WKat (cI := cI) (cZ := cZ) (cP := cP) (n := n) (ad := ad) (XX := (va_up XX (xx % n) (XX (xx % n)))) (YY := (va_up YY (xx % n) (va_up (YY (xx % n)) 0 (upd ((YY (xx % n)) 0) (yy % n) (nI 1))))) (b := b) (I := I) (V := V) (P := P)
    exact (ls1n l D cI cZ cP o F (WK cI cZ cP n ad XX YY b I V P) (WK cI cZ cP n ad (va_up XX (xx % n) (XX (xx % n))) (va_up YY (xx % n) (va_up (YY (xx % n)) 0 (upd ((YY (xx % n)) 0) (yy % n) (nI 1)))) b I V P) ha ha2 xx yy hx hy n hn1 hn8 f41 (xx % n) rfl hj8 (yy % n) rfl hi8 e M h2.1 h1 (q_C.vl (congrArg nI hpc.symm) (lk_hang l hfl D cI cZ cP hj hj8 hpj rfl rfl hi8 (hG.pj hi) e))).kw hG2.kw

set_option maxHeartbeats 1000000 in
theorem lst_2 (l : Launch) (hfl : l.stackTraces = false) (D : va_G) (cI cZ cP : ClassId) {b o : Nat → Nat} {F : Nat → Nat → Int32} {n k td q : Nat} {ad : Nat → Nat → Nat} {XX : Nat → Nat → Int32} {YY : Nat → Nat → Nat → Int32} {I : Nat → Int32} {V : Nat → Nat → Int32} {P : Nat → Option Nat} (hG : GI n k td q ad XX YY I V P F) (hk : k < 90) (xx yy : Nat) (hx : xx < 2 ^ 30) (hy : yy < 2 ^ 30) (hn1 : 1 ≤ n) : q_C l yL_step wsL_step ({ frames := 12, cells := 294, slots := 1764, locals := 231 }) D cI cZ cP [.ref (b 0), .int (nI 2), .int (nI xx), .int (nI yy), .ref (o 0), .ref (o 1), .ref (o 2), .ref (o 3), .ref (o 4), .ref (o 5), .ref (o 6), .ref (o 7)] (lw cI o F ++ (WK cI cZ cP n ad XX YY b I V P)) (S := va_W) (fun v u => v = some (.int (nI 1)) ∧ KW cI cZ cP b o (k + 1) u) (fun u => u) (fun _ => False) 294 1764 := by
  obtain ⟨hN, hC, hR, hZ, hP, hL⟩ := id hG
  obtain ⟨hn8, htd, hq20, hI5, f41, hI7, f40, hI3, f43, iv, hiv1, hiv2, hI6, f42⟩ := id hN
  obtain ⟨fs_ha, ha⟩ := WKat (cI := cI) (cZ := cZ) (cP := cP) (n := n) (ad := ad) (XX := XX) (YY := YY) (b := b) (I := I) (V := V) (P := P)
  have hj : xx % n < n := Nat.mod_lt _ (by omega)
  have hj8 := hG.j8 hj
  have hpj := hG.pj hj
  obtain ⟨⟨r0, f50, hr0⟩, ⟨r1, f51, hr1⟩, hR3, hR4⟩ := id hR
  have hpp : (xx / 8 % 6) < 6 := by omega
  obtain ⟨zp, f6, hzv⟩ : ∃ zp, F 6 (xx / 8 % 6) = nI zp ∧ V 2 (xx / 8 % 6) = nI zp - nI 1 := by
    rcases hR4 _ hpp with ⟨e1, e2⟩ | ⟨d, hd, e1, e2⟩
    · exact ⟨0, e2, e1.trans nI_m1.symm⟩
    · exact ⟨d + 1, e2, e1.trans (nI_pred1 d).symm⟩
  obtain ⟨fs_ha2, ha2⟩ := WKat (cI := cI) (cZ := cZ) (cP := cP) (n := n) (ad := ad) (XX := XX) (YY := YY) (b := b) (I := I) (V := (va_up (va_up V 0 (upd (V 0) (xx / 8 % 6) (bI ((bw r0 (xx / 8 % 6) (decide (0 < yy % 4))).testBit (xx / 8 % 6))))) 1 (upd (V 1) (xx / 8 % 6) (bI ((bw r1 (xx / 8 % 6) (decide (yy / 28 % 2 = 0))).testBit (xx / 8 % 6)))))) (P := P)
  by_cases ed : yy / 4 % 7 = 0
  · have hro : GRo (va_up (va_up (va_up V 0 (upd (V 0) (xx / 8 % 6) (bI ((bw r0 (xx / 8 % 6) (decide (0 < yy % 4))).testBit (xx / 8 % 6))))) 1 (upd (V 1) (xx / 8 % 6) (bI ((bw r1 (xx / 8 % 6) (decide (yy / 28 % 2 = 0))).testBit (xx / 8 % 6))))) 2 (upd ((va_up (va_up V 0 (upd (V 0) (xx / 8 % 6) (bI ((bw r0 (xx / 8 % 6) (decide (0 < yy % 4))).testBit (xx / 8 % 6))))) 1 (upd (V 1) (xx / 8 % 6) (bI ((bw r1 (xx / 8 % 6) (decide (yy / 28 % 2 = 0))).testBit (xx / 8 % 6))))) 2) (xx / 8 % 6) (-1))) (va_up (va_up F 5 (upd (upd (F 5) 0 (nI (bw r0 (xx / 8 % 6) (decide (0 < yy % 4))))) 1 (nI (bw r1 (xx / 8 % 6) (decide (yy / 28 % 2 = 0)))))) 6 (upd (F 6) (xx / 8 % 6) (nI 0))) := by
      refine ⟨⟨bw r0 (xx / 8 % 6) (decide (0 < yy % 4)), (show upd (upd (F 5) 0 (nI (bw r0 (xx / 8 % 6) (decide (0 < yy % 4))))) 1 (nI (bw r1 (xx / 8 % 6) (decide (yy / 28 % 2 = 0)))) 0 = nI (bw r0 (xx / 8 % 6) (decide (0 < yy % 4))) from by rw [pk_un (by omega), pk_us]), roles_mk hr0 hpp _⟩, ⟨bw r1 (xx / 8 % 6) (decide (yy / 28 % 2 = 0)), (show upd (upd (F 5) 0 (nI (bw r0 (xx / 8 % 6) (decide (0 < yy % 4))))) 1 (nI (bw r1 (xx / 8 % 6) (decide (yy / 28 % 2 = 0)))) 1 = nI (bw r1 (xx / 8 % 6) (decide (yy / 28 % 2 = 0))) from pk_us), roles_mk hr1 hpp _⟩, fun p9 hp9 => ?_, fun p9 hp9 => ?_⟩
      · show upd (V 1) (xx / 8 % 6) (bI ((bw r1 (xx / 8 % 6) (decide (yy / 28 % 2 = 0))).testBit (xx / 8 % 6))) p9 = 0 ∨ upd (V 1) (xx / 8 % 6) (bI ((bw r1 (xx / 8 % 6) (decide (yy / 28 % 2 = 0))).testBit (xx / 8 % 6))) p9 = 1
        by_cases e : p9 = (xx / 8 % 6)
        · rw [e, pk_us]; exact bI_or _
        · rw [pk_un e]; exact hR3 p9 hp9
      · show (upd (V 2) (xx / 8 % 6) (-1) p9 = -1 ∧ upd (F 6) (xx / 8 % 6) (nI 0) p9 = 0) ∨ ∃ d, d < 6 ∧ upd (V 2) (xx / 8 % 6) (-1) p9 = nI d ∧ upd (F 6) (xx / 8 % 6) (nI 0) p9 = nI (d + 1)
        by_cases e : p9 = (xx / 8 % 6)
        · rw [e, pk_us, pk_us]; exact Or.inl ⟨rfl, rfl⟩
        · rw [pk_un e, pk_un e]; exact hR4 p9 hp9
    have hG2 : GI n (k + 1) td q ad XX YY I (va_up (va_up (va_up V 0 (upd (V 0) (xx / 8 % 6) (bI ((bw r0 (xx / 8 % 6) (decide (0 < yy % 4))).testBit (xx / 8 % 6))))) 1 (upd (V 1) (xx / 8 % 6) (bI ((bw r1 (xx / 8 % 6) (decide (yy / 28 % 2 = 0))).testBit (xx / 8 % 6))))) 2 (upd ((va_up (va_up V 0 (upd (V 0) (xx / 8 % 6) (bI ((bw r0 (xx / 8 % 6) (decide (0 < yy % 4))).testBit (xx / 8 % 6))))) 1 (upd (V 1) (xx / 8 % 6) (bI ((bw r1 (xx / 8 % 6) (decide (yy / 28 % 2 = 0))).testBit (xx / 8 % 6))))) 2) (xx / 8 % 6) (-1))) P (va_up (va_up F 5 (upd (upd (F 5) 0 (nI (bw r0 (xx / 8 % 6) (decide (0 < yy % 4))))) 1 (nI (bw r1 (xx / 8 % 6) (decide (yy / 28 % 2 = 0)))))) 6 (upd (F 6) (xx / 8 % 6) (nI 0))) := ⟨hN, fun i hi => hC i hi, hro, fun j hj hj8 => hZ j hj hj8, hP, fun j hj => (hL j hj).frame ⟨fun _ _ => rfl, rfl, fun _ _ => rfl, fun _ _ => rfl⟩ (Nat.le_succ k) (Nat.le_refl td)⟩
    obtain ⟨fs_ha3, ha3⟩ := WKat (cI := cI) (cZ := cZ) (cP := cP) (n := n) (ad := ad) (XX := XX) (YY := YY) (b := b) (I := I) (V := (va_up (va_up (va_up V 0 (upd (V 0) (xx / 8 % 6) (bI ((bw r0 (xx / 8 % 6) (decide (0 < yy % 4))).testBit (xx / 8 % 6))))) 1 (upd (V 1) (xx / 8 % 6) (bI ((bw r1 (xx / 8 % 6) (decide (yy / 28 % 2 = 0))).testBit (xx / 8 % 6))))) 2 (upd ((va_up (va_up V 0 (upd (V 0) (xx / 8 % 6) (bI ((bw r0 (xx / 8 % 6) (decide (0 < yy % 4))).testBit (xx / 8 % 6))))) 1 (upd (V 1) (xx / 8 % 6) (bI ((bw r1 (xx / 8 % 6) (decide (yy / 28 % 2 = 0))).testBit (xx / 8 % 6))))) 2) (xx / 8 % 6) (-1)))) (P := P)
    exact (ls2m l D cI cZ cP o F (WK cI cZ cP n ad XX YY b I V P) (WK cI cZ cP n ad XX YY b I (va_up (va_up V 0 (upd (V 0) (xx / 8 % 6) (bI ((bw r0 (xx / 8 % 6) (decide (0 < yy % 4))).testBit (xx / 8 % 6))))) 1 (upd (V 1) (xx / 8 % 6) (bI ((bw r1 (xx / 8 % 6) (decide (yy / 28 % 2 = 0))).testBit (xx / 8 % 6))))) P) ha ha2 xx yy hx hy n hn1 hn8 f41 (xx % n) rfl hj8 (xx / 8 % 6) rfl hpp r0 r1 zp hr0.1 hr1.1 f50 f51 f6 ed (WK cI cZ cP n ad XX YY b I (va_up (va_up (va_up V 0 (upd (V 0) (xx / 8 % 6) (bI ((bw r0 (xx / 8 % 6) (decide (0 < yy % 4))).testBit (xx / 8 % 6))))) 1 (upd (V 1) (xx / 8 % 6) (bI ((bw r1 (xx / 8 % 6) (decide (yy / 28 % 2 = 0))).testBit (xx / 8 % 6))))) 2 (upd ((va_up (va_up V 0 (upd (V 0) (xx / 8 % 6) (bI ((bw r0 (xx / 8 % 6) (decide (0 < yy % 4))).testBit (xx / 8 % 6))))) 1 (upd (V 1) (xx / 8 % 6) (bI ((bw r1 (xx / 8 % 6) (decide (yy / 28 % 2 = 0))).testBit (xx / 8 % 6))))) 2) (xx / 8 % 6) (-1))) P) ha3 (lk_setRoles l hfl D cI cZ cP (xx / 8 % 6) hpp (bI_or _) (bI_or _)) (q_C.vl hzv (lk_setDeputy l hfl D cI cZ cP (xx / 8 % 6) hpp (Or.inl rfl)))).kw hG2.kw
  · obtain ⟨dq, hdq⟩ : ∃ dq, yy / 4 % 7 = dq + 1 := ⟨yy / 4 % 7 - 1, by omega⟩
    by_cases e9 : dq = (xx / 8 % 6)
    · have hz1 : (nI zp - nI 1) + nI 1 = nI zp := by
        rcases hR4 _ hpp with ⟨e1, e2⟩ | ⟨d, hd, e1, e2⟩
        · rw [← hzv, e1, ← f6, e2]; exact nI_m1p
        · rw [← hzv, e1, ← f6, e2]; exact nI_add d 1
      have hro : GRo (va_up (va_up V 0 (upd (V 0) (xx / 8 % 6) (bI ((bw r0 (xx / 8 % 6) (decide (0 < yy % 4))).testBit (xx / 8 % 6))))) 1 (upd (V 1) (xx / 8 % 6) (bI ((bw r1 (xx / 8 % 6) (decide (yy / 28 % 2 = 0))).testBit (xx / 8 % 6))))) (va_up (va_up F 5 (upd (upd (F 5) 0 (nI (bw r0 (xx / 8 % 6) (decide (0 < yy % 4))))) 1 (nI (bw r1 (xx / 8 % 6) (decide (yy / 28 % 2 = 0)))))) 6 (upd (F 6) (xx / 8 % 6) ((nI zp - nI 1) + nI 1))) := by
        refine ⟨⟨bw r0 (xx / 8 % 6) (decide (0 < yy % 4)), (show upd (upd (F 5) 0 (nI (bw r0 (xx / 8 % 6) (decide (0 < yy % 4))))) 1 (nI (bw r1 (xx / 8 % 6) (decide (yy / 28 % 2 = 0)))) 0 = nI (bw r0 (xx / 8 % 6) (decide (0 < yy % 4))) from by rw [pk_un (by omega), pk_us]), roles_mk hr0 hpp _⟩, ⟨bw r1 (xx / 8 % 6) (decide (yy / 28 % 2 = 0)), (show upd (upd (F 5) 0 (nI (bw r0 (xx / 8 % 6) (decide (0 < yy % 4))))) 1 (nI (bw r1 (xx / 8 % 6) (decide (yy / 28 % 2 = 0)))) 1 = nI (bw r1 (xx / 8 % 6) (decide (yy / 28 % 2 = 0))) from pk_us), roles_mk hr1 hpp _⟩, fun p9 hp9 => ?_, fun p9 hp9 => ?_⟩
        · show upd (V 1) (xx / 8 % 6) (bI ((bw r1 (xx / 8 % 6) (decide (yy / 28 % 2 = 0))).testBit (xx / 8 % 6))) p9 = 0 ∨ upd (V 1) (xx / 8 % 6) (bI ((bw r1 (xx / 8 % 6) (decide (yy / 28 % 2 = 0))).testBit (xx / 8 % 6))) p9 = 1
          by_cases e : p9 = (xx / 8 % 6)
          · rw [e, pk_us]; exact bI_or _
          · rw [pk_un e]; exact hR3 p9 hp9
        · show (V 2 p9 = -1 ∧ upd (F 6) (xx / 8 % 6) ((nI zp - nI 1) + nI 1) p9 = 0) ∨ ∃ d, d < 6 ∧ V 2 p9 = nI d ∧ upd (F 6) (xx / 8 % 6) ((nI zp - nI 1) + nI 1) p9 = nI (d + 1)
          by_cases e : p9 = (xx / 8 % 6)
          · rw [e, pk_us, hz1, ← f6]; exact hR4 _ hpp
          · rw [pk_un e]; exact hR4 p9 hp9
      have hG2 : GI n (k + 1) td q ad XX YY I (va_up (va_up V 0 (upd (V 0) (xx / 8 % 6) (bI ((bw r0 (xx / 8 % 6) (decide (0 < yy % 4))).testBit (xx / 8 % 6))))) 1 (upd (V 1) (xx / 8 % 6) (bI ((bw r1 (xx / 8 % 6) (decide (yy / 28 % 2 = 0))).testBit (xx / 8 % 6))))) P (va_up (va_up F 5 (upd (upd (F 5) 0 (nI (bw r0 (xx / 8 % 6) (decide (0 < yy % 4))))) 1 (nI (bw r1 (xx / 8 % 6) (decide (yy / 28 % 2 = 0)))))) 6 (upd (F 6) (xx / 8 % 6) ((nI zp - nI 1) + nI 1))) := ⟨hN, fun i hi => hC i hi, hro, fun j hj hj8 => hZ j hj hj8, hP, fun j hj => (hL j hj).frame ⟨fun _ _ => rfl, rfl, fun _ _ => rfl, fun _ _ => rfl⟩ (Nat.le_succ k) (Nat.le_refl td)⟩
      exact (ls2e l D cI cZ cP o F (WK cI cZ cP n ad XX YY b I V P) (WK cI cZ cP n ad XX YY b I (va_up (va_up V 0 (upd (V 0) (xx / 8 % 6) (bI ((bw r0 (xx / 8 % 6) (decide (0 < yy % 4))).testBit (xx / 8 % 6))))) 1 (upd (V 1) (xx / 8 % 6) (bI ((bw r1 (xx / 8 % 6) (decide (yy / 28 % 2 = 0))).testBit (xx / 8 % 6))))) P) ha ha2 xx yy hx hy n hn1 hn8 f41 (xx % n) rfl hj8 (xx / 8 % 6) rfl hpp r0 r1 zp hr0.1 hr1.1 f50 f51 f6 (hdq.trans (by rw [e9])) (WK cI cZ cP n ad XX YY b I V P) ha (lk_setRoles l hfl D cI cZ cP (xx / 8 % 6) hpp (bI_or _) (bI_or _))).kw hG2.kw
    · have hd6 : dq < 6 := by omega
      have hro : GRo (va_up (va_up (va_up V 0 (upd (V 0) (xx / 8 % 6) (bI ((bw r0 (xx / 8 % 6) (decide (0 < yy % 4))).testBit (xx / 8 % 6))))) 1 (upd (V 1) (xx / 8 % 6) (bI ((bw r1 (xx / 8 % 6) (decide (yy / 28 % 2 = 0))).testBit (xx / 8 % 6))))) 2 (upd ((va_up (va_up V 0 (upd (V 0) (xx / 8 % 6) (bI ((bw r0 (xx / 8 % 6) (decide (0 < yy % 4))).testBit (xx / 8 % 6))))) 1 (upd (V 1) (xx / 8 % 6) (bI ((bw r1 (xx / 8 % 6) (decide (yy / 28 % 2 = 0))).testBit (xx / 8 % 6))))) 2) (xx / 8 % 6) (nI dq))) (va_up (va_up F 5 (upd (upd (F 5) 0 (nI (bw r0 (xx / 8 % 6) (decide (0 < yy % 4))))) 1 (nI (bw r1 (xx / 8 % 6) (decide (yy / 28 % 2 = 0)))))) 6 (upd (F 6) (xx / 8 % 6) (nI (dq + 1)))) := by
        refine ⟨⟨bw r0 (xx / 8 % 6) (decide (0 < yy % 4)), (show upd (upd (F 5) 0 (nI (bw r0 (xx / 8 % 6) (decide (0 < yy % 4))))) 1 (nI (bw r1 (xx / 8 % 6) (decide (yy / 28 % 2 = 0)))) 0 = nI (bw r0 (xx / 8 % 6) (decide (0 < yy % 4))) from by rw [pk_un (by omega), pk_us]), roles_mk hr0 hpp _⟩, ⟨bw r1 (xx / 8 % 6) (decide (yy / 28 % 2 = 0)), (show upd (upd (F 5) 0 (nI (bw r0 (xx / 8 % 6) (decide (0 < yy % 4))))) 1 (nI (bw r1 (xx / 8 % 6) (decide (yy / 28 % 2 = 0)))) 1 = nI (bw r1 (xx / 8 % 6) (decide (yy / 28 % 2 = 0))) from pk_us), roles_mk hr1 hpp _⟩, fun p9 hp9 => ?_, fun p9 hp9 => ?_⟩
        · show upd (V 1) (xx / 8 % 6) (bI ((bw r1 (xx / 8 % 6) (decide (yy / 28 % 2 = 0))).testBit (xx / 8 % 6))) p9 = 0 ∨ upd (V 1) (xx / 8 % 6) (bI ((bw r1 (xx / 8 % 6) (decide (yy / 28 % 2 = 0))).testBit (xx / 8 % 6))) p9 = 1
          by_cases e : p9 = (xx / 8 % 6)
          · rw [e, pk_us]; exact bI_or _
          · rw [pk_un e]; exact hR3 p9 hp9
        · show (upd (V 2) (xx / 8 % 6) (nI dq) p9 = -1 ∧ upd (F 6) (xx / 8 % 6) (nI (dq + 1)) p9 = 0) ∨ ∃ d, d < 6 ∧ upd (V 2) (xx / 8 % 6) (nI dq) p9 = nI d ∧ upd (F 6) (xx / 8 % 6) (nI (dq + 1)) p9 = nI (d + 1)
          by_cases e : p9 = (xx / 8 % 6)
          · rw [e, pk_us, pk_us]; exact Or.inr ⟨dq, hd6, rfl, rfl⟩
          · rw [pk_un e, pk_un e]; exact hR4 p9 hp9
      have hG2 : GI n (k + 1) td q ad XX YY I (va_up (va_up (va_up V 0 (upd (V 0) (xx / 8 % 6) (bI ((bw r0 (xx / 8 % 6) (decide (0 < yy % 4))).testBit (xx / 8 % 6))))) 1 (upd (V 1) (xx / 8 % 6) (bI ((bw r1 (xx / 8 % 6) (decide (yy / 28 % 2 = 0))).testBit (xx / 8 % 6))))) 2 (upd ((va_up (va_up V 0 (upd (V 0) (xx / 8 % 6) (bI ((bw r0 (xx / 8 % 6) (decide (0 < yy % 4))).testBit (xx / 8 % 6))))) 1 (upd (V 1) (xx / 8 % 6) (bI ((bw r1 (xx / 8 % 6) (decide (yy / 28 % 2 = 0))).testBit (xx / 8 % 6))))) 2) (xx / 8 % 6) (nI dq))) P (va_up (va_up F 5 (upd (upd (F 5) 0 (nI (bw r0 (xx / 8 % 6) (decide (0 < yy % 4))))) 1 (nI (bw r1 (xx / 8 % 6) (decide (yy / 28 % 2 = 0)))))) 6 (upd (F 6) (xx / 8 % 6) (nI (dq + 1)))) := ⟨hN, fun i hi => hC i hi, hro, fun j hj hj8 => hZ j hj hj8, hP, fun j hj => (hL j hj).frame ⟨fun _ _ => rfl, rfl, fun _ _ => rfl, fun _ _ => rfl⟩ (Nat.le_succ k) (Nat.le_refl td)⟩
      obtain ⟨fs_ha3, ha3⟩ := WKat (cI := cI) (cZ := cZ) (cP := cP) (n := n) (ad := ad) (XX := XX) (YY := YY) (b := b) (I := I) (V := (va_up (va_up (va_up V 0 (upd (V 0) (xx / 8 % 6) (bI ((bw r0 (xx / 8 % 6) (decide (0 < yy % 4))).testBit (xx / 8 % 6))))) 1 (upd (V 1) (xx / 8 % 6) (bI ((bw r1 (xx / 8 % 6) (decide (yy / 28 % 2 = 0))).testBit (xx / 8 % 6))))) 2 (upd ((va_up (va_up V 0 (upd (V 0) (xx / 8 % 6) (bI ((bw r0 (xx / 8 % 6) (decide (0 < yy % 4))).testBit (xx / 8 % 6))))) 1 (upd (V 1) (xx / 8 % 6) (bI ((bw r1 (xx / 8 % 6) (decide (yy / 28 % 2 = 0))).testBit (xx / 8 % 6))))) 2) (xx / 8 % 6) (nI dq)))) (P := P)
      exact (ls2d l D cI cZ cP o F (WK cI cZ cP n ad XX YY b I V P) (WK cI cZ cP n ad XX YY b I (va_up (va_up V 0 (upd (V 0) (xx / 8 % 6) (bI ((bw r0 (xx / 8 % 6) (decide (0 < yy % 4))).testBit (xx / 8 % 6))))) 1 (upd (V 1) (xx / 8 % 6) (bI ((bw r1 (xx / 8 % 6) (decide (yy / 28 % 2 = 0))).testBit (xx / 8 % 6))))) P) ha ha2 xx yy hx hy n hn1 hn8 f41 (xx % n) rfl hj8 (xx / 8 % 6) rfl hpp r0 r1 zp hr0.1 hr1.1 f50 f51 f6 dq hdq e9 (WK cI cZ cP n ad XX YY b I (va_up (va_up (va_up V 0 (upd (V 0) (xx / 8 % 6) (bI ((bw r0 (xx / 8 % 6) (decide (0 < yy % 4))).testBit (xx / 8 % 6))))) 1 (upd (V 1) (xx / 8 % 6) (bI ((bw r1 (xx / 8 % 6) (decide (yy / 28 % 2 = 0))).testBit (xx / 8 % 6))))) 2 (upd ((va_up (va_up V 0 (upd (V 0) (xx / 8 % 6) (bI ((bw r0 (xx / 8 % 6) (decide (0 < yy % 4))).testBit (xx / 8 % 6))))) 1 (upd (V 1) (xx / 8 % 6) (bI ((bw r1 (xx / 8 % 6) (decide (yy / 28 % 2 = 0))).testBit (xx / 8 % 6))))) 2) (xx / 8 % 6) (nI dq))) P) ha3 (lk_setRoles l hfl D cI cZ cP (xx / 8 % 6) hpp (bI_or _) (bI_or _)) (q_C.vl hzv (lk_setDeputy l hfl D cI cZ cP (xx / 8 % 6) hpp (Or.inr ⟨dq, hd6, e9, rfl⟩)))).kw hG2.kw

set_option maxHeartbeats 1000000 in
theorem lst_3 (l : Launch) (hfl : l.stackTraces = false) (D : va_G) (cI cZ cP : ClassId) {b o : Nat → Nat} {F : Nat → Nat → Int32} {n k td q : Nat} {ad : Nat → Nat → Nat} {XX : Nat → Nat → Int32} {YY : Nat → Nat → Nat → Int32} {I : Nat → Int32} {V : Nat → Nat → Int32} {P : Nat → Option Nat} (hG : GI n k td q ad XX YY I V P F) (hk : k < 90) (xx yy : Nat) (hx : xx < 2 ^ 30) (hy : yy < 2 ^ 30) (hn1 : 1 ≤ n) : q_C l yL_step wsL_step ({ frames := 12, cells := 294, slots := 1764, locals := 231 }) D cI cZ cP [.ref (b 0), .int (nI 3), .int (nI xx), .int (nI yy), .ref (o 0), .ref (o 1), .ref (o 2), .ref (o 3), .ref (o 4), .ref (o 5), .ref (o 6), .ref (o 7)] (lw cI o F ++ (WK cI cZ cP n ad XX YY b I V P)) (S := va_W) (fun v u => v = some (.int (nI 1)) ∧ KW cI cZ cP b o (k + 1) u) (fun u => u) (fun _ => False) 294 1764 := by
  obtain ⟨hN, hC, hR, hZ, hP, hL⟩ := id hG
  obtain ⟨hn8, htd, hq20, hI5, f41, hI7, f40, hI3, f43, iv, hiv1, hiv2, hI6, f42⟩ := id hN
  obtain ⟨fs_ha, ha⟩ := WKat (cI := cI) (cZ := cZ) (cP := cP) (n := n) (ad := ad) (XX := XX) (YY := YY) (b := b) (I := I) (V := V) (P := P)
  have hj : xx % n < n := Nat.mod_lt _ (by omega)
  have hj8 := hG.j8 hj
  have hpj := hG.pj hj
  obtain ⟨fs_ha2, ha2⟩ := WKat (cI := cI) (cZ := cZ) (cP := cP) (n := n) (ad := ad) (XX := XX) (YY := YY) (b := b) (I := (va_up I 6 (nI (1 + (yy % 40))))) (V := V) (P := P)
  have hG2 : GI n (k + 1) td q ad XX YY (va_up I 6 (nI (1 + (yy % 40)))) V P (va_up F 4 (upd (F 4) 2 (nI (1 + (yy % 40))))) := ⟨⟨hn8, htd, hq20, hI5, (show upd (F 4) 2 (nI (1 + (yy % 40))) 1 = nI n from by rw [pk_un (by omega)]; exact f41), hI7, (show upd (F 4) 2 (nI (1 + (yy % 40))) 0 = nI td from by rw [pk_un (by omega)]; exact f40), hI3, (show upd (F 4) 2 (nI (1 + (yy % 40))) 3 = nI q from by rw [pk_un (by omega)]; exact f43), 1 + (yy % 40), by omega, by omega, rfl, (show upd (F 4) 2 (nI (1 + (yy % 40))) 2 = nI (1 + (yy % 40)) from pk_us)⟩, fun i hi => hC i hi, hR, fun j hj hj8 => hZ j hj hj8, hP, fun j hj => (hL j hj).frame ⟨fun _ _ => rfl, rfl, fun _ _ => rfl, fun _ _ => rfl⟩ (Nat.le_succ k) (Nat.le_refl td)⟩
  exact (ls3 l D cI cZ cP o F (WK cI cZ cP n ad XX YY b I V P) (WK cI cZ cP n ad XX YY b (va_up I 6 (nI (1 + (yy % 40)))) V P) ha ha2 xx yy hx hy n hn1 hn8 f41 (xx % n) rfl hj8 (q_C.vl (hI6.trans f42.symm) (lk_setInterval l hfl D cI cZ cP (1 + (yy % 40)) (by omega) (by omega)))).kw hG2.kw

set_option maxHeartbeats 1000000 in
theorem lst_4 (l : Launch) (hfl : l.stackTraces = false) (D : va_G) (cI cZ cP : ClassId) {b o : Nat → Nat} {F : Nat → Nat → Int32} {n k td q : Nat} {ad : Nat → Nat → Nat} {XX : Nat → Nat → Int32} {YY : Nat → Nat → Nat → Int32} {I : Nat → Int32} {V : Nat → Nat → Int32} {P : Nat → Option Nat} (hG : GI n k td q ad XX YY I V P F) (hk : k < 90) (xx yy : Nat) (hx : xx < 2 ^ 30) (hy : yy < 2 ^ 30) (hn1 : 1 ≤ n) (wh : Nat) (h4 : 4 ≤ wh) (hwh : wh < 25) : q_C l yL_step wsL_step ({ frames := 12, cells := 294, slots := 1764, locals := 231 }) D cI cZ cP [.ref (b 0), .int (nI wh), .int (nI xx), .int (nI yy), .ref (o 0), .ref (o 1), .ref (o 2), .ref (o 3), .ref (o 4), .ref (o 5), .ref (o 6), .ref (o 7)] (lw cI o F ++ (WK cI cZ cP n ad XX YY b I V P)) (S := va_W) (fun v u => v = some (.int (nI 1)) ∧ KW cI cZ cP b o (k + 1) u) (fun u => u) (fun _ => False) 294 1764 := by
  obtain ⟨hN, hC, hR, hZ, hP, hL⟩ := id hG
  obtain ⟨hn8, htd, hq20, hI5, f41, hI7, f40, hI3, f43, iv, hiv1, hiv2, hI6, f42⟩ := id hN
  obtain ⟨fs_ha, ha⟩ := WKat (cI := cI) (cZ := cZ) (cP := cP) (n := n) (ad := ad) (XX := XX) (YY := YY) (b := b) (I := I) (V := V) (P := P)
  have hj : xx % n < n := Nat.mod_lt _ (by omega)
  have hj8 := hG.j8 hj
  have hpj := hG.pj hj
  rcases (show (4 ≤ wh ∧ wh < 6) ∨ (6 ≤ wh ∧ wh < 8) ∨ wh = 8 ∨ wh = 9 ∨ (10 ≤ wh ∧ wh < 20) ∨ (20 ≤ wh ∧ wh < 22) ∨ (22 ≤ wh ∧ wh < 25) by omega) with h | h | rfl | rfl | h | h | h
  · exact ls4 l D cI cZ cP o F (WK cI cZ cP n ad XX YY b I V P) ha xx yy hx hy n hn1 hn8 f41 (xx % n) rfl hj8 wh h.1 h.2 (dr_0 l hfl D cI cZ cP hG hk (xx % n) (xx / 8) yy hj (by omega) hy)
  · exact ls5a l D cI cZ cP o F (WK cI cZ cP n ad XX YY b I V P) ha xx yy hx hy n hn1 hn8 f41 (xx % n) rfl hj8 wh h.1 h.2 (dr_3 l hfl D cI cZ cP hG hk (xx % n) (xx / 8) (yy / 6) hj (by omega) (by omega))
  · exact ls5b l D cI cZ cP o F (WK cI cZ cP n ad XX YY b I V P) ha xx yy hx hy n hn1 hn8 f41 (xx % n) rfl hj8 (dr_4 l hfl D cI cZ cP hG hk (xx % n) (xx / 8) (yy / 6) hj (by omega) (by omega))
  · by_cases h3 : yy % 3 = 0
    · refine ls5c l D cI cZ cP o F (WK cI cZ cP n ad XX YY b I V P) ha xx yy hx hy n hn1 hn8 f41 (xx % n) rfl hj8 h3 ?_
      rcases (show yy % 2 = 0 ∨ yy % 2 = 1 by omega) with e | e
      · rw [e]; exact dr_1 l hfl D cI cZ cP hG hk (xx % n) (xx / 8) (yy / 6) hj (by omega) (by omega)
      · rw [e]; exact dr_2 l hfl D cI cZ cP hG hk (xx % n) (xx / 8) (yy / 6) hj (by omega) (by omega)
    · exact ls5d l D cI cZ cP o F (WK cI cZ cP n ad XX YY b I V P) ha xx yy hx hy n hn1 hn8 f41 (xx % n) rfl hj8 h3 (dr_3 l hfl D cI cZ cP hG hk (xx % n) (xx / 8) (yy / 6) hj (by omega) (by omega))
  · exact ls6 l D cI cZ cP o F (WK cI cZ cP n ad XX YY b I V P) ha xx yy hx hy n hn1 hn8 f41 (xx % n) rfl hj8 wh h.1 h.2 (go_all l hfl D cI cZ cP hG hk (xx % n) (xx / 8) yy hj (by omega) hy)
  · rcases (show yy % 4 = 0 ∨ yy % 4 = 1 ∨ 2 ≤ yy % 4 by omega) with e | e | e
    · exact ls7a l D cI cZ cP o F (WK cI cZ cP n ad XX YY b I V P) ha xx yy hx hy n hn1 hn8 f41 (xx % n) rfl hj8 wh h.1 h.2 e (lco_1 l hfl D cI cZ cP hG hk (xx % n) (yy / 4) hj (by omega))
    · exact ls7b l D cI cZ cP o F (WK cI cZ cP n ad XX YY b I V P) ha xx yy hx hy n hn1 hn8 f41 (xx % n) rfl hj8 wh h.1 h.2 e (lco_2 l hfl D cI cZ cP hG hk (xx % n) (yy / 4) hj (by omega))
    · exact ls7c l D cI cZ cP o F (WK cI cZ cP n ad XX YY b I V P) ha xx yy hx hy n hn1 hn8 f41 (xx % n) rfl hj8 wh h.1 h.2 e (lco_0 l hfl D cI cZ cP hG hk (xx % n) (yy / 4) hj (by omega))
  · exact ls8 l D cI cZ cP o F (WK cI cZ cP n ad XX YY b I V P) ha xx yy hx hy n hn1 hn8 f41 (LQ cI cZ cP b k) (xx % n) rfl hj8 wh h.1 h.2 ⟨n, td, q, ad, XX, YY, I, V, P, rfl, hG⟩ (fun F9 w9 h9 => by
      obtain ⟨n9, td9, q9, ad9, XX9, YY9, I9, V9, P9, -, hG9⟩ := h9
      exact ⟨td9, hG9.1.2.1, hG9.1.2.2.2.2.2.2.1⟩) (fun F9 w9 h9 => by
      obtain ⟨n9, td9, q9, ad9, XX9, YY9, I9, V9, P9, rfl, hG9⟩ := h9
      exact (hG9.same (Nat.le_succ k)).kw) (fun F9 w9 h9 td9 f9 ht9 => lpa_q l hfl D cI cZ cP h9 (by omega) f9 ht9)

set_option maxHeartbeats 1000000 in
theorem lst_all (l : Launch) (hfl : l.stackTraces = false) (D : va_G) (cI cZ cP : ClassId) {b o : Nat → Nat} {F : Nat → Nat → Int32} {wk : va_W} {k : Nat} (hQ : LQ cI cZ cP b k F wk) (hk : k < 90) (wh xx yy : Nat) (hwh : wh < 25) (hx : xx < 2 ^ 30) (hy : yy < 2 ^ 30) : q_C l yL_step wsL_step ({ frames := 12, cells := 294, slots := 1764, locals := 231 }) D cI cZ cP [.ref (b 0), .int (nI wh), .int (nI xx), .int (nI yy), .ref (o 0), .ref (o 1), .ref (o 2), .ref (o 3), .ref (o 4), .ref (o 5), .ref (o 6), .ref (o 7)] (lw cI o F ++ wk) (S := va_W) (fun v u => v = some (.int (nI 1)) ∧ KW cI cZ cP b o (k + 1) u) (fun u => u) (fun _ => False) 294 1764 := by
  obtain ⟨n, td, q, ad, XX, YY, I, V, P, rfl, hG⟩ := hQ
  by_cases h0 : wh = 0 ∨ n = 0
  · exact lst_0 l hfl D cI cZ cP hG hk xx yy hx hy wh h0 hwh
  · have hn1 : 1 ≤ n := Nat.pos_of_ne_zero fun e => h0 (Or.inr e)
    have hw1 : ¬ wh = 0 := fun e => h0 (Or.inl e)
    rcases (show wh = 1 ∨ wh = 2 ∨ wh = 3 ∨ 4 ≤ wh by omega) with rfl | rfl | rfl | h4
    · exact lst_1 l hfl D cI cZ cP hG hk xx yy hx hy hn1
    · exact lst_2 l hfl D cI cZ cP hG hk xx yy hx hy hn1
    · exact lst_3 l hfl D cI cZ cP hG hk xx yy hx hy hn1
    · exact lst_4 l hfl D cI cZ cP hG hk xx yy hx hy hn1 wh h4 hwh
