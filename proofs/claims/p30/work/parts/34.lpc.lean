/-! A DAY over the invariant. -/
set_option maxHeartbeats 1000000 in
theorem lpa_q (l : Launch) (hfl : l.stackTraces = false) (D : va_G) (cI cZ cP : ClassId) {b o : Nat → Nat} {k td : Nat} {F : Nat → Nat → Int32} {wk : va_W} (hQ : LQ cI cZ cP b k F wk) (hk : k ≤ 90) (f40 : F 4 0 = nI td) (htd : td < 1000) : q_C l yL_passes wsL_passes ({ frames := 8, cells := 42, slots := 252, locals := 130 }) D cI cZ cP [.ref (b 0), .ref (o 0), .ref (o 1), .ref (o 2), .ref (o 4)] (lw cI o F ++ wk) (S := (Nat → Nat → Int32) × va_W) (fun v u => v = some (.int (nI 1)) ∧ LQ cI cZ cP b k u.1 u.2) (fun u => lw cI o u.1 ++ u.2) (fun _ => False) 42 252 := by
  obtain ⟨n, td1, q, ad, XX, YY, I, V, P, rfl, hG⟩ := hQ
  obtain ⟨hN, hC, hR, hZ, hP, hL⟩ := id hG
  obtain ⟨hn8, htd1, hq20, hI5, f41, hI7, f401, hI3, f43, iv, hiv1, hiv2, hI6, f42⟩ := id hN
  obtain rfl : td = td1 := (nI_eq (by omega) (by omega)).mp (f40.symm.trans f401)
  have hhm : ∀ j, j < n → F 1 j = nI (hmq F j) ∧ hmq F j < 256 := fun j hj => by
    obtain ⟨w, mm, kk, M0, M1, hl⟩ := hL j hj
    obtain ⟨M, h1, h2⟩ := hl.2.2.1
    have e : hmq F j = M := by show ix (F 1 j) = M; rw [h1]; exact ix_nI (by have := h2.1; omega)
    rw [e]; exact ⟨h1, h2.1⟩
  have hwv : ∀ j, j < n → F 0 (8 * j + 5) = nI (wvq XX j) ∧ wvq XX j < 128 := fun j hj => by
    obtain ⟨M0, M1, hl⟩ := (hL j hj).own hk
    exact ⟨hl.1.2.2.2.1, by have := hl.w; show ix (XX j 1) < 128; omega⟩
  obtain ⟨b1, b2, b3, b4⟩ := day_all hn8 hk htd hL (fun j hj => (hhm j hj).1) n (Nat.le_refl n)
  have hB8 : bdS (nI (td + 1)) n (0, XX, YY) 8 = Bq td n XX YY n := by
    have := Bq_ge (td := td) (n := n) (XX := XX) (YY := YY) (8 - n)
    rw [show n + (8 - n) = 8 by omega] at this
    exact this
  have hcp := c3_pass l hfl D cI cZ cP b I V P n hn8 ad XX YY hP (fun j hj => by
    obtain ⟨M0, M1, hl⟩ := (hL j hj).own hk
    have hwk := hl.w
    exact ⟨hl.2.1, hl.1.2.2.1, by omega, fun _ => by omega⟩) td hI7 (by omega) (nI 1)
  have hps : psS td n (0, XX, YY) 1 = (0 + (bdS (nI (td + 1)) n (0, XX, YY) 8).1, (bdS (nI (td + 1)) n (0, XX, YY) 8).2) := rfl
  rw [show ix (nI 1) = 1 from ix_nI (by omega), hps, hB8] at hcp
  have hk0 : kPass (nI 1) (I 7) = 0 := by
    unfold kPass
    rw [if_neg, if_pos]
    · rw [hI7, nI_add, nI_leI (by omega) (by omega)]; omega
    · intro e
      rw [rg_of (by rw [nI_ltI (by omega) (by omega)]; omega) (by rw [nI_ltI (by omega) (by omega)]; omega)] at e; cases e
  have hdue : nI (0 + (Bq td n XX YY n).1) = nI (pc8 (dueM (duf F td (sfq XX YY)) n)) := congrArg nI (by rw [b1, pc8_due hn8]; exact Nat.zero_add _)
  have cp := (hcp.perm fok.symm (fun _ => fok.symm)).post (S2 := Unit) (post2 := fun v _ => v = some (.int (nI (pc8 (dueM (duf F td (sfq XX YY)) n))))) (W2 := fun _ => (WK cI cZ cP n ad ((Bq td n XX YY n).2.1) ((Bq td n XX YY n).2.2) b (va_up I 7 (nI (td + 1))) V P)) (xp2 := fun _ => False) (fun v u h => ⟨u, h.1.trans (congrArg (fun z => some (Value.int z)) hdue), rfl⟩) (fun E h => h.elim (fun h => absurd (h.2.symm.trans hk0) (by decide)) (fun h => absurd (h.2.symm.trans hk0) (by decide)))
  obtain ⟨fs_ha, ha⟩ := WKat (cI := cI) (cZ := cZ) (cP := cP) (n := n) (ad := ad) (XX := XX) (YY := YY) (b := b) (I := I) (V := V) (P := P)
  obtain ⟨fs_ha2, ha2⟩ := WKat (cI := cI) (cZ := cZ) (cP := cP) (n := n) (ad := ad) (XX := ((Bq td n XX YY n).2.1)) (YY := ((Bq td n XX YY n).2.2)) (b := b) (I := (va_up I 7 (nI (td + 1)))) (V := V) (P := P)
  have hfX : ∀ j, j < n → duf F td (sfq XX YY) j = true → ¬ XX j 2 = 0 ∧ ((Bq td n XX YY n).2.2) j = comY (nI (td + 1)) (XX j) (YY j) ∧ ((Bq td n XX YY n).2.1) j 1 = nI (wvq XX j + 1) := fun j hj hf => by
    have h5 : sN (XX j) (YY j) (ix (XX j 8)) (ix (XX j 9)) = 5 := of_decide_eq_true ((Bool.and_eq_true _ _).mp hf).1
    refine ⟨(sN_5 h5).1, ?_, ?_⟩
    · rw [b2 j, if_pos ⟨hj, hf⟩]
    · rw [b3 j 1 (by omega), if_pos ⟨hj, hf⟩]; rfl
  have hlog : ∀ kx e, kx < 32 → psV F td (wvq XX) (duf F td (sfq XX YY)) n (2 * kx + 1) = nI (e + 1) → e < 128 → ∃ (hj : kx / 4 < n) (w : Nat), ((Bq td n XX YY n).2.1) (kx / 4) 1 = nI w ∧ w ≤ 90 ∧ e < w ∧ ((Bq td n XX YY n).2.2) (kx / 4) 7 e = psV F td (wvq XX) (duf F td (sfq XX YY)) n (2 * kx) := fun kx e hkx hv he => by
    have ei : 8 * (kx / 4) + (2 * (kx % 4) + 1) = 2 * kx + 1 := by omega
    by_cases hj : kx / 4 < n
    · obtain ⟨w, mm, kk, M0, M1, hl⟩ := b4 (kx / 4) hj
      have hwk := hl.w
      refine ⟨hj, w, hl.1.2.2.1, by omega, ?_⟩
      have ht := hl.2.2.2.1.2.2 (kx % 4) (by omega)
      rw [show 8 * (kx / 4) + 2 * (kx % 4) + 1 = 2 * kx + 1 by omega, show 8 * (kx / 4) + 2 * (kx % 4) = 2 * kx by omega] at ht
      rcases ht with h9 | ⟨e2, g1, g2, g3⟩
      · have h9 : psV F td (wvq XX) (duf F td (sfq XX YY)) n (2 * kx + 1) = 0 := h9
        rw [hv] at h9
        have := (nI_eq0 (by omega)).mp h9
        omega
      · have g2 : psV F td (wvq XX) (duf F td (sfq XX YY)) n (2 * kx + 1) = nI (e2 + 1) := g2
        have : e2 + 1 = e + 1 := (nI_eq (by omega) (by omega)).mp (g2.symm.trans hv)
        obtain rfl : e2 = e := by omega
        exact ⟨g1, g3.symm⟩
    · exfalso
      have h0 := (hZ (kx / 4) (by omega) (by omega)).2.2.1 (2 * (kx % 4) + 1) (by omega)
      rw [ei] at h0
      rw [psV_ge (by omega), h0] at hv
      have := (nI_eq0 (n := e + 1) (by omega)).mp hv.symm
      omega
  have hV : ∀ kx, kx < 32 → psV F td (wvq XX) (duf F td (sfq XX YY)) n (2 * kx + 1) = 0 ∨ ∃ e, e < 128 ∧ psV F td (wvq XX) (duf F td (sfq XX YY)) n (2 * kx + 1) = nI (e + 1) := fun kx hkx => by
    have ei : 8 * (kx / 4) + (2 * (kx % 4) + 1) = 2 * kx + 1 := by omega
    by_cases hj : kx / 4 < n
    · obtain ⟨w, mm, kk, M0, M1, hl⟩ := b4 (kx / 4) hj
      have hwk := hl.w
      have ht := hl.2.2.2.1.2.2 (kx % 4) (by omega)
      rw [show 8 * (kx / 4) + 2 * (kx % 4) + 1 = 2 * kx + 1 by omega] at ht
      rcases ht with h9 | ⟨e2, g1, g2, g3⟩
      · exact Or.inl h9
      · exact Or.inr ⟨e2, by omega, g2⟩
    · have h0 := (hZ (kx / 4) (by omega) (by omega)).2.2.1 (2 * (kx % 4) + 1) (by omega)
      rw [ei] at h0
      exact Or.inl ((psV_ge (by omega)).trans h0)
  have hQ2 : LQ cI cZ cP b k (va_up (va_up (va_up F 0 (psA F td n (hmq F) (duf F td (sfq XX YY)) n)) 2 (psV F td (wvq XX) (duf F td (sfq XX YY)) n)) 4 (upd (F 4) 0 (nI (td + 1)))) (WK cI cZ cP n ad ((Bq td n XX YY n).2.1) ((Bq td n XX YY n).2.2) b (va_up I 7 (nI (td + 1))) V P) := by
    refine ⟨n, td + 1, q, ad, ((Bq td n XX YY n).2.1), ((Bq td n XX YY n).2.2), (va_up I 7 (nI (td + 1))), V, P, rfl, ⟨hn8, by omega, hq20, hI5, (show upd (F 4) 0 (nI (td + 1)) 1 = nI n from by rw [pk_un (by omega)]; exact f41), rfl, (show upd (F 4) 0 (nI (td + 1)) 0 = nI (td + 1) from pk_us), hI3, (show upd (F 4) 0 (nI (td + 1)) 3 = nI q from by rw [pk_un (by omega)]; exact f43), iv, hiv1, hiv2, hI6, (show upd (F 4) 0 (nI (td + 1)) 2 = nI iv from by rw [pk_un (by omega)]; exact f42)⟩, fun i hi => hC i hi, hR, fun j hj hj8 => ?_, hP, fun j hj => ?_⟩
    · obtain ⟨z1, z2, z3, z4⟩ := hZ j hj hj8
      exact ⟨fun c hc => (psA_ge (Nat.le_refl n) (by omega)).trans (z1 c hc), z2, fun c hc => (psV_ge (by omega)).trans (z3 c hc), z4⟩
    · have h := b4 j hj
      rw [if_pos hj] at h
      exact h.frame ⟨fun _ _ => rfl, rfl, fun _ _ => rfl, fun _ _ => rfl⟩ (Nat.le_refl k) (Nat.le_refl _)
  refine (lpasses l D cI cZ cP o F (WK cI cZ cP n ad XX YY b I V P) (WK cI cZ cP n ad ((Bq td n XX YY n).2.1) ((Bq td n XX YY n).2.2) b (va_up I 7 (nI (td + 1))) V P) ha ha2 n td (sfq XX YY) (wvq XX) (hmq F) hn8 htd f40 f41 (fun j _ => sN_le) hwv hhm hV (fun j hj => ?_) cp (fun j hj hf => ?_) (fun j hj hf => ?_) (fun kx e hkx he hv => ?_)).post (fun _ _ hv => ⟨((va_up (va_up (va_up F 0 (psA F td n (hmq F) (duf F td (sfq XX YY)) n)) 2 (psV F td (wvq XX) (duf F td (sfq XX YY)) n)) 4 (upd (F 4) 0 (nI (td + 1)))), (WK cI cZ cP n ad ((Bq td n XX YY n).2.1) ((Bq td n XX YY n).2.2) b (va_up I 7 (nI (td + 1))) V P)), ⟨hv, hQ2⟩, rfl⟩) (fun _ h => h)
  · obtain ⟨M0, M1, hl⟩ := (hL j hj).own hk
    exact lk_step l hfl D cI cZ cP hj (hG.j8 hj) (hG.pj hj) rfl rfl hl.2.1
  · obtain ⟨f2, fY, f1⟩ := hfX j hj hf
    obtain ⟨M0, M1, hl⟩ := (hL j hj).own hk
    have hw9 := (hwv j hj).2
    refine q_C.vl ?_ (lk_text l hfl D cI cZ cP (n := n) (ad := ad) (XX := ((Bq td n XX YY n).2.1)) (YY := ((Bq td n XX YY n).2.2)) (b := b) (I := (va_up I 7 (nI (td + 1)))) (V := V) (P := P) hj (hG.j8 hj) (hG.pj hj) rfl fY f1 (by omega))
    rw [if_neg (by omega), Nat.add_sub_cancel]
    exact (show upd (YY j 6) (ix (XX j 1)) (XX j 6) (ix (XX j 1)) = XX j 6 from pk_us).trans (hl.2.2.2.2 f2).1.2.1.symm
  · obtain ⟨f2, fY, f1⟩ := hfX j hj hf
    have hw9 := (hwv j hj).2
    exact q_C.vl (show upd (YY j 7) (ix (XX j 1)) (nI (td + 1)) (ix (XX j 1)) = nI (td + 1) from pk_us) (lk_since l hfl D cI cZ cP (n := n) (ad := ad) (XX := ((Bq td n XX YY n).2.1)) (YY := ((Bq td n XX YY n).2.2)) (b := b) (I := (va_up I 7 (nI (td + 1)))) (V := V) (P := P) hj (hG.j8 hj) (hG.pj hj) rfl fY f1 (by omega) (e := wvq XX j) (by omega))
  · obtain ⟨hj, w, g1, g2, g3, g4⟩ := hlog kx e hkx hv he
    exact q_C.vl g4 (lk_since l hfl D cI cZ cP (n := n) (ad := ad) (XX := ((Bq td n XX YY n).2.1)) (YY := ((Bq td n XX YY n).2.2)) (b := b) (I := (va_up I 7 (nI (td + 1)))) (V := V) (P := P) hj (hG.j8 hj) (hG.pj hj) rfl rfl g1 (by omega) g3)
