/-! A DAY and the days: the class's and the reference's. -/
section QSim2
variable {XX : Nat → Nat → Int32} {YY : Nat → Nat → Nat → Int32} {Z : Nat → Nat → Int32} {n c : Nat}
theorem PR.w {X : Nat → Int32} {Y : Nat → Nat → Int32} {j : Nat} (h : PR X Y Z j c) (hc : c ≤ 512) : ∃ w, w ≤ 128 ∧ X 1 = nI w ∧ Z 21 j = nI w := by
  obtain ⟨w, mm, k, hs, ⟨n1, n2, n3, n4, n5, n6, n7, n8, n9, n10⟩, hh, hv, hr, hd, ht, ha⟩ := h
  exact ⟨w, by omega, n1, n2⟩
theorem PR.c01 {X : Nat → Int32} {Y : Nat → Nat → Int32} {j : Nat} (h : PR X Y Z j c) : X 3 = Z 24 j ∧ (X 3 = 0 ∨ X 3 = 1) := by
  obtain ⟨w, mm, k, hs, ⟨n1, n2, n3, n4, n5, n6, n7, n8, n9, n10⟩, hh, hv, hr, hd, ht, ha⟩ := h
  exact ⟨hs.2.2.1, n10⟩
theorem PR.hg {X : Nat → Int32} {Y : Nat → Nat → Int32} {j : Nat} (h : PR X Y Z j c) : PRh Y Z j := by
  obtain ⟨w, mm, k, hs, hn, hh, hv, hr, hd, ht, ha⟩ := h
  exact hh
theorem nI_le00 {w : Nat} (h : w < 2 ^ 31) : ¬ nI w = nI 0 ↔ ¬ nI w ≤ 0 := by
  rw [nI_eq h (by omega), nI_le0 h]
theorem bI_01 (b : Bool) : bI b = 0 ∨ bI b = 1 := by cases b <;> simp [bI] <;> decide
/-- a paper comes into force, in both -/
theorem PI.com (h : PI n c XX YY Z) (hn : n ≤ 8) (hc : c ≤ 512) {i : Nat} (hi : i < n) {t : Int32} (hr : mrdy t Z i) (a : Nat) : PI n c (comS t i (a, XX, YY)).2.1 (comS t i (a, XX, YY)).2.2 (comZ t n i Z) := by
  obtain ⟨h1, h2, h3⟩ := h
  have hci := (h1 i (by omega)).come hc hr
  obtain ⟨wi, hwi, hw1, hw2⟩ := (h1 i (by omega)).w hc
  have hwz : ix (Z 21 i) < 400 := by rw [hw2, ix_nI (by omega)]; omega
  have hYi : ∀ q, va_up YY i (comY t (XX i) (YY i)) q 0 = YY q 0 := by
    intro q
    by_cases e : q = i
    · subst e; rw [va_up_self]; rfl
    · rw [va_up_ne _ _ e]
  show PI n c (askX (va_up YY i (comY t (XX i) (YY i))) i (va_up XX i (comX t (XX i))) 8) (va_up YY i (comY t (XX i) (YY i))) (comZ t n i Z)
  refine ⟨fun k hk => ?_, fun k hk hk8 => ?_, fun k hk q hq hq8 => ?_⟩
  · rw [askX_eq _ _ _ hk, hYi]
    have e24 : comZ t n i Z 24 = mcl (upd (Z 24) i (nI 0)) (Z 7) (upd (Z 21) i (nI (ix (Z 21 i) + 1))) i n := rfl
    by_cases e : k = i
    · subst e
      rw [va_up_self, va_up_self]
      refine hci.ask hc (fun q u hq hu => ?_) ?_ (by split; exact Or.inr rfl; exact Or.inl rfl)
      · show comZ t n k Z q (pl q k u) = comZ0 t k Z q (pl q k u)
        unfold comZ comZ0
        by_cases h25 : q = 25
        · subst h25; rw [va_up_self, va_up_self]
        · rw [va_up_ne _ _ h25, va_up_ne _ _ hq, va_up_ne _ _ h25, va_up_ne _ _ hq]
      · rw [e24, mcl, if_pos hi, pk_us, pk_us]
        rw [← (h1 k hk).hg k hk]
        exact (ask_bI (x := nI 0) (Or.inl rfl) Iff.rfl (by
          show ¬ nI (ix (XX k 1) + 1) = nI 0 ↔ ¬ nI (ix (Z 21 k) + 1) ≤ 0
          rw [hw1, hw2]
          rw [ix_nI (by omega)]
          exact nI_le00 (by omega))).symm
    · rw [va_up_ne _ _ e, va_up_ne _ _ e]
      obtain ⟨wk, hwk, g1, g2⟩ := (h1 k hk).w hc
      obtain ⟨c1, c2⟩ := (h1 k hk).c01
      refine (h1 k hk).ask hc (comZ_agr e hwz) ?_ (by split; exact Or.inr rfl; exact c2)
      by_cases hkn : k < n
      · rw [e24, mcl, if_pos hkn, pk_un e, pk_un e, ← c1, ← (h1 k hk).hg i (by omega)]
        exact (ask_bI c2 Iff.rfl (by rw [g1, g2]; exact nI_le00 (by omega))).symm
      · rw [e24, mcl, if_neg hkn, pk_un e, ← c1, if_neg]
        intro h9
        rw [(h2 k (by omega) hk).2] at h9
        exact h9.1 rfl
  · have e : k ≠ i := by omega
    rw [askX_eq _ _ _ hk8, hYi, va_up_ne _ _ e, va_up_ne _ _ e]
    refine ⟨?_, (h2 k hk hk8).2⟩
    rw [if_neg (fun h9 => by rw [(h2 k hk hk8).2] at h9; exact h9.1 rfl), up_same]
    exact (h2 k hk hk8).1
  · rw [hYi]; exact h3 k hk q hq hq8
/-- one day -/
theorem PI.day (hn : n ≤ 8) (hc : c ≤ 512) (t : Int32) {a b : Nat} (h : PI n c XX YY Z) : ∀ k, k ≤ n → PI n c (bdS t n (a, XX, YY) k).2.1 (bdS t n (a, XX, YY) k).2.2 (mdS t n (b + a, Z) k).2 ∧ (mdS t n (b + a, Z) k).1 = b + (bdS t n (a, XX, YY) k).1
  | 0, _ => ⟨h, rfl⟩
  | k + 1, hk => by
    obtain ⟨h1, h2⟩ := PI.day hn hc t (a := a) (b := b) h k (by omega)
    have hiff := PR_rdy (h1.1 k (by omega)) (by omega) t
    by_cases hr : mrdy t (mdS t n (b + a, Z) k).2 k
    · rw [bdS_yes (by omega) (hiff.mpr hr), mdS_yes hr]
      refine ⟨h1.com hn hc (by omega) hr _, ?_⟩
      show (mdS t n (b + a, Z) k).1 + 1 = b + ((bdS t n (a, XX, YY) k).1 + 1)
      omega
    · rw [bdS_no (fun g => hr (hiff.mp g.2)), mdS_no hr]
      exact ⟨h1, h2⟩
theorem bdS_end {t : Int32} {s : PS} : ∀ k, n ≤ k → bdS t n s k = bdS t n s n := by
  intro k hk
  induction k with
  | zero => rw [show n = 0 by omega]
  | succ k ih =>
    by_cases e : n = k + 1
    · rw [e]
    · rw [bdS_no (fun g => absurd g.1 (by omega)), ih (by omega)]
/-- the days -/
theorem PI.days (hn : n ≤ 8) (hc : c ≤ 512) (td : Nat) (h : PI n c XX YY Z) : ∀ k, PI n c (psS td n (0, XX, YY) k).2.1 (psS td n (0, XX, YY) k).2.2 (mpS td n (0, Z) k).2 ∧ (mpS td n (0, Z) k).1 = (psS td n (0, XX, YY) k).1
  | 0 => ⟨h, rfl⟩
  | k + 1 => by
    obtain ⟨h1, h2⟩ := PI.days hn hc td h k
    have hd := PI.day hn hc (nI (td + (k + 1))) (a := 0) (b := (psS td n (0, XX, YY) k).1) h1 n (Nat.le_refl _)
    rw [psS, mpS, bdS_end 8 hn]
    rw [show (mpS td n (0, Z) k) = ((psS td n (0, XX, YY) k).1 + 0, (mpS td n (0, Z) k).2) from by rw [Nat.add_zero, ← h2]]
    exact hd
theorem PR_wfp {X : Nat → Int32} {Y : Nat → Nat → Int32} {j : Nat} (h : PR X Y Z j c) (hc : c ≤ 512) : wfp X Y := by
  obtain ⟨w, mm, k, hs, ⟨n1, n2, n3, n4, n5, n6, n7, n8, n9, n10⟩, hh, hv, hr, hd, ht, ha⟩ := h
  have hk : k ≤ 4 := Nat.le_trans n8 (Nat.le_trans (pN_le _ _) n7)
  have e1 : ix (X 1) = w := by rw [n1]; exact ix_nI (by omega)
  have e8 : ix (X 8) = mm := by rw [n3]; exact ix_nI (by omega)
  have e9 : ix (X 9) = k := by rw [n5]; exact ix_nI (by omega)
  unfold wfp
  rw [e1, e8, e9]
  refine ⟨⟨n3, n7, n5, hk, fun i hi => (hv.1 i hi).2.2⟩, n1, by omega, fun h2 => ?_⟩
  unfold pot at n9
  rw [if_neg h2] at n9
  omega
theorem PR_wfm {X : Nat → Int32} {Y : Nat → Nat → Int32} {j : Nat} (h : PR X Y Z j c) (hc : c ≤ 512) : wfm Z j := by
  obtain ⟨w, mm, k, hs, ⟨n1, n2, n3, n4, n5, n6, n7, n8, n9, n10⟩, hh, hv, hr, hd, ht, ha⟩ := h
  have e1 : ix (Z 21 j) = w := by rw [n2]; exact ix_nI (by omega)
  unfold wfm
  rw [e1]
  refine ⟨n2, by omega, fun h2 => ?_⟩
  unfold pot at n9
  rw [if_neg (by rw [hs.2.1]; exact h2)] at n9
  omega
end QSim2
