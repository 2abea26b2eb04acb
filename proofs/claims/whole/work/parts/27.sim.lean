/-! THE DAYS: what comes into force in the class comes into force in the reference. -/
section QSim
variable {X : Nat → Int32} {Y Z : Nat → Nat → Int32} {j c : Nat}
theorem stp_5 {n : Nat} {nr : Int32} {op : Nat} {ap nc : Int32} : stp n nr op ap nc = nI 5 ↔ ¬ n = 0 ∧ nr = -1 ∧ op = 0 ∧ ¬ ap = 0 ∧ nc = -1 := by
  unfold stp
  constructor
  · intro h
    split at h
    · exact absurd h (by decide)
    · rename_i h1
      split at h
      · exact absurd h (by decide)
      · split at h
        · exact absurd h (by decide)
        · rename_i h3
          split at h
          · exact absurd h (by decide)
          · rename_i h4
            exact ⟨fun e => h1 (Or.inl e), Classical.byContradiction fun e => h1 (Or.inr e), by omega, h3, Classical.byContradiction h4⟩
  · rintro ⟨h1, h2, h3, h4, h5⟩
    rw [if_neg (by rintro (h | h); exact h1 h; exact h h2), if_neg (by omega), if_neg h4, if_neg (fun h => h h5)]
theorem PR_rdy (h : PR X Y Z j c) (hj : j < 8) (t : Int32) : rdy t X Y ↔ mrdy t Z j := by
  obtain ⟨w, mm, k, ⟨s0, s2, s3, s4, s5, s6, s7, s10, s11⟩, ⟨n1, n2, n3, n4, n5, n6, n7, n8, n9, n10⟩, hh, hv, hr, hd, ht, ha⟩ := h
  have hk : k ≤ 4 := Nat.le_trans n8 (Nat.le_trans (pN_le _ _) n7)
  unfold rdy mrdy
  rw [n3, n5, ix_nI (by omega), ix_nI (by omega), stp_5, s2, hd.nc, s10, s11]
  constructor
  · rintro ⟨h1, ⟨-, -, -, h2, h3⟩, h4⟩; exact ⟨h1, h2, h4, h3⟩
  · rintro ⟨h1, h2, h4, h3⟩
    obtain ⟨g1, g2, g3⟩ := ha (by rw [s10]; exact h2)
    exact ⟨h1, ⟨g1, g2, g3, h2, h3⟩, h4⟩
theorem PR.ask {Z2 : Nat → Nat → Int32} {v : Int32} (h : PR X Y Z j c) (hc : c ≤ 512) (ha : ∀ q i, q ≠ 24 → i < sd q → Z2 q (pl q j i) = Z q (pl q j i)) (hv : Z2 24 j = v) (h01 : v = 0 ∨ v = 1) : PR (va_up X 3 v) Y Z2 j c := by
  have h1 : PR (va_up X 3 v) Y (va_up Z 24 (upd (Z 24) j v)) j c := by
    obtain ⟨w, mm, k, ⟨s0, s2, s3, s4, s5, s6, s7, s10, s11⟩, ⟨n1, n2, n3, n4, n5, n6, n7, n8, n9, n10⟩, hh, hv, hr, hd, ht, ha⟩ := h
    exact ⟨w, mm, k, ⟨s0, s2, by simp [va_up, upd], s4, s5, s6, s7, s10, s11⟩, ⟨n1, n2, n3, n4, n5, n6, n7, n8, n9, h01⟩, hh, hv, hr, hd, ht, ha⟩
  refine h1.frame (fun q i hi => ?_) (Nat.le_refl _) hc
  by_cases hq : q = 24
  · subst hq
    rw [va_up_self]
    show Z2 24 j = upd (Z 24) j v j
    rw [pk_us]; exact hv
  · rw [va_up_ne _ _ hq]; exact ha q i hq hi
/-- the reference's numbers behind a coming, but for who is asked -/
def comZ0 (t : Int32) (j : Nat) (Z : Nat → Nat → Int32) : Nat → Nat → Int32 :=
  va_up (va_up (va_up (va_up (va_up (va_up Z 8 (upd (Z 8) j (nI 0))) 21 (upd (Z 21) j (nI (ix (Z 21 j) + 1)))) 22 (upd (Z 22) (400 * j + ix (Z 21 j)) t)) 23 (upd (Z 23) (400 * j + ix (Z 21 j)) (Z 10 j))) 24 (upd (Z 24) j (nI 0))) 25 (upd (Z 25) j t)
theorem PR.come (h : PR X Y Z j c) (hc : c ≤ 512) {t : Int32} (hr : mrdy t Z j) : PR (comX t X) (comY t X Y) (comZ0 t j Z) j c := by
  obtain ⟨w, mm, k, ⟨s0, s2, s3, s4, s5, s6, s7, s10, s11⟩, ⟨n1, n2, n3, n4, n5, n6, n7, n8, n9, n10⟩, hh, hv, hrr, hd, ht, ha⟩ := h
  obtain ⟨r1, r2, r3, r4⟩ := hr
  obtain ⟨g1, g2, g3⟩ := ha (by rw [s10]; exact r2)
  have hrv : ¬ rvd Z j mm = 0 := fun e => by
    have := pN_pos.mp e 0 (by omega)
    have h2 := hv.all g2 0 (by omega)
    rw [(hv.1 0 (by omega)).2.1] at h2
    exact (of_decide_eq_false this) h2
  have hw : 4 * w + 4 ≤ c := by
    unfold pot at n9
    rw [if_neg (by rw [s2]; exact r1), if_neg g1, if_neg hrv, if_neg (by rw [s10]; exact r2)] at n9
    omega
  have e1 : ix (X 1) = w := by rw [n1]; exact ix_nI (by omega)
  have e2 : ix (Z 21 j) = w := by rw [n2]; exact ix_nI (by omega)
  unfold comX comY comZ0
  rw [e1, e2]
  refine ⟨w + 1, mm, k, ⟨s0, by simp [va_up, upd], by simp [va_up, upd], by simp [va_up, upd], s5, s6, s7, s10, s11⟩, ⟨rfl, by simp [va_up, upd], n3, n4, n5, n6, n7, n8, ?_, Or.inl rfl⟩, hh, hv, hrr, hd, fun i hi => ?_, ha⟩
  · show 4 * (w + 1) + pot (nI 0) mm (rvd Z j mm) (X 10) ≤ c
    rw [pot, if_pos (show nI 0 = 0 from rfl)]
    omega
  · show upd (Y 6) w (X 6) i = upd (Z 23) (400 * j + w) (Z 10 j) (400 * j + i) ∧ upd (Y 7) w t i = upd (Z 22) (400 * j + w) t (400 * j + i)
    by_cases e : i = w
    · subst e; rw [pk_us, pk_us, pk_us, pk_us]; exact ⟨s6, rfl⟩
    · rw [pk_un e, pk_un (show 400 * j + i ≠ 400 * j + w by omega), pk_un e, pk_un (show 400 * j + i ≠ 400 * j + w by omega)]
      exact ht i (by omega)
theorem comZ_agr {t : Int32} {n i k : Nat} (hk : k ≠ i) (hw : ix (Z 21 i) < 400) : ∀ q u, q ≠ 24 → u < sd q → comZ t n i Z q (pl q k u) = Z q (pl q k u) := by
  intro q u hq hu
  unfold comZ
  by_cases h25 : q = 25
  · subst h25; rw [va_up_self]; exact pk_un (f := Z 25) (show pl 25 k u ≠ i from hk)
  rw [va_up_ne _ _ h25, va_up_ne _ _ hq]
  by_cases h23 : q = 23
  · subst h23; rw [va_up_self]
    have : u < 400 := hu
    exact pk_un (f := Z 23) (show 400 * k + u ≠ 400 * i + ix (Z 21 i) by omega)
  rw [va_up_ne _ _ h23]
  by_cases h22 : q = 22
  · subst h22; rw [va_up_self]
    have : u < 400 := hu
    exact pk_un (f := Z 22) (show 400 * k + u ≠ 400 * i + ix (Z 21 i) by omega)
  rw [va_up_ne _ _ h22]
  by_cases h21 : q = 21
  · subst h21; rw [va_up_self]; exact pk_un (f := Z 21) (show pl 21 k u ≠ i from hk)
  rw [va_up_ne _ _ h21]
  by_cases h8 : q = 8
  · subst h8; rw [va_up_self]; exact pk_un (f := Z 8) (show pl 8 k u ≠ i from hk)
  rw [va_up_ne _ _ h8]
def PI (n c : Nat) (XX : Nat → Nat → Int32) (YY : Nat → Nat → Nat → Int32) (Z : Nat → Nat → Int32) : Prop := (∀ j, j < 8 → PR (XX j) (YY j) Z j c) ∧ (∀ j, n ≤ j → j < 8 → XX j = (fun _ => 0) ∧ YY j = fun _ _ => 0) ∧ (∀ j, j < 8 → ∀ i, n ≤ i → i < 8 → YY j 0 i = 0)
theorem ask_bI {x : Int32} (hx : x = 0 ∨ x = 1) {A B A2 B2 : Prop} [Decidable A] [Decidable B] [Decidable A2] [Decidable B2] (hA : A ↔ A2) (hB : B ↔ B2) : (if A ∧ B then nI 1 else x) = bI (decide (¬ x = 0) || (decide A2 && decide B2)) := by
  by_cases a : A <;> by_cases b : B
  · rw [if_pos ⟨a, b⟩, decide_eq_true (hA.mp a), decide_eq_true (hB.mp b)]; simp [bI]
  · rw [if_neg (fun h => b h.2), decide_eq_false (fun h => b (hB.mpr h))]; rcases hx with rfl | rfl <;> simp [bI] <;> rfl
  · rw [if_neg (fun h => a h.1), decide_eq_false (fun h => a (hA.mpr h))]; rcases hx with rfl | rfl <;> simp [bI] <;> rfl
  · rw [if_neg (fun h => a h.1), decide_eq_false (fun h => a (hA.mpr h))]; rcases hx with rfl | rfl <;> simp [bI] <;> rfl
theorem askX_eq (YY : Nat → Nat → Nat → Int32) (r : Nat) (XX : Nat → Nat → Int32) {k : Nat} (hk : k < 8) : askX YY r XX 8 k = va_up (XX k) 3 (if ¬ YY k 0 r = 0 ∧ ¬ XX k 1 = nI 0 then nI 1 else XX k 3) := by
  simp only [askX]
  by_cases h : ¬ YY k 0 r = 0 ∧ ¬ XX k 1 = nI 0
  · rw [if_pos ⟨hk, h⟩, if_pos h]
  · rw [if_neg (fun g => h g.2), if_neg h, up_same]
end QSim
