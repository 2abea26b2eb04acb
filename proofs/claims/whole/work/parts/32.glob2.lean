/-! CALLS that are of no paper: what they do to the whole state. -/
section QGlob2
variable {n c : Nat} {ad : Nat → Nat → Nat} {XX : Nat → Nat → Int32} {YY : Nat → Nat → Nat → Int32} {b : Nat → Nat} {I : Nat → Int32} {V : Nat → Nat → Int32} {P : Nat → Option Nat} {J : Nat → Int32} {Z : Nat → Nat → Int32}
theorem GR.roles (h : GR n c ad XX YY I V P J Z) (hc : c ≤ 512) (p : Nat) (r1 r2 v : Int32) (h2 : r2 = 0 ∨ r2 = 1) : GR n (c + 1) ad XX YY I (va_up (va_up V 0 (upd (V 0) p r1)) 1 (upd (V 1) p r2)) P (va_up J 30 v) (va_up (va_up Z 2 (upd (Z 2) p r1)) 3 (upd (Z 3) p r2)) := by
  obtain ⟨g1, g2, g3, g4, g5, g6, g7, g8⟩ := h
  refine ⟨g1, g2.glob hc (fun k => agr_g (agr_g (agr.rf k Z) rfl) rfl), g3, g4, g5, g6, fun i hi => ?_, g8⟩
  obtain ⟨e1, e2, e3, e4⟩ := g7 i hi
  show upd (V 0) p r1 i = upd (Z 2) p r1 i ∧ upd (V 1) p r2 i = upd (Z 3) p r2 i ∧ V 2 i = Z 4 i ∧ (upd (V 1) p r2 i = 0 ∨ upd (V 1) p r2 i = 1)
  by_cases e : i = p
  · subst e; rw [pk_us, pk_us, pk_us, pk_us]; exact ⟨rfl, rfl, e3, h2⟩
  · rw [pk_un e, pk_un e, pk_un e, pk_un e]; exact ⟨e1, e2, e3, e4⟩
theorem GR.deputy (h : GR n c ad XX YY I V P J Z) (hc : c ≤ 512) (p : Nat) (y v : Int32) : GR n (c + 1) ad XX YY I (va_up V 2 (upd (V 2) p y)) P (va_up J 30 v) (va_up Z 4 (upd (Z 4) p y)) := by
  obtain ⟨g1, g2, g3, g4, g5, g6, g7, g8⟩ := h
  refine ⟨g1, g2.glob hc (fun k => agr_g (agr.rf k Z) rfl), g3, g4, g5, g6, fun i hi => ?_, g8⟩
  obtain ⟨e1, e2, e3, e4⟩ := g7 i hi
  show V 0 i = Z 2 i ∧ V 1 i = Z 3 i ∧ upd (V 2) p y i = upd (Z 4) p y i ∧ (V 1 i = 0 ∨ V 1 i = 1)
  by_cases e : i = p
  · subst e; rw [pk_us, pk_us]; exact ⟨e1, e2, rfl, e4⟩
  · rw [pk_un e, pk_un e]; exact ⟨e1, e2, e3, e4⟩
theorem GR.interval (h : GR n c ad XX YY I V P J Z) (hc : c ≤ 512) (x v : Int32) : GR n (c + 1) ad XX YY (va_up I 6 x) V P (va_up (va_up J 1 x) 30 v) Z := by
  obtain ⟨g1, g2, g3, g4, g5, g6, g7, g8⟩ := h
  exact ⟨g1, g2.mono hc, g3, rfl, g5, g6, g7, g8⟩
theorem GR.take (h : GR n c ad XX YY I V P J Z) (hc : c ≤ 512) (p : Nat) (v : Int32) : GR n (c + 1) ad XX YY I (va_up V 12 (upd (V 12) p (-1))) P (va_up J 30 v) (va_up Z 29 (upd (Z 29) p (-1))) := by
  obtain ⟨g1, g2, g3, g4, g5, ⟨q, q1, q2, q3, q4⟩, g7, g8⟩ := h
  refine ⟨g1, g2.glob hc (fun k => agr_g (agr.rf k Z) rfl), g3, g4, g5, ⟨q, q1, q2, q3, fun i hi => ?_⟩, g7, g8⟩
  obtain ⟨e1, e2, e3⟩ := q4 i hi
  show V 10 i = Z 27 i ∧ V 11 i = Z 28 i ∧ upd (V 12) p (-1) i = upd (Z 29) p (-1) i
  by_cases e : i = p
  · subst e; rw [pk_us, pk_us]; exact ⟨e1, e2, rfl⟩
  · rw [pk_un e, pk_un e]; exact ⟨e1, e2, e3⟩
theorem PR.opened {X : Nat → Int32} {Y Z : Nat → Nat → Int32} {j c : Nat} (h : PR X Y Z j c) (x : Int32) : PR (va_up X 0 x) Y (va_up Z 6 (upd (Z 6) j x)) j (c + 1) := by
  obtain ⟨w, mm, k, ⟨s0, s2, s3, s4, s5, s6, s7, s10, s11⟩, ⟨n1, n2, n3, n4, n5, n6, n7, n8, n9, n10⟩, hh, hv, hr, hd, ht, ha⟩ := h
  exact ⟨w, mm, k, ⟨by simp [va_up, upd], s2, s3, s4, s5, s6, s7, s10, s11⟩, ⟨n1, n2, n3, n4, n5, n6, n7, n8, Nat.le_succ_of_le n9, n10⟩, hh, hv, hr, hd, ht, ha⟩
theorem GR.opened (h : GR n c ad XX YY I V P J Z) (hc : c ≤ 512) (hn : n < 8) (a : Nat → Nat) (x v : Int32) : GR (n + 1) (c + 1) (va_up ad n a) (va_up XX n (va_up (fun _ => 0) 0 x)) (va_up YY n (fun _ _ => 0)) (va_up I 5 (nI (n + 1))) V (va_up P n (some (a 0))) (va_up (va_up J 5 (nI (n + 1))) 30 v) (va_up Z 6 (upd (Z 6) n x)) := by
  obtain ⟨g1, ⟨p1, p2, p3⟩, g3, g4, g5, g6, g7, g8⟩ := h
  refine ⟨by omega, ⟨fun k hk => ?_, fun k hk hk8 => ?_, fun k hk i hi hi8 => ?_⟩, ⟨rfl, rfl⟩, g4, g5, g6, g7, fun k hk => ?_⟩
  · by_cases e : k = n
    · subst e
      rw [va_up_self, va_up_self]
      have := (p1 k hk).opened x
      rw [(p2 k (Nat.le_refl _) hk).1, (p2 k (Nat.le_refl _) hk).2] at this
      exact this
    · rw [va_up_ne _ _ e, va_up_ne _ _ e]
      exact (p1 k hk).frame (agr_upd (q0 := 6) (i0 := 0) e (agr.rf k Z) (by decide)) (Nat.le_succ c) hc
  · have e : k ≠ n := by omega
    rw [va_up_ne _ _ e, va_up_ne _ _ e]; exact p2 k (by omega) hk8
  · by_cases e : k = n
    · subst e; rw [va_up_self]
    · rw [va_up_ne _ _ e]; exact p3 k hk i (by omega) hi8
  · by_cases e : k = n
    · subst e; rw [va_up_self, va_up_self, if_pos (by omega)]
    · rw [va_up_ne _ _ e, va_up_ne _ _ e, g8 k hk]
      by_cases h9 : k < n
      · rw [if_pos h9, if_pos (by omega)]
      · rw [if_neg h9, if_neg (by omega)]
/-- a new paper's cells go behind the others -/
theorem pws_new {cI cZ : ClassId} (a : Nat → Nat) (X : Nat → Int32) (Y : Nat → Nat → Int32) : pws cI cZ (n + 1) (va_up ad n a) (va_up XX n X) (va_up YY n Y) = pws cI cZ n ad XX YY ++ (dw cI cZ a X Y ++ ppw cI cZ a X Y) := by
  unfold pws
  rw [List.range_succ, List.flatMap_append, List.flatMap_cons, List.flatMap_nil, List.append_nil, va_up_self, va_up_self, va_up_self]
  congr 1
  rw [List.flatMap_def, List.flatMap_def]
  refine congrArg List.flatten (List.map_congr_left fun k hk => ?_)
  have e : k ≠ n := by have := List.mem_range.mp hk; omega
  rw [va_up_ne _ _ e, va_up_ne _ _ e, va_up_ne _ _ e]
theorem ro_p {x : Int32} (h : rg x (nI 0) (nI 5) = true) : ix x < 6 := by
  obtain ⟨p, hp, rfl⟩ := kpe_0 h
  rw [ix_nI (by omega)]; exact hp
theorem ksr_0 {x : Int32} (h : kSetRoles x = 0) : ix x < 6 := by
  unfold kSetRoles at h
  split at h
  · rename_i h1; exact ro_p h1
  · cases h
theorem ksd_0 {x y : Int32} (h : kSetDeputy x y = 0) : ix x < 6 := by
  unfold kSetDeputy at h
  split at h
  · rename_i h1; exact ro_p h1.1
  · cases h
theorem kop_0 {n : Nat} (h : kOpen n = 0) : n < 8 := by
  unfold kOpen at h
  split at h
  · assumption
  · cases h
theorem ktd_0 {x : Int32} {q : Nat} {w : Int32} (hq : q ≤ 30) (h : kTakeDown x q w = 0) : ix x < q := by
  unfold kTakeDown at h
  split at h
  · rename_i h1; exact inr_ix (by omega) h1.1
  · cases h
theorem kpa_0 {x : Int32} {td : Nat} (htd : td ≤ 1000) (h : kPass x (nI td) = 0) : ix x ≤ 50 ∧ td + ix x ≤ 1000 := by
  unfold kPass at h
  split at h
  · cases h
  · rename_i h1
    split at h
    · rename_i h2
      obtain ⟨d, hd, rfl⟩ := rg_1j (by decide) (show rg x (nI 1) (nI 50) = true by simpa using h1)
      rw [ix_nI (by omega)]
      rw [nI_add] at h2
      have := (nI_leI (by omega) (by omega)).mp h2
      omega
    · cases h
theorem comZ_row {t : Int32} {i q : Nat} (hq : q < 6 ∨ 26 < q) : comZ t n i Z q = Z q := by
  unfold comZ
  rw [va_up_ne _ _ (by omega), va_up_ne _ _ (by omega), va_up_ne _ _ (by omega), va_up_ne _ _ (by omega), va_up_ne _ _ (by omega), va_up_ne _ _ (by omega)]
theorem mdS_row {t : Int32} {s : MS} {q : Nat} (hq : q < 6 ∨ 26 < q) : ∀ k, (mdS t n s k).2 q = s.2 q
  | 0 => rfl
  | k + 1 => by
    by_cases hr : mrdy t (mdS t n s k).2 k
    · rw [mdS_yes hr]; exact (comZ_row hq).trans (mdS_row hq k)
    · rw [mdS_no hr]; exact mdS_row hq k
theorem mpS_row {td : Nat} {s : MS} {q : Nat} (hq : q < 6 ∨ 26 < q) : ∀ k, (mpS td n s k).2 q = s.2 q
  | 0 => rfl
  | k + 1 => by rw [mpS]; exact (mdS_row hq n).trans (mpS_row hq k)
theorem GR.passed (h : GR n c ad XX YY I V P J Z) (hc : c ≤ 512) {td d : Nat} (hI : I 7 = nI td) (hd : td + d ≤ 1000) (v : Int32) : GR n (c + 1) ad (psS td n (0, XX, YY) d).2.1 (psS td n (0, XX, YY) d).2.2 (va_up I 7 (nI (td + d))) V P (va_up (va_up J 0 (nI (td + d))) 30 v) (mpS td n (0, Z) d).2 ∧ (mpS td n (0, Z) d).1 = (psS td n (0, XX, YY) d).1 := by
  obtain ⟨g1, g2, g3, g4, g5, g6, g7, g8⟩ := h
  obtain ⟨h1, h2⟩ := PI.days g1 hc td g2 d
  obtain ⟨q, q1, q2, q3, q4⟩ := g6
  refine ⟨⟨g1, h1.mono hc, g3, g4, ⟨td + d, hd, rfl, rfl⟩, ⟨q, q1, q2, q3, fun i hi => ?_⟩, fun i hi => ?_, g8⟩, h2⟩
  · rw [mpS_row (Or.inr (by omega)), mpS_row (Or.inr (by omega)), mpS_row (Or.inr (by omega))]; exact q4 i hi
  · rw [mpS_row (Or.inl (by omega)), mpS_row (Or.inl (by omega)), mpS_row (Or.inl (by omega))]; exact g7 i hi
end QGlob2
