/-! THE WHOLE STATE of both, and what a call of the class is in it. -/
section QGlob
variable {D : va_G} {cI cZ cP cJ : ClassId} {l : Launch}
def GR (n c : Nat) (ad : Nat → Nat → Nat) (XX : Nat → Nat → Int32) (YY : Nat → Nat → Nat → Int32) (I : Nat → Int32) (V : Nat → Nat → Int32) (P : Nat → Option Nat) (J : Nat → Int32) (Z : Nat → Nat → Int32) : Prop :=
  n ≤ 8 ∧ PI n c XX YY Z ∧ (I 5 = nI n ∧ J 5 = nI n) ∧ I 6 = J 1 ∧ (∃ td, td ≤ 1000 ∧ I 7 = nI td ∧ J 0 = nI td) ∧ (∃ q, q ≤ 30 ∧ I 3 = nI q ∧ J 26 = nI q ∧ ∀ i, i < q → V 10 i = Z 27 i ∧ V 11 i = Z 28 i ∧ V 12 i = Z 29 i) ∧ (∀ i, i < 6 → V 0 i = Z 2 i ∧ V 1 i = Z 3 i ∧ V 2 i = Z 4 i ∧ (V 1 i = 0 ∨ V 1 i = 1)) ∧ (∀ k, k < 8 → P k = if k < n then some (ad k 0) else none)
/-- a world of the class that goes with the reference's numbers -/
def KS (cI cZ cP : ClassId) (b : Nat → Nat) (c : Nat) (J : Nat → Int32) (Z : Nat → Nat → Int32) (w : va_W) : Prop := ∃ (n : Nat) (ad : Nat → Nat → Nat) (XX : Nat → Nat → Int32) (YY : Nat → Nat → Nat → Int32) (I : Nat → Int32) (V : Nat → Nat → Int32) (P : Nat → Option Nat), w = WK cI cZ cP n ad XX YY b I V P ∧ GR n c ad XX YY I V P J Z
section
variable {n c : Nat} {ad : Nat → Nat → Nat} {XX : Nat → Nat → Int32} {YY : Nat → Nat → Nat → Int32} {b : Nat → Nat} {I : Nat → Int32} {V : Nat → Nat → Int32} {P : Nat → Option Nat} {J : Nat → Int32} {Z : Nat → Nat → Int32}
theorem PI.mono (h : PI n c XX YY Z) (hc : c ≤ 512) : PI n (c + 1) XX YY Z := ⟨fun j hj => (h.1 j hj).frame (agr.rf j Z) (Nat.le_succ c) hc, h.2⟩
theorem GR.mono (h : GR n c ad XX YY I V P J Z) (hc : c ≤ 512) (v : Int32) : GR n (c + 1) ad XX YY I V P (va_up J 30 v) Z := ⟨h.1, h.2.1.mono hc, h.2.2⟩
/-- a paper changed -/
theorem PI.paper (h : PI n c XX YY Z) (hc : c ≤ 512) {j : Nat} (hj : j < n) (hn : n ≤ 8) {X2 : Nat → Int32} {Y2 Z2 : Nat → Nat → Int32} (hp : PR X2 Y2 Z2 j (c + 1)) (ha : ∀ k, k ≠ j → agr k Z Z2) (hy : ∀ i, n ≤ i → i < 8 → Y2 0 i = 0) : PI n (c + 1) (va_up XX j X2) (va_up YY j Y2) Z2 := by
  obtain ⟨h1, h2, h3⟩ := h
  refine ⟨fun k hk => ?_, fun k hk hk8 => ?_, fun k hk i hi hi8 => ?_⟩
  · by_cases e : k = j
    · subst e; rw [va_up_self, va_up_self]; exact hp
    · rw [va_up_ne _ _ e, va_up_ne _ _ e]; exact (h1 k hk).frame (ha k e) (Nat.le_succ c) hc
  · have e : k ≠ j := by omega
    rw [va_up_ne _ _ e, va_up_ne _ _ e]; exact h2 k hk hk8
  · by_cases e : k = j
    · subst e; rw [va_up_self]; exact hy i hi hi8
    · rw [va_up_ne _ _ e]; exact h3 k hk i hi hi8
/-- is it a paper? -/
theorem GR.there (h : GR n c ad XX YY I V P J Z) (x : Int32) : (∃ j, j < n ∧ x = nI j) ∨ (nop P x ∧ inr x n = false) := by
  by_cases hx : inr x n = true
  · simp only [inr, Bool.and_eq_true, decide_eq_true_eq] at hx
    obtain ⟨j, hj, e⟩ := inr_of (by have := h.1; omega) hx.1 hx.2
    exact Or.inl ⟨j, hj, e⟩
  · have hx2 : inr x n = false := by simpa using hx
    refine Or.inr ⟨fun j hj e => ?_, hx2⟩
    rw [h.2.2.2.2.2.2.2 j hj, if_neg]
    intro hjn
    subst e
    apply hx
    have hn := h.1
    simp only [inr, Bool.and_eq_true, decide_eq_true_eq]
    exact ⟨nI_pos (by omega), (nI_ltI (by omega) (by omega)).mpr hjn⟩
theorem GR.pj (h : GR n c ad XX YY I V P J Z) {j : Nat} (hj : j < n) : P j = some (ad j 0) := by
  have hn := h.1
  rw [h.2.2.2.2.2.2.2 j (by omega), if_pos hj]
theorem WK_at : ∃ fs, (WK cI cZ cP n ad XX YY b I V P)[(pws cI cZ n ad XX YY).length]? = some (b 0, .inr (3, fs)) := by
  rw [List.getElem?_append_right (Nat.le_refl _), Nat.sub_self]
  exact ⟨_, rfl⟩
/-- a method of one paper, in the whole -/
theorem lift_p {y : MethodName} {ws : List Cond} {rm : Room} {av : List Value} {S : Type} {post : Option Value → S → Prop} {xp : String → Prop} {mc ms j : Nat} {X2 : Nat → Int32} {Y2 : Nat → Nat → Int32} {I2 : Nat → Int32} {V2 : Nat → Nat → Int32} (hj : j < n)
    (h : q_C l y ws rm D cI cZ cP cJ av (dw cI cZ (ad j) (XX j) (YY j) ++ (ppw cI cZ (ad j) (XX j) (YY j) ++ (kq cI cZ cP b I V P ++ cw cI b I V))) post (fun _ => dw cI cZ (ad j) X2 Y2 ++ (ppw cI cZ (ad j) X2 Y2 ++ (kq cI cZ cP b I2 V2 P ++ cw cI b I2 V2))) xp mc ms) :
    q_C l y ws rm D cI cZ cP cJ av (WK cI cZ cP n ad XX YY b I V P) post (fun _ => WK cI cZ cP n ad (va_up XX j X2) (va_up YY j Y2) b I2 V2 P) xp mc ms := by
  refine (h.fr (pwx cI cZ n j ad XX YY)).perm ?_ (fun _ => ?_)
  · refine List.Perm.trans ?_ (foc hj).symm
    simp only [List.append_assoc]
    exact List.Perm.refl _
  · refine List.Perm.trans ?_ (unf hj X2 Y2)
    simp only [List.append_assoc]
    exact List.Perm.refl _
/-- .. that changes nothing -/
theorem lift_p0 {y : MethodName} {ws : List Cond} {rm : Room} {av : List Value} {S : Type} {post : Option Value → S → Prop} {xp : String → Prop} {mc ms j : Nat} {I2 : Nat → Int32} {V2 : Nat → Nat → Int32} (hj : j < n)
    (h : q_C l y ws rm D cI cZ cP cJ av (dw cI cZ (ad j) (XX j) (YY j) ++ (ppw cI cZ (ad j) (XX j) (YY j) ++ (kq cI cZ cP b I V P ++ cw cI b I V))) post (fun _ => dw cI cZ (ad j) (XX j) (YY j) ++ (ppw cI cZ (ad j) (XX j) (YY j) ++ (kq cI cZ cP b I2 V2 P ++ cw cI b I2 V2))) xp mc ms) :
    q_C l y ws rm D cI cZ cP cJ av (WK cI cZ cP n ad XX YY b I V P) post (fun _ => WK cI cZ cP n ad XX YY b I2 V2 P) xp mc ms := by
  have := lift_p hj h
  rw [up_same, up_same] at this
  exact this
end
/-- the class's call with its throws caught: the code K, the answer a -/
theorem lk_long {y : MethodName} {ws : List Cond} {rm : Room} {av : List Value} {S : Type} {post : Option Value → S → Prop} {xp : String → Prop} {cs : List (String × Nat)} {wk : va_W} {W1 : S → va_W} {o9 K mc ms : Nat} {f : Nat → Int64} {g : Int32 → Int64} {a : Int64} {Kp : va_W → Prop}
    (h : q_C l y ws rm D cI cZ cP cJ av (wk ++ [oc cJ o9 f]) (lpost post xp cs) (lW W1 wk cJ o9 f g) (fun _ => False) mc ms) (hp : ∀ x u, post (some (.int x)) u → K = 0 ∧ g x = a) (hx : ∀ E k, xp E → (E, k) ∈ cs → K = k ∧ ¬ k = 0) (h0 : K = 0 → ∀ u, Kp (W1 u)) (h1 : ¬ K = 0 → Kp wk) :
    q_C l y ws rm D cI cZ cP cJ av (wk ++ [oc cJ o9 f]) (S := va_W × (Nat → Int64)) (fun v u => v = some (.int (nI K)) ∧ Kp u.1 ∧ (K = 0 → u.2 0 = a)) (fun u => u.1 ++ [oc cJ o9 u.2]) (fun _ => False) mc ms := by
  refine h.post (fun v u hv => ?_) (fun _ h => h)
  rcases u with ⟨u, x⟩ | ⟨E, k⟩
  · obtain ⟨k1, rfl⟩ := hv
    obtain ⟨rfl, e⟩ := hp x u k1
    exact ⟨(W1 u, vp_updL f 0 (g x)), ⟨rfl, h0 rfl u, fun _ => by rw [← e]; show vp_updL f 0 (g x) 0 = g x; exact pk_uLs⟩, rfl⟩
  · obtain ⟨k1, k2, rfl⟩ := hv
    obtain ⟨rfl, e⟩ := hx E k k1 k2
    exact ⟨(wk, f), ⟨rfl, h1 e, fun h9 => absurd h9 e⟩, rfl⟩
theorem lk_void {y : MethodName} {ws : List Cond} {rm : Room} {av : List Value} {S : Type} {post : Option Value → S → Prop} {xp : String → Prop} {cs : List (String × Nat)} {wk : va_W} {W1 : S → va_W} {K mc ms : Nat} {Kp : va_W → Prop}
    (h : q_C l y ws rm D cI cZ cP cJ av wk (vpost post xp cs) (vW W1 wk) (fun _ => False) mc ms) (hp : ∀ u, post none u → K = 0) (hx : ∀ E k, xp E → (E, k) ∈ cs → K = k ∧ ¬ k = 0) (h0 : K = 0 → ∀ u, Kp (W1 u)) (h1 : ¬ K = 0 → Kp wk) :
    q_C l y ws rm D cI cZ cP cJ av wk (S := va_W) (fun v u => v = some (.int (nI K)) ∧ Kp u) (fun u => u) (fun _ => False) mc ms := by
  refine h.post (fun v u hv => ?_) (fun _ h => h)
  rcases u with u | ⟨E, k⟩
  · obtain ⟨k1, rfl⟩ := hv
    obtain rfl := hp u k1
    exact ⟨W1 u, ⟨rfl, h0 rfl u⟩, rfl⟩
  · obtain ⟨k1, k2, rfl⟩ := hv
    obtain ⟨rfl, e⟩ := hx E k k1 k2
    exact ⟨wk, ⟨rfl, h1 e⟩, rfl⟩
theorem GR.paper {n c : Nat} {ad : Nat → Nat → Nat} {XX : Nat → Nat → Int32} {YY : Nat → Nat → Nat → Int32} {I : Nat → Int32} {V : Nat → Nat → Int32} {P : Nat → Option Nat} {J : Nat → Int32} {Z : Nat → Nat → Int32} (h : GR n c ad XX YY I V P J Z) (hc : c ≤ 512) {j : Nat} (hj : j < n) {X2 : Nat → Int32} {Y2 Z2 : Nat → Nat → Int32} (hp : PR X2 Y2 Z2 j (c + 1)) (ha : ∀ k, k ≠ j → agr k Z Z2) (hy : ∀ i, n ≤ i → i < 8 → Y2 0 i = 0) (hz : ∀ q, q = 2 ∨ q = 3 ∨ q = 4 ∨ q = 27 ∨ q = 28 ∨ q = 29 → Z2 q = Z q) (v : Int32) : GR n (c + 1) ad (va_up XX j X2) (va_up YY j Y2) I V P (va_up J 30 v) Z2 := by
  obtain ⟨h1, h2, h3, h4, h5, ⟨q, g1, g2, g3, g4⟩, h7, h8⟩ := h
  refine ⟨h1, h2.paper hc hj h1 hp ha hy, h3, h4, h5, ⟨q, g1, g2, g3, fun i hi => ?_⟩, fun i hi => ?_, h8⟩
  · rw [hz 27 (by simp), hz 28 (by simp), hz 29 (by simp)]; exact g4 i hi
  · rw [hz 2 (by simp), hz 3 (by simp), hz 4 (by simp)]; exact h7 i hi
/-- a row that's no paper's -/
theorem agr_g {j q0 : Nat} {Z Z2 : Nat → Nat → Int32} {g : Nat → Int32} (h : agr j Z Z2) (hq : sd q0 = 0) : agr j Z (va_up Z2 q0 g) := agr_up h fun i hi => absurd hi (by omega)
theorem PI.glob {n c : Nat} {XX : Nat → Nat → Int32} {YY : Nat → Nat → Nat → Int32} {Z Z2 : Nat → Nat → Int32} (h : PI n c XX YY Z) (hc : c ≤ 512) (ha : ∀ k, agr k Z Z2) : PI n (c + 1) XX YY Z2 := ⟨fun j hj => (h.1 j hj).frame (ha j) (Nat.le_succ c) hc, h.2⟩
theorem GR.copy {n c : Nat} {ad : Nat → Nat → Nat} {XX : Nat → Nat → Int32} {YY : Nat → Nat → Nat → Int32} {I : Nat → Int32} {V : Nat → Nat → Int32} {P : Nat → Option Nat} {J : Nat → Int32} {Z : Nat → Nat → Int32} (h : GR n c ad XX YY I V P J Z) (hc : c ≤ 512) {q : Nat} (hI : I 3 = nI q) (hq : q < 30) (a d e v : Int32) : GR n (c + 1) ad XX YY (va_up I 3 (nI (q + 1))) (va_up (va_up (va_up V 10 (upd (V 10) q a)) 11 (upd (V 11) q d)) 12 (upd (V 12) q e)) P (va_up (va_up J 26 (nI (q + 1))) 30 v) (va_up (va_up (va_up Z 27 (upd (Z 27) q a)) 28 (upd (Z 28) q d)) 29 (upd (Z 29) q e)) := by
  obtain ⟨h1, h2, h3, h4, h5, ⟨q2, g1, g2, g3, g4⟩, h7, h8⟩ := h
  obtain rfl : q = q2 := (nI_eq (by omega) (by omega)).mp (hI.symm.trans g2)
  refine ⟨h1, h2.glob hc (fun k => agr_g (agr_g (agr_g (agr.rf k Z) rfl) rfl) rfl), h3, h4, h5, ⟨q + 1, by omega, rfl, rfl, fun i hi => ?_⟩, h7, h8⟩
  show upd (V 10) q a i = upd (Z 27) q a i ∧ upd (V 11) q d i = upd (Z 28) q d i ∧ upd (V 12) q e i = upd (Z 29) q e i
  by_cases e1 : i = q
  · subst e1; rw [pk_us, pk_us, pk_us, pk_us, pk_us, pk_us]; exact ⟨rfl, rfl, rfl⟩
  · rw [pk_un e1, pk_un e1, pk_un e1, pk_un e1, pk_un e1, pk_un e1]; exact g4 i (by omega)
-- which of the handlers
theorem hx_no {E : String} {k : Nat} {cs : List (String × Nat)} (h : E = q_IOB) (hm : (E, k) ∈ (q_IOB, 1) :: cs) (hcs : ∀ k, ¬ (q_IOB, k) ∈ cs) : 1 = k ∧ ¬ k = 0 := by
  subst h
  rcases List.mem_cons.mp hm with h | h
  · cases h; exact ⟨rfl, by decide⟩
  · exact absurd h (hcs k)
theorem hx_1 {E F : String} {k a K : Nat} (h : E = F ∧ K = a) (ha : ¬ a = 0) (hm : (E, k) ∈ [(F, a)]) : K = k ∧ ¬ k = 0 := by
  obtain ⟨rfl, rfl⟩ := h
  cases List.mem_singleton.mp hm
  exact ⟨rfl, ha⟩
theorem ne_AB : ¬ q_IAE = q_IOB := by decide +kernel
theorem ne_SB : ¬ q_ISE = q_IOB := by decide +kernel
theorem ne_AS : ¬ q_IAE = q_ISE := by decide +kernel
theorem hx_A2 {E : String} {k K : Nat} (h : E = q_IAE ∧ K = 2) (hm : (E, k) ∈ [(q_IOB, 1), (q_IAE, 2)]) : K = k ∧ ¬ k = 0 := by
  obtain ⟨rfl, rfl⟩ := h
  simp only [List.mem_cons, Prod.mk.injEq, List.not_mem_nil, or_false] at hm
  rcases hm with ⟨e, -⟩ | ⟨-, rfl⟩
  · exact absurd e ne_AB
  · exact ⟨rfl, by decide⟩
theorem hx_S2 {E : String} {k K : Nat} (h : E = q_ISE ∧ K = 2) (hm : (E, k) ∈ [(q_IOB, 1), (q_ISE, 2)]) : K = k ∧ ¬ k = 0 := by
  obtain ⟨rfl, rfl⟩ := h
  simp only [List.mem_cons, Prod.mk.injEq, List.not_mem_nil, or_false] at hm
  rcases hm with ⟨e, -⟩ | ⟨-, rfl⟩
  · exact absurd e ne_SB
  · exact ⟨rfl, by decide⟩
theorem hx_BS {E : String} {k K : Nat} (h : (E = q_IOB ∧ K = 1) ∨ (E = q_ISE ∧ K = 2)) (hm : (E, k) ∈ [(q_IOB, 1), (q_ISE, 2)]) : K = k ∧ ¬ k = 0 := by
  rcases h with ⟨rfl, rfl⟩ | h
  · simp only [List.mem_cons, Prod.mk.injEq, List.not_mem_nil, or_false] at hm
    rcases hm with ⟨-, rfl⟩ | ⟨e, -⟩
    · exact ⟨rfl, by decide⟩
    · exact absurd e.symm ne_SB
  · exact hx_S2 h hm
theorem hx_AS3 {E : String} {k K : Nat} (h : (E = q_IAE ∧ K = 2) ∨ (E = q_ISE ∧ K = 3)) (hm : (E, k) ∈ [(q_IOB, 1), (q_IAE, 2), (q_ISE, 3)]) : K = k ∧ ¬ k = 0 := by
  simp only [List.mem_cons, Prod.mk.injEq, List.not_mem_nil, or_false] at hm
  rcases h with ⟨rfl, rfl⟩ | ⟨rfl, rfl⟩
  · rcases hm with ⟨e, -⟩ | ⟨-, rfl⟩ | ⟨e, -⟩
    · exact absurd e ne_AB
    · exact ⟨rfl, by decide⟩
    · exact absurd e ne_AS
  · rcases hm with ⟨e, -⟩ | ⟨e, -⟩ | ⟨-, rfl⟩
    · exact absurd e ne_SB
    · exact absurd e.symm ne_AS
    · exact ⟨rfl, by decide⟩
theorem hx_AS2 {E : String} {k K : Nat} (h : (E = q_IAE ∧ K = 1) ∨ (E = q_ISE ∧ K = 2)) (hm : (E, k) ∈ [(q_IAE, 1), (q_ISE, 2)]) : K = k ∧ ¬ k = 0 := by
  simp only [List.mem_cons, Prod.mk.injEq, List.not_mem_nil, or_false] at hm
  rcases h with ⟨rfl, rfl⟩ | ⟨rfl, rfl⟩
  · rcases hm with ⟨-, rfl⟩ | ⟨e, -⟩
    · exact ⟨rfl, by decide⟩
    · exact absurd e ne_AS
  · rcases hm with ⟨e, -⟩ | ⟨-, rfl⟩
    · exact absurd e.symm ne_AS
    · exact ⟨rfl, by decide⟩
theorem no_B3 : ∀ k, ¬ (q_IOB, k) ∈ [(q_IAE, 2), (q_ISE, 3)] := by
  intro k h
  simp only [List.mem_cons, Prod.mk.injEq, List.not_mem_nil, or_false] at h
  rcases h with ⟨e, -⟩ | ⟨e, -⟩
  · exact ne_AB e.symm
  · exact ne_SB e.symm
theorem no_BA : ∀ k, ¬ (q_IOB, k) ∈ [(q_IAE, 2)] := fun k h => no_B3 k (List.mem_cons.mpr (Or.inl (List.mem_singleton.mp h)))
theorem no_BS : ∀ k, ¬ (q_IOB, k) ∈ [(q_ISE, 2)] := by
  intro k h
  simp only [List.mem_cons, Prod.mk.injEq, List.not_mem_nil, or_false] at h
  exact ne_SB h.1.symm
theorem no_B : ∀ k, ¬ (q_IOB, k) ∈ ([] : List (String × Nat)) := fun _ h => by cases h
end QGlob
