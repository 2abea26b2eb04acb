/-! THE WHOLE INVARIANT under one paper's change, and what else changes. -/
section QLG
theorem q_C.vl {l : Launch} {y : MethodName} {ws : List Cond} {rm : Room} {D : va_G} {cI cZ cP : ClassId} {av : List Value} {w : va_W} {W' : Unit → va_W} {xp : String → Prop} {mc ms : Nat} {a a2 : Int32} (e : a = a2) (h : q_C l y ws rm D cI cZ cP av w (S := Unit) (fun v _ => v = some (.int a)) W' xp mc ms) : q_C l y ws rm D cI cZ cP av w (S := Unit) (fun v _ => v = some (.int a2)) W' xp mc ms := e ▸ h
/-- the law's rows but for those of the paper j -/
def agx (j : Nat) (F G : Nat → Nat → Int32) : Prop := (∀ i, i ≠ j → i < 8 → agf i F G) ∧ G 3 = F 3 ∧ G 4 = F 4 ∧ G 5 = F 5 ∧ G 6 = F 6
theorem agx.rf (j : Nat) (F : Nat → Nat → Int32) : agx j F F := ⟨fun i _ _ => agf.rf i F, rfl, rfl, rfl, rfl⟩
theorem agx.c0 {j : Nat} {F : Nat → Nat → Int32} {g : Nat → Int32} (hg : ∀ q, (q < 8 * j ∨ 8 * j + 8 ≤ q) → g q = F 0 q) : agx j F (va_up F 0 g) := ⟨fun i hi _ => ⟨fun c hc => hg _ (by omega), rfl, fun _ _ => rfl, fun _ _ => rfl⟩, rfl, rfl, rfl, rfl⟩
theorem agx.c7 {j : Nat} {F : Nat → Nat → Int32} {g : Nat → Int32} (hg : ∀ q, (q < 2 * j ∨ 2 * j + 2 ≤ q) → g q = F 7 q) : agx j F (va_up F 7 g) := ⟨fun i hi _ => ⟨fun _ _ => rfl, rfl, fun _ _ => rfl, fun c hc => hg _ (by omega)⟩, rfl, rfl, rfl, rfl⟩
theorem agx.c07 {j : Nat} {F : Nat → Nat → Int32} {g g7 : Nat → Int32} (hg : ∀ q, (q < 8 * j ∨ 8 * j + 8 ≤ q) → g q = F 0 q) (hg7 : ∀ q, (q < 2 * j ∨ 2 * j + 2 ≤ q) → g7 q = F 7 q) : agx j F (va_up (va_up F 0 g) 7 g7) := ⟨fun i hi _ => ⟨fun c hc => hg _ (by omega), rfl, fun _ _ => rfl, fun c hc => hg7 _ (by omega)⟩, rfl, rfl, rfl, rfl⟩
theorem agx.c1 {j : Nat} {F : Nat → Nat → Int32} {g : Nat → Int32} (hg : ∀ q, q ≠ j → g q = F 1 q) : agx j F (va_up F 1 g) := ⟨fun i hi _ => ⟨fun _ _ => rfl, hg i hi, fun _ _ => rfl, fun _ _ => rfl⟩, rfl, rfl, rfl, rfl⟩
variable {n k k2 td q : Nat} {ad : Nat → Nat → Nat} {XX : Nat → Nat → Int32} {YY : Nat → Nat → Nat → Int32} {b o : Nat → Nat} {I : Nat → Int32} {V : Nat → Nat → Int32} {P : Nat → Option Nat} {F G : Nat → Nat → Int32} {cI cZ cP : ClassId}
theorem GZ.x (h : GZ n F) {j : Nat} (hj : j < n) (ha : ∀ i, i ≠ j → i < 8 → agf i F G) : GZ n G := fun i hi hi8 => by
  obtain ⟨h1, h2, h3, h4⟩ := h i hi hi8
  obtain ⟨a1, a2, a3, a4⟩ := ha i (by omega) hi8
  exact ⟨fun c hc => (a1 c hc).trans (h1 c hc), a2.trans h2, fun c hc => (a3 c hc).trans (h3 c hc), fun c hc => (a4 c hc).trans (h4 c hc)⟩
/-- one paper changed -/
theorem GI.paper (h : GI n k td q ad XX YY I V P F) {j : Nat} (hj : j < n) (ha : agx j F G) {X2 : Nat → Int32} {Y2 : Nat → Nat → Int32} (hk : k ≤ k2) (hp : LPp X2 Y2 G j k2 td) : GI n k2 td q ad (va_up XX j X2) (va_up YY j Y2) I V P G := by
  obtain ⟨hN, hC, hR, hZ, hP, hL⟩ := h
  obtain ⟨a1, a3, a4, a5, a6⟩ := ha
  refine ⟨?_, ?_, ?_, hZ.x hj a1, hP, fun i hi => ?_⟩
  · simp only [GN] at hN ⊢; rw [a4]; exact hN
  · simp only [GC] at hC ⊢; rw [a3]; exact hC
  · simp only [GRo] at hR ⊢; rw [a5, a6]; exact hR
  · by_cases e : i = j
    · subst e; rw [va_up_self, va_up_self]; exact hp
    · rw [va_up_ne _ _ e, va_up_ne _ _ e]
      exact (hL i hi).frame (a1 i e (by have := hN.1; omega)) hk (Nat.le_refl _)
/-- nothing of the papers changed -/
theorem GI.same (h : GI n k td q ad XX YY I V P F) (hk : k ≤ k2) : GI n k2 td q ad XX YY I V P F := by
  obtain ⟨hN, hC, hR, hZ, hP, hL⟩ := h
  exact ⟨hN, hC, hR, hZ, hP, fun i hi => (hL i hi).frame (agf.rf i F) hk (Nat.le_refl _)⟩
/-- only the law's rows of one paper -/
theorem GI.law (h : GI n k td q ad XX YY I V P F) {j : Nat} (hj : j < n) (ha : agx j F G) (hk : k ≤ k2) (hp : LPp (XX j) (YY j) G j k2 td) : GI n k2 td q ad XX YY I V P G := by
  have := h.paper hj ha hk hp
  rw [up_same, up_same] at this
  exact this
theorem GI.kw (h : GI n k td q ad XX YY I V P F) : KW cI cZ cP b o k (lw cI o F ++ WK cI cZ cP n ad XX YY b I V P) := ⟨F, _, rfl, n, td, q, ad, XX, YY, I, V, P, rfl, h⟩
theorem GI.j8 (h : GI n k td q ad XX YY I V P F) {j : Nat} (hj : j < n) : j < 8 := by have := h.1.1; omega
theorem GI.pj (h : GI n k td q ad XX YY I V P F) {j : Nat} (hj : j < n) : P j = some (ad j 0) := by
  have := h.2.2.2.2.1 j (h.j8 hj)
  rw [this, if_pos hj]
theorem LPb.w {X : Nat → Int32} {Y F : Nat → Nat → Int32} {j k td w mm kk M0 M1 : Nat} (h : LPb X Y F j k td w mm kk M0 M1) : w ≤ k := by have := h.1.2.2.2.2.2.2.2.2.1; omega
/-- back to the whole: a call that answered 1 and left this world -/
theorem q_C.kw {l : Launch} {y : MethodName} {ws : List Cond} {rm : Room} {D : va_G} {av : List Value} {w w2 : va_W} {mc ms : Nat} {Kp : va_W → Prop} (h : q_C l y ws rm D cI cZ cP av w (S := Unit) (fun v _ => v = some (.int (nI 1))) (fun _ => w2) (fun _ => False) mc ms) (hK : Kp w2) : q_C l y ws rm D cI cZ cP av w (S := va_W) (fun v u => v = some (.int (nI 1)) ∧ Kp u) (fun u => u) (fun _ => False) mc ms :=
  h.post (fun _ _ hv => ⟨w2, ⟨hv, hK⟩, rfl⟩) (fun _ h => h)
-- codes at what the law asks
theorem kD_0 {x y : Nat} {hd : Int32} (hx : x < 6) (hy : y < 20) (h : hd = 0) : kDraft (nI x) (nI y) hd = 0 := by
  simp only [kDraft]; rw [if_neg, if_pos h]
  rintro (e | e)
  · rw [rg_n (by omega) (by decide)] at e; cases e
  · rw [rg_n (by omega) (by decide)] at e; cases e
theorem kD_3 {x y : Nat} {hd : Int32} (hx : x < 6) (hy : y < 20) (h : ¬ hd = 0) : kDraft (nI x) (nI y) hd = 3 := by
  simp only [kDraft]; rw [if_neg, if_neg h]
  rintro (e | e)
  · rw [rg_n (by omega) (by decide)] at e; cases e
  · rw [rg_n (by omega) (by decide)] at e; cases e
theorem kC_0 {y : Nat} {hd dt : Int32} (hy : y < 20) (h : ¬ hd = 0) (h2 : ¬ dt = nI y) : kChange (nI y) hd dt = 0 := by
  simp only [kChange]; rw [if_neg (by rw [rg_n (by omega) (by decide)]; decide), if_neg (fun e => e.elim h h2)]
theorem kC_3 {y : Nat} {hd dt : Int32} (hy : y < 20) (h : hd = 0 ∨ dt = nI y) : kChange (nI y) hd dt = 3 := by
  simp only [kChange]; rw [if_neg (by rw [rg_n (by omega) (by decide)]; decide), if_pos h]
theorem kRv_0 {x n : Nat} {hd ap au mr : Int32} {nm : Bool} (hx : x < 6) (h : ¬ (hd = 0 ∨ ¬ ap = 0 ∨ nI x = au ∨ mr = 0 ∨ nm = true ∨ ¬ n < 4)) : kReviewer (nI x) hd ap au mr nm n = 0 := by
  simp only [kReviewer]; rw [if_neg (by rw [rg_n (by omega) (by decide)]; decide), if_neg h]
theorem kRv_3 {x n : Nat} {hd ap au mr : Int32} {nm : Bool} (hx : x < 6) (h : hd = 0 ∨ ¬ ap = 0 ∨ nI x = au ∨ mr = 0 ∨ nm = true ∨ ¬ n < 4) : kReviewer (nI x) hd ap au mr nm n = 3 := by
  simp only [kReviewer]; rw [if_neg (by rw [rg_n (by omega) (by decide)]; decide), if_pos h]
theorem kRe_0 {x : Nat} {hd re : Int32} (hx : x < 6) (h : ¬ hd = 0) (h2 : re = 0) : kReader (nI x) hd re = 0 := by
  simp only [kReader]; rw [if_neg (by rw [rg_n (by omega) (by decide)]; decide), if_neg (fun e => e.elim h (fun e => e h2))]
theorem kRe_3 {x : Nat} {hd re : Int32} (hx : x < 6) (h : hd = 0 ∨ ¬ re = 0) : kReader (nI x) hd re = 3 := by
  simp only [kReader]; rw [if_neg (by rw [rg_n (by omega) (by decide)]; decide), if_pos h]
theorem kW_0 {x : Nat} {hd rd io nr : Int32} {nm : Bool} (hx : x < 6) (h : ¬ (hd = 0 ∨ nm = false ∨ ¬ rd = 0 ∨ (¬ io = 0 ∧ ¬ nr = nI x))) : kReview (nI x) hd nm rd io nr = 0 := by
  simp only [kReview]; rw [if_neg (by rw [rg_n (by omega) (by decide)]; decide), if_neg h]
theorem kW_3 {x : Nat} {hd rd io nr : Int32} {nm : Bool} (hx : x < 6) (h : hd = 0 ∨ nm = false ∨ ¬ rd = 0 ∨ (¬ io = 0 ∧ ¬ nr = nI x)) : kReview (nI x) hd nm rd io nr = 3 := by
  simp only [kReview]; rw [if_neg (by rw [rg_n (by omega) (by decide)]; decide), if_pos h]
theorem kAp_0 {x d td : Nat} {hd st au : Int32} {can : Bool} (hx : x < 6) (h1 : td < d) (h2 : d ≤ 1000) (h : ¬ (hd = 0 ∨ ¬ st = nI 3 ∨ nI x = au ∨ can = false)) : kApprove (nI x) (nI d) (nI td) hd st au can = 0 := by
  have e : rg (nI d) (nI td + nI 1) (nI 1000) = true := by
    rw [nI_add]; refine rg_of ?_ ?_
    · rw [nI_ltI (by omega) (by omega)]; omega
    · rw [nI_ltI (by omega) (by omega)]; omega
  simp only [kApprove]; rw [if_neg, if_neg h]
  rintro (e2 | e2)
  · rw [rg_n (by omega) (by decide)] at e2; cases e2
  · rw [e] at e2; cases e2
theorem kAp_3 {x d td : Nat} {hd st au : Int32} {can : Bool} (hx : x < 6) (h1 : td < d) (h2 : d ≤ 1000) (h : hd = 0 ∨ ¬ st = nI 3 ∨ nI x = au ∨ can = false) : kApprove (nI x) (nI d) (nI td) hd st au can = 3 := by
  have e : rg (nI d) (nI td + nI 1) (nI 1000) = true := by
    rw [nI_add]; refine rg_of ?_ ?_
    · rw [nI_ltI (by omega) (by omega)]; omega
    · rw [nI_ltI (by omega) (by omega)]; omega
  simp only [kApprove]; rw [if_neg, if_pos h]
  rintro (e2 | e2)
  · rw [rg_n (by omega) (by decide)] at e2; cases e2
  · rw [e] at e2; cases e2
theorem kAp_2 {x : Int32} {d td : Nat} {hd st au : Int32} {can : Bool} (h : d ≤ td ∨ 1000 < d) (hd2 : d < 2 ^ 30) (ht : td < 2 ^ 30) : kApprove x (nI d) (nI td) hd st au can = 2 := by
  simp only [kApprove]; rw [if_pos]
  refine Or.inr ?_
  rw [nI_add]
  rcases h with h | h
  · exact rg_lo ((nI_ltI (by omega) (by omega)).mpr (by omega))
  · exact rg_hi ((nI_ltI (by omega) (by omega)).mpr (by omega))
theorem kCf_0 {x : Nat} {hd ap re cf : Int32} (hx : x < 6) (h : ¬ (hd = 0 ∨ ap = 0 ∨ re = 0 ∨ ¬ cf = 0)) : kConfirm (nI x) hd ap re cf = 0 := by
  simp only [kConfirm]; rw [if_neg (by rw [rg_n (by omega) (by decide)]; decide), if_neg h]
theorem kCf_3 {x : Nat} {hd ap re cf : Int32} (hx : x < 6) (h : hd = 0 ∨ ap = 0 ∨ re = 0 ∨ ¬ cf = 0) : kConfirm (nI x) hd ap re cf = 3 := by
  simp only [kConfirm]; rw [if_neg (by rw [rg_n (by omega) (by decide)]; decide), if_pos h]
end QLG
