/-! THE CLASS'S CALLS in the world of all papers, and the law's asks, case by case. -/
section QLK
theorem WKat {cI cZ cP : ClassId} {n : Nat} {ad : Nat → Nat → Nat} {XX : Nat → Nat → Int32} {YY : Nat → Nat → Nat → Int32} {b : Nat → Nat} {I : Nat → Int32} {V : Nat → Nat → Int32} {P : Nat → Option Nat} : ∃ fs, (WK cI cZ cP n ad XX YY b I V P)[(pws cI cZ n ad XX YY).length]? = some (b 0, .inr (3, fs)) := by
  rw [List.getElem?_append_right (Nat.le_refl _), Nat.sub_self]
  exact ⟨_, rfl⟩
section
variable {l : Launch} {D : va_G} {cI cZ cP : ClassId} {n : Nat} {ad : Nat → Nat → Nat} {XX : Nat → Nat → Int32} {YY : Nat → Nat → Nat → Int32} {b : Nat → Nat} {I : Nat → Int32} {V : Nat → Nat → Int32} {P : Nat → Option Nat}
/-- a method of one paper, in the whole -/
theorem lift_p {y : MethodName} {ws : List Cond} {rm : Room} {av : List Value} {S : Type} {post : Option Value → S → Prop} {xp : String → Prop} {mc ms j : Nat} {X2 : Nat → Int32} {Y2 : Nat → Nat → Int32} {I2 : Nat → Int32} {V2 : Nat → Nat → Int32} (hj : j < n)
    (h : q_C l y ws rm D cI cZ cP av (dw cI cZ (ad j) (XX j) (YY j) ++ (ppw cI cZ (ad j) (XX j) (YY j) ++ (kq cI cZ cP b I V P ++ cw cI b I V))) post (fun _ => dw cI cZ (ad j) X2 Y2 ++ (ppw cI cZ (ad j) X2 Y2 ++ (kq cI cZ cP b I2 V2 P ++ cw cI b I2 V2))) xp mc ms) :
    q_C l y ws rm D cI cZ cP av (WK cI cZ cP n ad XX YY b I V P) post (fun _ => WK cI cZ cP n ad (va_up XX j X2) (va_up YY j Y2) b I2 V2 P) xp mc ms := by
  refine (h.fr (pwx cI cZ n j ad XX YY)).perm ?_ (fun _ => ?_)
  · refine List.Perm.trans ?_ (foc hj).symm
    simp only [List.append_assoc]
    exact List.Perm.refl _
  · refine List.Perm.trans ?_ (unf hj X2 Y2)
    simp only [List.append_assoc]
    exact List.Perm.refl _
/-- .. that changes nothing of it -/
theorem lift_p0 {y : MethodName} {ws : List Cond} {rm : Room} {av : List Value} {S : Type} {post : Option Value → S → Prop} {xp : String → Prop} {mc ms j : Nat} {I2 : Nat → Int32} {V2 : Nat → Nat → Int32} (hj : j < n)
    (h : q_C l y ws rm D cI cZ cP av (dw cI cZ (ad j) (XX j) (YY j) ++ (ppw cI cZ (ad j) (XX j) (YY j) ++ (kq cI cZ cP b I V P ++ cw cI b I V))) post (fun _ => dw cI cZ (ad j) (XX j) (YY j) ++ (ppw cI cZ (ad j) (XX j) (YY j) ++ (kq cI cZ cP b I2 V2 P ++ cw cI b I2 V2))) xp mc ms) :
    q_C l y ws rm D cI cZ cP av (WK cI cZ cP n ad XX YY b I V P) post (fun _ => WK cI cZ cP n ad XX YY b I2 V2 P) xp mc ms := by
  have := lift_p hj h
  rw [up_same, up_same] at this
  exact this
end
theorem rg_n {x m : Nat} (h : x ≤ m) (hm : m < 2 ^ 31) : rg (nI x) (nI 0) (nI m) = true := by
  refine rg_of ?_ ?_
  · rw [nI_ltI (by omega) (by omega)]; omega
  · rw [nI_ltI (by omega) (by omega)]; omega

theorem lk_step (l : Launch) (hfl : l.stackTraces = false) (D : va_G) (cI cZ cP : ClassId) {n : Nat} {ad : Nat → Nat → Nat} {XX : Nat → Nat → Int32} {YY : Nat → Nat → Nat → Int32} {b : Nat → Nat} {I : Nat → Int32} {V : Nat → Nat → Int32} {P : Nat → Option Nat} {j : Nat} {X : Nat → Int32} {Y : Nat → Nat → Int32} (hj : j < n) (hj8 : j < 8) (hpj : P j = some (ad j 0)) (hX : XX j = X) (hY : YY j = Y) {mm kk : Nat} (hW : wd X Y mm kk) : q_C l yX3_step wsX3_step ({ frames := 2, cells := 0, slots := 0, locals := 42 }) D cI cZ cP [.ref (b 0), .int (nI j)] (WK cI cZ cP n ad XX YY b I V P) (S := Unit) (fun v _ => v = some (.int (nI (sN X Y mm kk)))) (fun _ => (WK cI cZ cP n ad XX YY b I V P)) (fun _ => False) 0 0 := by
  subst hX
  subst hY
  exact lift_p0 hj ((c3_step l D cI cZ cP b I V P (ad j) (XX j) (YY j) j hj8 hpj mm kk hW).post (fun v u h => ⟨u, h.trans (congrArg (fun q => some (Value.int q)) sN_nI), rfl⟩) (fun E h => h))

theorem lk_waitsFor (l : Launch) (hfl : l.stackTraces = false) (D : va_G) (cI cZ cP : ClassId) {n : Nat} {ad : Nat → Nat → Nat} {XX : Nat → Nat → Int32} {YY : Nat → Nat → Nat → Int32} {b : Nat → Nat} {I : Nat → Int32} {V : Nat → Nat → Int32} {P : Nat → Option Nat} {j : Nat} {X : Nat → Int32} {Y : Nat → Nat → Int32} (hj : j < n) (hj8 : j < 8) (hpj : P j = some (ad j 0)) (hX : XX j = X) (hY : YY j = Y) {mm kk : Nat} (hW : wd X Y mm kk) : q_C l yX3_waitsFor wsX3_waitsFor ({ frames := 3, cells := 0, slots := 0, locals := 62 }) D cI cZ cP [.ref (b 0), .int (nI j)] (WK cI cZ cP n ad XX YY b I V P) (S := Unit) (fun v _ => v = some (.int (wN X Y mm kk))) (fun _ => (WK cI cZ cP n ad XX YY b I V P)) (fun _ => False) 0 0 := by
  subst hX
  subst hY
  exact lift_p0 hj ((c3_waitsFor l D cI cZ cP b I V P (ad j) (XX j) (YY j) j hj8 hpj mm kk hW).post (fun v u h => ⟨u, h, rfl⟩) (fun E h => h))

theorem lk_inForce (l : Launch) (hfl : l.stackTraces = false) (D : va_G) (cI cZ cP : ClassId) {n : Nat} {ad : Nat → Nat → Nat} {XX : Nat → Nat → Int32} {YY : Nat → Nat → Nat → Int32} {b : Nat → Nat} {I : Nat → Int32} {V : Nat → Nat → Int32} {P : Nat → Option Nat} {j : Nat} {X : Nat → Int32} {Y : Nat → Nat → Int32} (hj : j < n) (hj8 : j < 8) (hpj : P j = some (ad j 0)) (hX : XX j = X) (hY : YY j = Y) {w : Nat} (hw : X 1 = nI w) (hw2 : w ≤ 128) : q_C l yX3_inForce wsX3_inForce ({ frames := 1, cells := 0, slots := 0, locals := 22 }) D cI cZ cP [.ref (b 0), .int (nI j)] (WK cI cZ cP n ad XX YY b I V P) (S := Unit) (fun v _ => v = some (.int (vn w))) (fun _ => (WK cI cZ cP n ad XX YY b I V P)) (fun _ => False) 0 0 := by
  subst hX
  subst hY
  exact lift_p0 hj ((c3_inForce l D cI cZ cP b I V P (ad j) (XX j) (YY j) j hj8 hpj w hw hw2).post (fun v u h => ⟨u, h, rfl⟩) (fun E h => h))

theorem lk_isDue (l : Launch) (hfl : l.stackTraces = false) (D : va_G) (cI cZ cP : ClassId) {n : Nat} {ad : Nat → Nat → Nat} {XX : Nat → Nat → Int32} {YY : Nat → Nat → Nat → Int32} {b : Nat → Nat} {I : Nat → Int32} {V : Nat → Nat → Int32} {P : Nat → Option Nat} {j : Nat} {X : Nat → Int32} {Y : Nat → Nat → Int32} (hj : j < n) (hj8 : j < 8) (hpj : P j = some (ad j 0)) (hX : XX j = X) (hY : YY j = Y) {w : Nat} (hw : X 1 = nI w) (hw2 : w ≤ 128) : q_C l yX3_isDue wsX3_isDue ({ frames := 1, cells := 0, slots := 0, locals := 22 }) D cI cZ cP [.ref (b 0), .int (nI j)] (WK cI cZ cP n ad XX YY b I V P) (S := Unit) (fun v _ => v = some (.int (nl w (X 3) (I 7) (X 4) (I 6)))) (fun _ => (WK cI cZ cP n ad XX YY b I V P)) (fun _ => False) 0 0 := by
  subst hX
  subst hY
  exact lift_p0 hj ((c3_isDue l D cI cZ cP b I V P (ad j) (XX j) (YY j) j hj8 hpj w hw hw2).post (fun v u h => ⟨u, h, rfl⟩) (fun E h => h))

theorem lk_text (l : Launch) (hfl : l.stackTraces = false) (D : va_G) (cI cZ cP : ClassId) {n : Nat} {ad : Nat → Nat → Nat} {XX : Nat → Nat → Int32} {YY : Nat → Nat → Nat → Int32} {b : Nat → Nat} {I : Nat → Int32} {V : Nat → Nat → Int32} {P : Nat → Option Nat} {j : Nat} {X : Nat → Int32} {Y : Nat → Nat → Int32} (hj : j < n) (hj8 : j < 8) (hpj : P j = some (ad j 0)) (hX : XX j = X) (hY : YY j = Y) {w : Nat} (hw : X 1 = nI w) (hw2 : w ≤ 128) : q_C l yX3_text wsX3_text ({ frames := 1, cells := 0, slots := 0, locals := 22 }) D cI cZ cP [.ref (b 0), .int (nI j)] (WK cI cZ cP n ad XX YY b I V P) (S := Unit) (fun v _ => v = some (.int (if w = 0 then -1 else Y 6 (w - 1)))) (fun _ => (WK cI cZ cP n ad XX YY b I V P)) (fun _ => False) 0 0 := by
  subst hX
  subst hY
  exact lift_p0 hj ((c3_text l D cI cZ cP b I V P (ad j) (XX j) (YY j) j hj8 hpj w hw hw2).post (fun v u h => ⟨u, h, rfl⟩) (fun E h => h))

theorem lk_outOfDate (l : Launch) (hfl : l.stackTraces = false) (D : va_G) (cI cZ cP : ClassId) {n : Nat} {ad : Nat → Nat → Nat} {XX : Nat → Nat → Int32} {YY : Nat → Nat → Nat → Int32} {b : Nat → Nat} {I : Nat → Int32} {V : Nat → Nat → Int32} {P : Nat → Option Nat} {j : Nat} {X : Nat → Int32} {Y : Nat → Nat → Int32} (hj : j < n) (hj8 : j < 8) (hpj : P j = some (ad j 0)) (hX : XX j = X) (hY : YY j = Y) {w : Nat} (hw : X 1 = nI w) (hw2 : w ≤ 128) {q : Nat} (hq : I 3 = nI q) (hq2 : q ≤ 30) : q_C l yX3_outOfDate wsX3_outOfDate ({ frames := 1, cells := 0, slots := 0, locals := 24 }) D cI cZ cP [.ref (b 0), .int (nI j)] (WK cI cZ cP n ad XX YY b I V P) (S := Unit) (fun v _ => v = some (.int (nI (pN (fun i => decide (¬ (V 12) i = -1) && decide ((V 10) i = (nI j)) && decide (¬ (V 11) i = (vn w))) q)))) (fun _ => (WK cI cZ cP n ad XX YY b I V P)) (fun _ => False) 0 0 := by
  subst hX
  subst hY
  exact lift_p0 hj ((c3_outOfDate l D cI cZ cP b I V P (ad j) (XX j) (YY j) j hj8 hpj w hw hw2 q hq hq2).post (fun v u h => ⟨u, h, rfl⟩) (fun E h => h))

theorem lk_inForceOn (l : Launch) (hfl : l.stackTraces = false) (D : va_G) (cI cZ cP : ClassId) {n : Nat} {ad : Nat → Nat → Nat} {XX : Nat → Nat → Int32} {YY : Nat → Nat → Nat → Int32} {b : Nat → Nat} {I : Nat → Int32} {V : Nat → Nat → Int32} {P : Nat → Option Nat} {j : Nat} {X : Nat → Int32} {Y : Nat → Nat → Int32} (hj : j < n) (hj8 : j < 8) (hpj : P j = some (ad j 0)) (hX : XX j = X) (hY : YY j = Y) {w : Nat} (hw : X 1 = nI w) (hw2 : w ≤ 128) {y : Int32} (hy : rg y (nI 0) (I 7) = true) : q_C l yX3_inForceOn wsX3_inForceOn ({ frames := 7, cells := 1, slots := 6, locals := 104 }) D cI cZ cP [.ref (b 0), .int (nI j), .int y] (WK cI cZ cP n ad XX YY b I V P) (S := Unit) (fun v _ => v = some (.int (pL (fun i => decide (¬ y < Y 7 i)) nI w))) (fun _ => (WK cI cZ cP n ad XX YY b I V P)) (fun _ => False) 1 6 := by
  subst hX
  subst hY
  exact lift_p0 hj ((c3_inForceOn l hfl D cI cZ cP b I V P (ad j) (XX j) (YY j) j hj8 hpj w hw hw2 y).post (fun v u h => ⟨u, h.1, rfl⟩) (fun E h => by have h2 := h.2; simp only [kInForceOn] at h2; rw [if_pos hy] at h2; omega))

theorem lk_since (l : Launch) (hfl : l.stackTraces = false) (D : va_G) (cI cZ cP : ClassId) {n : Nat} {ad : Nat → Nat → Nat} {XX : Nat → Nat → Int32} {YY : Nat → Nat → Nat → Int32} {b : Nat → Nat} {I : Nat → Int32} {V : Nat → Nat → Int32} {P : Nat → Option Nat} {j : Nat} {X : Nat → Int32} {Y : Nat → Nat → Int32} (hj : j < n) (hj8 : j < 8) (hpj : P j = some (ad j 0)) (hX : XX j = X) (hY : YY j = Y) {w : Nat} (hw : X 1 = nI w) (hw2 : w ≤ 128) {e : Nat} (he : e < w) : q_C l yX3_since wsX3_since ({ frames := 6, cells := 1, slots := 6, locals := 82 }) D cI cZ cP [.ref (b 0), .int (nI j), .int (nI e)] (WK cI cZ cP n ad XX YY b I V P) (S := Unit) (fun v _ => v = some (.int (Y 7 e))) (fun _ => (WK cI cZ cP n ad XX YY b I V P)) (fun _ => False) 1 6 := by
  subst hX
  subst hY
  exact lift_p0 hj ((c3_since l hfl D cI cZ cP b I V P (ad j) (XX j) (YY j) j hj8 hpj w hw hw2 (nI e)).post (fun v u h => ⟨u, (by have h1 := h.1; rw [ix_nI (by omega)] at h1; exact h1), rfl⟩) (fun E h => by have h2 := h.2; simp only [kSince] at h2; rw [if_pos (show inr (nI e) w = true by simp only [inr, Bool.and_eq_true, decide_eq_true_eq]; exact ⟨nI_pos (by omega), (nI_ltI (by omega) (by omega)).mpr he⟩)] at h2; omega))

theorem la0y (l : Launch) (hfl : l.stackTraces = false) (D : va_G) (cI cZ cP : ClassId) {n : Nat} {ad : Nat → Nat → Nat} {XX : Nat → Nat → Int32} {YY : Nat → Nat → Nat → Int32} {b : Nat → Nat} {I : Nat → Int32} {V : Nat → Nat → Int32} {P : Nat → Option Nat} {j : Nat} {X : Nat → Int32} {Y : Nat → Nat → Int32} (hj : j < n) (hj8 : j < 8) (hpj : P j = some (ad j 0)) (hX : XX j = X) (hY : YY j = Y) (x y : Int32) (hk : kDraft x y (X 2) = 0) : q_C l yL_asks wsL_asks ({ frames := 10, cells := 3, slots := 18, locals := 171 }) D cI cZ cP [.ref (b 0), .int (nI 0), .int (nI j), .int x, .int y] (WK cI cZ cP n ad XX YY b I V P) (S := Unit) (fun v _ => v = some (.int (nI 0))) (fun _ => (WK cI cZ cP n ad (va_up XX j (xDraft X x y)) (va_up YY j (yDraft Y)) b I V P)) (fun _ => False) 3 18 := by
  subst hX
  subst hY
  obtain ⟨fs, hat⟩ := WKat (cI := cI) (cZ := cZ) (cP := cP) (n := n) (ad := ad) (XX := XX) (YY := YY) (b := b) (I := I) (V := V) (P := P)
  exact cl_asks0 l D cI cZ cP hat (cl_begins l D cI cZ cP hat (lift_p hj (c3_draft l hfl D cI cZ cP b I V P (ad j) (XX j) (YY j) j hj8 hpj x y)) (fun v u h => h.1)) (fun v u h => ⟨h.1, rfl⟩) (fun E h => h.elim (fun h => absurd (h.2.symm.trans hk) (by decide)) (fun h => absurd (h.2.symm.trans hk) (by decide)))

theorem la1y (l : Launch) (hfl : l.stackTraces = false) (D : va_G) (cI cZ cP : ClassId) {n : Nat} {ad : Nat → Nat → Nat} {XX : Nat → Nat → Int32} {YY : Nat → Nat → Nat → Int32} {b : Nat → Nat} {I : Nat → Int32} {V : Nat → Nat → Int32} {P : Nat → Option Nat} {j : Nat} {X : Nat → Int32} {Y : Nat → Nat → Int32} (hj : j < n) (hj8 : j < 8) (hpj : P j = some (ad j 0)) (hX : XX j = X) (hY : YY j = Y) (y : Int32) {z9 : Int32} (hk : kChange y (X 2) (X 6) = 0) : q_C l yL_asks wsL_asks ({ frames := 8, cells := 3, slots := 18, locals := 128 }) D cI cZ cP [.ref (b 0), .int (nI 1), .int (nI j), .int y, .int z9] (WK cI cZ cP n ad XX YY b I V P) (S := Unit) (fun v _ => v = some (.int (X 7 + nI 1))) (fun _ => (WK cI cZ cP n ad (va_up XX j (xChange X y)) (va_up YY j (yChange Y)) b I V P)) (fun _ => False) 3 18 := by
  subst hX
  subst hY
  obtain ⟨fs, hat⟩ := WKat (cI := cI) (cZ := cZ) (cP := cP) (n := n) (ad := ad) (XX := XX) (YY := YY) (b := b) (I := I) (V := V) (P := P)
  exact cl_asks1 l D cI cZ cP hat (lift_p hj (c3_change l hfl D cI cZ cP b I V P (ad j) (XX j) (YY j) j hj8 hpj y)) (fun v u h => ⟨h.1, rfl⟩) (fun E h => h.elim (fun h => absurd (h.2.symm.trans hk) (by decide)) (fun h => absurd (h.2.symm.trans hk) (by decide)))

theorem la0n (l : Launch) (hfl : l.stackTraces = false) (D : va_G) (cI cZ cP : ClassId) {n : Nat} {ad : Nat → Nat → Nat} {XX : Nat → Nat → Int32} {YY : Nat → Nat → Nat → Int32} {b : Nat → Nat} {I : Nat → Int32} {V : Nat → Nat → Int32} {P : Nat → Option Nat} {j : Nat} {X : Nat → Int32} {Y : Nat → Nat → Int32} (hj : j < n) (hj8 : j < 8) (hpj : P j = some (ad j 0)) (hX : XX j = X) (hY : YY j = Y) (x y : Int32) (hk : kDraft x y (X 2) = 3) : q_C l yL_asks wsL_asks ({ frames := 10, cells := 3, slots := 18, locals := 171 }) D cI cZ cP [.ref (b 0), .int (nI 0), .int (nI j), .int x, .int y] (WK cI cZ cP n ad XX YY b I V P) (S := Unit) (fun v _ => v = some (.int (-8))) (fun _ => (WK cI cZ cP n ad XX YY b I V P)) (fun _ => False) 3 18 := by
  subst hX
  subst hY
  obtain ⟨fs, hat⟩ := WKat (cI := cI) (cZ := cZ) (cP := cP) (n := n) (ad := ad) (XX := XX) (YY := YY) (b := b) (I := I) (V := V) (P := P)
  exact cl_asks0 l D cI cZ cP hat (cl_begins l D cI cZ cP hat (lift_p hj (c3_draft l hfl D cI cZ cP b I V P (ad j) (XX j) (YY j) j hj8 hpj x y)) (fun v u h => h.1)) (fun v u h => absurd (h.2.2.symm.trans hk) (by decide)) (fun E h => h.elim (fun h => absurd (h.2.symm.trans hk) (by decide)) (fun h => ⟨rfl, Or.inr (Or.inl ⟨h.1, rfl⟩)⟩))

theorem la1n (l : Launch) (hfl : l.stackTraces = false) (D : va_G) (cI cZ cP : ClassId) {n : Nat} {ad : Nat → Nat → Nat} {XX : Nat → Nat → Int32} {YY : Nat → Nat → Nat → Int32} {b : Nat → Nat} {I : Nat → Int32} {V : Nat → Nat → Int32} {P : Nat → Option Nat} {j : Nat} {X : Nat → Int32} {Y : Nat → Nat → Int32} (hj : j < n) (hj8 : j < 8) (hpj : P j = some (ad j 0)) (hX : XX j = X) (hY : YY j = Y) (y : Int32) {z9 : Int32} (hk : kChange y (X 2) (X 6) = 3) : q_C l yL_asks wsL_asks ({ frames := 8, cells := 3, slots := 18, locals := 128 }) D cI cZ cP [.ref (b 0), .int (nI 1), .int (nI j), .int y, .int z9] (WK cI cZ cP n ad XX YY b I V P) (S := Unit) (fun v _ => v = some (.int (-8))) (fun _ => (WK cI cZ cP n ad XX YY b I V P)) (fun _ => False) 3 18 := by
  subst hX
  subst hY
  obtain ⟨fs, hat⟩ := WKat (cI := cI) (cZ := cZ) (cP := cP) (n := n) (ad := ad) (XX := XX) (YY := YY) (b := b) (I := I) (V := V) (P := P)
  exact cl_asks1 l D cI cZ cP hat (lift_p hj (c3_change l hfl D cI cZ cP b I V P (ad j) (XX j) (YY j) j hj8 hpj y)) (fun v u h => absurd (h.2.symm.trans hk) (by decide)) (fun E h => h.elim (fun h => absurd (h.2.symm.trans hk) (by decide)) (fun h => ⟨rfl, Or.inr (Or.inl ⟨h.1, rfl⟩)⟩))

theorem la2y (l : Launch) (hfl : l.stackTraces = false) (D : va_G) (cI cZ cP : ClassId) {n : Nat} {ad : Nat → Nat → Nat} {XX : Nat → Nat → Int32} {YY : Nat → Nat → Nat → Int32} {b : Nat → Nat} {I : Nat → Int32} {V : Nat → Nat → Int32} {P : Nat → Option Nat} {j : Nat} {X : Nat → Int32} {Y : Nat → Nat → Int32} (hj : j < n) (hj8 : j < 8) (hpj : P j = some (ad j 0)) (hX : XX j = X) (hY : YY j = Y)  {z8 z9 : Int32} (hk : kDrop (X 2) = 0) : q_C l yL_asks wsL_asks ({ frames := 8, cells := 1, slots := 6, locals := 125 }) D cI cZ cP [.ref (b 0), .int (nI 2), .int (nI j), .int z8, .int z9] (WK cI cZ cP n ad XX YY b I V P) (S := Unit) (fun v _ => v = some (.int (X 6))) (fun _ => (WK cI cZ cP n ad (va_up XX j (va_up X 2 (nI 0))) (va_up YY j Y) b I V P)) (fun _ => False) 1 6 := by
  subst hX
  subst hY
  obtain ⟨fs, hat⟩ := WKat (cI := cI) (cZ := cZ) (cP := cP) (n := n) (ad := ad) (XX := XX) (YY := YY) (b := b) (I := I) (V := V) (P := P)
  exact cl_asks2 l D cI cZ cP hat (lift_p hj (c3_drop l hfl D cI cZ cP b I V P (ad j) (XX j) (YY j) j hj8 hpj)) (fun v u h => ⟨h.1, rfl⟩) (fun E h => absurd (h.2.symm.trans hk) (by decide))

theorem la2n (l : Launch) (hfl : l.stackTraces = false) (D : va_G) (cI cZ cP : ClassId) {n : Nat} {ad : Nat → Nat → Nat} {XX : Nat → Nat → Int32} {YY : Nat → Nat → Nat → Int32} {b : Nat → Nat} {I : Nat → Int32} {V : Nat → Nat → Int32} {P : Nat → Option Nat} {j : Nat} {X : Nat → Int32} {Y : Nat → Nat → Int32} (hj : j < n) (hj8 : j < 8) (hpj : P j = some (ad j 0)) (hX : XX j = X) (hY : YY j = Y)  {z8 z9 : Int32} (hk : kDrop (X 2) = 2) : q_C l yL_asks wsL_asks ({ frames := 8, cells := 1, slots := 6, locals := 125 }) D cI cZ cP [.ref (b 0), .int (nI 2), .int (nI j), .int z8, .int z9] (WK cI cZ cP n ad XX YY b I V P) (S := Unit) (fun v _ => v = some (.int (-8))) (fun _ => (WK cI cZ cP n ad XX YY b I V P)) (fun _ => False) 1 6 := by
  subst hX
  subst hY
  obtain ⟨fs, hat⟩ := WKat (cI := cI) (cZ := cZ) (cP := cP) (n := n) (ad := ad) (XX := XX) (YY := YY) (b := b) (I := I) (V := V) (P := P)
  exact cl_asks2 l D cI cZ cP hat (lift_p hj (c3_drop l hfl D cI cZ cP b I V P (ad j) (XX j) (YY j) j hj8 hpj)) (fun v u h => absurd (h.2.symm.trans hk) (by decide)) (fun E h => ⟨rfl, Or.inr (Or.inl ⟨h.1, rfl⟩)⟩)

theorem la3y (l : Launch) (hfl : l.stackTraces = false) (D : va_G) (cI cZ cP : ClassId) {n : Nat} {ad : Nat → Nat → Nat} {XX : Nat → Nat → Int32} {YY : Nat → Nat → Nat → Int32} {b : Nat → Nat} {I : Nat → Int32} {V : Nat → Nat → Int32} {P : Nat → Option Nat} {j : Nat} {X : Nat → Int32} {Y : Nat → Nat → Int32} (hj : j < n) (hj8 : j < 8) (hpj : P j = some (ad j 0)) (hX : XX j = X) (hY : YY j = Y) {mm kk : Nat} (hW : wd X Y mm kk) (x : Int32) {z9 : Int32} (hk : kReviewer x (X 2) (X 10) (X 5) (V 0 (ix x)) (pX (fun i => decide (Y 1 i = x)) mm 0) mm = 0) : q_C l yL_asks wsL_asks ({ frames := 9, cells := 3, slots := 18, locals := 148 }) D cI cZ cP [.ref (b 0), .int (nI 3), .int (nI j), .int x, .int z9] (WK cI cZ cP n ad XX YY b I V P) (S := Unit) (fun v _ => v = some (.int (nI (mm + 1)))) (fun _ => (WK cI cZ cP n ad (va_up XX j (va_up X 8 (nI (mm + 1)))) (va_up YY j (va_up Y 1 (upd (Y 1) mm x))) b I V P)) (fun _ => False) 3 18 := by
  subst hX
  subst hY
  obtain ⟨fs, hat⟩ := WKat (cI := cI) (cZ := cZ) (cP := cP) (n := n) (ad := ad) (XX := XX) (YY := YY) (b := b) (I := I) (V := V) (P := P)
  exact cl_asks3 l D cI cZ cP hat (lift_p hj (c3_reviewer l hfl D cI cZ cP b I V P (ad j) (XX j) (YY j) j hj8 hpj mm kk hW x)) (fun v u h => ⟨h.1, rfl⟩) (fun E h => h.elim (fun h => absurd (h.2.symm.trans hk) (by decide)) (fun h => absurd (h.2.symm.trans hk) (by decide)))

theorem la4y (l : Launch) (hfl : l.stackTraces = false) (D : va_G) (cI cZ cP : ClassId) {n : Nat} {ad : Nat → Nat → Nat} {XX : Nat → Nat → Int32} {YY : Nat → Nat → Nat → Int32} {b : Nat → Nat} {I : Nat → Int32} {V : Nat → Nat → Int32} {P : Nat → Option Nat} {j : Nat} {X : Nat → Int32} {Y : Nat → Nat → Int32} (hj : j < n) (hj8 : j < 8) (hpj : P j = some (ad j 0)) (hX : XX j = X) (hY : YY j = Y) (x : Int32) {z9 : Int32} (hk : kReader x (X 2) (Y 4 (ix x)) = 0) : q_C l yL_asks wsL_asks ({ frames := 9, cells := 3, slots := 18, locals := 148 }) D cI cZ cP [.ref (b 0), .int (nI 4), .int (nI j), .int x, .int z9] (WK cI cZ cP n ad XX YY b I V P) (S := Unit) (fun v _ => v = some (.int (nI (pN (fun i => decide (¬ (upd (Y 4) (ix x) (nI 1)) i = 0)) 6)))) (fun _ => (WK cI cZ cP n ad (va_up XX j X) (va_up YY j (va_up Y 4 (upd (Y 4) (ix x) (nI 1)))) b I V P)) (fun _ => False) 3 18 := by
  subst hX
  subst hY
  obtain ⟨fs, hat⟩ := WKat (cI := cI) (cZ := cZ) (cP := cP) (n := n) (ad := ad) (XX := XX) (YY := YY) (b := b) (I := I) (V := V) (P := P)
  exact cl_asks4 l D cI cZ cP hat (lift_p hj (c3_reader l hfl D cI cZ cP b I V P (ad j) (XX j) (YY j) j hj8 hpj x)) (fun v u h => ⟨h.1, rfl⟩) (fun E h => h.elim (fun h => absurd (h.2.symm.trans hk) (by decide)) (fun h => absurd (h.2.symm.trans hk) (by decide)))

theorem la3n (l : Launch) (hfl : l.stackTraces = false) (D : va_G) (cI cZ cP : ClassId) {n : Nat} {ad : Nat → Nat → Nat} {XX : Nat → Nat → Int32} {YY : Nat → Nat → Nat → Int32} {b : Nat → Nat} {I : Nat → Int32} {V : Nat → Nat → Int32} {P : Nat → Option Nat} {j : Nat} {X : Nat → Int32} {Y : Nat → Nat → Int32} (hj : j < n) (hj8 : j < 8) (hpj : P j = some (ad j 0)) (hX : XX j = X) (hY : YY j = Y) {mm kk : Nat} (hW : wd X Y mm kk) (x : Int32) {z9 : Int32} (hk : kReviewer x (X 2) (X 10) (X 5) (V 0 (ix x)) (pX (fun i => decide (Y 1 i = x)) mm 0) mm = 3) : q_C l yL_asks wsL_asks ({ frames := 9, cells := 3, slots := 18, locals := 148 }) D cI cZ cP [.ref (b 0), .int (nI 3), .int (nI j), .int x, .int z9] (WK cI cZ cP n ad XX YY b I V P) (S := Unit) (fun v _ => v = some (.int (-8))) (fun _ => (WK cI cZ cP n ad XX YY b I V P)) (fun _ => False) 3 18 := by
  subst hX
  subst hY
  obtain ⟨fs, hat⟩ := WKat (cI := cI) (cZ := cZ) (cP := cP) (n := n) (ad := ad) (XX := XX) (YY := YY) (b := b) (I := I) (V := V) (P := P)
  exact cl_asks3 l D cI cZ cP hat (lift_p hj (c3_reviewer l hfl D cI cZ cP b I V P (ad j) (XX j) (YY j) j hj8 hpj mm kk hW x)) (fun v u h => absurd (h.2.symm.trans hk) (by decide)) (fun E h => h.elim (fun h => absurd (h.2.symm.trans hk) (by decide)) (fun h => ⟨rfl, Or.inr (Or.inl ⟨h.1, rfl⟩)⟩))

theorem la4n (l : Launch) (hfl : l.stackTraces = false) (D : va_G) (cI cZ cP : ClassId) {n : Nat} {ad : Nat → Nat → Nat} {XX : Nat → Nat → Int32} {YY : Nat → Nat → Nat → Int32} {b : Nat → Nat} {I : Nat → Int32} {V : Nat → Nat → Int32} {P : Nat → Option Nat} {j : Nat} {X : Nat → Int32} {Y : Nat → Nat → Int32} (hj : j < n) (hj8 : j < 8) (hpj : P j = some (ad j 0)) (hX : XX j = X) (hY : YY j = Y) (x : Int32) {z9 : Int32} (hk : kReader x (X 2) (Y 4 (ix x)) = 3) : q_C l yL_asks wsL_asks ({ frames := 9, cells := 3, slots := 18, locals := 148 }) D cI cZ cP [.ref (b 0), .int (nI 4), .int (nI j), .int x, .int z9] (WK cI cZ cP n ad XX YY b I V P) (S := Unit) (fun v _ => v = some (.int (-8))) (fun _ => (WK cI cZ cP n ad XX YY b I V P)) (fun _ => False) 3 18 := by
  subst hX
  subst hY
  obtain ⟨fs, hat⟩ := WKat (cI := cI) (cZ := cZ) (cP := cP) (n := n) (ad := ad) (XX := XX) (YY := YY) (b := b) (I := I) (V := V) (P := P)
  exact cl_asks4 l D cI cZ cP hat (lift_p hj (c3_reader l hfl D cI cZ cP b I V P (ad j) (XX j) (YY j) j hj8 hpj x)) (fun v u h => absurd (h.2.symm.trans hk) (by decide)) (fun E h => h.elim (fun h => absurd (h.2.symm.trans hk) (by decide)) (fun h => ⟨rfl, Or.inr (Or.inl ⟨h.1, rfl⟩)⟩))

theorem la5r (l : Launch) (hfl : l.stackTraces = false) (D : va_G) (cI cZ cP : ClassId) {n : Nat} {ad : Nat → Nat → Nat} {XX : Nat → Nat → Int32} {YY : Nat → Nat → Nat → Int32} {b : Nat → Nat} {I : Nat → Int32} {V : Nat → Nat → Int32} {P : Nat → Option Nat} {j : Nat} {X : Nat → Int32} {Y : Nat → Nat → Int32} (hj : j < n) (hj8 : j < 8) (hpj : P j = some (ad j 0)) (hX : XX j = X) (hY : YY j = Y) {mm kk : Nat} (hW : wd X Y mm kk) (x z : Int32) (hk4 : kReview x (X 2) (pX (fun i => decide (Y 1 i = x)) mm 0) (Y 2 (ix x)) (X 0) (dNR Y mm) = 0 → kk < 4) (hz : ¬ z ≤ 0) (hk : kReview x (X 2) (pX (fun i => decide (Y 1 i = x)) mm 0) (Y 2 (ix x)) (X 0) (dNR Y mm) = 0) : q_C l yL_asks wsL_asks ({ frames := 9, cells := 4, slots := 24, locals := 149 }) D cI cZ cP [.ref (b 0), .int (nI 5), .int (nI j), .int x, .int z] (WK cI cZ cP n ad XX YY b I V P) (S := Unit) (fun v _ => v = some (.int (nI kk))) (fun _ => (WK cI cZ cP n ad (va_up XX j (va_up X 9 (nI (kk + 1)))) (va_up YY j (va_up (va_up Y 2 (upd (Y 2) (ix x) (nI 1))) 3 (upd (Y 3) kk (nI 0)))) b I V P)) (fun _ => False) 4 24 := by
  subst hX
  subst hY
  have hb : ¬ bI (decide (¬ z ≤ 0)) = 0 := by rw [decide_eq_true hz]; decide
  obtain ⟨fs, hat⟩ := WKat (cI := cI) (cZ := cZ) (cP := cP) (n := n) (ad := ad) (XX := XX) (YY := YY) (b := b) (I := I) (V := V) (P := P)
  exact cl_asks5 l D cI cZ cP hat (lift_p hj (c3_review l hfl D cI cZ cP b I V P (ad j) (XX j) (YY j) j hj8 hpj mm kk hW x (bI (decide (¬ z ≤ 0))) (fun _ h => hk4 h))) (fun v u h => ⟨by have h1 := h.1; rw [if_neg hb] at h1; exact h1, by show WK cI cZ cP n ad _ _ b I V P = _; rw [if_neg hb, if_neg hb]⟩) (fun E h => h.elim (fun h => absurd (h.2.symm.trans hk) (by decide)) (fun h => absurd (h.2.symm.trans hk) (by decide)))

theorem la5m (l : Launch) (hfl : l.stackTraces = false) (D : va_G) (cI cZ cP : ClassId) {n : Nat} {ad : Nat → Nat → Nat} {XX : Nat → Nat → Int32} {YY : Nat → Nat → Nat → Int32} {b : Nat → Nat} {I : Nat → Int32} {V : Nat → Nat → Int32} {P : Nat → Option Nat} {j : Nat} {X : Nat → Int32} {Y : Nat → Nat → Int32} (hj : j < n) (hj8 : j < 8) (hpj : P j = some (ad j 0)) (hX : XX j = X) (hY : YY j = Y) {mm kk : Nat} (hW : wd X Y mm kk) (x z : Int32) (hk4 : kReview x (X 2) (pX (fun i => decide (Y 1 i = x)) mm 0) (Y 2 (ix x)) (X 0) (dNR Y mm) = 0 → kk < 4) (hz : z ≤ 0) (hk : kReview x (X 2) (pX (fun i => decide (Y 1 i = x)) mm 0) (Y 2 (ix x)) (X 0) (dNR Y mm) = 0) : q_C l yL_asks wsL_asks ({ frames := 9, cells := 4, slots := 24, locals := 149 }) D cI cZ cP [.ref (b 0), .int (nI 5), .int (nI j), .int x, .int z] (WK cI cZ cP n ad XX YY b I V P) (S := Unit) (fun v _ => v = some (.int (-1))) (fun _ => (WK cI cZ cP n ad (va_up XX j X) (va_up YY j (va_up Y 2 (upd (Y 2) (ix x) (nI 1)))) b I V P)) (fun _ => False) 4 24 := by
  subst hX
  subst hY
  have hb : bI (decide (¬ z ≤ 0)) = 0 := by rw [decide_eq_false (fun h => h hz)]; rfl
  obtain ⟨fs, hat⟩ := WKat (cI := cI) (cZ := cZ) (cP := cP) (n := n) (ad := ad) (XX := XX) (YY := YY) (b := b) (I := I) (V := V) (P := P)
  exact cl_asks5 l D cI cZ cP hat (lift_p hj (c3_review l hfl D cI cZ cP b I V P (ad j) (XX j) (YY j) j hj8 hpj mm kk hW x (bI (decide (¬ z ≤ 0))) (fun _ h => hk4 h))) (fun v u h => ⟨by have h1 := h.1; rw [if_pos hb] at h1; exact h1, by show WK cI cZ cP n ad _ _ b I V P = _; rw [if_pos hb, if_pos hb]⟩) (fun E h => h.elim (fun h => absurd (h.2.symm.trans hk) (by decide)) (fun h => absurd (h.2.symm.trans hk) (by decide)))

theorem la5n (l : Launch) (hfl : l.stackTraces = false) (D : va_G) (cI cZ cP : ClassId) {n : Nat} {ad : Nat → Nat → Nat} {XX : Nat → Nat → Int32} {YY : Nat → Nat → Nat → Int32} {b : Nat → Nat} {I : Nat → Int32} {V : Nat → Nat → Int32} {P : Nat → Option Nat} {j : Nat} {X : Nat → Int32} {Y : Nat → Nat → Int32} (hj : j < n) (hj8 : j < 8) (hpj : P j = some (ad j 0)) (hX : XX j = X) (hY : YY j = Y) {mm kk : Nat} (hW : wd X Y mm kk) (x z : Int32) (hk4 : kReview x (X 2) (pX (fun i => decide (Y 1 i = x)) mm 0) (Y 2 (ix x)) (X 0) (dNR Y mm) = 0 → kk < 4) (hk : kReview x (X 2) (pX (fun i => decide (Y 1 i = x)) mm 0) (Y 2 (ix x)) (X 0) (dNR Y mm) = 3) : q_C l yL_asks wsL_asks ({ frames := 9, cells := 4, slots := 24, locals := 149 }) D cI cZ cP [.ref (b 0), .int (nI 5), .int (nI j), .int x, .int z] (WK cI cZ cP n ad XX YY b I V P) (S := Unit) (fun v _ => v = some (.int (-8))) (fun _ => (WK cI cZ cP n ad XX YY b I V P)) (fun _ => False) 4 24 := by
  subst hX
  subst hY
  obtain ⟨fs, hat⟩ := WKat (cI := cI) (cZ := cZ) (cP := cP) (n := n) (ad := ad) (XX := XX) (YY := YY) (b := b) (I := I) (V := V) (P := P)
  exact cl_asks5 l D cI cZ cP hat (lift_p hj (c3_review l hfl D cI cZ cP b I V P (ad j) (XX j) (YY j) j hj8 hpj mm kk hW x (bI (decide (¬ z ≤ 0))) (fun _ h => hk4 h))) (fun v u h => absurd (h.2.symm.trans hk) (by decide)) (fun E h => h.elim (fun h => absurd (h.2.symm.trans hk) (by decide)) (fun h => ⟨rfl, Or.inr (Or.inl ⟨h.1, rfl⟩)⟩))

theorem la6y (l : Launch) (hfl : l.stackTraces = false) (D : va_G) (cI cZ cP : ClassId) {n : Nat} {ad : Nat → Nat → Nat} {XX : Nat → Nat → Int32} {YY : Nat → Nat → Nat → Int32} {b : Nat → Nat} {I : Nat → Int32} {V : Nat → Nat → Int32} {P : Nat → Option Nat} {j : Nat} {X : Nat → Int32} {Y : Nat → Nat → Int32} (hj : j < n) (hj8 : j < 8) (hpj : P j = some (ad j 0)) (hX : XX j = X) (hY : YY j = Y) {mm kk : Nat} (hW : wd X Y mm kk) (r : Int32) {z9 : Int32} (hk : kAnswer r (X 2) kk (Y 3 (ix r)) = 0) : q_C l yL_asks wsL_asks ({ frames := 8, cells := 3, slots := 18, locals := 126 }) D cI cZ cP [.ref (b 0), .int (nI 6), .int (nI j), .int r, .int z9] (WK cI cZ cP n ad XX YY b I V P) (S := Unit) (fun v _ => v = some (.int (nI (pN (fun i => decide ((upd (Y 3) (ix r) (nI 1)) i = 0)) kk)))) (fun _ => (WK cI cZ cP n ad (va_up XX j X) (va_up YY j (va_up Y 3 (upd (Y 3) (ix r) (nI 1)))) b I V P)) (fun _ => False) 3 18 := by
  subst hX
  subst hY
  obtain ⟨fs, hat⟩ := WKat (cI := cI) (cZ := cZ) (cP := cP) (n := n) (ad := ad) (XX := XX) (YY := YY) (b := b) (I := I) (V := V) (P := P)
  exact cl_asks6 l D cI cZ cP hat (lift_p hj (c3_answer l hfl D cI cZ cP b I V P (ad j) (XX j) (YY j) j hj8 hpj mm kk hW r)) (fun v u h => ⟨h.1, rfl⟩) (fun E h => h.elim (fun h => absurd (h.2.symm.trans hk) (by decide)) (fun h => absurd (h.2.symm.trans hk) (by decide)))

theorem la6b (l : Launch) (hfl : l.stackTraces = false) (D : va_G) (cI cZ cP : ClassId) {n : Nat} {ad : Nat → Nat → Nat} {XX : Nat → Nat → Int32} {YY : Nat → Nat → Nat → Int32} {b : Nat → Nat} {I : Nat → Int32} {V : Nat → Nat → Int32} {P : Nat → Option Nat} {j : Nat} {X : Nat → Int32} {Y : Nat → Nat → Int32} (hj : j < n) (hj8 : j < 8) (hpj : P j = some (ad j 0)) (hX : XX j = X) (hY : YY j = Y) {mm kk : Nat} (hW : wd X Y mm kk) (r : Int32) {z9 : Int32} (hk : kAnswer r (X 2) kk (Y 3 (ix r)) = 1) : q_C l yL_asks wsL_asks ({ frames := 8, cells := 3, slots := 18, locals := 126 }) D cI cZ cP [.ref (b 0), .int (nI 6), .int (nI j), .int r, .int z9] (WK cI cZ cP n ad XX YY b I V P) (S := Unit) (fun v _ => v = some (.int (-7))) (fun _ => (WK cI cZ cP n ad XX YY b I V P)) (fun _ => False) 3 18 := by
  subst hX
  subst hY
  obtain ⟨fs, hat⟩ := WKat (cI := cI) (cZ := cZ) (cP := cP) (n := n) (ad := ad) (XX := XX) (YY := YY) (b := b) (I := I) (V := V) (P := P)
  exact cl_asks6 l D cI cZ cP hat (lift_p hj (c3_answer l hfl D cI cZ cP b I V P (ad j) (XX j) (YY j) j hj8 hpj mm kk hW r)) (fun v u h => absurd (h.2.symm.trans hk) (by decide)) (fun E h => h.elim (fun h => ⟨rfl, Or.inl ⟨h.1, rfl⟩⟩) (fun h => absurd (h.2.symm.trans hk) (by decide)))

theorem la6n (l : Launch) (hfl : l.stackTraces = false) (D : va_G) (cI cZ cP : ClassId) {n : Nat} {ad : Nat → Nat → Nat} {XX : Nat → Nat → Int32} {YY : Nat → Nat → Nat → Int32} {b : Nat → Nat} {I : Nat → Int32} {V : Nat → Nat → Int32} {P : Nat → Option Nat} {j : Nat} {X : Nat → Int32} {Y : Nat → Nat → Int32} (hj : j < n) (hj8 : j < 8) (hpj : P j = some (ad j 0)) (hX : XX j = X) (hY : YY j = Y) {mm kk : Nat} (hW : wd X Y mm kk) (r : Int32) {z9 : Int32} (hk : kAnswer r (X 2) kk (Y 3 (ix r)) = 2) : q_C l yL_asks wsL_asks ({ frames := 8, cells := 3, slots := 18, locals := 126 }) D cI cZ cP [.ref (b 0), .int (nI 6), .int (nI j), .int r, .int z9] (WK cI cZ cP n ad XX YY b I V P) (S := Unit) (fun v _ => v = some (.int (-8))) (fun _ => (WK cI cZ cP n ad XX YY b I V P)) (fun _ => False) 3 18 := by
  subst hX
  subst hY
  obtain ⟨fs, hat⟩ := WKat (cI := cI) (cZ := cZ) (cP := cP) (n := n) (ad := ad) (XX := XX) (YY := YY) (b := b) (I := I) (V := V) (P := P)
  exact cl_asks6 l D cI cZ cP hat (lift_p hj (c3_answer l hfl D cI cZ cP b I V P (ad j) (XX j) (YY j) j hj8 hpj mm kk hW r)) (fun v u h => absurd (h.2.symm.trans hk) (by decide)) (fun E h => h.elim (fun h => absurd (h.2.symm.trans hk) (by decide)) (fun h => ⟨rfl, Or.inr (Or.inl ⟨h.1, rfl⟩)⟩))

theorem la7y (l : Launch) (hfl : l.stackTraces = false) (D : va_G) (cI cZ cP : ClassId) {n : Nat} {ad : Nat → Nat → Nat} {XX : Nat → Nat → Int32} {YY : Nat → Nat → Nat → Int32} {b : Nat → Nat} {I : Nat → Int32} {V : Nat → Nat → Int32} {P : Nat → Option Nat} {j : Nat} {X : Nat → Int32} {Y : Nat → Nat → Int32} (hj : j < n) (hj8 : j < 8) (hpj : P j = some (ad j 0)) (hX : XX j = X) (hY : YY j = Y) {mm kk : Nat} (hW : wd X Y mm kk) (hb : ∀ i, i < 6 → V 1 i = 0 ∨ V 1 i = 1) (x y : Int32) (hk : kApprove x y (I 7) (X 2) (stp mm (dNR Y mm) (dOR Y kk) (X 10) (dNC Y)) (X 5) (ca (V 1) (V 2) (ix x) 6) = 0) : q_C l yL_asks wsL_asks ({ frames := 10, cells := 4, slots := 24, locals := 172 }) D cI cZ cP [.ref (b 0), .int (nI 7), .int (nI j), .int x, .int y] (WK cI cZ cP n ad XX YY b I V P) (S := Unit) (fun v _ => v = some (.int (nI 0))) (fun _ => (WK cI cZ cP n ad (va_up XX j (va_up (va_up X 10 (nI 1)) 11 y)) (va_up YY j Y) b I V P)) (fun _ => False) 4 24 := by
  subst hX
  subst hY
  obtain ⟨fs, hat⟩ := WKat (cI := cI) (cZ := cZ) (cP := cP) (n := n) (ad := ad) (XX := XX) (YY := YY) (b := b) (I := I) (V := V) (P := P)
  exact cl_asks7 l D cI cZ cP hat (cl_approves l D cI cZ cP hat (lift_p hj (c3_approve l hfl D cI cZ cP b I V P (ad j) (XX j) (YY j) j hj8 hpj mm kk hW hb x y)) (fun v u h => h.1)) (fun v u h => ⟨h.1, rfl⟩) (fun E h => h.elim (fun h => absurd (h.2.symm.trans hk) (by decide)) (fun h => absurd (h.2.symm.trans hk) (by decide)))

theorem la7n (l : Launch) (hfl : l.stackTraces = false) (D : va_G) (cI cZ cP : ClassId) {n : Nat} {ad : Nat → Nat → Nat} {XX : Nat → Nat → Int32} {YY : Nat → Nat → Nat → Int32} {b : Nat → Nat} {I : Nat → Int32} {V : Nat → Nat → Int32} {P : Nat → Option Nat} {j : Nat} {X : Nat → Int32} {Y : Nat → Nat → Int32} (hj : j < n) (hj8 : j < 8) (hpj : P j = some (ad j 0)) (hX : XX j = X) (hY : YY j = Y) {mm kk : Nat} (hW : wd X Y mm kk) (hb : ∀ i, i < 6 → V 1 i = 0 ∨ V 1 i = 1) (x y : Int32) (hk : kApprove x y (I 7) (X 2) (stp mm (dNR Y mm) (dOR Y kk) (X 10) (dNC Y)) (X 5) (ca (V 1) (V 2) (ix x) 6) = 3) : q_C l yL_asks wsL_asks ({ frames := 10, cells := 4, slots := 24, locals := 172 }) D cI cZ cP [.ref (b 0), .int (nI 7), .int (nI j), .int x, .int y] (WK cI cZ cP n ad XX YY b I V P) (S := Unit) (fun v _ => v = some (.int (-8))) (fun _ => (WK cI cZ cP n ad XX YY b I V P)) (fun _ => False) 4 24 := by
  subst hX
  subst hY
  obtain ⟨fs, hat⟩ := WKat (cI := cI) (cZ := cZ) (cP := cP) (n := n) (ad := ad) (XX := XX) (YY := YY) (b := b) (I := I) (V := V) (P := P)
  exact cl_asks7 l D cI cZ cP hat (cl_approves l D cI cZ cP hat (lift_p hj (c3_approve l hfl D cI cZ cP b I V P (ad j) (XX j) (YY j) j hj8 hpj mm kk hW hb x y)) (fun v u h => h.1)) (fun v u h => absurd (h.2.2.symm.trans hk) (by decide)) (fun E h => h.elim (fun h => absurd (h.2.symm.trans hk) (by decide)) (fun h => ⟨rfl, Or.inr (Or.inl ⟨h.1, rfl⟩)⟩))

theorem la7a (l : Launch) (hfl : l.stackTraces = false) (D : va_G) (cI cZ cP : ClassId) {n : Nat} {ad : Nat → Nat → Nat} {XX : Nat → Nat → Int32} {YY : Nat → Nat → Nat → Int32} {b : Nat → Nat} {I : Nat → Int32} {V : Nat → Nat → Int32} {P : Nat → Option Nat} {j : Nat} {X : Nat → Int32} {Y : Nat → Nat → Int32} (hj : j < n) (hj8 : j < 8) (hpj : P j = some (ad j 0)) (hX : XX j = X) (hY : YY j = Y) {mm kk : Nat} (hW : wd X Y mm kk) (hb : ∀ i, i < 6 → V 1 i = 0 ∨ V 1 i = 1) (x y : Int32) (hk : kApprove x y (I 7) (X 2) (stp mm (dNR Y mm) (dOR Y kk) (X 10) (dNC Y)) (X 5) (ca (V 1) (V 2) (ix x) 6) = 2) : q_C l yL_asks wsL_asks ({ frames := 10, cells := 4, slots := 24, locals := 172 }) D cI cZ cP [.ref (b 0), .int (nI 7), .int (nI j), .int x, .int y] (WK cI cZ cP n ad XX YY b I V P) (S := Unit) (fun v _ => v = some (.int (-9))) (fun _ => (WK cI cZ cP n ad XX YY b I V P)) (fun _ => False) 4 24 := by
  subst hX
  subst hY
  obtain ⟨fs, hat⟩ := WKat (cI := cI) (cZ := cZ) (cP := cP) (n := n) (ad := ad) (XX := XX) (YY := YY) (b := b) (I := I) (V := V) (P := P)
  exact cl_asks7 l D cI cZ cP hat (cl_approves l D cI cZ cP hat (lift_p hj (c3_approve l hfl D cI cZ cP b I V P (ad j) (XX j) (YY j) j hj8 hpj mm kk hW hb x y)) (fun v u h => h.1)) (fun v u h => absurd (h.2.2.symm.trans hk) (by decide)) (fun E h => h.elim (fun h => ⟨rfl, Or.inr (Or.inr ⟨h.1, rfl⟩)⟩) (fun h => absurd (h.2.symm.trans hk) (by decide)))

theorem la8y (l : Launch) (hfl : l.stackTraces = false) (D : va_G) (cI cZ cP : ClassId) {n : Nat} {ad : Nat → Nat → Nat} {XX : Nat → Nat → Int32} {YY : Nat → Nat → Nat → Int32} {b : Nat → Nat} {I : Nat → Int32} {V : Nat → Nat → Int32} {P : Nat → Option Nat} {j : Nat} {X : Nat → Int32} {Y : Nat → Nat → Int32} (hj : j < n) (hj8 : j < 8) (hpj : P j = some (ad j 0)) (hX : XX j = X) (hY : YY j = Y) (x : Int32) {z9 : Int32} (hk : kConfirm x (X 2) (X 10) (Y 4 (ix x)) (Y 5 (ix x)) = 0) : q_C l yL_asks wsL_asks ({ frames := 9, cells := 3, slots := 18, locals := 148 }) D cI cZ cP [.ref (b 0), .int (nI 8), .int (nI j), .int x, .int z9] (WK cI cZ cP n ad XX YY b I V P) (S := Unit) (fun v _ => v = some (.int (nI (pN (fun i => decide (¬ Y 4 i = 0)) 6) - nI (pN (fun i => decide (¬ (upd (Y 5) (ix x) (nI 1)) i = 0)) 6)))) (fun _ => (WK cI cZ cP n ad (va_up XX j X) (va_up YY j (va_up Y 5 (upd (Y 5) (ix x) (nI 1)))) b I V P)) (fun _ => False) 3 18 := by
  subst hX
  subst hY
  obtain ⟨fs, hat⟩ := WKat (cI := cI) (cZ := cZ) (cP := cP) (n := n) (ad := ad) (XX := XX) (YY := YY) (b := b) (I := I) (V := V) (P := P)
  exact cl_asks8 l D cI cZ cP hat (lift_p hj (c3_confirm l hfl D cI cZ cP b I V P (ad j) (XX j) (YY j) j hj8 hpj x)) (fun v u h => ⟨h.1, rfl⟩) (fun E h => h.elim (fun h => absurd (h.2.symm.trans hk) (by decide)) (fun h => absurd (h.2.symm.trans hk) (by decide)))

theorem la8n (l : Launch) (hfl : l.stackTraces = false) (D : va_G) (cI cZ cP : ClassId) {n : Nat} {ad : Nat → Nat → Nat} {XX : Nat → Nat → Int32} {YY : Nat → Nat → Nat → Int32} {b : Nat → Nat} {I : Nat → Int32} {V : Nat → Nat → Int32} {P : Nat → Option Nat} {j : Nat} {X : Nat → Int32} {Y : Nat → Nat → Int32} (hj : j < n) (hj8 : j < 8) (hpj : P j = some (ad j 0)) (hX : XX j = X) (hY : YY j = Y) (x : Int32) {z9 : Int32} (hk : kConfirm x (X 2) (X 10) (Y 4 (ix x)) (Y 5 (ix x)) = 3) : q_C l yL_asks wsL_asks ({ frames := 9, cells := 3, slots := 18, locals := 148 }) D cI cZ cP [.ref (b 0), .int (nI 8), .int (nI j), .int x, .int z9] (WK cI cZ cP n ad XX YY b I V P) (S := Unit) (fun v _ => v = some (.int (-8))) (fun _ => (WK cI cZ cP n ad XX YY b I V P)) (fun _ => False) 3 18 := by
  subst hX
  subst hY
  obtain ⟨fs, hat⟩ := WKat (cI := cI) (cZ := cZ) (cP := cP) (n := n) (ad := ad) (XX := XX) (YY := YY) (b := b) (I := I) (V := V) (P := P)
  exact cl_asks8 l D cI cZ cP hat (lift_p hj (c3_confirm l hfl D cI cZ cP b I V P (ad j) (XX j) (YY j) j hj8 hpj x)) (fun v u h => absurd (h.2.symm.trans hk) (by decide)) (fun E h => h.elim (fun h => absurd (h.2.symm.trans hk) (by decide)) (fun h => ⟨rfl, Or.inr (Or.inl ⟨h.1, rfl⟩)⟩))

theorem la9y (l : Launch) (hfl : l.stackTraces = false) (D : va_G) (cI cZ cP : ClassId) {n : Nat} {ad : Nat → Nat → Nat} {XX : Nat → Nat → Int32} {YY : Nat → Nat → Nat → Int32} {b : Nat → Nat} {I : Nat → Int32} {V : Nat → Nat → Int32} {P : Nat → Option Nat} {j : Nat} {X : Nat → Int32} {Y : Nat → Nat → Int32} (hj : j < n) (hj8 : j < 8) (hpj : P j = some (ad j 0)) (hX : XX j = X) (hY : YY j = Y) {w : Nat} (hw : X 1 = nI w) (hw2 : w ≤ 128) {du : Bool} (hdu : nl w (X 3) (I 7) (X 4) (I 6) = bI du) {z8 z9 : Int32} (hk : kLook w = 0) : q_C l yL_asks wsL_asks ({ frames := 8, cells := 1, slots := 6, locals := 125 }) D cI cZ cP [.ref (b 0), .int (nI 9), .int (nI j), .int z8, .int z9] (WK cI cZ cP n ad XX YY b I V P) (S := Unit) (fun v _ => v = some (.int (bI du))) (fun _ => (WK cI cZ cP n ad (va_up XX j (va_up (va_up X 3 (nI 0)) 4 (I 7))) (va_up YY j Y) b I V P)) (fun _ => False) 1 6 := by
  subst hX
  subst hY
  obtain ⟨fs, hat⟩ := WKat (cI := cI) (cZ := cZ) (cP := cP) (n := n) (ad := ad) (XX := XX) (YY := YY) (b := b) (I := I) (V := V) (P := P)
  exact cl_asks9 l D cI cZ cP hat (lift_p hj (c3_look l hfl D cI cZ cP b I V P (ad j) (XX j) (YY j) j hj8 hpj w hw hw2)) (fun v u h => ⟨bI du, h.1.trans (congrArg (fun q => some (Value.int q)) hdu), fun h0 => by rw [bI_0.mp h0]; rfl, fun h1 => by rw [bI_t1 h1]; rfl, rfl⟩) (fun E h => absurd (h.2.symm.trans hk) (by decide))

theorem la9n (l : Launch) (hfl : l.stackTraces = false) (D : va_G) (cI cZ cP : ClassId) {n : Nat} {ad : Nat → Nat → Nat} {XX : Nat → Nat → Int32} {YY : Nat → Nat → Nat → Int32} {b : Nat → Nat} {I : Nat → Int32} {V : Nat → Nat → Int32} {P : Nat → Option Nat} {j : Nat} {X : Nat → Int32} {Y : Nat → Nat → Int32} (hj : j < n) (hj8 : j < 8) (hpj : P j = some (ad j 0)) (hX : XX j = X) (hY : YY j = Y) {w : Nat} (hw : X 1 = nI w) (hw2 : w ≤ 128) {du : Bool} (hdu : nl w (X 3) (I 7) (X 4) (I 6) = bI du) {z8 z9 : Int32} (hk : kLook w = 2) : q_C l yL_asks wsL_asks ({ frames := 8, cells := 1, slots := 6, locals := 125 }) D cI cZ cP [.ref (b 0), .int (nI 9), .int (nI j), .int z8, .int z9] (WK cI cZ cP n ad XX YY b I V P) (S := Unit) (fun v _ => v = some (.int (-8))) (fun _ => (WK cI cZ cP n ad XX YY b I V P)) (fun _ => False) 1 6 := by
  subst hX
  subst hY
  obtain ⟨fs, hat⟩ := WKat (cI := cI) (cZ := cZ) (cP := cP) (n := n) (ad := ad) (XX := XX) (YY := YY) (b := b) (I := I) (V := V) (P := P)
  exact cl_asks9 l D cI cZ cP hat (lift_p hj (c3_look l hfl D cI cZ cP b I V P (ad j) (XX j) (YY j) j hj8 hpj w hw hw2)) (fun v u h => absurd (h.2.symm.trans hk) (by decide)) (fun E h => ⟨rfl, Or.inr (Or.inl ⟨h.1, rfl⟩)⟩)

theorem la10y (l : Launch) (hfl : l.stackTraces = false) (D : va_G) (cI cZ cP : ClassId) {n : Nat} {ad : Nat → Nat → Nat} {XX : Nat → Nat → Int32} {YY : Nat → Nat → Nat → Int32} {b : Nat → Nat} {I : Nat → Int32} {V : Nat → Nat → Int32} {P : Nat → Option Nat} {j : Nat} {X : Nat → Int32} {Y : Nat → Nat → Int32} (hj : j < n) (hj8 : j < 8) (hpj : P j = some (ad j 0)) (hX : XX j = X) (hY : YY j = Y) {w : Nat} (hw : X 1 = nI w) (hw2 : w ≤ 128) {q : Nat} (hq : I 3 = nI q) (hq2 : q ≤ 30) (x : Int32) {z9 : Int32} (hk : kCopy x w q = 0) : q_C l yL_asks wsL_asks ({ frames := 8, cells := 3, slots := 18, locals := 127 }) D cI cZ cP [.ref (b 0), .int (nI 10), .int (nI j), .int x, .int z9] (WK cI cZ cP n ad XX YY b I V P) (S := Unit) (fun v _ => v = some (.int (nI q))) (fun _ => (WK cI cZ cP n ad XX YY b (va_up I 3 (nI (q + 1))) (va_up (va_up (va_up V 10 (upd (V 10) q (nI j))) 11 (upd (V 11) q (vn w))) 12 (upd (V 12) q x)) P)) (fun _ => False) 3 18 := by
  subst hX
  subst hY
  obtain ⟨fs, hat⟩ := WKat (cI := cI) (cZ := cZ) (cP := cP) (n := n) (ad := ad) (XX := XX) (YY := YY) (b := b) (I := I) (V := V) (P := P)
  exact cl_asks10 l D cI cZ cP hat (lift_p0 hj (c3_copy l hfl D cI cZ cP b I V P (ad j) (XX j) (YY j) j hj8 hpj w hw hw2 q hq hq2 x)) (fun v u h => ⟨h.1, rfl⟩) (fun E h => h.elim (fun h => absurd (h.2.symm.trans hk) (by decide)) (fun h => absurd (h.2.symm.trans hk) (by decide)))

theorem la10n (l : Launch) (hfl : l.stackTraces = false) (D : va_G) (cI cZ cP : ClassId) {n : Nat} {ad : Nat → Nat → Nat} {XX : Nat → Nat → Int32} {YY : Nat → Nat → Nat → Int32} {b : Nat → Nat} {I : Nat → Int32} {V : Nat → Nat → Int32} {P : Nat → Option Nat} {j : Nat} {X : Nat → Int32} {Y : Nat → Nat → Int32} (hj : j < n) (hj8 : j < 8) (hpj : P j = some (ad j 0)) (hX : XX j = X) (hY : YY j = Y) {w : Nat} (hw : X 1 = nI w) (hw2 : w ≤ 128) {q : Nat} (hq : I 3 = nI q) (hq2 : q ≤ 30) (x : Int32) {z9 : Int32} (hk : kCopy x w q = 3) : q_C l yL_asks wsL_asks ({ frames := 8, cells := 3, slots := 18, locals := 127 }) D cI cZ cP [.ref (b 0), .int (nI 10), .int (nI j), .int x, .int z9] (WK cI cZ cP n ad XX YY b I V P) (S := Unit) (fun v _ => v = some (.int (-8))) (fun _ => (WK cI cZ cP n ad XX YY b I V P)) (fun _ => False) 3 18 := by
  subst hX
  subst hY
  obtain ⟨fs, hat⟩ := WKat (cI := cI) (cZ := cZ) (cP := cP) (n := n) (ad := ad) (XX := XX) (YY := YY) (b := b) (I := I) (V := V) (P := P)
  exact cl_asks10 l D cI cZ cP hat (lift_p0 hj (c3_copy l hfl D cI cZ cP b I V P (ad j) (XX j) (YY j) j hj8 hpj w hw hw2 q hq hq2 x)) (fun v u h => absurd (h.2.symm.trans hk) (by decide)) (fun E h => h.elim (fun h => absurd (h.2.symm.trans hk) (by decide)) (fun h => ⟨rfl, Or.inr (Or.inl ⟨h.1, rfl⟩)⟩))

theorem la11y (l : Launch) (hfl : l.stackTraces = false) (D : va_G) (cI cZ cP : ClassId) {n : Nat} {ad : Nat → Nat → Nat} {XX : Nat → Nat → Int32} {YY : Nat → Nat → Nat → Int32} {b : Nat → Nat} {I : Nat → Int32} {V : Nat → Nat → Int32} {P : Nat → Option Nat} {q : Nat} (hq : I 3 = nI q) (hq2 : q ≤ 30) (x : Int32) {z8 z9 : Int32} (hk : kTakeDown x q (V 12 (ix x)) = 0) : q_C l yL_asks wsL_asks ({ frames := 7, cells := 1, slots := 6, locals := 104 }) D cI cZ cP [.ref (b 0), .int (nI 11), .int x, .int z8, .int z9] (WK cI cZ cP n ad XX YY b I V P) (S := Unit) (fun v _ => v = some (.int (V 12 (ix x)))) (fun _ => (WK cI cZ cP n ad XX YY b I (va_up V 12 (upd (V 12) (ix x) (-1))) P)) (fun _ => False) 1 6 := by
  obtain ⟨fs, hat⟩ := WKat (cI := cI) (cZ := cZ) (cP := cP) (n := n) (ad := ad) (XX := XX) (YY := YY) (b := b) (I := I) (V := V) (P := P)
  exact cl_asks11 l D cI cZ cP hat ((c3_takeDown l hfl D cI cZ cP b I V P q hq hq2 x).fl (pws cI cZ n ad XX YY)) (fun v u h => ⟨h.1, rfl⟩) (fun E h => absurd (h.2.symm.trans hk) (by decide))

theorem la11b (l : Launch) (hfl : l.stackTraces = false) (D : va_G) (cI cZ cP : ClassId) {n : Nat} {ad : Nat → Nat → Nat} {XX : Nat → Nat → Int32} {YY : Nat → Nat → Nat → Int32} {b : Nat → Nat} {I : Nat → Int32} {V : Nat → Nat → Int32} {P : Nat → Option Nat} {q : Nat} (hq : I 3 = nI q) (hq2 : q ≤ 30) (x : Int32) {z8 z9 : Int32} (hk : kTakeDown x q (V 12 (ix x)) = 1) : q_C l yL_asks wsL_asks ({ frames := 7, cells := 1, slots := 6, locals := 104 }) D cI cZ cP [.ref (b 0), .int (nI 11), .int x, .int z8, .int z9] (WK cI cZ cP n ad XX YY b I V P) (S := Unit) (fun v _ => v = some (.int (-7))) (fun _ => (WK cI cZ cP n ad XX YY b I V P)) (fun _ => False) 1 6 := by
  obtain ⟨fs, hat⟩ := WKat (cI := cI) (cZ := cZ) (cP := cP) (n := n) (ad := ad) (XX := XX) (YY := YY) (b := b) (I := I) (V := V) (P := P)
  exact cl_asks11 l D cI cZ cP hat ((c3_takeDown l hfl D cI cZ cP b I V P q hq hq2 x).fl (pws cI cZ n ad XX YY)) (fun v u h => absurd (h.2.symm.trans hk) (by decide)) (fun E h => ⟨rfl, Or.inl ⟨h.1, rfl⟩⟩)

theorem lk_hang (l : Launch) (hfl : l.stackTraces = false) (D : va_G) (cI cZ cP : ClassId) {n : Nat} {ad : Nat → Nat → Nat} {XX : Nat → Nat → Int32} {YY : Nat → Nat → Nat → Int32} {b : Nat → Nat} {I : Nat → Int32} {V : Nat → Nat → Int32} {P : Nat → Option Nat} {j : Nat} {X : Nat → Int32} {Y : Nat → Nat → Int32} (hj : j < n) (hj8 : j < 8) (hpj : P j = some (ad j 0)) (hX : XX j = X) (hY : YY j = Y) {o : Nat} (ho : o < 8) {r : Nat} (hpo : P o = some r) (hne : ¬ o = j) : q_C l yX3_hang wsX3_hang ({ frames := 6, cells := 1, slots := 6, locals := 82 }) D cI cZ cP [.ref (b 0), .int (nI j), .int (nI o)] (WK cI cZ cP n ad XX YY b I V P) (S := Unit) (fun v _ => v = some (.int (nI (pN (fun i => decide (¬ (upd (Y 0) o (nI 1)) i = 0)) 8)))) (fun _ => (WK cI cZ cP n ad (va_up XX j X) (va_up YY j (va_up Y 0 (upd (Y 0) o (nI 1)))) b I V P)) (fun _ => False) 1 6 := by
  subst hX
  subst hY
  exact lift_p hj ((c3_hang l hfl D cI cZ cP b I V P (ad j) (XX j) (YY j) j hj8 hpj o r ho hpo).post (fun v u h => ⟨u, h.1, rfl⟩) (fun E h => by have h2 := h.2; simp only [kHang] at h2; rw [if_neg (fun e => hne ((nI_eq (by omega) (by omega)).mp e).symm)] at h2; omega))

theorem lk_day (l : Launch) (D : va_G) (cI cZ cP : ClassId) {n : Nat} {ad : Nat → Nat → Nat} {XX : Nat → Nat → Int32} {YY : Nat → Nat → Nat → Int32} {b : Nat → Nat} {I : Nat → Int32} {V : Nat → Nat → Int32} {P : Nat → Option Nat} : q_C l yX3_day wsX3_day ({ frames := 0, cells := 0, slots := 0, locals := 0 }) D cI cZ cP [.ref (b 0)] (WK cI cZ cP n ad XX YY b I V P) (S := Unit) (fun v _ => v = some (.int (I 7))) (fun _ => (WK cI cZ cP n ad XX YY b I V P)) (fun _ => False) 0 0 := by
  exact (c3_day l D cI cZ cP b I V P).fl (pws cI cZ n ad XX YY)

theorem lk_setRoles (l : Launch) (hfl : l.stackTraces = false) (D : va_G) (cI cZ cP : ClassId) {n : Nat} {ad : Nat → Nat → Nat} {XX : Nat → Nat → Int32} {YY : Nat → Nat → Nat → Int32} {b : Nat → Nat} {I : Nat → Int32} {V : Nat → Nat → Int32} {P : Nat → Option Nat} (p : Nat) (hp : p < 6) {r1 r2 : Int32} (h1 : r1 = 0 ∨ r1 = 1) (h2 : r2 = 0 ∨ r2 = 1) : q_C l yX3_setRoles wsX3_setRoles ({ frames := 8, cells := 1, slots := 6, locals := 124 }) D cI cZ cP [.ref (b 0), .int (nI p), .int r1, .int r2] (WK cI cZ cP n ad XX YY b I V P) (S := Unit) (fun v _ => v = none) (fun _ => (WK cI cZ cP n ad XX YY b I (va_up (va_up V 0 (upd (V 0) p r1)) 1 (upd (V 1) p r2)) P)) (fun _ => False) 1 6 := by
  have h := c3_setRoles l hfl D cI cZ cP b I V P (nI p) r1 r2 h1 h2
  rw [ix_nI (by omega)] at h
  exact (h.post (fun v u h => ⟨u, h.1, rfl⟩) (fun E h => by have h2 := h.2; simp only [kSetRoles] at h2; rw [if_pos (rg_n (by omega) (by decide))] at h2; omega)).fl (pws cI cZ n ad XX YY)

theorem lk_setDeputy (l : Launch) (hfl : l.stackTraces = false) (D : va_G) (cI cZ cP : ClassId) {n : Nat} {ad : Nat → Nat → Nat} {XX : Nat → Nat → Int32} {YY : Nat → Nat → Nat → Int32} {b : Nat → Nat} {I : Nat → Int32} {V : Nat → Nat → Int32} {P : Nat → Option Nat} (p : Nat) (hp : p < 6) {y : Int32} (hy : y = -1 ∨ ∃ d, d < 6 ∧ ¬ d = p ∧ y = nI d) : q_C l yX3_setDeputy wsX3_setDeputy ({ frames := 8, cells := 3, slots := 18, locals := 124 }) D cI cZ cP [.ref (b 0), .int (nI p), .int y] (WK cI cZ cP n ad XX YY b I V P) (S := Unit) (fun v _ => v = some (.int (V 2 p))) (fun _ => (WK cI cZ cP n ad XX YY b I (va_up V 2 (upd (V 2) p y)) P)) (fun _ => False) 3 18 := by
  have h := c3_setDeputy l hfl D cI cZ cP b I V P (nI p) y
  rw [ix_nI (by omega)] at h
  have hk : kSetDeputy (nI p) y = 0 := by
    simp only [kSetDeputy]
    rw [if_pos]
    refine ⟨rg_n (by omega) (by decide), ?_, ?_⟩
    · rcases hy with e | ⟨d, h1, -, rfl⟩
      · exact Or.inl e
      · exact Or.inr (rg_n (by omega) (by decide))
    · rcases hy with rfl | ⟨d, h1, h2, rfl⟩
      · exact nI_nm1 (by omega)
      · exact fun e => h2 ((nI_eq (by omega) (by omega)).mp e).symm
  exact (h.post (fun v u h => ⟨u, h.1, rfl⟩) (fun E h => absurd (h.2.symm.trans hk) (by decide))).fl (pws cI cZ n ad XX YY)

theorem lk_setInterval (l : Launch) (hfl : l.stackTraces = false) (D : va_G) (cI cZ cP : ClassId) {n : Nat} {ad : Nat → Nat → Nat} {XX : Nat → Nat → Int32} {YY : Nat → Nat → Nat → Int32} {b : Nat → Nat} {I : Nat → Int32} {V : Nat → Nat → Int32} {P : Nat → Option Nat} (d : Nat) (hd : 1 ≤ d) (hd2 : d ≤ 100) : q_C l yX3_setInterval wsX3_setInterval ({ frames := 7, cells := 1, slots := 6, locals := 104 }) D cI cZ cP [.ref (b 0), .int (nI d)] (WK cI cZ cP n ad XX YY b I V P) (S := Unit) (fun v _ => v = some (.int (I 6))) (fun _ => (WK cI cZ cP n ad XX YY b (va_up I 6 (nI d)) V P)) (fun _ => False) 1 6 := by
  have hk : kSetInterval (nI d) = 0 := by
    simp only [kSetInterval]
    rw [if_pos]
    refine rg_of ?_ ?_
    · rw [nI_ltI (by omega) (by omega)]; omega
    · rw [nI_ltI (by omega) (by omega)]; omega
  exact ((c3_setInterval l hfl D cI cZ cP b I V P (nI d)).post (fun v u h => ⟨u, h.1, rfl⟩) (fun E h => absurd (h.2.symm.trans hk) (by decide))).fl (pws cI cZ n ad XX YY)

end QLK
