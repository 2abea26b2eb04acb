/-! THE CORE: one form of contract for every method, its frame rule, and rows for calls, ends and array cells. -/
section QA
/-- the array classes of the system, always in this order -/
abbrev q_ty (cI cZ cP : ClassId) : List (ClassId × FieldType) := [(cI, .int), (cZ, .boolean), (cP, .object "PaperKeeper$Paper")]
/-- the texts of the class's exceptions, by their places in its file -/
def q_strs : List (Nat × String) := [(49, "nobody is the own deputy"), (56, "there are 8 papers"), (66, "a paper does not hang on itself"), (83, "the paper has a draft"), (102, "the draft has this text"), (113, "the draft is approved"), (118, "the person may not review it"), (127, "the person is named, or there are 4"), (135, "the person is named"), (140, "the person has no review to give"), (149, "it is not the person's turn"), (159, "no such remark in this round"), (165, "the remark is answered"), (173, "the round is not over, or the draft is approved"), (178, "the person may not approve it"), (183, "the draft is not approved"), (188, "the person has nothing to confirm"), (190, "the day would be above 1000"), (209, "there were 30 copies"), (221, "no such copy hangs"), (237, "no such version"), (245, "out of range"), (247, "the paper has no version in force"), (249, "no such paper"), (251, "the paper has no draft")]
def q_IAE : String := "java/lang/IllegalArgumentException"
def q_ISE : String := "java/lang/IllegalStateException"
def q_IOB : String := "java/lang/IndexOutOfBoundsException"
/-- the words of throws and catches that aren't of every state -/
def q_ng : List Cond := [.declares (Bundle.initS "java/lang/RuntimeException"), .declares (Bundle.initS "java/lang/Exception"), .declares (Bundle.initS "java/lang/Throwable"), .castable q_IAE q_IAE, .castable q_ISE q_ISE, .castable q_IOB q_IOB]
def q_nc : List (String × String) := [(q_IAE, q_IOB), (q_ISE, q_IOB), (q_ISE, q_IAE), (q_IOB, q_IAE), (q_IOB, q_ISE), (q_IAE, q_ISE)]
/-- what every state of the system knows of the machine's tables -/
def q_KK (D : va_G) (cI cZ cP : ClassId) (U : State) : Prop :=
  va_K D vwCl (q_ty cI cZ cP) U ∧ (∀ q ∈ q_strs, ∃ sa : Nat, vk_R RX3 q.1 q.2 sa U) ∧ (∀ w ∈ q_ng, va_Nw w U) ∧ (∀ q ∈ q_nc, va_Nc q.1 q.2 U) ∧ va_AO "PaperKeeper$Paper" U
theorem q_KK.warm {D : va_G} {cI cZ cP : ClassId} {s U : State} (hW : s.WarmedH U.vm) (h : q_KK D cI cZ cP s) : q_KK D cI cZ cP U := by
  obtain ⟨h1, h2, h3, h4, h5⟩ := h
  refine ⟨va_K.moved hW.alike h1, fun q hq => ?_, fun w hw => ?_, fun q hq => va_Nc.moved hW.alike (h4 q hq), va_AO.moved hW.alike h5⟩
  · obtain ⟨sa, ha⟩ := h2 q hq
    exact ⟨sa, vk_R.warm hW ha⟩
  · have h9 := h3 w hw
    simp only [q_ng, List.mem_cons, List.not_mem_nil, or_false] at hw
    rcases hw with rfl | rfl | rfl | rfl | rfl | rfl
    · exact va_Nw.warmD hW h9
    · exact va_Nw.warmD hW h9
    · exact va_Nw.warmD hW h9
    · exact va_Nw.warmC hW h9
    · exact va_Nw.warmC hW h9
    · exact va_Nw.warmC hW h9
/-- the two statics that every throw reads -/
def q_Z (A : Nat → Prop) (U : State) (H : Heap) : Prop := vx_Zq Bundle.tN "UNASSIGNED_STACK" Bundle.steD A U H ∧ vx_Zq Bundle.tN "SUPPRESSED_SENTINEL" Bundle.listD A U H
theorem q_Z.moved {A : Nat → Prop} {u U : State} {H : Heap} (hvm : u.vm.Alike U.vm) (h : q_Z A u H) : q_Z A U H := ⟨h.1.moved hvm, h.2.moved hvm⟩
theorem q_Z.kept {A : Nat → Prop} {U : State} {H H1 : Heap} (h : q_Z A U H) (hq : ∀ a : Nat, a < H.size → ¬ A a → H1[a]? = H[a]?) : q_Z A U H1 := ⟨h.1.kept hq, h.2.kept hq⟩
theorem q_Z.narrow {A B : Nat → Prop} {U : State} {H : Heap} (h : q_Z A U H) (hAB : ∀ q, B q → A q) : q_Z B U H := ⟨h.1.narrow hAB, h.2.narrow hAB⟩
/-- a method's start: its world, the tables, the statics -/
def q_P (D : va_G) (cI cZ cP : ClassId) (av : List Value) (w : va_W) (sz : Nat) : Array Value → State → Prop :=
  va_Pc av (fun U => U.heap.size = sz ∧ va_P D vwCl w U.heap ∧ va_D (fun _ => True) w ∧ q_KK D cI cZ cP U ∧ q_Z (va_A w sz) U U.heap)
/-- a method's end: what it answers and how its world stands then -/
def q_Q {S : Type} (D : va_G) (post : Option Value → S → Prop) (W' : S → va_W) (A : Nat → Prop) : Array Value → State → Outcome → State → Prop := fun _ st oc t =>
  (∃ (v : Option Value) (u : S), oc = .returned v ∧ post v u ∧ va_P D vwCl (W' u) t.heap ∧ va_D A (W' u)) ∧ va_F A st t
/-- a method that has thrown: which class, its world as it was -/
def q_X (D : va_G) (xp : String → Prop) (w : va_W) (A : Nat → Prop) : String → State → State → Prop := fun E st t => xp E ∧ va_P D vwCl w t.heap ∧ va_F A st t
/-- THE CONTRACT -/
def q_C (l : Launch) (y : MethodName) (ws : List Cond) (rm : Room) (D : va_G) (cI cZ cP : ClassId) (av : List Value) (w : va_W) {S : Type} (post : Option Value → S → Prop) (W' : S → va_W) (xp : String → Prop) (mc ms : Nat) : Prop :=
  ∀ sz : Nat, vx_Met l y ws rm (q_P D cI cZ cP av w sz) (q_Q D post W' (va_A w sz)) (q_X D xp w (va_A w sz)) mc ms (va_A w sz)
theorem q_P.blind {D : va_G} {cI cZ cP : ClassId} {av : List Value} {w : va_W} {sz : Nat} : FrameBlind (q_P D cI cZ cP av w sz) := by
  intro a U g mk h
  obtain ⟨h1, h2, h3, h4, h5, h6⟩ := h
  exact ⟨h1, h2, h3, h4, q_KK.warm (s := U) (U := U.calling g mk a) (State.WarmedH.refl U) h5, q_Z.moved (u := U) (U := U.calling g mk a) (Vm.Alike.refl U.vm) h6⟩
-- worlds as lists of cells
theorem q_mem {D : va_G} {cl : List vw_C} {ws : va_W} {H : Heap} : va_P D cl ws H ↔ ∀ q ∈ ws, va_at D cl q H := by
  constructor
  · intro h q hq
    obtain ⟨k, hk⟩ := List.getElem?_of_mem hq
    exact h k q hk
  · intro h k q hk
    exact h q (List.mem_of_getElem? hk)
theorem q_memA {ws : va_W} {sz q : Nat} : va_A ws sz q ↔ (∃ e : va_E, (q, e) ∈ ws) ∨ sz ≤ q := by
  unfold va_A
  constructor
  · rintro (⟨k, e, h⟩ | h)
    · exact Or.inl ⟨e, List.mem_of_getElem? h⟩
    · exact Or.inr h
  · rintro (⟨e, h⟩ | h)
    · obtain ⟨k, hk⟩ := List.getElem?_of_mem h
      exact Or.inl ⟨k, e, hk⟩
    · exact Or.inr h
theorem q_nodup {A : Nat → Prop} {ws : va_W} : va_D A ws ↔ (ws.map (fun q => q.1)).Nodup ∧ ∀ q ∈ ws, A q.1 := by
  constructor
  · intro h
    refine ⟨?_, fun q hq => ?_⟩
    · refine List.pairwise_iff_getElem.mpr ?_
      intro i j hi hj hij he
      rw [List.length_map] at hi hj
      rw [List.getElem_map, List.getElem_map] at he
      have := h.1 i j _ _ (List.getElem?_eq_getElem hi) (List.getElem?_eq_getElem hj) he
      omega
    · obtain ⟨k, hk⟩ := List.getElem?_of_mem hq
      exact h.2 k q hk
  · intro h
    refine ⟨fun i j p q hp hq he => ?_, fun k q hk => h.2 q (List.mem_of_getElem? hk)⟩
    obtain ⟨hi, hp⟩ := List.getElem?_eq_some_iff.mp hp
    obtain ⟨hj, hq⟩ := List.getElem?_eq_some_iff.mp hq
    have h1 := List.pairwise_iff_getElem.mp h.1
    rcases Nat.lt_trichotomy i j with hij | hij | hij
    · exact absurd (by rw [List.getElem_map, List.getElem_map, hp, hq]; exact he) (h1 i j (by rw [List.length_map]; exact hi) (by rw [List.length_map]; exact hj) hij)
    · exact hij
    · exact absurd (by rw [List.getElem_map, List.getElem_map, hp, hq]; exact he.symm) (h1 j i (by rw [List.length_map]; exact hj) (by rw [List.length_map]; exact hi) hij)
theorem q_Pperm {D : va_G} {cl : List vw_C} {w v : va_W} {H : Heap} (hp : w.Perm v) (h : va_P D cl w H) : va_P D cl v H := q_mem.mpr fun q hq => q_mem.mp h q (hp.mem_iff.mpr hq)
theorem q_Dperm {A : Nat → Prop} {w v : va_W} (hp : w.Perm v) (h : va_D A w) : va_D A v := by
  obtain ⟨h1, h2⟩ := q_nodup.mp h
  exact q_nodup.mpr ⟨(hp.map _).nodup_iff.mp h1, fun q hq => h2 q (hp.mem_iff.mpr hq)⟩
theorem q_Aperm {w v : va_W} {sz : Nat} (hp : w.Perm v) : va_A w sz = va_A v sz := by
  funext q
  apply propext
  rw [q_memA, q_memA]
  constructor
  · rintro (⟨e, h⟩ | h)
    · exact Or.inl ⟨e, hp.mem_iff.mp h⟩
    · exact Or.inr h
  · rintro (⟨e, h⟩ | h)
    · exact Or.inl ⟨e, hp.mem_iff.mpr h⟩
    · exact Or.inr h
theorem q_Pl {D : va_G} {cl : List vw_C} {w x : va_W} {H : Heap} (h : va_P D cl (w ++ x) H) : va_P D cl w H := q_mem.mpr fun q hq => q_mem.mp h q (List.mem_append_left _ hq)
theorem q_Pr {D : va_G} {cl : List vw_C} {w x : va_W} {H : Heap} (h : va_P D cl (w ++ x) H) : va_P D cl x H := q_mem.mpr fun q hq => q_mem.mp h q (List.mem_append_right _ hq)
theorem q_Dl {A : Nat → Prop} {w x : va_W} (h : va_D A (w ++ x)) : va_D A w := by
  obtain ⟨h1, h2⟩ := q_nodup.mp h
  rw [List.map_append] at h1
  exact q_nodup.mpr ⟨(List.nodup_append.mp h1).1, fun q hq => h2 q (List.mem_append_left _ hq)⟩
theorem q_Dr {A : Nat → Prop} {w x : va_W} (h : va_D A (w ++ x)) : va_D A x := by
  obtain ⟨h1, h2⟩ := q_nodup.mp h
  rw [List.map_append] at h1
  exact q_nodup.mpr ⟨(List.nodup_append.mp h1).2.1, fun q hq => h2 q (List.mem_append_right _ hq)⟩
theorem q_Dx {A : Nat → Prop} {w x : va_W} (h : va_D A (w ++ x)) : ∀ p ∈ w, ∀ q ∈ x, p.1 ≠ q.1 := by
  obtain ⟨h1, -⟩ := q_nodup.mp h
  rw [List.map_append] at h1
  intro p hp q hq
  exact (List.nodup_append.mp h1).2.2 _ (List.mem_map_of_mem hp) _ (List.mem_map_of_mem hq)
theorem q_Dapp {A : Nat → Prop} {w x : va_W} (h1 : va_D A w) (h2 : va_D A x) (h : ∀ p ∈ w, ∀ q ∈ x, p.1 ≠ q.1) : va_D A (w ++ x) := by
  obtain ⟨a1, a2⟩ := q_nodup.mp h1
  obtain ⟨b1, b2⟩ := q_nodup.mp h2
  refine q_nodup.mpr ⟨?_, fun q hq => ?_⟩
  · rw [List.map_append]
    refine List.nodup_append.mpr ⟨a1, b1, ?_⟩
    intro a ha b hb
    obtain ⟨p, hp, rfl⟩ := List.mem_map.mp ha
    obtain ⟨q, hq, rfl⟩ := List.mem_map.mp hb
    exact h p hp q hq
  · rcases List.mem_append.mp hq with h9 | h9
    · exact a2 q h9
    · exact b2 q h9
theorem q_Aw {w x : va_W} {sz q : Nat} (h : va_A w sz q) : va_A (w ++ x) sz q := by
  rw [q_memA] at h ⊢
  rcases h with ⟨e, h⟩ | h
  · exact Or.inl ⟨e, List.mem_append_left _ h⟩
  · exact Or.inr h
/-- a cell beside a world isn't one that the world's method may change -/
theorem q_out {D : va_G} {cl : List vw_C} {A : Nat → Prop} {w x : va_W} {H : Heap} (hP : va_P D cl (w ++ x) H) (hD : va_D A (w ++ x)) : ∀ q ∈ x, q.1 < H.size ∧ ¬ va_A w H.size q.1 := by
  intro q hq
  have hlt : q.1 < H.size := (q_mem.mp (q_Pr hP) q hq).lt
  refine ⟨hlt, fun h => ?_⟩
  rcases q_memA.mp h with ⟨e, he⟩ | h9
  · exact q_Dx hD _ he _ hq rfl
  · omega
/-- behind a method of the part w: the whole -/
theorem q_back {D : va_G} {cl : List vw_C} {A : Nat → Prop} {w x w1 : va_W} {H H1 : Heap} (hP : va_P D cl (w ++ x) H) (hD : va_D A (w ++ x)) (hk : ∀ q : Nat, q < H.size → ¬ va_A w H.size q → H1[q]? = H[q]?) (hP1 : va_P D cl w1 H1) (hD1 : va_D (va_A w H.size) w1) :
    va_P D cl (w1 ++ x) H1 ∧ va_D (va_A (w ++ x) H.size) (w1 ++ x) := by
  have ho := q_out hP hD
  refine ⟨q_mem.mpr fun q hq => ?_, q_Dapp (hD1.weaken fun _ _ _ h => q_Aw h) ?_ ?_⟩
  · rcases List.mem_append.mp hq with h | h
    · exact q_mem.mp hP1 q h
    · exact (q_mem.mp (q_Pr hP) q h).kept (hk _ (ho q h).1 (ho q h).2)
  · refine q_nodup.mpr ⟨(q_nodup.mp (q_Dr hD)).1, fun q hq => q_memA.mpr (Or.inl ⟨q.2, List.mem_append_right _ hq⟩)⟩
  · intro p hp q hq he
    have := (q_nodup.mp hD1).2 p hp
    rw [he] at this
    exact (ho q hq).2 this
/-- THE FRAME RULE: a method of a part is one of the whole -/
theorem q_C.fr {l : Launch} {y : MethodName} {ws : List Cond} {rm : Room} {D : va_G} {cI cZ cP : ClassId} {av : List Value} {w : va_W} {S : Type} {post : Option Value → S → Prop} {W' : S → va_W} {xp : String → Prop} {mc ms : Nat} (h : q_C l y ws rm D cI cZ cP av w post W' xp mc ms) (x : va_W) :
    q_C l y ws rm D cI cZ cP av (w ++ x) post (fun u => W' u ++ x) xp mc ms := by
  intro sz p e ha hc hk s m args below hf happ hpre _
  obtain ⟨e0, e1, e2, e3, e4, e5⟩ := hpre
  obtain ⟨n, o, h1, h2, h3, h4⟩ := h sz p e ha hc hk s m args below hf happ ⟨e0, e1, q_Pl e2, q_Dl e3, e4, e5.narrow fun q hq => q_Aw hq⟩ trivial
  refine ⟨n, o, h1, h2, h3, ?_⟩
  subst e1
  rcases h4 with ⟨⟨⟨v, u, rfl, hp, hP, hD⟩, hF⟩, L, hE, hL⟩ | ⟨q, rfl, E, ce, L, ⟨hx, hP, hF⟩, hce, hcv, hcl, hW, hsm, hL⟩
  · obtain ⟨k1, k2⟩ := q_back e2 e3 hF.2 hP hD
    exact Or.inl ⟨⟨⟨v, u, rfl, hp, k1, k2⟩, hF.1, fun q hq hA => hF.2 q hq (fun h => hA (q_Aw h))⟩, L, hE, fun q hq => q_Aw (hL q hq)⟩
  · have ho := q_out e2 e3
    refine Or.inr ⟨q, rfl, E, ce, L, ⟨hx, q_mem.mpr fun q hq => ?_, hF.1, fun q hq hA => hF.2 q hq (fun h => hA (q_Aw h))⟩, hce, hcv, hcl, hW, hsm, fun z hz => q_Aw (hL z hz)⟩
    rcases List.mem_append.mp hq with h | h
    · exact q_mem.mp hP q h
    · exact (q_mem.mp (q_Pr e2) q h).kept (hF.2 _ (ho q h).1 (ho q h).2)
theorem q_C.perm {l : Launch} {y : MethodName} {ws : List Cond} {rm : Room} {D : va_G} {cI cZ cP : ClassId} {av : List Value} {w v : va_W} {S : Type} {post : Option Value → S → Prop} {W' V' : S → va_W} {xp : String → Prop} {mc ms : Nat} (h : q_C l y ws rm D cI cZ cP av w post W' xp mc ms) (hp : w.Perm v) (hp2 : ∀ u, (W' u).Perm (V' u)) :
    q_C l y ws rm D cI cZ cP av v post V' xp mc ms := by
  intro sz p e ha hc hk s m args below hf happ hpre _
  obtain ⟨e0, e1, e2, e3, e4, e5⟩ := hpre
  have hA := q_Aperm (sz := sz) hp
  obtain ⟨n, o, h1, h2, h3, h4⟩ := h sz p e ha hc hk s m args below hf happ ⟨e0, e1, q_Pperm hp.symm e2, q_Dperm hp.symm e3, e4, by rw [hA]; exact e5⟩ trivial
  refine ⟨n, o, h1, h2, h3, ?_⟩
  rw [hA] at h4
  rcases h4 with ⟨⟨⟨v, u, rfl, hq, hP, hD⟩, hF⟩, L, hE, hL⟩ | ⟨q, rfl, E, ce, L, ⟨hx, hP, hF⟩, hr⟩
  · exact Or.inl ⟨⟨⟨v, u, rfl, hq, q_Pperm (hp2 u) hP, q_Dperm (hp2 u) hD⟩, hF⟩, L, hE, hL⟩
  · exact Or.inr ⟨q, rfl, E, ce, L, ⟨hx, q_Pperm hp hP, hF⟩, hr⟩
/-- the part stands behind -/
theorem q_C.fl {l : Launch} {y : MethodName} {ws : List Cond} {rm : Room} {D : va_G} {cI cZ cP : ClassId} {av : List Value} {w : va_W} {S : Type} {post : Option Value → S → Prop} {W' : S → va_W} {xp : String → Prop} {mc ms : Nat} (h : q_C l y ws rm D cI cZ cP av w post W' xp mc ms) (x : va_W) :
    q_C l y ws rm D cI cZ cP av (x ++ w) post (fun u => x ++ W' u) xp mc ms := (h.fr x).perm List.perm_append_comm (fun _ => List.perm_append_comm)
/-- the answers said otherwise -/
theorem q_C.post {l : Launch} {y : MethodName} {ws : List Cond} {rm : Room} {D : va_G} {cI cZ cP : ClassId} {av : List Value} {w : va_W} {S S2 : Type} {post : Option Value → S → Prop} {post2 : Option Value → S2 → Prop} {W' : S → va_W} {W2 : S2 → va_W} {xp xp2 : String → Prop} {mc ms : Nat} (h : q_C l y ws rm D cI cZ cP av w post W' xp mc ms)
    (hq : ∀ v u, post v u → ∃ u2, post2 v u2 ∧ W' u = W2 u2) (hx : ∀ E, xp E → xp2 E) : q_C l y ws rm D cI cZ cP av w post2 W2 xp2 mc ms := by
  intro sz p e ha hc hk s m args below hf happ hpre _
  obtain ⟨n, o, h1, h2, h3, h4⟩ := h sz p e ha hc hk s m args below hf happ hpre trivial
  refine ⟨n, o, h1, h2, h3, ?_⟩
  rcases h4 with ⟨⟨⟨v, u, rfl, hp, hP, hD⟩, hF⟩, L, hE, hL⟩ | ⟨q, rfl, E, ce, L, ⟨hxp, hP, hF⟩, hr⟩
  · obtain ⟨u2, k1, k2⟩ := hq v u hp
    exact Or.inl ⟨⟨⟨v, u2, rfl, k1, by rw [← k2]; exact hP, by rw [← k2]; exact hD⟩, hF⟩, L, hE, hL⟩
  · exact Or.inr ⟨q, rfl, E, ce, L, ⟨hx E hxp, hP, hF⟩, hr⟩
end QA
