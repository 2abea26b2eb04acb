section
-- ===== PART A: goes FIRST, ahead of the names: the tables' words, and 'selects' of the private methods out of them =====
/-- a private method of a class that the tables say can be made, by its rows of tables_1 -/
def lw_okq (q : MethodName × Nat) : Prop := (q.1.cls ≠ "java/lang/invoke/MethodHandle" ∧ q.1.cls ≠ "java/lang/invoke/VarHandle") ∧ Cond.instantiable q.1.cls q.2 ∈ tables_1 ∧ Cond.privateMethod q.1 ∈ tables_1 ∧ Cond.instanceMethod q.1 ∈ tables_1
theorem lw_p0 : lw_okq (⟨"java/lang/Throwable", "fillInStackTrace", "(I)Ljava/lang/Throwable;"⟩, 6) := ⟨⟨by decide +kernel, by decide +kernel⟩, List.mem_of_getElem? (i := 125) (by decide +kernel), List.mem_of_getElem? (i := 123) (by decide +kernel), List.mem_of_getElem? (i := 124) (by decide +kernel)⟩
theorem lw_p1 : lw_okq (⟨"PaperKeeper", "paperAt", "(I)LPaperKeeper$Paper;"⟩, 8) := ⟨⟨by decide +kernel, by decide +kernel⟩, List.mem_of_getElem? (i := 15) (by decide +kernel), List.mem_of_getElem? (i := 256) (by decide +kernel), List.mem_of_getElem? (i := 257) (by decide +kernel)⟩
theorem lw_p2 : lw_okq (⟨"PaperKeeper", "canApprove", "(I)Z"⟩, 8) := ⟨⟨by decide +kernel, by decide +kernel⟩, List.mem_of_getElem? (i := 15) (by decide +kernel), List.mem_of_getElem? (i := 439) (by decide +kernel), List.mem_of_getElem? (i := 440) (by decide +kernel)⟩
theorem lw_p3 : lw_okq (⟨"PaperKeeper", "beginDay", "()I"⟩, 8) := ⟨⟨by decide +kernel, by decide +kernel⟩, List.mem_of_getElem? (i := 15) (by decide +kernel), List.mem_of_getElem? (i := 501) (by decide +kernel), List.mem_of_getElem? (i := 502) (by decide +kernel)⟩
theorem lw_p4 : lw_okq (⟨"PaperKeeper", "askForLooks", "(I)V"⟩, 8) := ⟨⟨by decide +kernel, by decide +kernel⟩, List.mem_of_getElem? (i := 15) (by decide +kernel), List.mem_of_getElem? (i := 514) (by decide +kernel), List.mem_of_getElem? (i := 515) (by decide +kernel)⟩
def lw_privs_1 : List (MethodName × Nat) := [(⟨"java/lang/Throwable", "fillInStackTrace", "(I)Ljava/lang/Throwable;"⟩, 6), (⟨"PaperKeeper", "paperAt", "(I)LPaperKeeper$Paper;"⟩, 8), (⟨"PaperKeeper", "canApprove", "(I)Z"⟩, 8), (⟨"PaperKeeper", "beginDay", "()I"⟩, 8), (⟨"PaperKeeper", "askForLooks", "(I)V"⟩, 8)]
theorem lw_r1 : ∀ q ∈ lw_privs_1, lw_okq q := List.forall_mem_cons.mpr ⟨lw_p0, List.forall_mem_cons.mpr ⟨lw_p1, List.forall_mem_cons.mpr ⟨lw_p2, List.forall_mem_cons.mpr ⟨lw_p3, List.forall_mem_cons.mpr ⟨lw_p4, fun _ h => absurd h List.not_mem_nil⟩⟩⟩⟩⟩
def lw_privs : List (MethodName × Nat) := lw_privs_1
def lw_tbl : List Cond := k2_sels lw_privs ++ tables_1
theorem lw_privs_ok : ∀ q ∈ lw_privs, lw_okq q := lw_r1
end
section
/-! ===== BEGIN words of one list among another's, by their places ===== -/
theorem goodIn_r {big : List Cond} (ws : List Cond) (ps : List Nat) (hp : ws = ps.filterMap (fun i => big[i]?)) (h : ws.all goodWord = true) : GoodIn big ws := by
  intro w hw
  have h1 := List.all_eq_true.mp h w hw
  rw [hp] at hw
  obtain ⟨i, -, hi⟩ := List.mem_filterMap.mp hw
  have hm : w ∈ big := by first | exact List.mem_of_getElem? hi | exact List.getElem?_mem hi
  exact ⟨hm, good_of_word h1⟩
theorem goodIn_app {big a b : List Cond} (ha : GoodIn big a) (hb : GoodIn big b) : GoodIn big (a ++ b) := fun w h => (List.mem_append.mp h).elim (ha w) (hb w)
theorem goodIn_ca {big a b : List Cond} {c : Cond} (ha : GoodIn big (c :: a)) (hb : GoodIn big b) : GoodIn big (c :: (a ++ b)) := fun w h => (List.mem_cons.mp h).elim (fun e => ha w (List.mem_cons.mpr (Or.inl e))) (fun h => (List.mem_append.mp h).elim (fun h => ha w (List.mem_cons.mpr (Or.inr h))) (hb w))
theorem goodIn_sub {big ws : List Cond} (hm : ∀ w ∈ ws, w ∈ big) (h : ws.all goodWord = true) : GoodIn big ws := fun w hw => ⟨hm w hw, good_of_word (List.all_eq_true.mp h w hw)⟩
/-! ===== END ===== -/

/-! ===== BEGIN exceptions that leave a method, and their catching by the caller (launches without stack traces) ===== -/
section VXA
/-! The laws vx_back, vx_callV, vx_callS, vx_callSW, vx_throw0, vx_throwS follow proofs of the library, with one case more: JvmDerived/Free/Laws.lean (Back.of_free), Shelf42/LK1.lean (callV, callS), Shelf/KitTraced.lean (throwNew0V, throwNewS). -/
/-- where a method has thrown q: the class by its name, the cell, what was written, the world -/
def vx_T (XC : String → State → State → Prop) (st : State) (q : Addr) (t : State) (mc ms : Nat) (free : Addr → Prop) : Prop :=
  ∃ (E : String) (ce : Cell) (L : List Loc), XC E st t ∧ t.heap[q]? = some ce ∧ ce.vm = .none ∧ st.vm.findClass E = some ce.cls ∧ st.WarmedH t.vm ∧ st.sameButNew ({ t with vm := st.vm } : State) L mc ms ∧ ∀ z ∈ L, free z.base
def vx_Q (Qc : Array Value → State → Outcome → State → Prop) (XC : String → State → State → Prop) (mc ms : Nat) (free : Addr → Prop) : Array Value → State → Outcome → State → Prop := fun a st o t =>
  (Qc a st o t ∧ ∃ L, FrameEnd st o t L mc ms ∧ ∀ q ∈ L, free q.base) ∨ ∃ q, o = .threw q ∧ vx_T XC st q t mc ms free
/-- a callee that returns or throws -/
def vx_Met (l : Launch) (y : MethodName) (ws : List Cond) (rm : Room) (Pc : Array Value → State → Prop) (Qc : Array Value → State → Outcome → State → Prop) (XC : String → State → State → Prop) (mc ms : Nat) (free : Addr → Prop) : Prop :=
  MetFree l y (headSpec ws rm) Pc (fun _ _ _ _ _ => True) (vx_Q Qc XC mc ms free)
def vx_Post (XC : String → State → State → Prop) (mc ms : Nat) (free : Addr → Prop) : Pt → Array Value → Addr → Pt → Prop := fun A a q B =>
  ∃ (g : JFrame) (mk : MethodId) (t : State) (L : List Loc) (E : String) (ce : Cell), B.U.heap = t.heap ∧ B.U.vm = t.vm ∧ XC E (A.U.calling g mk a) t ∧ t.heap[q]? = some ce ∧ ce.vm = .none ∧ A.U.vm.findClass E = some ce.cls ∧ B.locs = A.locs ++ L ∧ (∀ z ∈ L, free z.base) ∧ B.cells = A.cells + mc ∧ B.slots = A.slots + ms
def vx_Back (l : Launch) (R : Room) (p : Program) (e : Env) (below : List Frame) (s : State) (sargs : Array Value) (y : MethodName) (len W9 : Nat)
    (Pre : Pt → Array Value → Prop) (Post : Pt → Array Value → Option Value → Pt → Prop) (PostX : Pt → Array Value → Addr → Pt → Prop) : Prop :=
  ∀ (m : MethodId) (meth : Method) (c : Code) (A : Pt) (g : JFrame) (ig : Instr) (mk : MethodId) (a : Array Value),
    Stand p l e R s m sargs below meth c A.U A.locs A.cells A.slots → g.method = m → g.locals.size = c.maxLocals → decode c.code g.pc = .ok (ig, len) →
    2 * g.monitorRoom + (g.stack.map fun v => v.category).sum ≤ W9 → A.U.methodNamed? y = some mk → Pre A a →
    (∃ (v : Option Value) (B : Pt), Stand p l e R s m sargs below meth c B.U B.locs B.cells B.slots ∧ Post A a v B ∧
      Steps p.tables e below (doInvoke e (A.U.setTop g) [] mk a).1 (B.U.setTop { g with pc := g.pc + len, stack := v.toList ++ g.stack })) ∨
    (∃ (q : Addr) (B : Pt), Stand p l e R s m sargs below meth c B.U B.locs B.cells B.slots ∧ PostX A a q B ∧
      Steps p.tables e below (doInvoke e (A.U.setTop g) [] mk a).1 ((B.U.setTop g).pushFrame (.throwing q)))
section Payer
variable {l : Launch} {R : Room} {p : Program} {e : Env} {below : List Frame} {s : State} {sargs : Array Value} {y : MethodName} {len W9 : Nat}
theorem vx_back {ws : List Cond} {rm : Room} {Pc : Array Value → State → Prop} {Qc : Array Value → State → Outcome → State → Prop} {XC : String → State → State → Prop} {mc ms : Nat} {free : Addr → Prop} {bytes : ByteArray} {maxL : Nat} {ret : Option FieldType}
    (hM : vx_Met l y ws rm Pc Qc XC mc ms free) (hblind : FrameBlind Pc) (hrc : rm.cells = mc) (hrs : rm.slots = ms)
    (hframes : rm.frames + 1 ≤ R.frames) (hlocals : W9 + (maxL + 11) + rm.locals ≤ R.locals)
    (hws : ∀ w ∈ ws, ∀ a' U, s.WarmedH U.vm → w.before a' U = true) (hcode : Cond.code y bytes maxL ret ∈ ws) (hinit : ∀ a' U, s.WarmedH U.vm → (Cond.initialized y.cls).before a' U = true) :
    vx_Back l R p e below s sargs y len W9 (PreOf R mc ms Pc) (PostOf Qc mc ms free) (vx_Post XC mc ms free) := by
  intro m meth c A g ig mk a X hg hsize hdg hW hn hp
  have h1 : (headSpec ws rm).pre.before a A.U = true := atoms_intro fun w hw => hws w hw _ _ X.warmed
  have h2 : (Cond.code y bytes maxL ret).before a A.U = true := hws _ hcode _ _ X.warmed
  have h3 : (Cond.initialized y.cls).before a A.U = true := hinit _ _ X.warmed
  have h4 : A.cells + (headSpec ws rm).room.cells ≤ R.cells := by rw [show (headSpec ws rm).room.cells = mc from hrc]; exact hp.1
  have h5 : A.slots + (headSpec ws rm).room.slots ≤ R.slots := by rw [show (headSpec ws rm).room.slots = ms from hrs]; exact hp.2.1
  have hPc : Pc a (A.U.calling g mk a) := hblind _ _ _ _ hp.2.2
  obtain ⟨U, Ls, c0, s0⟩ := A
  dsimp only [Pt.U, Pt.locs, Pt.cells, Pt.slots] at h1 h2 h3 h4 h5 X hn hPc ⊢
  obtain ⟨methY, cY, hmY, hcY, -, hlY, -, -, -, -⟩ := Cond.code_spec hn h2
  obtain ⟨kY, hkY, -⟩ := className_of_methodNamed hn
  have hinitY : kY.init = .initialized := Cond.initialized_spec (findClass_of_methodNamed hn) hkY h3
  have h : At U g.method c below := by rw [hg]; exact X.here
  have hlocals9 : W9 + (maxL + 11) + (headSpec ws rm).room.locals ≤ R.locals := hlocals
  have happ : (headSpec ws rm).appliesLoose y e.platform (U.calling g mk a) = true :=
    Spec.appliesLoose_calling (g := g) h hdg hn hkY hinitY
      (X.room_calling (g := g) (R' := (headSpec ws rm).room) hsize hmY hcY hframes (by rw [hlY]; omega) h4 h5) h1
  obtain ⟨mid, hmid⟩ := h.above
  have hfr : (U.setTop g).frames = (.java g :: mid) ++ below := by rw [State.frames_setTop' g h.top, hmid]; rfl
  obtain ⟨o, s₂, hsteps, -, hend, hq⟩ := Steps.callFree hM p X.admits X.cas X.clock (acts := []) hfr happ hPc trivial
  have hq' : vx_Q Qc XC mc ms free a (U.calling g mk a) o s₂ := hq
  rw [State.frames_setTop' g h.top] at hend
  obtain ⟨g₀, hg0⟩ := Option.isSome_iff_exists.mp h.top
  obtain ⟨r, hr⟩ := State.topJava?_eq_some.mp hg0
  have hr' : (({ U with heap := s₂.heap, slotsUsed := s₂.slotsUsed } : State).setVm s₂.vm).frames = .java g₀ :: r := hr
  rcases hq' with ⟨hqc, L, hfe, hL⟩ | ⟨q, rfl, E, ce, L, hx, hce, hcv, hcl, hW₂, hsm, hL⟩
  · obtain ⟨⟨v, rfl⟩, hW₂, e2, q2, q3, q4, q5, q6⟩ := id hfe
    have e3 : s₂ = ({ (U.calling g mk a).setFrames s₂.frames with heap := s₂.heap, slotsUsed := s₂.slotsUsed } : State).setVm s₂.vm := by
      have : s₂ = ({ s₂ with vm := (U.calling g mk a).vm } : State).setVm s₂.vm := rfl
      rw [e2] at this
      exact this
    obtain ⟨c₂, i₂, len₂, hc₂, hd₂, hf₂⟩ := hend
    have hW' : U.WarmedH s₂.vm := hW₂
    have hcc : c₂ = c := by
      have h1 : s₂.code? g.method = U.code? g.method := by
        rw [State.code?_eq, State.code?_eq, hW'.alike.method?]
      exact Option.some.inj (hc₂.symm.trans (h1.trans h.code))
    subst hcc
    have hlen : len₂ = len := by rw [hdg] at hd₂; cases hd₂; rfl
    subst hlen
    have hs₂ : s₂ = (({ U with heap := s₂.heap, slotsUsed := s₂.slotsUsed } : State).setVm s₂.vm).setTop { g with pc := g.pc + len₂, stack := v.toList ++ g.stack } := by
      refine e3.trans ?_
      rw [hf₂, State.calling_eq h.top, State.setFrames_setFrames, State.setTop_of_frames _ hr', hr]
      rfl
    have hsame : U.sameButNew ({ U with heap := s₂.heap, slotsUsed := s₂.slotsUsed } : State) L mc ms := by
      refine ⟨?_, q2, q3, q4, q5, q6⟩
      obtain ⟨t, ht, -⟩ := State.frames_cons hr
      show ({ U with heap := s₂.heap, slotsUsed := s₂.slotsUsed } : State) = { U.setFrames U.frames with heap := s₂.heap, slotsUsed := s₂.slotsUsed }
      rw [State.setFrames_self ht]
    subst hg
    refine Or.inl ⟨v, ⟨(({ U with heap := s₂.heap, slotsUsed := s₂.slotsUsed } : State).setVm s₂.vm), Ls ++ L, c0 + mc, s0 + ms⟩,
      ⟨X.admits, X.cas, X.clock, X.frames, X.room, X.hears, X.method, X.code, (X.here.setHeapUsed s₂.heap s₂.slotsUsed).setVm hW'.alike, X.tail, State.WarmedH.trans X.warmed hW', X.limits, X.bytes, X.same.trans (hsame.setVm s.vm)⟩,
      ⟨g, mk, s₂, L, rfl, rfl, hqc, rfl, hL, rfl, rfl⟩, ?_⟩
    show Steps p.tables e below _ ((({ U with heap := s₂.heap, slotsUsed := s₂.slotsUsed } : State).setVm s₂.vm).setTop { g with pc := g.pc + len₂, stack := v.toList ++ g.stack })
    rw [← hs₂]
    exact hsteps
  · obtain ⟨e2, q2, q3, q4, q5, q6⟩ := id hsm
    have e3 : s₂ = ({ (U.calling g mk a).setFrames s₂.frames with heap := s₂.heap, slotsUsed := s₂.slotsUsed } : State).setVm s₂.vm := by
      have : s₂ = ({ s₂ with vm := (U.calling g mk a).vm } : State).setVm s₂.vm := rfl
      rw [e2] at this
      exact this
    have hf₂ : s₂.frames = .throwing q :: .java g :: U.frames.tail := hend
    have hW' : U.WarmedH s₂.vm := hW₂
    have hs₂ : s₂ = ((({ U with heap := s₂.heap, slotsUsed := s₂.slotsUsed } : State).setVm s₂.vm).setTop g).pushFrame (.throwing q) := by
      refine e3.trans ?_
      rw [hf₂, State.calling_eq h.top, State.setFrames_setFrames, State.pushFrame, State.frames_setTop _ hr', State.setTop_of_frames _ hr', State.setFrames_setFrames, hr]
      rfl
    have hsame : U.sameButNew ({ U with heap := s₂.heap, slotsUsed := s₂.slotsUsed } : State) L mc ms := by
      refine ⟨?_, q2, q3, q4, q5, q6⟩
      obtain ⟨t, ht, -⟩ := State.frames_cons hr
      show ({ U with heap := s₂.heap, slotsUsed := s₂.slotsUsed } : State) = { U.setFrames U.frames with heap := s₂.heap, slotsUsed := s₂.slotsUsed }
      rw [State.setFrames_self ht]
    subst hg
    refine Or.inr ⟨q, ⟨(({ U with heap := s₂.heap, slotsUsed := s₂.slotsUsed } : State).setVm s₂.vm), Ls ++ L, c0 + mc, s0 + ms⟩,
      ⟨X.admits, X.cas, X.clock, X.frames, X.room, X.hears, X.method, X.code, (X.here.setHeapUsed s₂.heap s₂.slotsUsed).setVm hW'.alike, X.tail, State.WarmedH.trans X.warmed hW', X.limits, X.bytes, X.same.trans (hsame.setVm s.vm)⟩,
      ⟨g, mk, s₂, L, E, ce, rfl, rfl, hx, hce, hcv, hcl, rfl, hL, rfl, rfl⟩, ?_⟩
    show Steps p.tables e below _ (((({ U with heap := s₂.heap, slotsUsed := s₂.slotsUsed } : State).setVm s₂.vm).setTop g).pushFrame (.throwing q))
    rw [← hs₂]
    exact hsteps
end Payer
section Calls
variable {p : Program} {l : Launch} {e : Env} {R : Room} {s : State} {m : MethodId} {args : Array Value} {below : List Frame} {meth : Method} {c : Code} {T : State} {locs : List Loc} {cells slots : Nat}
theorem vx_callV (X : Stand p l e R s m args below meth c T locs cells slots) (hexec : p.tables.exec = Jvm.exec) {own C : String} {index : Nat} {y : MethodName} {bytes : ByteArray} {maxL : Nat} {ret : Option FieldType}
    (hown : s.vm.findClass own = some m.cls) (hlink : (Cond.methodLink own index y).before args s = true) (hinst : (Cond.instanceMethod y).before args s = true) (hsel : (Cond.selects C y y).before args s = true)
    (hcode : (Cond.code y bytes maxL ret).before args s = true) (hy : y.cls ≠ "java/lang/invoke/MethodHandle" ∧ y.cls ≠ "java/lang/invoke/VarHandle")
    {W9 : Nat} {Pre : Pt → Array Value → Prop} {Post : Pt → Array Value → Option Value → Pt → Prop} {PostX : Pt → Array Value → Addr → Pt → Prop} (hK : vx_Back l R p e below s args y 3 W9 Pre Post PostX)
    {b : Addr} {cellB : Cell} (hcell : T.heap[b]? = some cellB) (hobj : cellB.vm.isStatics = false) (hcls : s.vm.findClass C = some cellB.cls)
    {g : JFrame} (hg : g.method = m) (hsize : g.locals.size = c.maxLocals) {argsL rest : List Value} (hlen : ∀ sig, parseMethodDescriptor y.desc = some sig → argsL.length = sig.parameters.length)
    (hstack : g.stack = argsL.reverse ++ .ref b :: rest) (hW : 2 * g.monitorRoom + (rest.map fun v => v.category).sum ≤ W9) (hdg : decode c.code g.pc = .ok (.invokevirtual index, 3))
    (hpre : ∀ vm₁, s.WarmedH vm₁ → Pre ⟨T.setVm vm₁, locs, cells, slots⟩ (Value.ref b :: argsL).toArray) :
    (∃ (v : Option Value) (vm₁ : Vm) (B : Pt), s.WarmedH vm₁ ∧ Stand p l e R s m args below meth c B.U B.locs B.cells B.slots ∧ Post ⟨T.setVm vm₁, locs, cells, slots⟩ (Value.ref b :: argsL).toArray v B ∧
      ∀ target, Steps p.tables e below (B.U.setTop { g with pc := g.pc + 3, stack := v.toList ++ rest }) target → Steps p.tables e below (T.setTop g) target) ∨
    (∃ (q : Addr) (vm₁ : Vm) (B : Pt), s.WarmedH vm₁ ∧ Stand p l e R s m args below meth c B.U B.locs B.cells B.slots ∧ PostX ⟨T.setVm vm₁, locs, cells, slots⟩ (Value.ref b :: argsL).toArray q B ∧
      Steps p.tables e below (T.setTop g) ((B.U.setTop { g with stack := rest }).pushFrame (.throwing q))) := by
  obtain ⟨mk, methM, hnamed, hmethM, hstM, habM⟩ := Cond.instanceMethod_spec hinst
  obtain ⟨methM', cM, hmethM', -, -, -, -, -, -, hsigM⟩ := Cond.code_spec hnamed hcode
  cases hmethM.symm.trans hmethM'
  obtain ⟨c2, r2, m2, q1, q2, q3, q4, kP, hkP, hkPi⟩ := Cond.selects_spec hsel
  cases hcls.symm.trans q1
  cases (State.methodFound?_of_named hnamed hy).symm.trans q2
  cases hnamed.symm.trans q3
  have hselP : selectMethod e.platform s.vm cellB.cls mk = .method mk := by rw [Launch.admits_selectMethod X.admits]; exact q4
  obtain ⟨vm₁, X₁, hstep₁⟩ := X.invokevirtual hexec hown hlink hnamed hmethM hstM hkP hkPi hy (a := b) (cell := cellB) hcell
    (fun z h => by rw [h] at hobj; cases hobj) hselP hmethM habM hkP hkPi (g := g) hg (argsL := argsL) (rest := rest) (hlen _ hsigM) hstack hdg
  rcases hK m meth c ⟨T.setVm vm₁, locs, cells, slots⟩ { g with stack := rest } (.invokevirtual index) mk (Value.ref b :: argsL).toArray X₁ hg hsize hdg hW (X₁.named hnamed) (hpre vm₁ X₁.warmed) with ⟨v, B, X', hpost, hsteps⟩ | ⟨q, B, X', hpost, hsteps⟩
  · exact Or.inl ⟨v, vm₁, B, X₁.warmed, X', hpost, fun target h => hstep₁ _ fun acts => by rw [doInvoke_state]; exact hsteps.trans h⟩
  · exact Or.inr ⟨q, vm₁, B, X₁.warmed, X', hpost, hstep₁ _ fun acts => by rw [doInvoke_state]; exact hsteps⟩
theorem vx_callS (X : Stand p l e R s m args below meth c T locs cells slots) (hexec : p.tables.exec = Jvm.exec) {own : String} {index : Nat} {y : MethodName} {bytes : ByteArray} {maxL : Nat} {ret : Option FieldType}
    (hown : s.vm.findClass own = some m.cls) (hlink : (Cond.methodLink own index y).before args s = true) (hstat : (Cond.static y).before args s = true) (hinit : (Cond.initialized y.cls).before args s = true)
    (hcode : (Cond.code y bytes maxL ret).before args s = true) (hy : y.cls ≠ "java/lang/invoke/MethodHandle" ∧ y.cls ≠ "java/lang/invoke/VarHandle")
    {W9 : Nat} {Pre : Pt → Array Value → Prop} {Post : Pt → Array Value → Option Value → Pt → Prop} {PostX : Pt → Array Value → Addr → Pt → Prop} (hK : vx_Back l R p e below s args y 3 W9 Pre Post PostX)
    {g : JFrame} (hg : g.method = m) (hsize : g.locals.size = c.maxLocals) {argsL rest : List Value} (hlen : ∀ sig, parseMethodDescriptor y.desc = some sig → argsL.length = sig.parameters.length)
    (hstack : g.stack = argsL.reverse ++ rest) (hW : 2 * g.monitorRoom + (rest.map fun v => v.category).sum ≤ W9) (hdg : decode c.code g.pc = .ok (.invokestatic index, 3))
    (hpre : ∀ vm₁, s.WarmedH vm₁ → Pre ⟨T.setVm vm₁, locs, cells, slots⟩ argsL.toArray) :
    (∃ (v : Option Value) (vm₁ : Vm) (B : Pt), s.WarmedH vm₁ ∧ Stand p l e R s m args below meth c B.U B.locs B.cells B.slots ∧ Post ⟨T.setVm vm₁, locs, cells, slots⟩ argsL.toArray v B ∧
      ∀ target, Steps p.tables e below (B.U.setTop { g with pc := g.pc + 3, stack := v.toList ++ rest }) target → Steps p.tables e below (T.setTop g) target) ∨
    (∃ (q : Addr) (vm₁ : Vm) (B : Pt), s.WarmedH vm₁ ∧ Stand p l e R s m args below meth c B.U B.locs B.cells B.slots ∧ PostX ⟨T.setVm vm₁, locs, cells, slots⟩ argsL.toArray q B ∧
      Steps p.tables e below (T.setTop g) ((B.U.setTop { g with stack := rest }).pushFrame (.throwing q))) := by
  obtain ⟨mk, hnamed⟩ := Cond.code_named hcode
  obtain ⟨methM, cM, hmethM, -, -, -, -, -, -, hsigM⟩ := Cond.code_spec hnamed hcode
  have hstatic : methM.isStatic = true := Cond.static_spec hnamed hmethM hstat
  obtain ⟨kP, hkP, -⟩ := className_of_methodNamed hnamed
  have hinitP : kP.init = .initialized := Cond.initialized_spec (findClass_of_methodNamed hnamed) hkP hinit
  obtain ⟨vm₁, X₁, hstep₁⟩ := X.invokestatic hexec hown hlink hnamed hmethM hstatic hkP hinitP hy (g := g) hg (argsL := argsL) (rest := rest) (hlen _ hsigM) hstack hdg
  rcases hK m meth c ⟨T.setVm vm₁, locs, cells, slots⟩ { g with stack := rest } (.invokestatic index) mk argsL.toArray X₁ hg hsize hdg hW (X₁.named hnamed) (hpre vm₁ X₁.warmed) with ⟨v, B, X', hpost, hsteps⟩ | ⟨q, B, X', hpost, hsteps⟩
  · exact Or.inl ⟨v, vm₁, B, X₁.warmed, X', hpost, fun target h => hstep₁ _ fun acts => by rw [doInvoke_state]; exact hsteps.trans h⟩
  · exact Or.inr ⟨q, vm₁, B, X₁.warmed, X', hpost, hstep₁ _ fun acts => by rw [doInvoke_state]; exact hsteps⟩
end Calls
theorem vx_cls {s : State} {T : State} {vm₁ : Vm} {E : String} {k : ClassId} (hW : s.WarmedH vm₁) (h : (T.setVm vm₁).vm.findClass E = some k) : s.vm.findClass E = some k := by
  have h1 : vm₁.findClass E = some k := h
  rw [hW.alike.findClass] at h1
  exact h1
/-- the method's frame g, with q thrown over it -/
def vx_W (p : Program) (l : Launch) (e : Env) (R : Room) (s : State) (m : MethodId) (args : Array Value) (below : List Frame) (meth : Method) (c : Code) (H : Heap) (locs : List Loc) (cells slots : Nat) (Q : State → Prop) (g : JFrame) (q : Addr) : Prop :=
  ∀ T : State, T.heap = H → Stand p l e R s m args below meth c T locs cells slots → ∃ t, Steps p.tables e below ((T.setTop g).pushFrame (.throwing q)) t ∧ Q t
def vx_Run (p : Program) (l : Launch) (e : Env) (R : Room) (s : State) (m : MethodId) (args : Array Value) (below : List Frame) (meth : Method) (c : Code) (H : Heap) (locs : List Loc) (cells slots mc ms : Nat) (g : JFrame) (rest : List Value) (Qa : State → Outcome → State → Prop) (XC : String → State → State → Prop) (free : Addr → Prop) : Prop :=
  ∀ T : State, T.heap = H → Stand p l e R s m args below meth c T locs cells slots →
    (∃ (v : Option Value) (st₀ t T' : State) (L : List Loc), st₀.heap = H ∧ Stand p l e R s m args below meth c T' (locs ++ L) (cells + mc) (slots + ms) ∧ (∀ q ∈ L, free q.base) ∧ T'.heap = t.heap ∧ T'.vm = t.vm ∧ Qa st₀ (.returned v) t ∧
      Goes p e below T g T' { g with pc := g.pc + 3, stack := v.toList ++ rest }) ∨
    (∃ (q : Addr) (st₀ t T' : State) (L : List Loc) (E : String) (ce : Cell), st₀.heap = H ∧ Stand p l e R s m args below meth c T' (locs ++ L) (cells + mc) (slots + ms) ∧ (∀ z ∈ L, free z.base) ∧ T'.heap = t.heap ∧ T'.vm = t.vm ∧ XC E st₀ t ∧ t.heap[q]? = some ce ∧ ce.vm = .none ∧ s.vm.findClass E = some ce.cls ∧
      Steps p.tables e below (T.setTop g) ((T'.setTop { g with stack := rest }).pushFrame (.throwing q)))
def vx_X {S : Type} (px : S → Prop) (B : String → S → State → Prop) (A : Nat → Prop) : String → State → State → Prop := fun E st t => ∃ u : S, px u ∧ B E u t ∧ va_F A st t
section Runs
variable {p : Program} {l : Launch} {e : Env} {R : Room} {s : State} {m : MethodId} {args : Array Value} {below : List Frame} {meth : Method} {c : Code} {H : Heap} {locs : List Loc} {cells slots : Nat}
variable {y : MethodName} {bytes cc : ByteArray} {maxL nL mc ms n index : Nat} {ret : Option FieldType} {ws : List Cond} {rm : Room} {Pc : Array Value → State → Prop} {Qc : Array Value → State → Outcome → State → Prop} {XC : String → State → State → Prop} {free : Addr → Prop} {Ts : List Cond} {own C : String} {b : Addr} {As rest : List Value} {g : JFrame}
theorem vx_callBack (cb : CallB R s args own index y bytes maxL ret ws rm mc ms n) (hM : vx_Met l y ws rm Pc Qc XC mc ms free) (hbl : FrameBlind Pc) : vx_Back l R p e below s args y 3 8 (PreOf R mc ms Pc) (PostOf Qc mc ms free) (vx_Post XC mc ms free) := by
  obtain ⟨hrc, hrs, hfr, hlo, hws, hcw, -, hini, -⟩ := cb
  exact vx_back (bytes := bytes) (maxL := maxL) (ret := ret) hM hbl hrc hrs hfr hlo hws hcw (fun a' U hW => word_at hW (Or.inl (by first | rfl | simp [Cond.onTables, Cond.keeps, Cond.steady])) hini)
theorem vx_runV (S : CallFix p m c cc nL s args Ts own) (hM : vx_Met l y ws rm Pc Qc XC mc ms free) (cw : CallW R s args own C index y bytes maxL ret ws rm mc ms n) (hp : PreV s H C b Pc As)
    (hg : g.method = m) (hn : As.length = n) (hsize : g.locals.size = nL) (hstack : g.stack = As.reverse ++ .ref b :: rest) (hW : 2 * g.monitorRoom + (rest.map fun v => v.category).sum ≤ 8) (hdg : decode cc g.pc = .ok (.invokevirtual index, 3)) (hf : cells + mc ≤ R.cells ∧ slots + ms ≤ R.slots) :
    vx_Run p l e R s m args below meth c H locs cells slots mc ms g rest (Qc (Value.ref b :: As).toArray) XC free := by
  have hK : vx_Back l R p e below s args y 3 8 (PreOf R mc ms Pc) (PostOf Qc mc ms free) (vx_Post XC mc ms free) := vx_callBack cw.1 hM hp.1
  obtain ⟨⟨-, -, -, -, -, -, hcode, -, hy, hlen, hl⟩, hin, hse⟩ := cw
  obtain ⟨hx, hb, hml, ho, -⟩ := S
  obtain ⟨-, ⟨cellB, hcB, hoB, hclB⟩, hPc⟩ := hp
  intro T hT X
  rcases vx_callV X hx (C := C) (bytes := bytes) (maxL := maxL) (ret := ret) ho hl hin hse hcode hy hK (by rw [hT]; exact hcB) hoB hclB hg (hsize.trans hml.symm) (argsL := As) (rest := rest) (fun sig h => hn.trans (hlen sig h)) hstack hW (by rw [hb]; exact hdg)
    (fun vm₁ hW₁ => ⟨hf.1, hf.2, hPc (T.setVm vm₁) hT hW₁⟩) with ⟨v, vm₁, ⟨U', l2, c2, s2⟩, hW₁, X', ⟨g', mk, t, L, e1, e2, hq, h1, hL, h2, h3⟩, st⟩ | ⟨q, vm₁, ⟨U', l2, c2, s2⟩, hW₁, X', ⟨g', mk, t, L, E, ce, e1, e2, hq, hce, hcv, hcl, h1, hL, h2, h3⟩, st⟩
  · dsimp only [Pt.U, Pt.locs, Pt.cells, Pt.slots] at X' e1 e2 h1 h2 h3 st
    subst h1; subst h2; subst h3
    exact Or.inl ⟨v, (T.setVm vm₁).calling g' mk (Value.ref b :: As).toArray, t, U', L, hT, X', hL, e1, e2, hq, st⟩
  · dsimp only [Pt.U, Pt.locs, Pt.cells, Pt.slots] at X' e1 e2 h1 h2 h3 st hcl
    subst h1; subst h2; subst h3
    exact Or.inr ⟨q, (T.setVm vm₁).calling g' mk (Value.ref b :: As).toArray, t, U', L, E, ce, hT, X', hL, e1, e2, hq, hce, hcv, vx_cls hW₁ hcl, st⟩
theorem vx_runS (S : CallFix p m c cc nL s args Ts own) (hM : vx_Met l y ws rm Pc Qc XC mc ms free) (cw : CallB R s args own index y bytes maxL ret ws rm mc ms n ∧ (Cond.static y).before args s = true) (hp : PreS s H Pc As)
    (hg : g.method = m) (hn : As.length = n) (hsize : g.locals.size = nL) (hstack : g.stack = As.reverse ++ rest) (hW : 2 * g.monitorRoom + (rest.map fun v => v.category).sum ≤ 8) (hdg : decode cc g.pc = .ok (.invokestatic index, 3)) (hf : cells + mc ≤ R.cells ∧ slots + ms ≤ R.slots) :
    vx_Run p l e R s m args below meth c H locs cells slots mc ms g rest (Qc As.toArray) XC free := by
  have hK : vx_Back l R p e below s args y 3 8 (PreOf R mc ms Pc) (PostOf Qc mc ms free) (vx_Post XC mc ms free) := vx_callBack cw.1 hM hp.1
  obtain ⟨⟨-, -, -, -, -, -, hcode, hini, hy, hlen, hl⟩, hstt⟩ := cw
  obtain ⟨hx, hb, hml, ho, -⟩ := S
  intro T hT X
  rcases vx_callS X hx (bytes := bytes) (maxL := maxL) (ret := ret) ho hl hstt hini hcode hy hK hg (hsize.trans hml.symm) (argsL := As) (rest := rest) (fun sig h => hn.trans (hlen sig h)) hstack hW (by rw [hb]; exact hdg)
    (fun vm₁ hW₁ => ⟨hf.1, hf.2, hp.2 (T.setVm vm₁) hT hW₁⟩) with ⟨v, vm₁, ⟨U', l2, c2, s2⟩, hW₁, X', ⟨g', mk, t, L, e1, e2, hq, h1, hL, h2, h3⟩, st⟩ | ⟨q, vm₁, ⟨U', l2, c2, s2⟩, hW₁, X', ⟨g', mk, t, L, E, ce, e1, e2, hq, hce, hcv, hcl, h1, hL, h2, h3⟩, st⟩
  · dsimp only [Pt.U, Pt.locs, Pt.cells, Pt.slots] at X' e1 e2 h1 h2 h3 st
    subst h1; subst h2; subst h3
    exact Or.inl ⟨v, (T.setVm vm₁).calling g' mk As.toArray, t, U', L, hT, X', hL, e1, e2, hq, st⟩
  · dsimp only [Pt.U, Pt.locs, Pt.cells, Pt.slots] at X' e1 e2 h1 h2 h3 st hcl
    subst h1; subst h2; subst h3
    exact Or.inr ⟨q, (T.setVm vm₁).calling g' mk As.toArray, t, U', L, E, ce, hT, X', hL, e1, e2, hq, hce, hcv, vx_cls hW₁ hcl, st⟩
end Runs
section Rows
variable {p : Program} {l : Launch} {e : Env} {R : Room} {s : State} {m : MethodId} {args : Array Value} {below : List Frame} {meth : Method} {c : Code} {H : Heap} {locs : List Loc} {cells slots : Nat} {Q : State → Prop}
variable {mc ms : Nat} {free : Addr → Prop} {A0 A1 : Nat → Prop} {H0 : Heap} {a : Array Value} {pc : Nat} {ls : Array Slot} {st0 rest : List Value}
theorem vx_keep {st₀ t T' : State} {L : List Loc} (h0 : st₀.heap = H) (e1 : T'.heap = t.heap) (hS : va_S A0 H0 H locs) (hA : ∀ q, q < H.size → A1 q → A0 q) (hf : ∀ q, free q → A0 q) (hL : ∀ q ∈ L, free q.base) (hF : va_F A1 st₀ t) :
    H.size ≤ T'.heap.size ∧ (∀ q : Nat, q < H.size → ¬ A1 q → T'.heap[q]? = H[q]?) ∧ va_S A0 H0 T'.heap (locs ++ L) := by
  obtain ⟨hz, hk⟩ := hF
  rw [h0] at hz hk
  exact ⟨by rw [e1]; exact hz, fun q h1 h2 => by rw [e1]; exact hk q h1 h2,
    ⟨Nat.le_trans hS.1 (by rw [e1]; exact hz), fun q h1 h2 => by rw [e1, hk q (Nat.lt_of_lt_of_le h1 hS.1) (fun z => h2 (hA q (Nat.lt_of_lt_of_le h1 hS.1) z))]; exact hS.2.1 q h1 h2, fun q hq => by
      rcases List.mem_append.mp hq with h | h
      · exact hS.2.2 q h
      · exact hf _ (hL q h)⟩⟩
theorem vx_calli {S SX : Type} {post : Int32 → S → Prop} {px : SX → Prop} {B : S → State → Prop} {BX : String → SX → State → Prop} {AX : Nat → Prop} (hr : vx_Run p l e R s m args below meth c H locs cells slots mc ms (F0 m pc ls st0) rest (va_Qi post B A1 a) (vx_X px BX AX) free) (hS : va_S A0 H0 H locs) (hA : ∀ q, q < H.size → A1 q → A0 q) (hf : ∀ q, free q → A0 q) (hAX : ∀ q, q < H.size → AX q → A0 q)
    (kx : ∀ (E : String) (ce : Cell) (q9 : Addr) (u : SX) (t : State) (H1 : Heap) (locs1 : List Loc), t.heap = H1 → s.vm.Alike t.vm → px u → BX E u t → H.size ≤ H1.size → (∀ q : Nat, q < H.size → ¬ AX q → H1[q]? = H[q]?) → va_S A0 H0 H1 locs1 → H1[q9]? = some ce → ce.vm = .none → s.vm.findClass E = some ce.cls → vx_W p l e R s m args below meth c H1 locs1 (cells + mc) (slots + ms) Q (F0 m pc ls rest) q9)
    (kk : ∀ (r : Int32) (u : S) (t : State) (H1 : Heap) (locs1 : List Loc), t.heap = H1 → s.vm.Alike t.vm → post r u → B u t → H.size ≤ H1.size → (∀ q : Nat, q < H.size → ¬ A1 q → H1[q]? = H[q]?) → va_S A0 H0 H1 locs1 → W p l e R s m args below meth c H1 locs1 (cells + mc) (slots + ms) Q (F0 m (pc + 3) ls (.int r :: rest))) : W p l e R s m args below meth c H locs cells slots Q (F0 m pc ls st0) := by
  intro T hT X
  rcases hr T hT X with ⟨v, st₀, t, T', L, h0, X', hL, e1, e2, ⟨⟨r, u, hv, hp, hb⟩, hF⟩, st⟩ | ⟨q, st₀, t, T', L, E, ce, h0, X', hL, e1, e2, ⟨u, hp, hb, hF⟩, hce, hcv, hcl, st⟩
  · cases hv
    obtain ⟨k1, k2, k3⟩ := vx_keep h0 e1 hS hA hf hL hF
    obtain ⟨t2, a1, b1⟩ := kk r u t T'.heap (locs ++ L) e1.symm (by rw [← e2]; exact X'.warmed.alike) hp hb k1 k2 k3 T' rfl X'
    exact ⟨t2, st t2 a1, b1⟩
  · obtain ⟨k1, k2, k3⟩ := vx_keep h0 e1 hS hAX hf hL hF
    obtain ⟨t2, a1, b1⟩ := kx E ce q u t T'.heap (locs ++ L) e1.symm (by rw [← e2]; exact X'.warmed.alike) hp hb k1 k2 k3 (by rw [e1]; exact hce) hcv hcl T' rfl X'
    exact ⟨t2, st.trans a1, b1⟩
theorem vx_calll {S SX : Type} {post : Int64 → S → Prop} {px : SX → Prop} {B : S → State → Prop} {BX : String → SX → State → Prop} {AX : Nat → Prop} (hr : vx_Run p l e R s m args below meth c H locs cells slots mc ms (F0 m pc ls st0) rest (va_Ql post B A1 a) (vx_X px BX AX) free) (hS : va_S A0 H0 H locs) (hA : ∀ q, q < H.size → A1 q → A0 q) (hf : ∀ q, free q → A0 q) (hAX : ∀ q, q < H.size → AX q → A0 q)
    (kx : ∀ (E : String) (ce : Cell) (q9 : Addr) (u : SX) (t : State) (H1 : Heap) (locs1 : List Loc), t.heap = H1 → s.vm.Alike t.vm → px u → BX E u t → H.size ≤ H1.size → (∀ q : Nat, q < H.size → ¬ AX q → H1[q]? = H[q]?) → va_S A0 H0 H1 locs1 → H1[q9]? = some ce → ce.vm = .none → s.vm.findClass E = some ce.cls → vx_W p l e R s m args below meth c H1 locs1 (cells + mc) (slots + ms) Q (F0 m pc ls rest) q9)
    (kk : ∀ (r : Int64) (u : S) (t : State) (H1 : Heap) (locs1 : List Loc), t.heap = H1 → s.vm.Alike t.vm → post r u → B u t → H.size ≤ H1.size → (∀ q : Nat, q < H.size → ¬ A1 q → H1[q]? = H[q]?) → va_S A0 H0 H1 locs1 → W p l e R s m args below meth c H1 locs1 (cells + mc) (slots + ms) Q (F0 m (pc + 3) ls (.long r :: rest))) : W p l e R s m args below meth c H locs cells slots Q (F0 m pc ls st0) := by
  intro T hT X
  rcases hr T hT X with ⟨v, st₀, t, T', L, h0, X', hL, e1, e2, ⟨⟨r, u, hv, hp, hb⟩, hF⟩, st⟩ | ⟨q, st₀, t, T', L, E, ce, h0, X', hL, e1, e2, ⟨u, hp, hb, hF⟩, hce, hcv, hcl, st⟩
  · cases hv
    obtain ⟨k1, k2, k3⟩ := vx_keep h0 e1 hS hA hf hL hF
    obtain ⟨t2, a1, b1⟩ := kk r u t T'.heap (locs ++ L) e1.symm (by rw [← e2]; exact X'.warmed.alike) hp hb k1 k2 k3 T' rfl X'
    exact ⟨t2, st t2 a1, b1⟩
  · obtain ⟨k1, k2, k3⟩ := vx_keep h0 e1 hS hAX hf hL hF
    obtain ⟨t2, a1, b1⟩ := kx E ce q u t T'.heap (locs ++ L) e1.symm (by rw [← e2]; exact X'.warmed.alike) hp hb k1 k2 k3 (by rw [e1]; exact hce) hcv hcl T' rfl X'
    exact ⟨t2, st.trans a1, b1⟩
theorem vx_callf {S SX : Type} {post : UInt32 → S → Prop} {px : SX → Prop} {B : S → State → Prop} {BX : String → SX → State → Prop} {AX : Nat → Prop} (hr : vx_Run p l e R s m args below meth c H locs cells slots mc ms (F0 m pc ls st0) rest (va_Qf post B A1 a) (vx_X px BX AX) free) (hS : va_S A0 H0 H locs) (hA : ∀ q, q < H.size → A1 q → A0 q) (hf : ∀ q, free q → A0 q) (hAX : ∀ q, q < H.size → AX q → A0 q)
    (kx : ∀ (E : String) (ce : Cell) (q9 : Addr) (u : SX) (t : State) (H1 : Heap) (locs1 : List Loc), t.heap = H1 → s.vm.Alike t.vm → px u → BX E u t → H.size ≤ H1.size → (∀ q : Nat, q < H.size → ¬ AX q → H1[q]? = H[q]?) → va_S A0 H0 H1 locs1 → H1[q9]? = some ce → ce.vm = .none → s.vm.findClass E = some ce.cls → vx_W p l e R s m args below meth c H1 locs1 (cells + mc) (slots + ms) Q (F0 m pc ls rest) q9)
    (kk : ∀ (r : UInt32) (u : S) (t : State) (H1 : Heap) (locs1 : List Loc), t.heap = H1 → s.vm.Alike t.vm → post r u → B u t → H.size ≤ H1.size → (∀ q : Nat, q < H.size → ¬ A1 q → H1[q]? = H[q]?) → va_S A0 H0 H1 locs1 → W p l e R s m args below meth c H1 locs1 (cells + mc) (slots + ms) Q (F0 m (pc + 3) ls (.float r :: rest))) : W p l e R s m args below meth c H locs cells slots Q (F0 m pc ls st0) := by
  intro T hT X
  rcases hr T hT X with ⟨v, st₀, t, T', L, h0, X', hL, e1, e2, ⟨⟨r, u, hv, hp, hb⟩, hF⟩, st⟩ | ⟨q, st₀, t, T', L, E, ce, h0, X', hL, e1, e2, ⟨u, hp, hb, hF⟩, hce, hcv, hcl, st⟩
  · cases hv
    obtain ⟨k1, k2, k3⟩ := vx_keep h0 e1 hS hA hf hL hF
    obtain ⟨t2, a1, b1⟩ := kk r u t T'.heap (locs ++ L) e1.symm (by rw [← e2]; exact X'.warmed.alike) hp hb k1 k2 k3 T' rfl X'
    exact ⟨t2, st t2 a1, b1⟩
  · obtain ⟨k1, k2, k3⟩ := vx_keep h0 e1 hS hAX hf hL hF
    obtain ⟨t2, a1, b1⟩ := kx E ce q u t T'.heap (locs ++ L) e1.symm (by rw [← e2]; exact X'.warmed.alike) hp hb k1 k2 k3 (by rw [e1]; exact hce) hcv hcl T' rfl X'
    exact ⟨t2, st.trans a1, b1⟩
theorem vx_calld {S SX : Type} {post : UInt64 → S → Prop} {px : SX → Prop} {B : S → State → Prop} {BX : String → SX → State → Prop} {AX : Nat → Prop} (hr : vx_Run p l e R s m args below meth c H locs cells slots mc ms (F0 m pc ls st0) rest (va_Qd post B A1 a) (vx_X px BX AX) free) (hS : va_S A0 H0 H locs) (hA : ∀ q, q < H.size → A1 q → A0 q) (hf : ∀ q, free q → A0 q) (hAX : ∀ q, q < H.size → AX q → A0 q)
    (kx : ∀ (E : String) (ce : Cell) (q9 : Addr) (u : SX) (t : State) (H1 : Heap) (locs1 : List Loc), t.heap = H1 → s.vm.Alike t.vm → px u → BX E u t → H.size ≤ H1.size → (∀ q : Nat, q < H.size → ¬ AX q → H1[q]? = H[q]?) → va_S A0 H0 H1 locs1 → H1[q9]? = some ce → ce.vm = .none → s.vm.findClass E = some ce.cls → vx_W p l e R s m args below meth c H1 locs1 (cells + mc) (slots + ms) Q (F0 m pc ls rest) q9)
    (kk : ∀ (r : UInt64) (u : S) (t : State) (H1 : Heap) (locs1 : List Loc), t.heap = H1 → s.vm.Alike t.vm → post r u → B u t → H.size ≤ H1.size → (∀ q : Nat, q < H.size → ¬ A1 q → H1[q]? = H[q]?) → va_S A0 H0 H1 locs1 → W p l e R s m args below meth c H1 locs1 (cells + mc) (slots + ms) Q (F0 m (pc + 3) ls (.double r :: rest))) : W p l e R s m args below meth c H locs cells slots Q (F0 m pc ls st0) := by
  intro T hT X
  rcases hr T hT X with ⟨v, st₀, t, T', L, h0, X', hL, e1, e2, ⟨⟨r, u, hv, hp, hb⟩, hF⟩, st⟩ | ⟨q, st₀, t, T', L, E, ce, h0, X', hL, e1, e2, ⟨u, hp, hb, hF⟩, hce, hcv, hcl, st⟩
  · cases hv
    obtain ⟨k1, k2, k3⟩ := vx_keep h0 e1 hS hA hf hL hF
    obtain ⟨t2, a1, b1⟩ := kk r u t T'.heap (locs ++ L) e1.symm (by rw [← e2]; exact X'.warmed.alike) hp hb k1 k2 k3 T' rfl X'
    exact ⟨t2, st t2 a1, b1⟩
  · obtain ⟨k1, k2, k3⟩ := vx_keep h0 e1 hS hAX hf hL hF
    obtain ⟨t2, a1, b1⟩ := kx E ce q u t T'.heap (locs ++ L) e1.symm (by rw [← e2]; exact X'.warmed.alike) hp hb k1 k2 k3 (by rw [e1]; exact hce) hcv hcl T' rfl X'
    exact ⟨t2, st.trans a1, b1⟩
theorem vx_callv {S SX : Type} {post : S → Prop} {px : SX → Prop} {B : S → State → Prop} {BX : String → SX → State → Prop} {AX : Nat → Prop} (hr : vx_Run p l e R s m args below meth c H locs cells slots mc ms (F0 m pc ls st0) rest (va_Qv post B A1 a) (vx_X px BX AX) free) (hS : va_S A0 H0 H locs) (hA : ∀ q, q < H.size → A1 q → A0 q) (hf : ∀ q, free q → A0 q) (hAX : ∀ q, q < H.size → AX q → A0 q)
    (kx : ∀ (E : String) (ce : Cell) (q9 : Addr) (u : SX) (t : State) (H1 : Heap) (locs1 : List Loc), t.heap = H1 → s.vm.Alike t.vm → px u → BX E u t → H.size ≤ H1.size → (∀ q : Nat, q < H.size → ¬ AX q → H1[q]? = H[q]?) → va_S A0 H0 H1 locs1 → H1[q9]? = some ce → ce.vm = .none → s.vm.findClass E = some ce.cls → vx_W p l e R s m args below meth c H1 locs1 (cells + mc) (slots + ms) Q (F0 m pc ls rest) q9)
    (kk : ∀ (u : S) (t : State) (H1 : Heap) (locs1 : List Loc), t.heap = H1 → s.vm.Alike t.vm → post u → B u t → H.size ≤ H1.size → (∀ q : Nat, q < H.size → ¬ A1 q → H1[q]? = H[q]?) → va_S A0 H0 H1 locs1 → W p l e R s m args below meth c H1 locs1 (cells + mc) (slots + ms) Q (F0 m (pc + 3) ls (rest))) : W p l e R s m args below meth c H locs cells slots Q (F0 m pc ls st0) := by
  intro T hT X
  rcases hr T hT X with ⟨v, st₀, t, T', L, h0, X', hL, e1, e2, ⟨⟨u, hv, hp, hb⟩, hF⟩, st⟩ | ⟨q, st₀, t, T', L, E, ce, h0, X', hL, e1, e2, ⟨u, hp, hb, hF⟩, hce, hcv, hcl, st⟩
  · cases hv
    obtain ⟨k1, k2, k3⟩ := vx_keep h0 e1 hS hA hf hL hF
    obtain ⟨t2, a1, b1⟩ := kk u t T'.heap (locs ++ L) e1.symm (by rw [← e2]; exact X'.warmed.alike) hp hb k1 k2 k3 T' rfl X'
    exact ⟨t2, st t2 a1, b1⟩
  · obtain ⟨k1, k2, k3⟩ := vx_keep h0 e1 hS hAX hf hL hF
    obtain ⟨t2, a1, b1⟩ := kx E ce q u t T'.heap (locs ++ L) e1.symm (by rw [← e2]; exact X'.warmed.alike) hp hb k1 k2 k3 (by rw [e1]; exact hce) hcv hcl T' rfl X'
    exact ⟨t2, st.trans a1, b1⟩
/-- caught by the row x of this method's table; the rows ahead don't take it -/
theorem vx_catch {own name : String} {E : String} {ce : Cell} {q : Addr} (hown : s.vm.findClass own = some m.cls) (pre : List ExceptionTableEntry) (x : ExceptionTableEntry) (suf : List ExceptionTableEntry) (hsplit : c.exceptionTable.toList = pre ++ x :: suf)
    (hpass : ∀ z ∈ pre, covers z pc = false ∨ (z.catchType ≠ 0 ∧ ∃ nm : String, (Cond.classLink own z.catchType nm).before args s = true ∧ va_Nc E nm s)) (hx : covers x pc = true) (h0 : x.catchType ≠ 0)
    (hlink : (Cond.classLink own x.catchType name).before args s = true) (hcast : (Cond.castable E name).before args s = true) (hcell : H[q]? = some ce) (hv : ce.vm = .none) (hcl : s.vm.findClass E = some ce.cls)
    (kk : W p l e R s m args below meth c H locs cells slots Q (F0 m x.handlerPc ls [.ref q])) : vx_W p l e R s m args below meth c H locs cells slots Q (F0 m pc ls rest) q := by
  intro T hT X
  have hpl : e.platform.magicAccessors = ({} : Platform).magicAccessors := by rw [X.admits.platform]
  obtain ⟨c3, c4, hc3, hc4, hasg⟩ := Cond.castable_spec hcast
  cases Option.some.inj (hc3.symm.trans hcl)
  obtain ⟨c5, hc5, hcl5⟩ := Cond.classLink_spec hown hlink e.platform hpl
  cases Option.some.inj (hc4.symm.trans hc5)
  obtain ⟨vm', X', st⟩ := X.thenCaughtThrough q (g := F0 m pc ls rest) rfl (Steps.refl _) (by rw [hT]; exact hcell) (by rw [hv]; rfl) (by obtain ⟨k9, h9, -⟩ := Vm.findClass_spec hcl; exact ⟨k9, h9⟩) pre x suf hsplit
    (fun z hz => by
      rcases hpass z hz with h | ⟨hz0, nm, hl1, hn1⟩
      · exact Or.inl h
      · obtain ⟨c6, hc6, hcl6⟩ := Cond.classLink_spec hown hl1 e.platform hpl
        obtain ⟨a8, b8, h1, h2, h3⟩ := hn1
        cases Option.some.inj (h1.symm.trans hcl)
        cases Option.some.inj (h2.symm.trans hc6)
        exact Or.inr ⟨hz0, _, hcl6, h3⟩) hx (Or.inr ⟨h0, c4, hcl5, hasg⟩)
  obtain ⟨t, a1, b1⟩ := kk (T.setVm vm') hT X'
  exact ⟨t, st.trans a1, b1⟩
end Rows
section Ends
variable {p : Program} {l : Launch} {e : Env} {R : Room} {s : State} {m : MethodId} {args : Array Value} {below : List Frame} {meth : Method} {c : Code} {H : Heap} {locs : List Loc} {cells slots : Nat} {Q : State → Prop}
variable {mc ms : Nat} {free : Addr → Prop} {A0 A1 : Nat → Prop} {H0 : Heap} {a : Array Value} {ls : Array Slot} {st0 rest : List Value}
variable {Qc : Array Value → State → Outcome → State → Prop} {XC : String → State → State → Prop}
/-- what a body that may throw owes at its end -/
def vx_MQ (below : List Frame) (Qc : Array Value → State → Outcome → State → Prop) (XC : String → State → State → Prop) (a : Array Value) (s : State) (mc ms : Nat) (free : Addr → Prop) : State → Prop := fun t =>
  ∃ o, t.status = .running ∧ Ended t below o ∧ vx_Q Qc XC mc ms free a s o t
theorem vx_ret {g : JFrame} {mc ms : Nat} (k : W p l e R s m args below meth c H locs cells slots (MQ below Qc args s mc ms free) g) : W p l e R s m args below meth c H locs cells slots (vx_MQ below Qc XC args s mc ms free) g := by
  intro T hT X
  obtain ⟨t, a1, o, b1, b2, b3, b4⟩ := k T hT X
  exact ⟨t, a1, o, b1, b2, Or.inl ⟨b3, b4⟩⟩
/-- not caught here: it goes on to the caller -/
theorem vx_widen {g : JFrame} {q : Addr} {k n : Nat} (h1 : cells ≤ k) (h2 : slots ≤ n) (kk : vx_W p l e R s m args below meth c H locs k n Q g q) : vx_W p l e R s m args below meth c H locs cells slots Q g q := fun T hT X => kk T hT (stand_widen X h1 h2)
theorem vx_out {pc : Nat} {E : String} {ce : Cell} {q : Addr} {mc ms : Nat} (hout : ∀ x ∈ c.exceptionTable.toList, covers x pc = false) (hlocks : meth.locks = false) (hcell : H[q]? = some ce) (hv : ce.vm = .none) (hcl : s.vm.findClass E = some ce.cls)
    (hx : ∀ t : State, t.heap = H → s.vm.Alike t.vm → XC E s t) (hf : ∀ z ∈ locs, free z.base) (hc : cells ≤ mc) (hs : slots ≤ ms) :
    vx_W p l e R s m args below meth c H locs cells slots (vx_MQ below Qc XC args s mc ms free) (F0 m pc ls rest) q := by
  intro T hT X
  obtain ⟨st1, hrun, hend, hW, hsm⟩ := X.leaveThrown q (g := F0 m pc ls rest) rfl rfl rfl hout hlocks
  have hcell9 : (T.setFrames (.throwing q :: below)).heap[q]? = some ce := by
    show T.heap[q]? = some ce
    rw [hT]; exact hcell
  exact ⟨_, st1, .threw q, hrun, hend, Or.inr ⟨q, rfl, E, ce, locs, hx _ hT hW.alike, hcell9, hv, hcl, hW, hsm.mono hc hs, hf⟩⟩
theorem vx_frame {U : State} {k n : Nat} (h : s.sameButNew ({ U with vm := s.vm } : State) locs k n) : s.heap.size ≤ U.heap.size ∧ ∀ q : Nat, q < s.heap.size → (∀ z ∈ locs, z.base ≠ q) → U.heap[q]? = s.heap[q]? := by
  obtain ⟨-, h2, -, -, -, h6⟩ := h
  refine ⟨h2, fun q hq hz => ?_⟩
  obtain ⟨c9, e1, e2, e3, e4⟩ := h6 q _ (Array.getElem?_eq_getElem hq)
  have hs : c9.slots = (s.heap[q]).slots := Array.ext_getElem? fun i => e4 i fun hm => hz _ hm rfl
  have h9 : c9 = s.heap[q] := by
    rw [hs] at e2
    exact e2
  have e5 : U.heap[q]? = some c9 := e1
  rw [e5, h9, Array.getElem?_eq_getElem hq]
/-- the words of a throw but the four that speak of the heap -/
def vx_no (w : Cond) : Bool := decide (w ≠ .isRef (.static Bundle.tN "UNASSIGNED_STACK" Bundle.steD)) && decide (w ≠ .isRef (.static Bundle.tN "SUPPRESSED_SENTINEL" Bundle.listD)) && decide (w ≠ .laysStatic Bundle.tN "UNASSIGNED_STACK" Bundle.steD) && decide (w ≠ .laysStatic Bundle.tN "SUPPRESSED_SENTINEL" Bundle.listD)
def vx_at0 (own : String) (ic : Nat) (X : String) (names : List String) : List Cond := (Bundle.ownAtoms0 own ic X names).filter vx_no
def vx_atS (own : String) (ic : Nat) (X : String) (names : List String) : List Cond := (Bundle.ownAtoms own ic X names).filter vx_no
/-- a word that the tables alone decide, or a good one -/
def vx_ot (w : Cond) : Bool := w.onTables || goodWord w
theorem vx_ot_at {args a' : Array Value} {s U : State} {w : Cond} (hW : s.WarmedH U.vm) (hvm : s.vm = U.vm) (hg : vx_ot w = true) (h : w.before args s = true) : w.before a' U = true := by
  simp only [vx_ot, Bool.or_eq_true] at hg
  rcases hg with hg | hg
  · exact va_tabs hg hvm h
  · exact word_at hW (good_of_word hg) h
/-- a list's words: the good ones out of the method's own list, the others by premises of their own -/
theorem vx_hat {args : Array Value} {s : State} {L B : List Cond} (h1 : ∀ w ∈ L.filter goodWord, w.before args s = true) (h2 : ∀ w ∈ L.filter (fun w => !goodWord w), w ∈ B) (h3 : ∀ w ∈ B, w.before args s = true) : ∀ w ∈ L, w.before args s = true := by
  intro w hw
  by_cases g : goodWord w = true
  · exact h1 w (List.mem_filter.mpr ⟨hw, g⟩)
  · refine h3 w (h2 w (List.mem_filter.mpr ⟨hw, ?_⟩))
    show (!goodWord w) = true
    cases hgw : goodWord w
    · rfl
    · exact absurd hgw g
theorem vx_c {args : Array Value} {s : State} {w : Cond} {B : List Cond} (h : w.before args s = true) (t : ∀ w ∈ B, w.before args s = true) : ∀ w' ∈ w :: B, w'.before args s = true := fun w' h' => (List.mem_cons.mp h').elim (fun e => by rw [e]; exact h) (t w')
theorem vx_n {args : Array Value} {s : State} : ∀ w ∈ ([] : List Cond), w.before args s = true := fun _ h => nomatch h
theorem vx_own {args : Array Value} {s : State} {L : List Cond} (h1 : ∀ w ∈ L.filter vx_no, w.before args s = true)
    (hU : (Cond.isRef (.static Bundle.tN "UNASSIGNED_STACK" Bundle.steD)).before args s = true) (hN : (Cond.isRef (.static Bundle.tN "SUPPRESSED_SENTINEL" Bundle.listD)).before args s = true)
    (lU : (Cond.laysStatic Bundle.tN "UNASSIGNED_STACK" Bundle.steD).before args s = true) (lN : (Cond.laysStatic Bundle.tN "SUPPRESSED_SENTINEL" Bundle.listD).before args s = true) : ∀ w ∈ L, w.before args s = true := by
  intro w hw
  by_cases e1 : w = .isRef (.static Bundle.tN "UNASSIGNED_STACK" Bundle.steD)
  · rw [e1]; exact hU
  · by_cases e2 : w = .isRef (.static Bundle.tN "SUPPRESSED_SENTINEL" Bundle.listD)
    · rw [e2]; exact hN
    · by_cases e3 : w = .laysStatic Bundle.tN "UNASSIGNED_STACK" Bundle.steD
      · rw [e3]; exact lU
      · by_cases e4 : w = .laysStatic Bundle.tN "SUPPRESSED_SENTINEL" Bundle.listD
        · rw [e4]; exact lN
        · exact h1 w (List.mem_filter.mpr ⟨hw, by unfold vx_no; rw [decide_eq_true e1, decide_eq_true e2, decide_eq_true e3, decide_eq_true e4]; rfl⟩)
/-- where a static field lies, its class's statics cell in H -/
def vx_L (C n d : String) (A : Nat → Prop) (U : State) (H : Heap) : Prop := ∃ (c : ClassId) (k : Class) (i : Nat) (f : Field) (a : Nat) (cell : Cell), U.vm.findClass C = some c ∧ U.fieldFound? C n d = some (c, k, i, f) ∧ f.isStatic = true ∧ k.statics = some a ∧ H[a]? = some cell ∧ cell.vm.isStatics = true ∧ cell.cls = c ∧ f.slot < cell.slots.size ∧ k.staticTypes[f.slot]? = some f.type ∧ ¬ A a
theorem vx_L.moved {C n d : String} {A : Nat → Prop} {u U : State} {H : Heap} (hvm : u.vm.Alike U.vm) (h : vx_L C n d A u H) : vx_L C n d A U H := by
  obtain ⟨c, k, i, f, a, cell, h1, h2, h3, h4, h5, h6, h7, h8, h9, h10⟩ := h
  obtain ⟨k', hi', he⟩ := State.fieldFound?_setVm hvm h2
  exact ⟨c, k', i, f, a, cell, by rw [hvm.findClass]; exact h1, hi', h3, by rw [he]; exact h4, h5, h6, h7, h8, by rw [he]; exact h9, h10⟩
theorem vx_L.kept {C n d : String} {A : Nat → Prop} {U : State} {H H1 : Heap} (h : vx_L C n d A U H) (hq : ∀ a : Nat, a < H.size → ¬ A a → H1[a]? = H[a]?) : vx_L C n d A U H1 := by
  obtain ⟨c, k, i, f, a, cell, h1, h2, h3, h4, h5, h6, h7, h8, h9, h10⟩ := h
  exact ⟨c, k, i, f, a, cell, h1, h2, h3, h4, by rw [hq a (Array.getElem?_eq_some_iff.mp h5).1 h10]; exact h5, h6, h7, h8, h9, h10⟩
theorem vx_L.narrow {C n d : String} {A B : Nat → Prop} {U : State} {H : Heap} (h : vx_L C n d A U H) (hAB : ∀ q, B q → A q) : vx_L C n d B U H := by
  obtain ⟨c, k, i, f, a, cell, h1, h2, h3, h4, h5, h6, h7, h8, h9, h10⟩ := h
  exact ⟨c, k, i, f, a, cell, h1, h2, h3, h4, h5, h6, h7, h8, h9, fun z => h10 (hAB _ z)⟩
theorem vx_L.word {C n d : String} {A : Nat → Prop} {s : State} {args : Array Value} (h : vx_L C n d A s s.heap) : (Cond.laysStatic C n d).before args s = true := by
  obtain ⟨c, k, i, f, a, cell, h1, h2, h3, h4, h5, h6, h7, h8, h9, -⟩ := h
  show (Cond.laysStatic C n d).holds args s none s [] = true
  exact Cond.laysStatic_of h1 h2 h3 h4 h5 h6 h7 h8 h9
/-- .. and what it holds: null or some reference -/
def vx_Zq (C n d : String) (A : Nat → Prop) (U : State) (H : Heap) : Prop := va_Zq C n d A U H ∧ vx_L C n d A U H
theorem vx_Zq.moved {C n d : String} {A : Nat → Prop} {u U : State} {H : Heap} (hvm : u.vm.Alike U.vm) (h : vx_Zq C n d A u H) : vx_Zq C n d A U H := ⟨va_Zq.moved hvm h.1, vx_L.moved hvm h.2⟩
theorem vx_Zq.kept {C n d : String} {A : Nat → Prop} {U : State} {H H1 : Heap} (h : vx_Zq C n d A U H) (hq : ∀ a : Nat, a < H.size → ¬ A a → H1[a]? = H[a]?) : vx_Zq C n d A U H1 := ⟨va_Zq.kept h.1 hq, vx_L.kept h.2 hq⟩
theorem vx_Zq.narrow {C n d : String} {A B : Nat → Prop} {U : State} {H : Heap} (h : vx_Zq C n d A U H) (hAB : ∀ q, B q → A q) : vx_Zq C n d B U H := ⟨va_Zq.narrow h.1 hAB, vx_L.narrow h.2 hAB⟩
theorem vx_Zqof {args : Array Value} {s : State} {C n d : String} {A : Nat → Prop} (hl : (Cond.laysStatic C n d).before args s = true) (hini : (Cond.initialized C).before args s = true) (h : (Cond.isRef (.static C n d)).before args s = true) (hA : ∀ a : Nat, a < s.heap.size → ¬ A a) : vx_Zq C n d A s s.heap := by
  refine ⟨va_Zqof hl hini h hA, ?_⟩
  obtain ⟨c, k, i, f, a, cell, h1, h2, h3, h4, h5, h6, h7, h8, h9⟩ := Cond.laysStatic_spec hl
  exact ⟨c, k, i, f, a, cell, h1, h2, h3, h4, h5, h6, h7, h8, h9, hA a (Array.getElem?_eq_some_iff.mp h5).1⟩
theorem vx_isRef {C n d : String} {v : Value} {A : Nat → Prop} {s : State} {args : Array Value} (h : va_Z C n d v A s s.heap) (hv : v.isRef = true) : (Cond.isRef (.static C n d)).before args s = true := by
  obtain ⟨cf, kf, fi, f, a, cell, h1, h2, h3, h4, h5, h6, h7, -⟩ := h
  have he : (Term.static C n d).eval args s none [] s = some v := by
    simp [Term.eval, State.fieldNamed?, h1, h2, h4, h5, h6, h7]
  simp only [Cond.before, Cond.holds, Cond.value, he]
  cases v <;> simp_all [Value.isRef]
theorem vx_isRefq {C n d : String} {A : Nat → Prop} {s : State} {args : Array Value} (h : va_Zq C n d A s s.heap) : (Cond.isRef (.static C n d)).before args s = true := by
  rcases h with h | ⟨t, h⟩
  · exact vx_isRef h rfl
  · exact vx_isRef h rfl
/-- the same frame, seen from here: as if the method were called anew in this heap -/
theorem vx_rebase {T : State} (X : Stand p l e R s m args below meth c T locs cells slots) {R' : Room} (hf : R'.frames ≤ R.frames) (hl : R'.locals ≤ R.locals) (hc : cells + R'.cells ≤ R.cells) (hs : slots + R'.slots ≤ R.slots) :
    Stand p l e R' ((T.setVm s.vm).setFrames (.invoking m args :: below)) m args below meth c T [] 0 0 := by
  have htop : (T.setVm s.vm).topJava?.isSome := X.here.top
  have hF : ((T.setVm s.vm).setFrames (.invoking m args :: below)).frames = .invoking m args :: below := State.frames_setFrames _ (State.cur_lt_of_top htop)
  obtain ⟨g₀, hg0⟩ := Option.isSome_iff_exists.mp htop
  obtain ⟨r, hr⟩ := State.topJava?_eq_some.mp hg0
  have hl9 : e.platform.stackLimits (T.setVm s.vm).me = e.platform.stackLimits s.me := X.limits
  have hb9 : (T.setVm s.vm).me.stackBytes = s.me.stackBytes := X.bytes
  refine ⟨X.admits, X.cas, X.clock, hF, ?_, X.hears, X.method, X.code, X.here, X.tail, X.warmed, ?_, ?_, ?_⟩
  · have h := X.room
    have hU : ((T.setVm s.vm).setFrames (.invoking m args :: below)).localsInUse = s.localsInUse := by
      rw [State.localsInUse_invoking hF (meth := meth) (c := c) X.method X.code, State.localsInUse_invoking X.frames X.method X.code]
    simp only [State.hasRoom, Bool.and_eq_true, decide_eq_true_eq] at h ⊢
    obtain ⟨⟨⟨⟨h1, h2, h3, h4, h5, h6⟩, h7⟩, h8⟩, h9⟩ := h
    rw [X.frames, List.length_cons] at h2 h3
    have q1 := X.heapSize
    have q2 := X.used
    simp only [hF, hU, List.length_cons, State.stackLimits_setFrames, State.stackBytes_setFrames, hl9, hb9]
    refine ⟨⟨⟨⟨by omega, by omega, by omega, by omega, by omega, h6⟩, ?_⟩, ?_⟩, X.book⟩
    · show T.heap.size + R'.cells ≤ e.platform.maxCells
      omega
    · show T.slotsUsed + R'.slots ≤ e.platform.maxSlots
      omega
  · rw [State.stackLimits_setFrames]; rfl
  · rw [State.stackBytes_setFrames]; rfl
  · refine ⟨?_, Nat.le_refl _, Nat.le_refl _, ?_, ?_, fun a c9 h9 => ⟨c9, h9, rfl, rfl, fun _ _ => rfl⟩⟩
    · obtain ⟨t, ht, -⟩ := State.frames_cons hr
      show T.setVm s.vm = { ((T.setVm s.vm).setFrames (.invoking m args :: below)).setFrames (T.setVm s.vm).frames with heap := T.heap, slotsUsed := T.slotsUsed }
      rw [State.setFrames_setFrames, State.setFrames_self ht]
      rfl
    · show T.slotsUsed = T.slotsUsed + ((T.heap.toList.drop T.heap.size).map (·.slots.size)).sum
      rw [List.drop_eq_nil_of_le (Nat.le_of_eq Array.length_toList)]
      rfl
    · show ((T.heap.toList.drop T.heap.size).map (·.slots.size)).sum ≤ 0
      rw [List.drop_eq_nil_of_le (Nat.le_of_eq Array.length_toList)]
      exact Nat.le_refl _
/-- 'throw new E()': new; dup; invokespecial; athrow -/
theorem vx_throw0 {cc : ByteArray} {pc : Nat} (hexec : p.tables.exec = Jvm.exec) (hb : c.code = cc) (hl : l.stackTraces = false) {own cls : String} {names : List String} {ik ic mc ms : Nat} {A : Nat → Prop}
    (hown : s.vm.findClass own = some m.cls) (hcls : Bundle.fit cls = true) (hnames : ∀ n ∈ names, Bundle.fit n = true)
    (hk : (Cond.classLink own ik cls).before args s = true) (hini : (Cond.initialized cls).before args s = true) (hat : ∀ w ∈ vx_at0 own ic cls names, w.before args s = true)
    (hgood : ∀ w ∈ Cond.classLink own ik cls :: Cond.initialized cls :: vx_at0 own ic cls names, vx_ot w = true)
    (hU : vx_Zq Bundle.tN "UNASSIGNED_STACK" Bundle.steD A s s.heap) (hN : vx_Zq Bundle.tN "SUPPRESSED_SENTINEL" Bundle.listD A s s.heap) (hS : va_S A s.heap H locs) (hsize : ls.size = c.maxLocals)
    (d0 : decode cc pc = .ok (.new ik, 3)) (d3 : decode cc (pc + 3) = .ok (.dup, 1)) (d4 : decode cc (pc + 4) = .ok (.invokespecial ic, 3)) (d7 : decode cc (pc + 7) = .ok (.athrow, 1))
    (hout : ∀ x ∈ c.exceptionTable.toList, covers x (pc + 7) = false)
    (hRframes : names.length + 3 < R.frames) (hRlocals : (rest.map fun v => v.category).sum + (13 * (names.length + 1) + 42) ≤ R.locals) (hRcells : cells + 1 ≤ R.cells) (hRslots : slots + 6 ≤ R.slots) (hlocks : meth.locks = false)
    (hx : ∀ t : State, s.vm.Alike t.vm → H.size ≤ t.heap.size → (∀ q : Nat, q < H.size → t.heap[q]? = H[q]?) → XC cls s t)
    (hf : ∀ z ∈ locs, free z.base) (hc : cells + 1 ≤ mc) (hs : slots + 6 ≤ ms) :
    W p l e R s m args below meth c H locs cells slots (vx_MQ below Qc XC args s mc ms free) (F0 m pc ls rest) := by
  intro T hT X
  have htr : e.platform.stackTraces = false := (show e.platform.stackTraces = l.stackTraces by rw [X.admits.platform]).trans hl
  have Y := vx_rebase X (R' := { frames := R.frames, locals := R.locals, cells := 1, slots := 6 }) (Nat.le_refl _) (Nat.le_refl _) hRcells hRslots
  obtain ⟨s', hA⟩ : ∃ z, z = (T.setVm s.vm).setFrames (.invoking m args :: below) := ⟨_, rfl⟩
  rw [← hA] at Y
  have hvm : s'.vm = s.vm := by rw [hA]; rfl
  have hhp : s'.heap = H := by rw [hA]; exact hT
  have hW0 : s.WarmedH s'.vm := by rw [hvm]; exact State.WarmedH.refl s
  have hat' : ∀ w ∈ vx_at0 own ic cls names, w.before args s' = true := fun w hw => vx_ot_at hW0 hvm.symm (hgood w (List.mem_cons_of_mem _ (List.mem_cons_of_mem _ hw))) (hat w hw)
  have hk' : (Cond.classLink own ik cls).before args s' = true := vx_ot_at hW0 hvm.symm (hgood _ List.mem_cons_self) hk
  have hini' : (Cond.initialized cls).before args s' = true := vx_ot_at hW0 hvm.symm (hgood _ (List.mem_cons_of_mem _ List.mem_cons_self)) hini
  have hU' : vx_Zq Bundle.tN "UNASSIGNED_STACK" Bundle.steD A s' s'.heap := by rw [hhp]; exact vx_Zq.moved hW0.alike (hU.kept hS.2.1)
  have hN' : vx_Zq Bundle.tN "SUPPRESSED_SENTINEL" Bundle.listD A s' s'.heap := by rw [hhp]; exact vx_Zq.moved hW0.alike (hN.kept hS.2.1)
  have h : ∀ w ∈ Bundle.ownAtoms0 own ic cls names, w.before args s' = true := vx_own hat' (vx_isRefq hU'.1) (vx_isRefq hN'.1) hU'.2.word hN'.2.word
  have hown' : s'.vm.findClass own = some m.cls := by rw [hvm]; exact hown
  have hins : (Cond.instantiable cls 6).before args s' = true := h _ (by simp [Bundle.ownAtoms0])
  obtain ⟨vm₁, cX, kX, hfX, hkX, -, -, X₁, st1⟩ := Y.newCold hexec (own := own) (C := cls) (index := ik) (n := 6) hown' hk' hins hini'
    (g := F0 m pc ls rest) rfl (by rw [hb]; exact d0) (Nat.le_refl _) (Nat.le_refl _)
  generalize hT1 : (T.setVm vm₁).pushCell { cls := cX, slots := kX.instanceTypes.map defaultValue, vm := .none } = T1 at X₁ st1
  have hcat : (Value.ref T.heap.size).category = 1 := rfl
  have hcellA : T1.heap[T.heap.size]? = some (freshCell cX kX) := by rw [← hT1]; exact State.heap_pushCell_size _ _
  have d3' : decode c.code (pc + 3) = .ok (.dup, 1) := by rw [hb]; exact d3
  obtain ⟨U, hsteps, hrun, hend, hW, hsame, ce, hce, hO⟩ := X₁.ctorThrow0 hexec htr (own := own) (cls := cls) (names := names) (ic := ic) hown' hcls hnames h (fun x hx => nomatch hx) hfX hkX hcellA (by rw [hhp, hT]; exact Nat.le_refl _)
    (g := { method := m, pc := pc + 4, locals := ls, stack := .ref T.heap.size :: .ref T.heap.size :: rest, locked := none }) rfl hsize rfl rfl (rest := rest) rfl
    (by rw [hb]; exact d4) (by rw [hb]; exact d7) hout hRframes (by simp only [List.map_cons, List.sum_cons, hcat]; omega) hlocks
  obtain ⟨f1, f2⟩ := vx_frame hsame
  rw [hhp] at f1 f2
  have hWs : s.WarmedH U.vm := State.WarmedH.trans hW0 hW
  have hcl : s.vm.findClass cls = some ce.cls := by
    have h9 := hO.cls
    rw [hvm] at h9
    exact h9
  have hall : s.sameButNew ({ U with vm := s.vm } : State) locs mc ms := by
    subst hA
    obtain ⟨e1, e2⟩ := hsame
    rw [State.setFrames_setFrames] at e1
    have h2 : (T.setVm s.vm).sameButNew ({ U with vm := s.vm } : State) [] (0 + 1) (0 + 6) := ⟨e1, e2⟩
    have h3 := X.same.trans h2
    rw [List.append_nil] at h3
    exact h3.mono hc hs
  refine ⟨U, ?_, .threw T.heap.size, hrun, hend, Or.inr ⟨T.heap.size, rfl, cls, ce, locs, hx U hWs.alike f1 (fun q hq => f2 q hq (fun z hz => nomatch hz)), hce, hO.vm, hcl, hWs, hall, hf⟩⟩
  refine st1 _ ?_
  show Steps p.tables e below (T1.setTop { method := m, pc := pc + 3, locals := ls, stack := .ref T.heap.size :: rest, locked := none }) _
  jvm_step X₁.here [X₁.here.top, hexec, d3', Value.category]
  exact hsteps
/-- 'throw new E("text")': new; dup; ldc; invokespecial; athrow -/
theorem vx_throwS {cc : ByteArray} {pc : Nat} (hexec : p.tables.exec = Jvm.exec) (hb : c.code = cc) (hl : l.stackTraces = false) {own cls text : String} {names : List String} {ik is ic mc ms sa : Nat} {A : Nat → Prop}
    (hown : s.vm.findClass own = some m.cls) (hcls : Bundle.fit cls = true) (hnames : ∀ n ∈ names, Bundle.fit n = true)
    (hk : (Cond.classLink own ik cls).before args s = true) (hini : (Cond.initialized cls).before args s = true) (hstr : vk_R own is text sa s) (hat : ∀ w ∈ vx_atS own ic cls names, w.before args s = true)
    (hgood : ∀ w ∈ Cond.classLink own ik cls :: Cond.initialized cls :: vx_atS own ic cls names, vx_ot w = true)
    (hU : vx_Zq Bundle.tN "UNASSIGNED_STACK" Bundle.steD A s s.heap) (hN : vx_Zq Bundle.tN "SUPPRESSED_SENTINEL" Bundle.listD A s s.heap) (hS : va_S A s.heap H locs) (hsize : ls.size = c.maxLocals)
    (d0 : decode cc pc = .ok (.new ik, 3)) (d3 : decode cc (pc + 3) = .ok (.dup, 1)) (d4 : decode cc (pc + 4) = .ok (.ldc is, 2)) (d6 : decode cc (pc + 6) = .ok (.invokespecial ic, 3)) (d9 : decode cc (pc + 9) = .ok (.athrow, 1))
    (hout : ∀ x ∈ c.exceptionTable.toList, covers x (pc + 9) = false)
    (hRframes : names.length + 3 < R.frames) (hRlocals : (rest.map fun v => v.category).sum + (13 * (names.length + 1) + 43) ≤ R.locals) (hRcells : cells + 1 ≤ R.cells) (hRslots : slots + 6 ≤ R.slots) (hlocks : meth.locks = false)
    (hx : ∀ t : State, s.vm.Alike t.vm → H.size ≤ t.heap.size → (∀ q : Nat, q < H.size → t.heap[q]? = H[q]?) → XC cls s t)
    (hf : ∀ z ∈ locs, free z.base) (hc : cells + 1 ≤ mc) (hs : slots + 6 ≤ ms) :
    W p l e R s m args below meth c H locs cells slots (vx_MQ below Qc XC args s mc ms free) (F0 m pc ls rest) := by
  intro T hT X
  have htr : e.platform.stackTraces = false := (show e.platform.stackTraces = l.stackTraces by rw [X.admits.platform]).trans hl
  have Y := vx_rebase X (R' := { frames := R.frames, locals := R.locals, cells := 1, slots := 6 }) (Nat.le_refl _) (Nat.le_refl _) hRcells hRslots
  obtain ⟨s', hA⟩ : ∃ z, z = (T.setVm s.vm).setFrames (.invoking m args :: below) := ⟨_, rfl⟩
  rw [← hA] at Y
  have hvm : s'.vm = s.vm := by rw [hA]; rfl
  have hhp : s'.heap = H := by rw [hA]; exact hT
  have hW0 : s.WarmedH s'.vm := by rw [hvm]; exact State.WarmedH.refl s
  have hat' : ∀ w ∈ vx_atS own ic cls names, w.before args s' = true := fun w hw => vx_ot_at hW0 hvm.symm (hgood w (List.mem_cons_of_mem _ (List.mem_cons_of_mem _ hw))) (hat w hw)
  have hk' : (Cond.classLink own ik cls).before args s' = true := vx_ot_at hW0 hvm.symm (hgood _ List.mem_cons_self) hk
  have hini' : (Cond.initialized cls).before args s' = true := vx_ot_at hW0 hvm.symm (hgood _ (List.mem_cons_of_mem _ List.mem_cons_self)) hini
  have hU' : vx_Zq Bundle.tN "UNASSIGNED_STACK" Bundle.steD A s' s'.heap := by rw [hhp]; exact vx_Zq.moved hW0.alike (hU.kept hS.2.1)
  have hN' : vx_Zq Bundle.tN "SUPPRESSED_SENTINEL" Bundle.listD A s' s'.heap := by rw [hhp]; exact vx_Zq.moved hW0.alike (hN.kept hS.2.1)
  have h : ∀ w ∈ Bundle.ownAtoms own ic cls names, w.before args s' = true := vx_own hat' (vx_isRefq hU'.1) (vx_isRefq hN'.1) hU'.2.word hN'.2.word
  have hown' : s'.vm.findClass own = some m.cls := by rw [hvm]; exact hown
  have hins : (Cond.instantiable cls 6).before args s' = true := h _ (by simp [Bundle.ownAtoms])
  obtain ⟨vm₁, cX, kX, hfX, hkX, -, -, X₁, st1⟩ := Y.newCold hexec (own := own) (C := cls) (index := ik) (n := 6) hown' hk' hins hini'
    (g := F0 m pc ls rest) rfl (by rw [hb]; exact d0) (Nat.le_refl _) (Nat.le_refl _)
  generalize hT1 : (T.setVm vm₁).pushCell { cls := cX, slots := kX.instanceTypes.map defaultValue, vm := .none } = T1 at X₁ st1
  have hcat : (Value.ref T.heap.size).category = 1 := rfl
  have hcellA : T1.heap[T.heap.size]? = some (freshCell cX kX) := by rw [← hT1]; exact State.heap_pushCell_size _ _
  have d3' : decode c.code (pc + 3) = .ok (.dup, 1) := by rw [hb]; exact d3
  have d4' : decode c.code (pc + 4) = .ok (.ldc is, 2) := by rw [hb]; exact d4
  have hstr' : vk_R own is text sa s' := vk_R.warm hW0 hstr
  obtain ⟨U, hsteps, hrun, hend, hW, hsame, ce, hce, hO⟩ := X₁.ctorThrowS hexec htr (own := own) (cls := cls) (names := names) (ic := ic) hown' hcls hnames h (fun x hx => nomatch hx) hfX hkX hcellA (by rw [hhp, hT]; exact Nat.le_refl _) (msg := .ref sa) rfl
    (g := { method := m, pc := pc + 6, locals := ls, stack := .ref sa :: .ref T.heap.size :: .ref T.heap.size :: rest, locked := none }) rfl hsize rfl rfl (rest := rest) rfl
    (by rw [hb]; exact d6) (by rw [hb]; exact d9) hout hRframes (by simp only [List.map_cons, List.sum_cons, hcat]; omega) hlocks
  obtain ⟨f1, f2⟩ := vx_frame hsame
  rw [hhp] at f1 f2
  have hWs : s.WarmedH U.vm := State.WarmedH.trans hW0 hW
  have hcl : s.vm.findClass cls = some ce.cls := by
    have h9 := hO.cls
    rw [hvm] at h9
    exact h9
  have hall : s.sameButNew ({ U with vm := s.vm } : State) locs mc ms := by
    subst hA
    obtain ⟨e1, e2⟩ := hsame
    rw [State.setFrames_setFrames] at e1
    have h2 : (T.setVm s.vm).sameButNew ({ U with vm := s.vm } : State) [] (0 + 1) (0 + 6) := ⟨e1, e2⟩
    have h3 := X.same.trans h2
    rw [List.append_nil] at h3
    exact h3.mono hc hs
  refine ⟨U, ?_, .threw T.heap.size, hrun, hend, Or.inr ⟨T.heap.size, rfl, cls, ce, locs, hx U hWs.alike f1 (fun q hq => f2 q hq (fun z hz => nomatch hz)), hce, hO.vm, hcl, hWs, hall, hf⟩⟩
  refine st1 _ ?_
  show Steps p.tables e below (T1.setTop { method := m, pc := pc + 3, locals := ls, stack := .ref T.heap.size :: rest, locked := none }) _
  jvm_step X₁.here [X₁.here.top, hexec, d3', Value.category]
  exact X₁.ldcString hexec (own := own) (text := text) (index := is) (a := sa) hown' hstr'.1 hstr'.2
    (g := { method := m, pc := pc + 4, locals := ls, stack := .ref T.heap.size :: .ref T.heap.size :: rest, locked := none }) rfl d4' _ hsteps
/-- 'throw new E("text")', the text by a wide index -/
theorem vx_throwSW {cc : ByteArray} {pc : Nat} (hexec : p.tables.exec = Jvm.exec) (hb : c.code = cc) (hl : l.stackTraces = false) {own cls text : String} {names : List String} {ik is ic mc ms sa : Nat} {A : Nat → Prop}
    (hown : s.vm.findClass own = some m.cls) (hcls : Bundle.fit cls = true) (hnames : ∀ n ∈ names, Bundle.fit n = true)
    (hk : (Cond.classLink own ik cls).before args s = true) (hini : (Cond.initialized cls).before args s = true) (hstr : vk_R own is text sa s) (hat : ∀ w ∈ vx_atS own ic cls names, w.before args s = true)
    (hgood : ∀ w ∈ Cond.classLink own ik cls :: Cond.initialized cls :: vx_atS own ic cls names, vx_ot w = true)
    (hU : vx_Zq Bundle.tN "UNASSIGNED_STACK" Bundle.steD A s s.heap) (hN : vx_Zq Bundle.tN "SUPPRESSED_SENTINEL" Bundle.listD A s s.heap) (hS : va_S A s.heap H locs) (hsize : ls.size = c.maxLocals)
    (d0 : decode cc pc = .ok (.new ik, 3)) (d3 : decode cc (pc + 3) = .ok (.dup, 1)) (d4 : decode cc (pc + 4) = .ok (.ldc_w is, 3)) (d7 : decode cc (pc + 7) = .ok (.invokespecial ic, 3)) (d10 : decode cc (pc + 10) = .ok (.athrow, 1))
    (hout : ∀ x ∈ c.exceptionTable.toList, covers x (pc + 10) = false)
    (hRframes : names.length + 3 < R.frames) (hRlocals : (rest.map fun v => v.category).sum + (13 * (names.length + 1) + 43) ≤ R.locals) (hRcells : cells + 1 ≤ R.cells) (hRslots : slots + 6 ≤ R.slots) (hlocks : meth.locks = false)
    (hx : ∀ t : State, s.vm.Alike t.vm → H.size ≤ t.heap.size → (∀ q : Nat, q < H.size → t.heap[q]? = H[q]?) → XC cls s t)
    (hf : ∀ z ∈ locs, free z.base) (hc : cells + 1 ≤ mc) (hs : slots + 6 ≤ ms) :
    W p l e R s m args below meth c H locs cells slots (vx_MQ below Qc XC args s mc ms free) (F0 m pc ls rest) := by
  intro T hT X
  have htr : e.platform.stackTraces = false := (show e.platform.stackTraces = l.stackTraces by rw [X.admits.platform]).trans hl
  have Y := vx_rebase X (R' := { frames := R.frames, locals := R.locals, cells := 1, slots := 6 }) (Nat.le_refl _) (Nat.le_refl _) hRcells hRslots
  obtain ⟨s', hA⟩ : ∃ z, z = (T.setVm s.vm).setFrames (.invoking m args :: below) := ⟨_, rfl⟩
  rw [← hA] at Y
  have hvm : s'.vm = s.vm := by rw [hA]; rfl
  have hhp : s'.heap = H := by rw [hA]; exact hT
  have hW0 : s.WarmedH s'.vm := by rw [hvm]; exact State.WarmedH.refl s
  have hat' : ∀ w ∈ vx_atS own ic cls names, w.before args s' = true := fun w hw => vx_ot_at hW0 hvm.symm (hgood w (List.mem_cons_of_mem _ (List.mem_cons_of_mem _ hw))) (hat w hw)
  have hk' : (Cond.classLink own ik cls).before args s' = true := vx_ot_at hW0 hvm.symm (hgood _ List.mem_cons_self) hk
  have hini' : (Cond.initialized cls).before args s' = true := vx_ot_at hW0 hvm.symm (hgood _ (List.mem_cons_of_mem _ List.mem_cons_self)) hini
  have hU' : vx_Zq Bundle.tN "UNASSIGNED_STACK" Bundle.steD A s' s'.heap := by rw [hhp]; exact vx_Zq.moved hW0.alike (hU.kept hS.2.1)
  have hN' : vx_Zq Bundle.tN "SUPPRESSED_SENTINEL" Bundle.listD A s' s'.heap := by rw [hhp]; exact vx_Zq.moved hW0.alike (hN.kept hS.2.1)
  have h : ∀ w ∈ Bundle.ownAtoms own ic cls names, w.before args s' = true := vx_own hat' (vx_isRefq hU'.1) (vx_isRefq hN'.1) hU'.2.word hN'.2.word
  have hown' : s'.vm.findClass own = some m.cls := by rw [hvm]; exact hown
  have hins : (Cond.instantiable cls 6).before args s' = true := h _ (by simp [Bundle.ownAtoms])
  obtain ⟨vm₁, cX, kX, hfX, hkX, -, -, X₁, st1⟩ := Y.newCold hexec (own := own) (C := cls) (index := ik) (n := 6) hown' hk' hins hini'
    (g := F0 m pc ls rest) rfl (by rw [hb]; exact d0) (Nat.le_refl _) (Nat.le_refl _)
  generalize hT1 : (T.setVm vm₁).pushCell { cls := cX, slots := kX.instanceTypes.map defaultValue, vm := .none } = T1 at X₁ st1
  have hcat : (Value.ref T.heap.size).category = 1 := rfl
  have hcellA : T1.heap[T.heap.size]? = some (freshCell cX kX) := by rw [← hT1]; exact State.heap_pushCell_size _ _
  have d3' : decode c.code (pc + 3) = .ok (.dup, 1) := by rw [hb]; exact d3
  have d4' : decode c.code (pc + 4) = .ok (.ldc_w is, 3) := by rw [hb]; exact d4
  have hstr' : vk_R own is text sa s' := vk_R.warm hW0 hstr
  obtain ⟨U, hsteps, hrun, hend, hW, hsame, ce, hce, hO⟩ := X₁.ctorThrowS hexec htr (own := own) (cls := cls) (names := names) (ic := ic) hown' hcls hnames h (fun x hx => nomatch hx) hfX hkX hcellA (by rw [hhp, hT]; exact Nat.le_refl _) (msg := .ref sa) rfl
    (g := { method := m, pc := pc + 7, locals := ls, stack := .ref sa :: .ref T.heap.size :: .ref T.heap.size :: rest, locked := none }) rfl hsize rfl rfl (rest := rest) rfl
    (by rw [hb]; exact d7) (by rw [hb]; exact d10) hout hRframes (by simp only [List.map_cons, List.sum_cons, hcat]; omega) hlocks
  obtain ⟨f1, f2⟩ := vx_frame hsame
  rw [hhp] at f1 f2
  have hWs : s.WarmedH U.vm := State.WarmedH.trans hW0 hW
  have hcl : s.vm.findClass cls = some ce.cls := by
    have h9 := hO.cls
    rw [hvm] at h9
    exact h9
  have hall : s.sameButNew ({ U with vm := s.vm } : State) locs mc ms := by
    subst hA
    obtain ⟨e1, e2⟩ := hsame
    rw [State.setFrames_setFrames] at e1
    have h2 : (T.setVm s.vm).sameButNew ({ U with vm := s.vm } : State) [] (0 + 1) (0 + 6) := ⟨e1, e2⟩
    have h3 := X.same.trans h2
    rw [List.append_nil] at h3
    exact h3.mono hc hs
  refine ⟨U, ?_, .threw T.heap.size, hrun, hend, Or.inr ⟨T.heap.size, rfl, cls, ce, locs, hx U hWs.alike f1 (fun q hq => f2 q hq (fun z hz => nomatch hz)), hce, hO.vm, hcl, hWs, hall, hf⟩⟩
  refine st1 _ ?_
  show Steps p.tables e below (T1.setTop { method := m, pc := pc + 3, locals := ls, stack := .ref T.heap.size :: rest, locked := none }) _
  jvm_step X₁.here [X₁.here.top, hexec, d3', Value.category]
  exact X₁.ldcStringW hexec (own := own) (text := text) (index := is) (a := sa) hown' hstr'.1 hstr'.2
    (g := { method := m, pc := pc + 4, locals := ls, stack := .ref T.heap.size :: .ref T.heap.size :: rest, locked := none }) rfl d4' _ hsteps
end Ends
section Bodies
variable {l : Launch}
theorem vx_ofW {y : MethodName} {ws ws' : List Cond} {rm : Room} {Pc : Array Value → State → Prop} {Qc : Array Value → State → Outcome → State → Prop} {XC : String → State → State → Prop} {mc ms : Nat} {free : Addr → Prop} {cc : ByteArray} {maxL : Nat} {ret : Option FieldType}
    (hy : plainName y.cls = true) (hw : ws = Cond.code y cc maxL ret :: ws')
    (body : ∀ p e s m args below meth c s₁, BodyLoose p l y (headSpec ws rm) cc maxL ret e s m args below meth c s₁ → c.maxLocals = maxL → (∀ x ∈ c.exceptionTable.toList, False) → Pc args s →
      W p l e (headSpec ws rm).room s m args below meth c s.heap [] 0 0 (vx_MQ below Qc XC args s mc ms free) (entryFrame m args maxL)) : vx_Met l y ws rm Pc Qc XC mc ms free := by
  refine MetFree.of_bodyS (code := cc) (maxLocals := maxL) (ret := ret) hy ?_ ?_
  · intro args s m h hn
    obtain ⟨meth, c, h1, h2, h3, h4, h5, h6, -, -⟩ := Cond.code_spec hn (atoms_spec (ws := ws) h _ (by rw [hw]; exact List.mem_cons_self))
    exact ⟨meth, c, h1, h2, h3, h4, h5, h6⟩
  · intro p e s m args below meth c s₁ B hml hP _
    have hh0 : s₁.heap = s.heap := by rw [B.state]; rfl
    have ht : ∀ x ∈ c.exceptionTable.toList, False := by
      obtain ⟨meth9, c9, h1, h2, -, -, -, -, h7, -⟩ := Cond.code_spec B.named (atoms_spec (ws := ws) B.pre _ (by rw [hw]; exact List.mem_cons_self))
      cases Option.some.inj (h1.symm.trans B.method)
      cases Option.some.inj (h2.symm.trans (Stand.of_body B).code)
      intro x hx
      rw [Array.isEmpty_iff.mp h7] at hx
      cases hx
    obtain ⟨t, a1, o, b1, b2, b3⟩ := body p e s m args below meth c s₁ B hml ht hP s₁ hh0 (Stand.of_body B)
    exact ⟨t, o, a1, b1, b2, b3⟩
/-- the table of a body with handlers -/
theorem vx_table {p : Program} {x y : MethodName} {S : Spec} {cc bytes : ByteArray} {maxL maxL' : Nat} {ret ret' : Option FieldType} {e : Env} {s s₁ : State} {m : MethodId} {args : Array Value} {below : List Frame} {meth : Method} {c : Code} {hh : List (Nat × Nat × Nat × Nat)}
    (B : BodyLoose p l y S cc maxL ret e s m args below meth c s₁) (h : (Cond.codeWith y bytes maxL' ret' hh).before args s = true) : c.exceptionTable.toList = tableOf hh := by
  obtain ⟨m9, meth9, c9, hn9, h1, h2, -, -, h6, -⟩ := Cond.codeWith_spec h
  cases Option.some.inj (hn9.symm.trans B.named)
  cases Option.some.inj (h1.symm.trans B.method)
  cases Option.some.inj (h2.symm.trans (Stand.of_body B).code)
  rw [← h6, table_eq]
end Bodies
end VXA
/-! ===== END ===== -/
/-! ===== BEGIN a static call of a method with an exception table ===== -/
section VXS
variable {p : Program} {l : Launch} {e : Env} {R : Room} {s : State} {m : MethodId} {args : Array Value} {below : List Frame} {meth : Method} {c : Code} {T : State} {H : Heap} {locs : List Loc} {cells slots : Nat}
abbrev vx_CSW (R : Room) (s : State) (args : Array Value) (own : String) (index : Nat) (y : MethodName) (bytes : ByteArray) (maxL : Nat) (ret : Option FieldType) (hh : List (Nat × Nat × Nat × Nat)) (ws : List Cond) (rm : Room) (mc ms n : Nat) : Prop :=
  (rm.cells = mc ∧ rm.slots = ms ∧ rm.frames + 1 ≤ R.frames ∧ 8 + (maxL + 11) + rm.locals ≤ R.locals ∧ (∀ w ∈ ws, ∀ (a' : Array Value) (U : State), s.WarmedH U.vm → w.before a' U = true) ∧ Cond.codeWith y bytes maxL ret hh ∈ ws) ∧
  (Cond.codeWith y bytes maxL ret hh).before args s = true ∧ (Cond.initialized y.cls).before args s = true ∧ (y.cls ≠ "java/lang/invoke/MethodHandle" ∧ y.cls ≠ "java/lang/invoke/VarHandle") ∧
  (∀ sig, parseMethodDescriptor y.desc = some sig → n = sig.parameters.length) ∧ (Cond.methodLink own index y).before args s = true ∧ (Cond.static y).before args s = true
theorem vx_cwSW {own : String} {index maxL mc ms : Nat} {y : MethodName} {bytes : ByteArray} {ret : Option FieldType} {hh : List (Nat × Nat × Nat × Nat)} {Ts ws ws' : List Cond} {rm : Room} (n : Nat) (ht : ∀ w ∈ Ts, w.before args s = true) (hT : GoodIn Ts (va_wsS own index y ws)) (hw : ws = Cond.codeWith y bytes maxL ret hh :: ws') (hrc : rm.cells = mc) (hrs : rm.slots = ms)
    (hd : y.cls ≠ "java/lang/invoke/MethodHandle" ∧ y.cls ≠ "java/lang/invoke/VarHandle" ∧ (parseMethodDescriptor y.desc).map (fun d => d.parameters.length) = some n) (hR : rm.frames + 1 ≤ R.frames ∧ 8 + (maxL + 11) + rm.locals ≤ R.locals) :
    vx_CSW R s args own index y bytes maxL ret hh ws rm mc ms n := by
  have ok : ∀ w ∈ va_wsS own index y ws, w.before args s = true := fun w h => ht w (hT w h).1
  have hG : GoodIn Ts ws := fun w h => hT w (by unfold va_wsS; exact List.mem_append_right _ h)
  have hc : Cond.codeWith y bytes maxL ret hh ∈ ws := by rw [hw]; exact List.mem_cons_self
  refine ⟨⟨hrc, hrs, hR.1, hR.2, pay_in ht hG, hc⟩, ht _ (hG _ hc).1, ok _ (by simp [va_wsS]), ⟨hd.1, hd.2.1⟩, fun sig h => ?_, ok _ (by simp [va_wsS]), ok _ (by simp [va_wsS])⟩
  have h2 := hd.2.2
  rw [h] at h2
  exact (Option.some.inj h2).symm
theorem vx_callSW (X : Stand p l e R s m args below meth c T locs cells slots) (hexec : p.tables.exec = Jvm.exec) {own : String} {index : Nat} {y : MethodName} {bytes : ByteArray} {maxL : Nat} {ret : Option FieldType} {hh : List (Nat × Nat × Nat × Nat)}
    (hown : s.vm.findClass own = some m.cls) (hlink : (Cond.methodLink own index y).before args s = true) (hstat : (Cond.static y).before args s = true) (hinit : (Cond.initialized y.cls).before args s = true)
    (hcode : (Cond.codeWith y bytes maxL ret hh).before args s = true) (hy : y.cls ≠ "java/lang/invoke/MethodHandle" ∧ y.cls ≠ "java/lang/invoke/VarHandle")
    {W9 : Nat} {Pre : Pt → Array Value → Prop} {Post : Pt → Array Value → Option Value → Pt → Prop} (hK : Back l R p e below s args y 3 W9 Pre Post)
    {g : JFrame} (hg : g.method = m) (hsize : g.locals.size = c.maxLocals) {argsL rest : List Value} (hlen : ∀ sig, parseMethodDescriptor y.desc = some sig → argsL.length = sig.parameters.length)
    (hstack : g.stack = argsL.reverse ++ rest) (hW : 2 * g.monitorRoom + (rest.map fun v => v.category).sum ≤ W9) (hdg : decode c.code g.pc = .ok (.invokestatic index, 3))
    (hpre : ∀ vm₁, s.WarmedH vm₁ → Pre ⟨T.setVm vm₁, locs, cells, slots⟩ argsL.toArray) :
    ∃ (v : Option Value) (vm₁ : Vm) (B : Pt), s.WarmedH vm₁ ∧ Stand p l e R s m args below meth c B.U B.locs B.cells B.slots ∧ Post ⟨T.setVm vm₁, locs, cells, slots⟩ argsL.toArray v B ∧
      ∀ target, Steps p.tables e below (B.U.setTop { g with pc := g.pc + 3, stack := v.toList ++ rest }) target → Steps p.tables e below (T.setTop g) target := by
  obtain ⟨mk, methM, cM, hnamed, hmethM, -, -, -, -, -, -, hsigM⟩ := Cond.codeWith_spec hcode
  have hstatic : methM.isStatic = true := Cond.static_spec hnamed hmethM hstat
  obtain ⟨kP, hkP, -⟩ := className_of_methodNamed hnamed
  have hinitP : kP.init = .initialized := Cond.initialized_spec (findClass_of_methodNamed hnamed) hkP hinit
  obtain ⟨vm₁, X₁, hstep₁⟩ := X.invokestatic hexec hown hlink hnamed hmethM hstatic hkP hinitP hy (g := g) hg (argsL := argsL) (rest := rest) (hlen _ hsigM) hstack hdg
  obtain ⟨v, B, X', hpost, hsteps⟩ := hK m meth c ⟨T.setVm vm₁, locs, cells, slots⟩ { g with stack := rest } (.invokestatic index) mk argsL.toArray X₁ hg hsize hdg hW (X₁.named hnamed) (hpre vm₁ X₁.warmed)
  exact ⟨v, vm₁, B, X₁.warmed, X', hpost, fun target h => hstep₁ _ fun acts => by rw [doInvoke_state]; exact hsteps.trans h⟩
theorem vx_runSW {y : MethodName} {bytes cc : ByteArray} {maxL nL mc ms n index : Nat} {ret : Option FieldType} {hh : List (Nat × Nat × Nat × Nat)} {ws : List Cond} {rm : Room} {Pc : Array Value → State → Prop} {Qc : Array Value → State → Outcome → State → Prop} {free : Addr → Prop} {Ts : List Cond} {own : String} {As rest : List Value} {g : JFrame}
    (S : CallFix p m c cc nL s args Ts own) (hM : Met l y ws rm Pc Qc mc ms free) (cw : vx_CSW R s args own index y bytes maxL ret hh ws rm mc ms n) (hp : PreS s H Pc As)
    (hg : g.method = m) (hn : As.length = n) (hsize : g.locals.size = nL) (hstack : g.stack = As.reverse ++ rest) (hW : 2 * g.monitorRoom + (rest.map fun v => v.category).sum ≤ 8) (hdg : decode cc g.pc = .ok (.invokestatic index, 3)) (hf : cells + mc ≤ R.cells ∧ slots + ms ≤ R.slots) :
    va_Run p l e R s m args below meth c H locs cells slots mc ms g rest (Qc As.toArray) (free) := by
  obtain ⟨⟨hrc, hrs, hfr, hlo, hws, hcw⟩, hcode, hini, hy, hlen, hl, hstt⟩ := cw
  have hK : Back l R p e below s args y 3 8 (PreOf R mc ms Pc) (PostOf Qc mc ms free) := va_backW (hh := hh) (bytes := bytes) (maxL := maxL) (ret := ret) hM hp.1 hrc hrs hfr hlo hws hcw (fun a' U hW => word_at hW (Or.inl (by first | rfl | simp [Cond.onTables, Cond.keeps, Cond.steady])) hini)
  obtain ⟨hx, hb, hml, ho, -⟩ := S
  intro T hT X
  obtain ⟨v, vm₁, ⟨U', l2, c2, s2⟩, hW₁, X', ⟨g', mk, t, L, e1, e2, hq, h1, hL, h2, h3⟩, st⟩ := vx_callSW X hx (hh := hh) (bytes := bytes) (maxL := maxL) (ret := ret) ho hl hstt hini hcode hy hK hg (hsize.trans hml.symm) (argsL := As) (rest := rest) (fun sig h => hn.trans (hlen sig h)) hstack hW (by rw [hb]; exact hdg)
    (fun vm₁ hW₁ => ⟨hf.1, hf.2, hp.2 (T.setVm vm₁) hT hW₁⟩)
  dsimp only [Pt.U, Pt.locs, Pt.cells, Pt.slots] at X' e1 e2 h1 h2 h3 st
  subst h1; subst h2; subst h3
  exact ⟨v, (T.setVm vm₁).calling g' mk As.toArray, t, U', L, hT, X', hL, e1, e2, hq, st⟩
/-- not caught here, past rows that name other classes: it goes on to the caller -/
theorem vx_outP {p : Program} {l : Launch} {e : Env} {R : Room} {s : State} {m : MethodId} {args : Array Value} {below : List Frame} {meth : Method} {c : Code} {H : Heap} {locs : List Loc} {cells slots : Nat} {free : Addr → Prop} {ls : Array Slot} {rest : List Value} {Qc : Array Value → State → Outcome → State → Prop} {XC : String → State → State → Prop}
    {pc : Nat} {own E : String} {ce : Cell} {q : Addr} {mc ms : Nat} (hown : s.vm.findClass own = some m.cls) (hlocks : meth.locks = false)
    (hpass : ∀ z ∈ c.exceptionTable.toList, covers z pc = false ∨ (z.catchType ≠ 0 ∧ ∃ nm : String, (Cond.classLink own z.catchType nm).before args s = true ∧ va_Nc E nm s)) (hcell : H[q]? = some ce) (hv : ce.vm = .none) (hcl : s.vm.findClass E = some ce.cls)
    (hx : ∀ t : State, t.heap = H → s.vm.Alike t.vm → XC E s t) (hf : ∀ z ∈ locs, free z.base) (hc : cells ≤ mc) (hs : slots ≤ ms) :
    vx_W p l e R s m args below meth c H locs cells slots (vx_MQ below Qc XC args s mc ms free) (F0 m pc ls rest) q := by
  intro T hT X
  have hpl : e.platform.magicAccessors = ({} : Platform).magicAccessors := by rw [X.admits.platform]
  obtain ⟨vm', hW', X', st⟩ := X.outThrough hlocks q (g := F0 m pc ls rest) rfl rfl rfl (cell := ce) (by rw [hT]; exact hcell) (by rw [hv]; rfl)
    (by obtain ⟨k9, h9, -⟩ := Vm.findClass_spec hcl; exact ⟨k9, h9⟩) (fun z hz => by
      rcases hpass z hz with h | ⟨hz0, nm, hl1, hn1⟩
      · exact Or.inl h
      · obtain ⟨c6, hc6, hcl6⟩ := Cond.classLink_spec hown hl1 e.platform hpl
        obtain ⟨a8, b8, h1, h2, h3⟩ := hn1
        cases Option.some.inj (h1.symm.trans hcl)
        cases Option.some.inj (h2.symm.trans hc6)
        exact Or.inr ⟨hz0, _, hcl6, h3⟩)
  obtain ⟨g₀, hfr⟩ := X'.frames_eq
  have hcell9 : ((T.setVm vm').setFrames (.throwing q :: below)).heap[q]? = some ce := by
    show T.heap[q]? = some ce
    rw [hT]; exact hcell
  have hend : Ended ((T.setVm vm').setFrames (.throwing q :: below)) below (.threw q) := State.frames_setFrames _ (State.cur_lt_of_frames hfr)
  refine ⟨(T.setVm vm').setFrames (.throwing q :: below), ?_, .threw q, X'.here.running, hend, Or.inr ⟨q, rfl, E, ce, locs, hx _ hT (X'.ends _).1.alike, hcell9, hv, hcl, (X'.ends _).1, (X'.ends _).2.mono hc hs, hf⟩⟩
  rw [X.pushThrowing_eq]
  exact st
/-- a thing of a world lies in the heap -/
theorem vx_lt {D : va_G} {cl : List vw_C} {ws : va_W} {H1 : Heap} (h : va_P D cl ws H1) {k : Nat} {q : Nat × va_E} (hk : ws[k]? = some q) : q.1 < H1.size := (h k q hk).lt
end VXS
/-! ===== END ===== -/
/-! ===== BEGIN methods with a table of their own: called by a name, returning or throwing ===== -/
section VXH
/-! vx_backW, vx_callVX, vx_callSX, vx_callVW, vx_runVW, vx_runVX, vx_runSX, vx_ofWH follow the same proofs as their sisters above (Free/Laws.lean, Shelf42/LK1.lean); vx_outP calls Shelf42/NT130.lean (outThrough). -/
section
variable {l : Launch} {R : Room} {p : Program} {e : Env} {below : List Frame} {s : State} {sargs : Array Value} {y : MethodName} {len W9 : Nat}
theorem vx_backW {ws : List Cond} {rm : Room} {Pc : Array Value → State → Prop} {Qc : Array Value → State → Outcome → State → Prop} {XC : String → State → State → Prop} {mc ms : Nat} {free : Addr → Prop} {bytes : ByteArray} {maxL : Nat} {ret : Option FieldType} {hh : List (Nat × Nat × Nat × Nat)}
    (hM : vx_Met l y ws rm Pc Qc XC mc ms free) (hblind : FrameBlind Pc) (hrc : rm.cells = mc) (hrs : rm.slots = ms)
    (hframes : rm.frames + 1 ≤ R.frames) (hlocals : W9 + (maxL + 11) + rm.locals ≤ R.locals)
    (hws : ∀ w ∈ ws, ∀ a' U, s.WarmedH U.vm → w.before a' U = true) (hcode : Cond.codeWith y bytes maxL ret hh ∈ ws) (hinit : ∀ a' U, s.WarmedH U.vm → (Cond.initialized y.cls).before a' U = true) :
    vx_Back l R p e below s sargs y len W9 (PreOf R mc ms Pc) (PostOf Qc mc ms free) (vx_Post XC mc ms free) := by
  intro m meth c A g ig mk a X hg hsize hdg hW hn hp
  have h1 : (headSpec ws rm).pre.before a A.U = true := atoms_intro fun w hw => hws w hw _ _ X.warmed
  have h2 : (Cond.codeWith y bytes maxL ret hh).before a A.U = true := hws _ hcode _ _ X.warmed
  have h3 : (Cond.initialized y.cls).before a A.U = true := hinit _ _ X.warmed
  have h4 : A.cells + (headSpec ws rm).room.cells ≤ R.cells := by rw [show (headSpec ws rm).room.cells = mc from hrc]; exact hp.1
  have h5 : A.slots + (headSpec ws rm).room.slots ≤ R.slots := by rw [show (headSpec ws rm).room.slots = ms from hrs]; exact hp.2.1
  have hPc : Pc a (A.U.calling g mk a) := hblind _ _ _ _ hp.2.2
  obtain ⟨U, Ls, c0, s0⟩ := A
  dsimp only [Pt.U, Pt.locs, Pt.cells, Pt.slots] at h1 h2 h3 h4 h5 X hn hPc ⊢
  obtain ⟨m9, methY, cY, hn9, hmY, hcY, -, hlY, -⟩ := Cond.codeWith_spec h2
  cases Option.some.inj (hn9.symm.trans hn)
  obtain ⟨kY, hkY, -⟩ := className_of_methodNamed hn
  have hinitY : kY.init = .initialized := Cond.initialized_spec (findClass_of_methodNamed hn) hkY h3
  have h : At U g.method c below := by rw [hg]; exact X.here
  have hlocals9 : W9 + (maxL + 11) + (headSpec ws rm).room.locals ≤ R.locals := hlocals
  have happ : (headSpec ws rm).appliesLoose y e.platform (U.calling g mk a) = true :=
    Spec.appliesLoose_calling (g := g) h hdg hn hkY hinitY
      (X.room_calling (g := g) (R' := (headSpec ws rm).room) hsize hmY hcY hframes (by rw [hlY]; omega) h4 h5) h1
  obtain ⟨mid, hmid⟩ := h.above
  have hfr : (U.setTop g).frames = (.java g :: mid) ++ below := by rw [State.frames_setTop' g h.top, hmid]; rfl
  obtain ⟨o, s₂, hsteps, -, hend, hq⟩ := Steps.callFree hM p X.admits X.cas X.clock (acts := []) hfr happ hPc trivial
  have hq' : vx_Q Qc XC mc ms free a (U.calling g mk a) o s₂ := hq
  rw [State.frames_setTop' g h.top] at hend
  obtain ⟨g₀, hg0⟩ := Option.isSome_iff_exists.mp h.top
  obtain ⟨r, hr⟩ := State.topJava?_eq_some.mp hg0
  have hr' : (({ U with heap := s₂.heap, slotsUsed := s₂.slotsUsed } : State).setVm s₂.vm).frames = .java g₀ :: r := hr
  rcases hq' with ⟨hqc, L, hfe, hL⟩ | ⟨q, rfl, E, ce, L, hx, hce, hcv, hcl, hW₂, hsm, hL⟩
  · obtain ⟨⟨v, rfl⟩, hW₂, e2, q2, q3, q4, q5, q6⟩ := id hfe
    have e3 : s₂ = ({ (U.calling g mk a).setFrames s₂.frames with heap := s₂.heap, slotsUsed := s₂.slotsUsed } : State).setVm s₂.vm := by
      have : s₂ = ({ s₂ with vm := (U.calling g mk a).vm } : State).setVm s₂.vm := rfl
      rw [e2] at this
      exact this
    obtain ⟨c₂, i₂, len₂, hc₂, hd₂, hf₂⟩ := hend
    have hW' : U.WarmedH s₂.vm := hW₂
    have hcc : c₂ = c := by
      have h1 : s₂.code? g.method = U.code? g.method := by
        rw [State.code?_eq, State.code?_eq, hW'.alike.method?]
      exact Option.some.inj (hc₂.symm.trans (h1.trans h.code))
    subst hcc
    have hlen : len₂ = len := by rw [hdg] at hd₂; cases hd₂; rfl
    subst hlen
    have hs₂ : s₂ = (({ U with heap := s₂.heap, slotsUsed := s₂.slotsUsed } : State).setVm s₂.vm).setTop { g with pc := g.pc + len₂, stack := v.toList ++ g.stack } := by
      refine e3.trans ?_
      rw [hf₂, State.calling_eq h.top, State.setFrames_setFrames, State.setTop_of_frames _ hr', hr]
      rfl
    have hsame : U.sameButNew ({ U with heap := s₂.heap, slotsUsed := s₂.slotsUsed } : State) L mc ms := by
      refine ⟨?_, q2, q3, q4, q5, q6⟩
      obtain ⟨t, ht, -⟩ := State.frames_cons hr
      show ({ U with heap := s₂.heap, slotsUsed := s₂.slotsUsed } : State) = { U.setFrames U.frames with heap := s₂.heap, slotsUsed := s₂.slotsUsed }
      rw [State.setFrames_self ht]
    subst hg
    refine Or.inl ⟨v, ⟨(({ U with heap := s₂.heap, slotsUsed := s₂.slotsUsed } : State).setVm s₂.vm), Ls ++ L, c0 + mc, s0 + ms⟩,
      ⟨X.admits, X.cas, X.clock, X.frames, X.room, X.hears, X.method, X.code, (X.here.setHeapUsed s₂.heap s₂.slotsUsed).setVm hW'.alike, X.tail, State.WarmedH.trans X.warmed hW', X.limits, X.bytes, X.same.trans (hsame.setVm s.vm)⟩,
      ⟨g, mk, s₂, L, rfl, rfl, hqc, rfl, hL, rfl, rfl⟩, ?_⟩
    show Steps p.tables e below _ ((({ U with heap := s₂.heap, slotsUsed := s₂.slotsUsed } : State).setVm s₂.vm).setTop { g with pc := g.pc + len₂, stack := v.toList ++ g.stack })
    rw [← hs₂]
    exact hsteps
  · obtain ⟨e2, q2, q3, q4, q5, q6⟩ := id hsm
    have e3 : s₂ = ({ (U.calling g mk a).setFrames s₂.frames with heap := s₂.heap, slotsUsed := s₂.slotsUsed } : State).setVm s₂.vm := by
      have : s₂ = ({ s₂ with vm := (U.calling g mk a).vm } : State).setVm s₂.vm := rfl
      rw [e2] at this
      exact this
    have hf₂ : s₂.frames = .throwing q :: .java g :: U.frames.tail := hend
    have hW' : U.WarmedH s₂.vm := hW₂
    have hs₂ : s₂ = ((({ U with heap := s₂.heap, slotsUsed := s₂.slotsUsed } : State).setVm s₂.vm).setTop g).pushFrame (.throwing q) := by
      refine e3.trans ?_
      rw [hf₂, State.calling_eq h.top, State.setFrames_setFrames, State.pushFrame, State.frames_setTop _ hr', State.setTop_of_frames _ hr', State.setFrames_setFrames, hr]
      rfl
    have hsame : U.sameButNew ({ U with heap := s₂.heap, slotsUsed := s₂.slotsUsed } : State) L mc ms := by
      refine ⟨?_, q2, q3, q4, q5, q6⟩
      obtain ⟨t, ht, -⟩ := State.frames_cons hr
      show ({ U with heap := s₂.heap, slotsUsed := s₂.slotsUsed } : State) = { U.setFrames U.frames with heap := s₂.heap, slotsUsed := s₂.slotsUsed }
      rw [State.setFrames_self ht]
    subst hg
    refine Or.inr ⟨q, ⟨(({ U with heap := s₂.heap, slotsUsed := s₂.slotsUsed } : State).setVm s₂.vm), Ls ++ L, c0 + mc, s0 + ms⟩,
      ⟨X.admits, X.cas, X.clock, X.frames, X.room, X.hears, X.method, X.code, (X.here.setHeapUsed s₂.heap s₂.slotsUsed).setVm hW'.alike, X.tail, State.WarmedH.trans X.warmed hW', X.limits, X.bytes, X.same.trans (hsame.setVm s.vm)⟩,
      ⟨g, mk, s₂, L, E, ce, rfl, rfl, hx, hce, hcv, hcl, rfl, hL, rfl, rfl⟩, ?_⟩
    show Steps p.tables e below _ (((({ U with heap := s₂.heap, slotsUsed := s₂.slotsUsed } : State).setVm s₂.vm).setTop g).pushFrame (.throwing q))
    rw [← hs₂]
    exact hsteps
end
variable {p : Program} {l : Launch} {e : Env} {R : Room} {s : State} {m : MethodId} {args : Array Value} {below : List Frame} {meth : Method} {c : Code} {T : State} {H : Heap} {locs : List Loc} {cells slots : Nat}
theorem vx_callVX (X : Stand p l e R s m args below meth c T locs cells slots) (hexec : p.tables.exec = Jvm.exec) {own C : String} {index : Nat} {y : MethodName} {bytes : ByteArray} {maxL : Nat} {ret : Option FieldType} {hh : List (Nat × Nat × Nat × Nat)}
    (hown : s.vm.findClass own = some m.cls) (hlink : (Cond.methodLink own index y).before args s = true) (hinst : (Cond.instanceMethod y).before args s = true) (hsel : (Cond.selects C y y).before args s = true)
    (hcode : (Cond.codeWith y bytes maxL ret hh).before args s = true) (hy : y.cls ≠ "java/lang/invoke/MethodHandle" ∧ y.cls ≠ "java/lang/invoke/VarHandle")
    {W9 : Nat} {Pre : Pt → Array Value → Prop} {Post : Pt → Array Value → Option Value → Pt → Prop} {PostX : Pt → Array Value → Addr → Pt → Prop} (hK : vx_Back l R p e below s args y 3 W9 Pre Post PostX)
    {b : Addr} {cellB : Cell} (hcell : T.heap[b]? = some cellB) (hobj : cellB.vm.isStatics = false) (hcls : s.vm.findClass C = some cellB.cls)
    {g : JFrame} (hg : g.method = m) (hsize : g.locals.size = c.maxLocals) {argsL rest : List Value} (hlen : ∀ sig, parseMethodDescriptor y.desc = some sig → argsL.length = sig.parameters.length)
    (hstack : g.stack = argsL.reverse ++ .ref b :: rest) (hW : 2 * g.monitorRoom + (rest.map fun v => v.category).sum ≤ W9) (hdg : decode c.code g.pc = .ok (.invokevirtual index, 3))
    (hpre : ∀ vm₁, s.WarmedH vm₁ → Pre ⟨T.setVm vm₁, locs, cells, slots⟩ (Value.ref b :: argsL).toArray) :
    (∃ (v : Option Value) (vm₁ : Vm) (B : Pt), s.WarmedH vm₁ ∧ Stand p l e R s m args below meth c B.U B.locs B.cells B.slots ∧ Post ⟨T.setVm vm₁, locs, cells, slots⟩ (Value.ref b :: argsL).toArray v B ∧
      ∀ target, Steps p.tables e below (B.U.setTop { g with pc := g.pc + 3, stack := v.toList ++ rest }) target → Steps p.tables e below (T.setTop g) target) ∨
    (∃ (q : Addr) (vm₁ : Vm) (B : Pt), s.WarmedH vm₁ ∧ Stand p l e R s m args below meth c B.U B.locs B.cells B.slots ∧ PostX ⟨T.setVm vm₁, locs, cells, slots⟩ (Value.ref b :: argsL).toArray q B ∧
      Steps p.tables e below (T.setTop g) ((B.U.setTop { g with stack := rest }).pushFrame (.throwing q))) := by
  obtain ⟨mk, methM, hnamed, hmethM, hstM, habM⟩ := Cond.instanceMethod_spec hinst
  obtain ⟨m8, methM', cM, hn8, hmethM', -, -, -, -, -, -, hsigM⟩ := Cond.codeWith_spec hcode
  cases Option.some.inj (hn8.symm.trans hnamed)
  cases hmethM.symm.trans hmethM'
  obtain ⟨c2, r2, m2, q1, q2, q3, q4, kP, hkP, hkPi⟩ := Cond.selects_spec hsel
  cases hcls.symm.trans q1
  cases (State.methodFound?_of_named hnamed hy).symm.trans q2
  cases hnamed.symm.trans q3
  have hselP : selectMethod e.platform s.vm cellB.cls mk = .method mk := by rw [Launch.admits_selectMethod X.admits]; exact q4
  obtain ⟨vm₁, X₁, hstep₁⟩ := X.invokevirtual hexec hown hlink hnamed hmethM hstM hkP hkPi hy (a := b) (cell := cellB) hcell
    (fun z h => by rw [h] at hobj; cases hobj) hselP hmethM habM hkP hkPi (g := g) hg (argsL := argsL) (rest := rest) (hlen _ hsigM) hstack hdg
  rcases hK m meth c ⟨T.setVm vm₁, locs, cells, slots⟩ { g with stack := rest } (.invokevirtual index) mk (Value.ref b :: argsL).toArray X₁ hg hsize hdg hW (X₁.named hnamed) (hpre vm₁ X₁.warmed) with ⟨v, B, X', hpost, hsteps⟩ | ⟨q, B, X', hpost, hsteps⟩
  · exact Or.inl ⟨v, vm₁, B, X₁.warmed, X', hpost, fun target h => hstep₁ _ fun acts => by rw [doInvoke_state]; exact hsteps.trans h⟩
  · exact Or.inr ⟨q, vm₁, B, X₁.warmed, X', hpost, hstep₁ _ fun acts => by rw [doInvoke_state]; exact hsteps⟩
theorem vx_callSX (X : Stand p l e R s m args below meth c T locs cells slots) (hexec : p.tables.exec = Jvm.exec) {own : String} {index : Nat} {y : MethodName} {bytes : ByteArray} {maxL : Nat} {ret : Option FieldType} {hh : List (Nat × Nat × Nat × Nat)}
    (hown : s.vm.findClass own = some m.cls) (hlink : (Cond.methodLink own index y).before args s = true) (hstat : (Cond.static y).before args s = true) (hinit : (Cond.initialized y.cls).before args s = true)
    (hcode : (Cond.codeWith y bytes maxL ret hh).before args s = true) (hy : y.cls ≠ "java/lang/invoke/MethodHandle" ∧ y.cls ≠ "java/lang/invoke/VarHandle")
    {W9 : Nat} {Pre : Pt → Array Value → Prop} {Post : Pt → Array Value → Option Value → Pt → Prop} {PostX : Pt → Array Value → Addr → Pt → Prop} (hK : vx_Back l R p e below s args y 3 W9 Pre Post PostX)
    {g : JFrame} (hg : g.method = m) (hsize : g.locals.size = c.maxLocals) {argsL rest : List Value} (hlen : ∀ sig, parseMethodDescriptor y.desc = some sig → argsL.length = sig.parameters.length)
    (hstack : g.stack = argsL.reverse ++ rest) (hW : 2 * g.monitorRoom + (rest.map fun v => v.category).sum ≤ W9) (hdg : decode c.code g.pc = .ok (.invokestatic index, 3))
    (hpre : ∀ vm₁, s.WarmedH vm₁ → Pre ⟨T.setVm vm₁, locs, cells, slots⟩ argsL.toArray) :
    (∃ (v : Option Value) (vm₁ : Vm) (B : Pt), s.WarmedH vm₁ ∧ Stand p l e R s m args below meth c B.U B.locs B.cells B.slots ∧ Post ⟨T.setVm vm₁, locs, cells, slots⟩ argsL.toArray v B ∧
      ∀ target, Steps p.tables e below (B.U.setTop { g with pc := g.pc + 3, stack := v.toList ++ rest }) target → Steps p.tables e below (T.setTop g) target) ∨
    (∃ (q : Addr) (vm₁ : Vm) (B : Pt), s.WarmedH vm₁ ∧ Stand p l e R s m args below meth c B.U B.locs B.cells B.slots ∧ PostX ⟨T.setVm vm₁, locs, cells, slots⟩ argsL.toArray q B ∧
      Steps p.tables e below (T.setTop g) ((B.U.setTop { g with stack := rest }).pushFrame (.throwing q))) := by
  obtain ⟨mk, methM, cM, hnamed, hmethM, -, -, -, -, -, -, hsigM⟩ := Cond.codeWith_spec hcode
  have hstatic : methM.isStatic = true := Cond.static_spec hnamed hmethM hstat
  obtain ⟨kP, hkP, -⟩ := className_of_methodNamed hnamed
  have hinitP : kP.init = .initialized := Cond.initialized_spec (findClass_of_methodNamed hnamed) hkP hinit
  obtain ⟨vm₁, X₁, hstep₁⟩ := X.invokestatic hexec hown hlink hnamed hmethM hstatic hkP hinitP hy (g := g) hg (argsL := argsL) (rest := rest) (hlen _ hsigM) hstack hdg
  rcases hK m meth c ⟨T.setVm vm₁, locs, cells, slots⟩ { g with stack := rest } (.invokestatic index) mk argsL.toArray X₁ hg hsize hdg hW (X₁.named hnamed) (hpre vm₁ X₁.warmed) with ⟨v, B, X', hpost, hsteps⟩ | ⟨q, B, X', hpost, hsteps⟩
  · exact Or.inl ⟨v, vm₁, B, X₁.warmed, X', hpost, fun target h => hstep₁ _ fun acts => by rw [doInvoke_state]; exact hsteps.trans h⟩
  · exact Or.inr ⟨q, vm₁, B, X₁.warmed, X', hpost, hstep₁ _ fun acts => by rw [doInvoke_state]; exact hsteps⟩
theorem vx_callVW (X : Stand p l e R s m args below meth c T locs cells slots) (hexec : p.tables.exec = Jvm.exec) {own C : String} {index : Nat} {y : MethodName} {bytes : ByteArray} {maxL : Nat} {ret : Option FieldType} {hh : List (Nat × Nat × Nat × Nat)}
    (hown : s.vm.findClass own = some m.cls) (hlink : (Cond.methodLink own index y).before args s = true) (hinst : (Cond.instanceMethod y).before args s = true) (hsel : (Cond.selects C y y).before args s = true)
    (hcode : (Cond.codeWith y bytes maxL ret hh).before args s = true) (hy : y.cls ≠ "java/lang/invoke/MethodHandle" ∧ y.cls ≠ "java/lang/invoke/VarHandle")
    {W9 : Nat} {Pre : Pt → Array Value → Prop} {Post : Pt → Array Value → Option Value → Pt → Prop} (hK : Back l R p e below s args y 3 W9 Pre Post)
    {b : Addr} {cellB : Cell} (hcell : T.heap[b]? = some cellB) (hobj : cellB.vm.isStatics = false) (hcls : s.vm.findClass C = some cellB.cls)
    {g : JFrame} (hg : g.method = m) (hsize : g.locals.size = c.maxLocals) {argsL rest : List Value} (hlen : ∀ sig, parseMethodDescriptor y.desc = some sig → argsL.length = sig.parameters.length)
    (hstack : g.stack = argsL.reverse ++ .ref b :: rest) (hW : 2 * g.monitorRoom + (rest.map fun v => v.category).sum ≤ W9) (hdg : decode c.code g.pc = .ok (.invokevirtual index, 3))
    (hpre : ∀ vm₁, s.WarmedH vm₁ → Pre ⟨T.setVm vm₁, locs, cells, slots⟩ (Value.ref b :: argsL).toArray) :
    ∃ (v : Option Value) (vm₁ : Vm) (B : Pt), s.WarmedH vm₁ ∧ Stand p l e R s m args below meth c B.U B.locs B.cells B.slots ∧ Post ⟨T.setVm vm₁, locs, cells, slots⟩ (Value.ref b :: argsL).toArray v B ∧
      ∀ target, Steps p.tables e below (B.U.setTop { g with pc := g.pc + 3, stack := v.toList ++ rest }) target → Steps p.tables e below (T.setTop g) target := by
  obtain ⟨mk, methM, hnamed, hmethM, hstM, habM⟩ := Cond.instanceMethod_spec hinst
  obtain ⟨m8, methM', cM, hn8, hmethM', -, -, -, -, -, -, hsigM⟩ := Cond.codeWith_spec hcode
  cases Option.some.inj (hn8.symm.trans hnamed)
  cases hmethM.symm.trans hmethM'
  obtain ⟨c2, r2, m2, q1, q2, q3, q4, kP, hkP, hkPi⟩ := Cond.selects_spec hsel
  cases hcls.symm.trans q1
  cases (State.methodFound?_of_named hnamed hy).symm.trans q2
  cases hnamed.symm.trans q3
  have hselP : selectMethod e.platform s.vm cellB.cls mk = .method mk := by rw [Launch.admits_selectMethod X.admits]; exact q4
  obtain ⟨vm₁, X₁, hstep₁⟩ := X.invokevirtual hexec hown hlink hnamed hmethM hstM hkP hkPi hy (a := b) (cell := cellB) hcell
    (fun z h => by rw [h] at hobj; cases hobj) hselP hmethM habM hkP hkPi (g := g) hg (argsL := argsL) (rest := rest) (hlen _ hsigM) hstack hdg
  obtain ⟨v, B, X', hpost, hsteps⟩ := hK m meth c ⟨T.setVm vm₁, locs, cells, slots⟩ { g with stack := rest } (.invokevirtual index) mk (Value.ref b :: argsL).toArray X₁ hg hsize hdg hW (X₁.named hnamed) (hpre vm₁ X₁.warmed)
  exact ⟨v, vm₁, B, X₁.warmed, X', hpost, fun target h => hstep₁ _ fun acts => by rw [doInvoke_state]; exact hsteps.trans h⟩
abbrev vx_CVW (R : Room) (s : State) (args : Array Value) (own C : String) (index : Nat) (y : MethodName) (bytes : ByteArray) (maxL : Nat) (ret : Option FieldType) (hh : List (Nat × Nat × Nat × Nat)) (ws : List Cond) (rm : Room) (mc ms n : Nat) : Prop :=
  (rm.cells = mc ∧ rm.slots = ms ∧ rm.frames + 1 ≤ R.frames ∧ 8 + (maxL + 11) + rm.locals ≤ R.locals ∧ (∀ w ∈ ws, ∀ (a' : Array Value) (U : State), s.WarmedH U.vm → w.before a' U = true) ∧ Cond.codeWith y bytes maxL ret hh ∈ ws) ∧
  (Cond.codeWith y bytes maxL ret hh).before args s = true ∧ (Cond.initialized y.cls).before args s = true ∧ (y.cls ≠ "java/lang/invoke/MethodHandle" ∧ y.cls ≠ "java/lang/invoke/VarHandle") ∧
  (∀ sig, parseMethodDescriptor y.desc = some sig → n = sig.parameters.length) ∧ (Cond.methodLink own index y).before args s = true ∧ (Cond.instanceMethod y).before args s = true ∧ (Cond.selects C y y).before args s = true
theorem vx_cwVW {own C : String} {index maxL mc ms : Nat} {y : MethodName} {bytes : ByteArray} {ret : Option FieldType} {hh : List (Nat × Nat × Nat × Nat)} {Ts ws ws' : List Cond} {rm : Room} (n : Nat) (ht : ∀ w ∈ Ts, w.before args s = true) (hT : GoodIn Ts (wsV own index C y ws)) (hw : ws = Cond.codeWith y bytes maxL ret hh :: ws') (hrc : rm.cells = mc) (hrs : rm.slots = ms)
    (hd : y.cls = C ∧ y.cls ≠ "java/lang/invoke/MethodHandle" ∧ y.cls ≠ "java/lang/invoke/VarHandle" ∧ (parseMethodDescriptor y.desc).map (fun d => d.parameters.length) = some n) (hR : rm.frames + 1 ≤ R.frames ∧ 8 + (maxL + 11) + rm.locals ≤ R.locals) :
    vx_CVW R s args own C index y bytes maxL ret hh ws rm mc ms n := by
  obtain ⟨hC, hd⟩ := hd
  subst hC
  have ok : ∀ w ∈ wsV own index y.cls y ws, w.before args s = true := fun w h => ht w (hT w h).1
  have hG : GoodIn Ts ws := fun w h => hT w (by unfold wsV; exact List.mem_append_right _ h)
  have hc : Cond.codeWith y bytes maxL ret hh ∈ ws := by rw [hw]; exact List.mem_cons_self
  refine ⟨⟨hrc, hrs, hR.1, hR.2, pay_in ht hG, hc⟩, ht _ (hG _ hc).1, ok _ (by simp [wsV]), ⟨hd.1, hd.2.1⟩, fun sig h => ?_, ok _ (by simp [wsV]), ok _ (by simp [wsV]), ok _ (by simp [wsV])⟩
  have h2 := hd.2.2
  rw [h] at h2
  exact (Option.some.inj h2).symm
theorem vx_runVW {y : MethodName} {bytes cc : ByteArray} {maxL nL mc ms n index : Nat} {ret : Option FieldType} {hh : List (Nat × Nat × Nat × Nat)} {ws : List Cond} {rm : Room} {Pc : Array Value → State → Prop} {Qc : Array Value → State → Outcome → State → Prop} {free : Addr → Prop} {Ts : List Cond} {own C : String} {b : Addr} {As rest : List Value} {g : JFrame}
    (S : CallFix p m c cc nL s args Ts own) (hM : Met l y ws rm Pc Qc mc ms free) (cw : vx_CVW R s args own C index y bytes maxL ret hh ws rm mc ms n) (hp : PreV s H C b Pc As)
    (hg : g.method = m) (hn : As.length = n) (hsize : g.locals.size = nL) (hstack : g.stack = As.reverse ++ .ref b :: rest) (hW : 2 * g.monitorRoom + (rest.map fun v => v.category).sum ≤ 8) (hdg : decode cc g.pc = .ok (.invokevirtual index, 3)) (hf : cells + mc ≤ R.cells ∧ slots + ms ≤ R.slots) :
    va_Run p l e R s m args below meth c H locs cells slots mc ms g rest (Qc (Value.ref b :: As).toArray) free := by
  obtain ⟨⟨hrc, hrs, hfr, hlo, hws, hcw⟩, hcode, hini, hy, hlen, hl, hin, hse⟩ := cw
  have hK : Back l R p e below s args y 3 8 (PreOf R mc ms Pc) (PostOf Qc mc ms free) := va_backW (hh := hh) (bytes := bytes) (maxL := maxL) (ret := ret) hM hp.1 hrc hrs hfr hlo hws hcw (fun a' U hW => word_at hW (Or.inl (by first | rfl | simp [Cond.onTables, Cond.keeps, Cond.steady])) hini)
  obtain ⟨hx, hb, hml, ho, -⟩ := S
  obtain ⟨-, ⟨cellB, hcB, hoB, hclB⟩, hPc⟩ := hp
  intro T hT X
  obtain ⟨v, vm₁, ⟨U', l2, c2, s2⟩, hW₁, X', ⟨g', mk, t, L, e1, e2, hq, h1, hL, h2, h3⟩, st⟩ := vx_callVW X hx (C := C) (hh := hh) (bytes := bytes) (maxL := maxL) (ret := ret) ho hl hin hse hcode hy hK (by rw [hT]; exact hcB) hoB hclB hg (hsize.trans hml.symm) (argsL := As) (rest := rest) (fun sig h => hn.trans (hlen sig h)) hstack hW (by rw [hb]; exact hdg)
    (fun vm₁ hW₁ => ⟨hf.1, hf.2, hPc (T.setVm vm₁) hT hW₁⟩)
  dsimp only [Pt.U, Pt.locs, Pt.cells, Pt.slots] at X' e1 e2 h1 h2 h3 st
  subst h1; subst h2; subst h3
  exact ⟨v, (T.setVm vm₁).calling g' mk (Value.ref b :: As).toArray, t, U', L, hT, X', hL, e1, e2, hq, st⟩
section
variable {y : MethodName} {bytes cc : ByteArray} {maxL nL mc ms n index : Nat} {ret : Option FieldType} {ws : List Cond} {rm : Room} {Pc : Array Value → State → Prop} {Qc : Array Value → State → Outcome → State → Prop} {XC : String → State → State → Prop} {free : Addr → Prop} {Ts : List Cond} {own C : String} {b : Addr} {As rest : List Value} {g : JFrame}
theorem vx_runVX {hh : List (Nat × Nat × Nat × Nat)} (S : CallFix p m c cc nL s args Ts own) (hM : vx_Met l y ws rm Pc Qc XC mc ms free) (cw : vx_CVW R s args own C index y bytes maxL ret hh ws rm mc ms n) (hp : PreV s H C b Pc As)
    (hg : g.method = m) (hn : As.length = n) (hsize : g.locals.size = nL) (hstack : g.stack = As.reverse ++ .ref b :: rest) (hW : 2 * g.monitorRoom + (rest.map fun v => v.category).sum ≤ 8) (hdg : decode cc g.pc = .ok (.invokevirtual index, 3)) (hf : cells + mc ≤ R.cells ∧ slots + ms ≤ R.slots) :
    vx_Run p l e R s m args below meth c H locs cells slots mc ms g rest (Qc (Value.ref b :: As).toArray) XC free := by
  obtain ⟨⟨hrc, hrs, hfr, hlo, hws, hcw⟩, hcode, hini, hy, hlen, hl, hin, hse⟩ := cw
  have hK : vx_Back l R p e below s args y 3 8 (PreOf R mc ms Pc) (PostOf Qc mc ms free) (vx_Post XC mc ms free) := vx_backW (hh := hh) (bytes := bytes) (maxL := maxL) (ret := ret) hM hp.1 hrc hrs hfr hlo hws hcw (fun a' U hW => word_at hW (Or.inl (by first | rfl | simp [Cond.onTables, Cond.keeps, Cond.steady])) hini)
  obtain ⟨hx, hb, hml, ho, -⟩ := S
  obtain ⟨-, ⟨cellB, hcB, hoB, hclB⟩, hPc⟩ := hp
  intro T hT X
  rcases vx_callVX X hx (C := C) (hh := hh) (bytes := bytes) (maxL := maxL) (ret := ret) ho hl hin hse hcode hy hK (by rw [hT]; exact hcB) hoB hclB hg (hsize.trans hml.symm) (argsL := As) (rest := rest) (fun sig h => hn.trans (hlen sig h)) hstack hW (by rw [hb]; exact hdg)
    (fun vm₁ hW₁ => ⟨hf.1, hf.2, hPc (T.setVm vm₁) hT hW₁⟩) with ⟨v, vm₁, ⟨U', l2, c2, s2⟩, hW₁, X', ⟨g', mk, t, L, e1, e2, hq, h1, hL, h2, h3⟩, st⟩ | ⟨q, vm₁, ⟨U', l2, c2, s2⟩, hW₁, X', ⟨g', mk, t, L, E, ce, e1, e2, hq, hce, hcv, hcl, h1, hL, h2, h3⟩, st⟩
  · dsimp only [Pt.U, Pt.locs, Pt.cells, Pt.slots] at X' e1 e2 h1 h2 h3 st
    subst h1; subst h2; subst h3
    exact Or.inl ⟨v, (T.setVm vm₁).calling g' mk (Value.ref b :: As).toArray, t, U', L, hT, X', hL, e1, e2, hq, st⟩
  · dsimp only [Pt.U, Pt.locs, Pt.cells, Pt.slots] at X' e1 e2 h1 h2 h3 st hcl
    subst h1; subst h2; subst h3
    exact Or.inr ⟨q, (T.setVm vm₁).calling g' mk (Value.ref b :: As).toArray, t, U', L, E, ce, hT, X', hL, e1, e2, hq, hce, hcv, vx_cls hW₁ hcl, st⟩
theorem vx_runSX {hh : List (Nat × Nat × Nat × Nat)} (S : CallFix p m c cc nL s args Ts own) (hM : vx_Met l y ws rm Pc Qc XC mc ms free) (cw : vx_CSW R s args own index y bytes maxL ret hh ws rm mc ms n) (hp : PreS s H Pc As)
    (hg : g.method = m) (hn : As.length = n) (hsize : g.locals.size = nL) (hstack : g.stack = As.reverse ++ rest) (hW : 2 * g.monitorRoom + (rest.map fun v => v.category).sum ≤ 8) (hdg : decode cc g.pc = .ok (.invokestatic index, 3)) (hf : cells + mc ≤ R.cells ∧ slots + ms ≤ R.slots) :
    vx_Run p l e R s m args below meth c H locs cells slots mc ms g rest (Qc As.toArray) XC free := by
  obtain ⟨⟨hrc, hrs, hfr, hlo, hws, hcw⟩, hcode, hini, hy, hlen, hl, hstt⟩ := cw
  have hK : vx_Back l R p e below s args y 3 8 (PreOf R mc ms Pc) (PostOf Qc mc ms free) (vx_Post XC mc ms free) := vx_backW (hh := hh) (bytes := bytes) (maxL := maxL) (ret := ret) hM hp.1 hrc hrs hfr hlo hws hcw (fun a' U hW => word_at hW (Or.inl (by first | rfl | simp [Cond.onTables, Cond.keeps, Cond.steady])) hini)
  obtain ⟨hx, hb, hml, ho, -⟩ := S
  intro T hT X
  rcases vx_callSX X hx (hh := hh) (bytes := bytes) (maxL := maxL) (ret := ret) ho hl hstt hini hcode hy hK hg (hsize.trans hml.symm) (argsL := As) (rest := rest) (fun sig h => hn.trans (hlen sig h)) hstack hW (by rw [hb]; exact hdg)
    (fun vm₁ hW₁ => ⟨hf.1, hf.2, hp.2 (T.setVm vm₁) hT hW₁⟩) with ⟨v, vm₁, ⟨U', l2, c2, s2⟩, hW₁, X', ⟨g', mk, t, L, e1, e2, hq, h1, hL, h2, h3⟩, st⟩ | ⟨q, vm₁, ⟨U', l2, c2, s2⟩, hW₁, X', ⟨g', mk, t, L, E, ce, e1, e2, hq, hce, hcv, hcl, h1, hL, h2, h3⟩, st⟩
  · dsimp only [Pt.U, Pt.locs, Pt.cells, Pt.slots] at X' e1 e2 h1 h2 h3 st
    subst h1; subst h2; subst h3
    exact Or.inl ⟨v, (T.setVm vm₁).calling g' mk As.toArray, t, U', L, hT, X', hL, e1, e2, hq, st⟩
  · dsimp only [Pt.U, Pt.locs, Pt.cells, Pt.slots] at X' e1 e2 h1 h2 h3 st hcl
    subst h1; subst h2; subst h3
    exact Or.inr ⟨q, (T.setVm vm₁).calling g' mk As.toArray, t, U', L, E, ce, hT, X', hL, e1, e2, hq, hce, hcv, vx_cls hW₁ hcl, st⟩
end
end VXH
theorem vx_ofWH {l : Launch} {y : MethodName} {ws ws' : List Cond} {rm : Room} {Pc : Array Value → State → Prop} {Qc : Array Value → State → Outcome → State → Prop} {XC : String → State → State → Prop} {mc ms : Nat} {free : Addr → Prop} {cc : ByteArray} {maxL : Nat} {ret : Option FieldType} {hh : List (Nat × Nat × Nat × Nat)}
    (hy : plainName y.cls = true) (hw : ws = Cond.codeWith y cc maxL ret hh :: ws')
    (body : ∀ p e s m args below meth c s₁, BodyLoose p l y (headSpec ws rm) cc maxL ret e s m args below meth c s₁ → c.maxLocals = maxL → Pc args s →
      W p l e (headSpec ws rm).room s m args below meth c s.heap [] 0 0 (vx_MQ below Qc XC args s mc ms free) (entryFrame m args maxL)) : vx_Met l y ws rm Pc Qc XC mc ms free := by
  refine MetFree.of_bodyS (code := cc) (maxLocals := maxL) (ret := ret) hy ?_ ?_
  · intro args s m h hn
    obtain ⟨m9, meth, c, hn9, h1, h2, h3, h4, -, h5, h6, -⟩ := Cond.codeWith_spec (atoms_spec (ws := ws) h _ (by rw [hw]; exact List.mem_cons_self))
    cases hn.symm.trans hn9
    exact ⟨meth, c, h1, h2, h3, h4, h5, h6⟩
  · intro p e s m args below meth c s₁ B hml hP _
    have hh0 : s₁.heap = s.heap := by rw [B.state]; rfl
    obtain ⟨t, a1, o, b1, b2, b3⟩ := body p e s m args below meth c s₁ B hml hP s₁ hh0 (Stand.of_body B)
    exact ⟨t, o, a1, b1, b2, b3⟩
/-! ===== END ===== -/
end
section
/-! ===== BEGIN printed: names, fields, word lists, decode rows ===== -/
def RX0 : String := "PaperKeeper$Copies"
def TX0 : u_T := fun k => match k with
  | 0 => ("PaperKeeper$Copies", "papers", "[I", true)
  | 1 => ("PaperKeeper$Copies", "versions", "[I", true)
  | 2 => ("PaperKeeper$Copies", "walls", "[I", true)
  | _ => ("PaperKeeper$Copies", "count", "I", false)
def tyX0 : Nat → FieldType := fun k => match k with
  | 0 => .array .int
  | 1 => .array .int
  | 2 => .array .int
  | _ => .int
abbrev wsX00 : List Cond := u_ws RX0 TX0 4
theorem nmX0 : ∀ a, a < 4 → ∀ b, b < 4 → a ≠ b → (TX0 a).2.1 ≠ (TX0 b).2.1 := by decide +kernel
theorem tyX0_ok : ∀ k, k < 4 → parseFieldDescriptor (TX0 k).2.2.1 = some (tyX0 k) := by decide +kernel
abbrev cX0_init : ByteArray := prog_2_method_1_code
def yX0_init : MethodName := ⟨RX0, "<init>", "()V"⟩
abbrev cX0_add : ByteArray := prog_2_method_2_code
def yX0_add : MethodName := ⟨RX0, "add", "(III)I"⟩
abbrev cX0_countOld : ByteArray := prog_2_method_3_code
def yX0_countOld : MethodName := ⟨RX0, "countOld", "(II)I"⟩
def RX1 : String := "PaperKeeper$Draft"
def TX1 : u_T := fun k => match k with
  | 0 => ("PaperKeeper$Draft", "reviewers", "[I", true)
  | 1 => ("PaperKeeper$Draft", "reviewed", "[Z", true)
  | 2 => ("PaperKeeper$Draft", "answered", "[Z", true)
  | 3 => ("PaperKeeper$Draft", "reads", "[Z", true)
  | 4 => ("PaperKeeper$Draft", "confirmed", "[Z", true)
  | 5 => ("PaperKeeper$Draft", "author", "I", false)
  | 6 => ("PaperKeeper$Draft", "text", "I", false)
  | 7 => ("PaperKeeper$Draft", "round", "I", false)
  | 8 => ("PaperKeeper$Draft", "reviewerCount", "I", false)
  | 9 => ("PaperKeeper$Draft", "remarkCount", "I", false)
  | 10 => ("PaperKeeper$Draft", "approved", "Z", false)
  | _ => ("PaperKeeper$Draft", "firstDay", "I", false)
def tyX1 : Nat → FieldType := fun k => match k with
  | 0 => .array .int
  | 1 => .array .boolean
  | 2 => .array .boolean
  | 3 => .array .boolean
  | 4 => .array .boolean
  | 5 => .int
  | 6 => .int
  | 7 => .int
  | 8 => .int
  | 9 => .int
  | 10 => .boolean
  | _ => .int
abbrev wsX10 : List Cond := u_ws RX1 TX1 12
theorem nmX1 : ∀ a, a < 12 → ∀ b, b < 12 → a ≠ b → (TX1 a).2.1 ≠ (TX1 b).2.1 := by decide +kernel
theorem tyX1_ok : ∀ k, k < 12 → parseFieldDescriptor (TX1 k).2.2.1 = some (tyX1 k) := by decide +kernel
abbrev cX1_init : ByteArray := prog_3_method_1_code
def yX1_init : MethodName := ⟨RX1, "<init>", "()V"⟩
abbrev cX1_begin : ByteArray := prog_3_method_2_code
def yX1_begin : MethodName := ⟨RX1, "begin", "(II)V"⟩
abbrev cX1_beginRound : ByteArray := prog_3_method_3_code
def yX1_beginRound : MethodName := ⟨RX1, "beginRound", "()V"⟩
abbrev cX1_hasReviewer : ByteArray := prog_3_method_4_code
def yX1_hasReviewer : MethodName := ⟨RX1, "hasReviewer", "(I)Z"⟩
abbrev cX1_nextReviewer : ByteArray := prog_3_method_5_code
def yX1_nextReviewer : MethodName := ⟨RX1, "nextReviewer", "()I"⟩
abbrev cX1_nextReader : ByteArray := prog_3_method_6_code
def yX1_nextReader : MethodName := ⟨RX1, "nextReader", "()I"⟩
abbrev cX1_addRemark : ByteArray := prog_3_method_7_code
def yX1_addRemark : MethodName := ⟨RX1, "addRemark", "()I"⟩
abbrev cX1_openRemarks : ByteArray := prog_3_method_8_code
def yX1_openRemarks : MethodName := ⟨RX1, "openRemarks", "()I"⟩
abbrev cX1_nextStep : ByteArray := prog_3_method_9_code
def yX1_nextStep : MethodName := ⟨RX1, "nextStep", "()I"⟩
abbrev cX1_nextPerson : ByteArray := prog_3_method_10_code
def yX1_nextPerson : MethodName := ⟨RX1, "nextPerson", "()I"⟩
abbrev cX1_isReady : ByteArray := prog_3_method_11_code
def yX1_isReady : MethodName := ⟨RX1, "isReady", "(I)Z"⟩
def RX2 : String := "PaperKeeper$Paper"
def TX2 : u_T := fun k => match k with
  | 0 => ("PaperKeeper$Paper", "inOrder", "Z", true)
  | 1 => ("PaperKeeper$Paper", "hangsOn", "[Z", true)
  | 2 => ("PaperKeeper$Paper", "draft", "LPaperKeeper$Draft;", true)
  | 3 => ("PaperKeeper$Paper", "texts", "[I", true)
  | 4 => ("PaperKeeper$Paper", "firstDays", "[I", true)
  | 5 => ("PaperKeeper$Paper", "versionCount", "I", false)
  | 6 => ("PaperKeeper$Paper", "hasDraft", "Z", false)
  | 7 => ("PaperKeeper$Paper", "asked", "Z", false)
  | _ => ("PaperKeeper$Paper", "intervalStart", "I", false)
def tyX2 : Nat → FieldType := fun k => match k with
  | 0 => .boolean
  | 1 => .array .boolean
  | 2 => .object "PaperKeeper$Draft"
  | 3 => .array .int
  | 4 => .array .int
  | 5 => .int
  | 6 => .boolean
  | 7 => .boolean
  | _ => .int
abbrev wsX20 : List Cond := u_ws RX2 TX2 9
theorem nmX2 : ∀ a, a < 9 → ∀ b, b < 9 → a ≠ b → (TX2 a).2.1 ≠ (TX2 b).2.1 := by decide +kernel
theorem tyX2_ok : ∀ k, k < 9 → parseFieldDescriptor (TX2 k).2.2.1 = some (tyX2 k) := by decide +kernel
abbrev cX2_init : ByteArray := prog_4_method_1_code
def yX2_init : MethodName := ⟨RX2, "<init>", "(Z)V"⟩
abbrev cX2_newest : ByteArray := prog_4_method_2_code
def yX2_newest : MethodName := ⟨RX2, "newest", "()I"⟩
abbrev cX2_versionOn : ByteArray := prog_4_method_3_code
def yX2_versionOn : MethodName := ⟨RX2, "versionOn", "(I)I"⟩
abbrev cX2_comeIntoForce : ByteArray := prog_4_method_4_code
def yX2_comeIntoForce : MethodName := ⟨RX2, "comeIntoForce", "(I)Z"⟩
abbrev cX2_needsLook : ByteArray := prog_4_method_5_code
def yX2_needsLook : MethodName := ⟨RX2, "needsLook", "(II)Z"⟩
abbrev cX2_restartInterval : ByteArray := prog_4_method_6_code
def yX2_restartInterval : MethodName := ⟨RX2, "restartInterval", "(I)V"⟩
def RX3 : String := "PaperKeeper"
def TX3 : u_T := fun k => match k with
  | 0 => ("PaperKeeper", "mayReview", "[Z", true)
  | 1 => ("PaperKeeper", "mayApprove", "[Z", true)
  | 2 => ("PaperKeeper", "deputies", "[I", true)
  | 3 => ("PaperKeeper", "papers", "[LPaperKeeper$Paper;", true)
  | 4 => ("PaperKeeper", "copies", "LPaperKeeper$Copies;", true)
  | 5 => ("PaperKeeper", "paperCount", "I", false)
  | 6 => ("PaperKeeper", "interval", "I", false)
  | _ => ("PaperKeeper", "today", "I", false)
def tyX3 : Nat → FieldType := fun k => match k with
  | 0 => .array .boolean
  | 1 => .array .boolean
  | 2 => .array .int
  | 3 => .array (.object "PaperKeeper$Paper")
  | 4 => .object "PaperKeeper$Copies"
  | 5 => .int
  | 6 => .int
  | _ => .int
abbrev wsX30 : List Cond := u_ws RX3 TX3 8
theorem nmX3 : ∀ a, a < 8 → ∀ b, b < 8 → a ≠ b → (TX3 a).2.1 ≠ (TX3 b).2.1 := by decide +kernel
theorem tyX3_ok : ∀ k, k < 8 → parseFieldDescriptor (TX3 k).2.2.1 = some (tyX3 k) := by decide +kernel
abbrev cX3_init : ByteArray := prog_1_method_1_code
def yX3_init : MethodName := ⟨RX3, "<init>", "()V"⟩
abbrev cX3_setRoles : ByteArray := prog_1_method_2_code
def yX3_setRoles : MethodName := ⟨RX3, "setRoles", "(IZZ)V"⟩
abbrev cX3_setDeputy : ByteArray := prog_1_method_3_code
def yX3_setDeputy : MethodName := ⟨RX3, "setDeputy", "(II)I"⟩
abbrev cX3_open : ByteArray := prog_1_method_4_code
def yX3_open : MethodName := ⟨RX3, "open", "(Z)I"⟩
abbrev cX3_hang : ByteArray := prog_1_method_5_code
def yX3_hang : MethodName := ⟨RX3, "hang", "(II)I"⟩
abbrev cX3_setInterval : ByteArray := prog_1_method_6_code
def yX3_setInterval : MethodName := ⟨RX3, "setInterval", "(I)I"⟩
abbrev cX3_draft : ByteArray := prog_1_method_7_code
def yX3_draft : MethodName := ⟨RX3, "draft", "(III)V"⟩
abbrev cX3_change : ByteArray := prog_1_method_8_code
def yX3_change : MethodName := ⟨RX3, "change", "(II)I"⟩
abbrev cX3_drop : ByteArray := prog_1_method_9_code
def yX3_drop : MethodName := ⟨RX3, "drop", "(I)I"⟩
abbrev cX3_reviewer : ByteArray := prog_1_method_10_code
def yX3_reviewer : MethodName := ⟨RX3, "reviewer", "(II)I"⟩
abbrev cX3_reader : ByteArray := prog_1_method_11_code
def yX3_reader : MethodName := ⟨RX3, "reader", "(II)I"⟩
abbrev cX3_review : ByteArray := prog_1_method_12_code
def yX3_review : MethodName := ⟨RX3, "review", "(IIZ)I"⟩
abbrev cX3_answer : ByteArray := prog_1_method_13_code
def yX3_answer : MethodName := ⟨RX3, "answer", "(II)I"⟩
abbrev cX3_approve : ByteArray := prog_1_method_14_code
def yX3_approve : MethodName := ⟨RX3, "approve", "(III)V"⟩
abbrev cX3_confirm : ByteArray := prog_1_method_15_code
def yX3_confirm : MethodName := ⟨RX3, "confirm", "(II)I"⟩
abbrev cX3_pass : ByteArray := prog_1_method_16_code
def yX3_pass : MethodName := ⟨RX3, "pass", "(I)I"⟩
abbrev cX3_look : ByteArray := prog_1_method_17_code
def yX3_look : MethodName := ⟨RX3, "look", "(I)Z"⟩
abbrev cX3_isDue : ByteArray := prog_1_method_18_code
def yX3_isDue : MethodName := ⟨RX3, "isDue", "(I)Z"⟩
abbrev cX3_copy : ByteArray := prog_1_method_19_code
def yX3_copy : MethodName := ⟨RX3, "copy", "(II)I"⟩
abbrev cX3_takeDown : ByteArray := prog_1_method_20_code
def yX3_takeDown : MethodName := ⟨RX3, "takeDown", "(I)I"⟩
abbrev cX3_outOfDate : ByteArray := prog_1_method_21_code
def yX3_outOfDate : MethodName := ⟨RX3, "outOfDate", "(I)I"⟩
abbrev cX3_day : ByteArray := prog_1_method_22_code
def yX3_day : MethodName := ⟨RX3, "day", "()I"⟩
abbrev cX3_step : ByteArray := prog_1_method_23_code
def yX3_step : MethodName := ⟨RX3, "step", "(I)I"⟩
abbrev cX3_inForce : ByteArray := prog_1_method_24_code
def yX3_inForce : MethodName := ⟨RX3, "inForce", "(I)I"⟩
abbrev cX3_text : ByteArray := prog_1_method_25_code
def yX3_text : MethodName := ⟨RX3, "text", "(I)I"⟩
abbrev cX3_inForceOn : ByteArray := prog_1_method_26_code
def yX3_inForceOn : MethodName := ⟨RX3, "inForceOn", "(II)I"⟩
abbrev cX3_since : ByteArray := prog_1_method_27_code
def yX3_since : MethodName := ⟨RX3, "since", "(II)I"⟩
abbrev cX3_waitsFor : ByteArray := prog_1_method_28_code
def yX3_waitsFor : MethodName := ⟨RX3, "waitsFor", "(I)I"⟩
abbrev cX3_checkPerson : ByteArray := prog_1_method_29_code
def yX3_checkPerson : MethodName := ⟨RX3, "checkPerson", "(I)V"⟩
abbrev cX3_checkRange : ByteArray := prog_1_method_30_code
def yX3_checkRange : MethodName := ⟨RX3, "checkRange", "(III)V"⟩
abbrev cX3_checkInForce : ByteArray := prog_1_method_31_code
def yX3_checkInForce : MethodName := ⟨RX3, "checkInForce", "(LPaperKeeper$Paper;)V"⟩
abbrev cX3_countOf : ByteArray := prog_1_method_32_code
def yX3_countOf : MethodName := ⟨RX3, "countOf", "([Z)I"⟩
abbrev cX3_paperAt : ByteArray := prog_1_method_33_code
def yX3_paperAt : MethodName := ⟨RX3, "paperAt", "(I)LPaperKeeper$Paper;"⟩
abbrev cX3_draftOf : ByteArray := prog_1_method_34_code
def yX3_draftOf : MethodName := ⟨RX3, "draftOf", "(LPaperKeeper$Paper;)LPaperKeeper$Draft;"⟩
abbrev cX3_canApprove : ByteArray := prog_1_method_35_code
def yX3_canApprove : MethodName := ⟨RX3, "canApprove", "(I)Z"⟩
abbrev cX3_beginDay : ByteArray := prog_1_method_36_code
def yX3_beginDay : MethodName := ⟨RX3, "beginDay", "()I"⟩
abbrev cX3_askForLooks : ByteArray := prog_1_method_37_code
def yX3_askForLooks : MethodName := ⟨RX3, "askForLooks", "(I)V"⟩
def RX4 : String := "PaperKeeperModel"
def TX4 : u_T := fun k => match k with
  | _ => ("", "", "", false)
def tyX4 : Nat → FieldType := fun k => match k with
  | _ => .int
abbrev wsX40 : List Cond := u_ws RX4 TX4 0
theorem nmX4 : ∀ a, a < 0 → ∀ b, b < 0 → a ≠ b → (TX4 a).2.1 ≠ (TX4 b).2.1 := by decide +kernel
theorem tyX4_ok : ∀ k, k < 0 → parseFieldDescriptor (TX4 k).2.2.1 = some (tyX4 k) := by decide +kernel
def RJ0 : String := "java/lang/String"
def TJ0 : u_T := fun k => match k with
  | _ => ("", "", "", false)
def tyJ0 : Nat → FieldType := fun k => match k with
  | _ => .int
abbrev wsJ00 : List Cond := u_ws RJ0 TJ0 0
theorem nmJ0 : ∀ a, a < 0 → ∀ b, b < 0 → a ≠ b → (TJ0 a).2.1 ≠ (TJ0 b).2.1 := by decide +kernel
theorem tyJ0_ok : ∀ k, k < 0 → parseFieldDescriptor (TJ0 k).2.2.1 = some (tyJ0 k) := by decide +kernel
def RL : String := "PaperKeeperLaw"
abbrev cL_draw : ByteArray := method_2_code
def yL_draw : MethodName := ⟨RL, "draw", "([III)I"⟩
abbrev cL_has : ByteArray := method_3_code
def yL_has : MethodName := ⟨RL, "has", "(II)Z"⟩
abbrev cL_size : ByteArray := method_4_code
def yL_size : MethodName := ⟨RL, "size", "(I)I"⟩
abbrev cL_begins : ByteArray := method_5_code
def yL_begins : MethodName := ⟨RL, "begins", "(LPaperKeeper;III)I"⟩
abbrev cL_approves : ByteArray := method_6_code
def yL_approves : MethodName := ⟨RL, "approves", "(LPaperKeeper;III)I"⟩
abbrev cL_asks : ByteArray := method_7_code
def yL_asks : MethodName := ⟨RL, "asks", "(LPaperKeeper;IIII)I"⟩
abbrev cL_isPaper : ByteArray := method_8_code
def yL_isPaper : MethodName := ⟨RL, "isPaper", "(LPaperKeeper;[I[I[I[II)Z"⟩
abbrev cL_mayApprove : ByteArray := method_9_code
def yL_mayApprove : MethodName := ⟨RL, "mayApprove", "([I[II)Z"⟩
abbrev cL_drafts : ByteArray := method_10_code
def yL_drafts : MethodName := ⟨RL, "drafts", "(LPaperKeeper;IIII[I[I[I[I)Z"⟩
abbrev cL_goesOn : ByteArray := method_11_code
def yL_goesOn : MethodName := ⟨RL, "goesOn", "(LPaperKeeper;III[I[I[I[I)Z"⟩
abbrev cL_passes : ByteArray := method_12_code
def yL_passes : MethodName := ⟨RL, "passes", "(LPaperKeeper;[I[I[I[I)Z"⟩
abbrev cL_copies : ByteArray := method_13_code
def yL_copies : MethodName := ⟨RL, "copies", "(LPaperKeeper;III[I[I[I)Z"⟩
abbrev cL_step : ByteArray := method_14_code
def yL_step : MethodName := ⟨RL, "step", "(LPaperKeeper;III[I[I[I[I[I[I[I[I)Z"⟩
abbrev cL_keeper : ByteArray := method_15_code
def yL_keeper : MethodName := ⟨RL, "keeper", "([II)Z"⟩
abbrev cL_law : ByteArray := code
def yL_law : MethodName := ⟨RL, "law", "([I)Z"⟩
def wsX0_init : List Cond := .code yX0_init cX0_init 1 none :: ([.methodLink RX0 3 objectInit, .instanceMethod objectInit, .code objectInit ⟨#[0xb1]⟩ 1 none, .arrayClass .int, .fieldLink RX0 9 "PaperKeeper$Copies" "papers" "[I", .fieldLink RX0 15 "PaperKeeper$Copies" "versions" "[I", .fieldLink RX0 18 "PaperKeeper$Copies" "walls" "[I"] ++ wsX00)
def wsX0_add : List Cond := .code yX0_add cX0_add 5 (some .int) :: ([.fieldLink RX0 21 "PaperKeeper$Copies" "count" "I", .fieldLink RX0 9 "PaperKeeper$Copies" "papers" "[I", .fieldLink RX0 15 "PaperKeeper$Copies" "versions" "[I", .fieldLink RX0 18 "PaperKeeper$Copies" "walls" "[I"] ++ wsX00)
def wsX0_countOld : List Cond := .code yX0_countOld cX0_countOld 5 (some .int) :: ([.fieldLink RX0 21 "PaperKeeper$Copies" "count" "I", .fieldLink RX0 18 "PaperKeeper$Copies" "walls" "[I", .fieldLink RX0 9 "PaperKeeper$Copies" "papers" "[I", .fieldLink RX0 15 "PaperKeeper$Copies" "versions" "[I"] ++ wsX00)
def wsX1_init : List Cond := .code yX1_init cX1_init 1 none :: ([.methodLink RX1 3 objectInit, .instanceMethod objectInit, .code objectInit ⟨#[0xb1]⟩ 1 none, .arrayClass .int, .fieldLink RX1 9 "PaperKeeper$Draft" "reviewers" "[I", .arrayClass .boolean, .fieldLink RX1 15 "PaperKeeper$Draft" "reviewed" "[Z", .fieldLink RX1 19 "PaperKeeper$Draft" "answered" "[Z", .fieldLink RX1 22 "PaperKeeper$Draft" "reads" "[Z", .fieldLink RX1 25 "PaperKeeper$Draft" "confirmed" "[Z"] ++ wsX10)
def wsX1_beginRound : List Cond := .code yX1_beginRound cX1_beginRound 2 none :: ([.fieldLink RX1 35 "PaperKeeper$Draft" "round" "I", .fieldLink RX1 44 "PaperKeeper$Draft" "remarkCount" "I", .fieldLink RX1 47 "PaperKeeper$Draft" "approved" "Z", .fieldLink RX1 15 "PaperKeeper$Draft" "reviewed" "[Z", .fieldLink RX1 25 "PaperKeeper$Draft" "confirmed" "[Z"] ++ wsX10)
def wsX1_begin : List Cond := .code yX1_begin cX1_begin 4 none :: ([.fieldLink RX1 28 "PaperKeeper$Draft" "author" "I", .fieldLink RX1 32 "PaperKeeper$Draft" "text" "I", .fieldLink RX1 35 "PaperKeeper$Draft" "round" "I", .fieldLink RX1 38 "PaperKeeper$Draft" "reviewerCount" "I", .fieldLink RX1 22 "PaperKeeper$Draft" "reads" "[Z", .methodLink RX1 41 yX1_beginRound, .instanceMethod yX1_beginRound, .selects RX1 yX1_beginRound yX1_beginRound, .initialized RX1, .code yX1_beginRound cX1_beginRound 2 none, .fieldLink RX1 44 "PaperKeeper$Draft" "remarkCount" "I", .fieldLink RX1 47 "PaperKeeper$Draft" "approved" "Z", .fieldLink RX1 15 "PaperKeeper$Draft" "reviewed" "[Z", .fieldLink RX1 25 "PaperKeeper$Draft" "confirmed" "[Z"] ++ wsX10)
def wsX1_hasReviewer : List Cond := .code yX1_hasReviewer cX1_hasReviewer 3 (some .boolean) :: ([.fieldLink RX1 38 "PaperKeeper$Draft" "reviewerCount" "I", .fieldLink RX1 9 "PaperKeeper$Draft" "reviewers" "[I"] ++ wsX10)
def wsX1_nextReviewer : List Cond := .code yX1_nextReviewer cX1_nextReviewer 2 (some .int) :: ([.fieldLink RX1 38 "PaperKeeper$Draft" "reviewerCount" "I", .fieldLink RX1 15 "PaperKeeper$Draft" "reviewed" "[Z", .fieldLink RX1 9 "PaperKeeper$Draft" "reviewers" "[I"] ++ wsX10)
def wsX1_nextReader : List Cond := .code yX1_nextReader cX1_nextReader 2 (some .int) :: ([.fieldLink RX1 22 "PaperKeeper$Draft" "reads" "[Z", .fieldLink RX1 25 "PaperKeeper$Draft" "confirmed" "[Z"] ++ wsX10)
def wsX1_addRemark : List Cond := .code yX1_addRemark cX1_addRemark 2 (some .int) :: ([.fieldLink RX1 44 "PaperKeeper$Draft" "remarkCount" "I", .fieldLink RX1 19 "PaperKeeper$Draft" "answered" "[Z"] ++ wsX10)
def wsX1_openRemarks : List Cond := .code yX1_openRemarks cX1_openRemarks 3 (some .int) :: ([.fieldLink RX1 44 "PaperKeeper$Draft" "remarkCount" "I", .fieldLink RX1 19 "PaperKeeper$Draft" "answered" "[Z"] ++ wsX10)
def wsX1_nextStep : List Cond := .code yX1_nextStep cX1_nextStep 1 (some .int) :: ([.fieldLink RX1 38 "PaperKeeper$Draft" "reviewerCount" "I", .fieldLink RX1 47 "PaperKeeper$Draft" "approved" "Z", .methodLink RX1 51 yX1_nextReviewer, .instanceMethod yX1_nextReviewer, .selects RX1 yX1_nextReviewer yX1_nextReviewer, .initialized RX1, .code yX1_nextReviewer cX1_nextReviewer 2 (some .int), .fieldLink RX1 15 "PaperKeeper$Draft" "reviewed" "[Z", .fieldLink RX1 9 "PaperKeeper$Draft" "reviewers" "[I", .methodLink RX1 55 yX1_openRemarks, .instanceMethod yX1_openRemarks, .selects RX1 yX1_openRemarks yX1_openRemarks, .code yX1_openRemarks cX1_openRemarks 3 (some .int), .fieldLink RX1 44 "PaperKeeper$Draft" "remarkCount" "I", .fieldLink RX1 19 "PaperKeeper$Draft" "answered" "[Z", .methodLink RX1 58 yX1_nextReader, .instanceMethod yX1_nextReader, .selects RX1 yX1_nextReader yX1_nextReader, .code yX1_nextReader cX1_nextReader 2 (some .int), .fieldLink RX1 22 "PaperKeeper$Draft" "reads" "[Z", .fieldLink RX1 25 "PaperKeeper$Draft" "confirmed" "[Z"] ++ wsX10)
def wsX1_nextPerson_r1 : List Cond := [Cond.fieldLink RX1 28 "PaperKeeper$Draft" "author" "I", Cond.methodLink RX1 61 yX1_nextStep, Cond.instanceMethod yX1_nextStep, Cond.selects RX1 yX1_nextStep yX1_nextStep, Cond.initialized RX1, Cond.code yX1_nextStep cX1_nextStep 1 (some .int), Cond.fieldLink RX1 38 "PaperKeeper$Draft" "reviewerCount" "I", Cond.fieldLink RX1 47 "PaperKeeper$Draft" "approved" "Z", Cond.methodLink RX1 51 yX1_nextReviewer, Cond.instanceMethod yX1_nextReviewer, Cond.selects RX1 yX1_nextReviewer yX1_nextReviewer, Cond.code yX1_nextReviewer cX1_nextReviewer 2 (some .int), Cond.fieldLink RX1 15 "PaperKeeper$Draft" "reviewed" "[Z", Cond.fieldLink RX1 9 "PaperKeeper$Draft" "reviewers" "[I", Cond.methodLink RX1 55 yX1_openRemarks, Cond.instanceMethod yX1_openRemarks, Cond.selects RX1 yX1_openRemarks yX1_openRemarks, Cond.code yX1_openRemarks cX1_openRemarks 3 (some .int), Cond.fieldLink RX1 44 "PaperKeeper$Draft" "remarkCount" "I", Cond.fieldLink RX1 19 "PaperKeeper$Draft" "answered" "[Z", Cond.methodLink RX1 58 yX1_nextReader, Cond.instanceMethod yX1_nextReader, Cond.selects RX1 yX1_nextReader yX1_nextReader, Cond.code yX1_nextReader cX1_nextReader 2 (some .int)]
def wsX1_nextPerson_r2 : List Cond := [Cond.fieldLink RX1 22 "PaperKeeper$Draft" "reads" "[Z", Cond.fieldLink RX1 25 "PaperKeeper$Draft" "confirmed" "[Z"]
def wsX1_nextPerson : List Cond := .code yX1_nextPerson cX1_nextPerson 1 (some .int) :: ((wsX1_nextPerson_r1 ++ wsX1_nextPerson_r2) ++ wsX10)
def wsX1_isReady_r1 : List Cond := [Cond.fieldLink RX1 64 "PaperKeeper$Draft" "firstDay" "I", Cond.methodLink RX1 61 yX1_nextStep, Cond.instanceMethod yX1_nextStep, Cond.selects RX1 yX1_nextStep yX1_nextStep, Cond.initialized RX1, Cond.code yX1_nextStep cX1_nextStep 1 (some .int), Cond.fieldLink RX1 38 "PaperKeeper$Draft" "reviewerCount" "I", Cond.fieldLink RX1 47 "PaperKeeper$Draft" "approved" "Z", Cond.methodLink RX1 51 yX1_nextReviewer, Cond.instanceMethod yX1_nextReviewer, Cond.selects RX1 yX1_nextReviewer yX1_nextReviewer, Cond.code yX1_nextReviewer cX1_nextReviewer 2 (some .int), Cond.fieldLink RX1 15 "PaperKeeper$Draft" "reviewed" "[Z", Cond.fieldLink RX1 9 "PaperKeeper$Draft" "reviewers" "[I", Cond.methodLink RX1 55 yX1_openRemarks, Cond.instanceMethod yX1_openRemarks, Cond.selects RX1 yX1_openRemarks yX1_openRemarks, Cond.code yX1_openRemarks cX1_openRemarks 3 (some .int), Cond.fieldLink RX1 44 "PaperKeeper$Draft" "remarkCount" "I", Cond.fieldLink RX1 19 "PaperKeeper$Draft" "answered" "[Z", Cond.methodLink RX1 58 yX1_nextReader, Cond.instanceMethod yX1_nextReader, Cond.selects RX1 yX1_nextReader yX1_nextReader, Cond.code yX1_nextReader cX1_nextReader 2 (some .int)]
def wsX1_isReady_r2 : List Cond := [Cond.fieldLink RX1 22 "PaperKeeper$Draft" "reads" "[Z", Cond.fieldLink RX1 25 "PaperKeeper$Draft" "confirmed" "[Z"]
def wsX1_isReady : List Cond := .code yX1_isReady cX1_isReady 2 (some .boolean) :: ((wsX1_isReady_r1 ++ wsX1_isReady_r2) ++ wsX10)
def wsX2_init : List Cond := .code yX2_init cX2_init 2 none :: ([.methodLink RX2 3 objectInit, .instanceMethod objectInit, .code objectInit ⟨#[0xb1]⟩ 1 none, .fieldLink RX2 9 "PaperKeeper$Paper" "inOrder" "Z", .arrayClass .boolean, .fieldLink RX2 15 "PaperKeeper$Paper" "hangsOn" "[Z", .classLink RX2 19 RX1, .instantiable RX1 12, .initialized RX1, .fieldLink RX2 22 "PaperKeeper$Paper" "draft" "LPaperKeeper$Draft;", .arrayClass .int, .fieldLink RX2 26 "PaperKeeper$Paper" "texts" "[I", .fieldLink RX2 30 "PaperKeeper$Paper" "firstDays" "[I", .methodLink RX2 21 yX1_init, .instanceMethod yX1_init, .code yX1_init cX1_init 1 none, .methodLink RX1 3 objectInit, .fieldLink RX1 9 "PaperKeeper$Draft" "reviewers" "[I", .fieldLink RX1 15 "PaperKeeper$Draft" "reviewed" "[Z", .fieldLink RX1 19 "PaperKeeper$Draft" "answered" "[Z", .fieldLink RX1 22 "PaperKeeper$Draft" "reads" "[Z", .fieldLink RX1 25 "PaperKeeper$Draft" "confirmed" "[Z"] ++ wsX20 ++ wsX10)
def wsX2_newest : List Cond := .code yX2_newest cX2_newest 1 (some .int) :: ([.fieldLink RX2 33 "PaperKeeper$Paper" "versionCount" "I"] ++ wsX20)
def wsX2_versionOn : List Cond := .code yX2_versionOn cX2_versionOn 3 (some .int) :: ([.fieldLink RX2 33 "PaperKeeper$Paper" "versionCount" "I", .fieldLink RX2 30 "PaperKeeper$Paper" "firstDays" "[I"] ++ wsX20)
def wsX2_restartInterval : List Cond := .code yX2_restartInterval cX2_restartInterval 2 none :: ([.fieldLink RX2 51 "PaperKeeper$Paper" "asked" "Z", .fieldLink RX2 54 "PaperKeeper$Paper" "intervalStart" "I"] ++ wsX20)
def wsX2_comeIntoForce_r1 : List Cond := [Cond.fieldLink RX2 37 "PaperKeeper$Paper" "hasDraft" "Z", Cond.fieldLink RX2 22 "PaperKeeper$Paper" "draft" "LPaperKeeper$Draft;", Cond.fieldLink RX2 33 "PaperKeeper$Paper" "versionCount" "I", Cond.fieldLink RX2 26 "PaperKeeper$Paper" "texts" "[I", Cond.fieldLink RX2 44 "PaperKeeper$Draft" "text" "I", Cond.fieldLink RX2 30 "PaperKeeper$Paper" "firstDays" "[I", Cond.methodLink RX2 40 yX1_isReady, Cond.instanceMethod yX1_isReady, Cond.selects RX1 yX1_isReady yX1_isReady, Cond.initialized RX1, Cond.code yX1_isReady cX1_isReady 2 (some .boolean), Cond.fieldLink RX1 64 "PaperKeeper$Draft" "firstDay" "I", Cond.methodLink RX1 61 yX1_nextStep, Cond.instanceMethod yX1_nextStep, Cond.selects RX1 yX1_nextStep yX1_nextStep, Cond.code yX1_nextStep cX1_nextStep 1 (some .int), Cond.fieldLink RX1 38 "PaperKeeper$Draft" "reviewerCount" "I", Cond.fieldLink RX1 47 "PaperKeeper$Draft" "approved" "Z", Cond.methodLink RX1 51 yX1_nextReviewer, Cond.instanceMethod yX1_nextReviewer, Cond.selects RX1 yX1_nextReviewer yX1_nextReviewer, Cond.code yX1_nextReviewer cX1_nextReviewer 2 (some .int), Cond.fieldLink RX1 15 "PaperKeeper$Draft" "reviewed" "[Z", Cond.fieldLink RX1 9 "PaperKeeper$Draft" "reviewers" "[I"]
def wsX2_comeIntoForce_r2 : List Cond := [Cond.methodLink RX1 55 yX1_openRemarks, Cond.instanceMethod yX1_openRemarks, Cond.selects RX1 yX1_openRemarks yX1_openRemarks, Cond.code yX1_openRemarks cX1_openRemarks 3 (some .int), Cond.fieldLink RX1 44 "PaperKeeper$Draft" "remarkCount" "I", Cond.fieldLink RX1 19 "PaperKeeper$Draft" "answered" "[Z", Cond.methodLink RX1 58 yX1_nextReader, Cond.instanceMethod yX1_nextReader, Cond.selects RX1 yX1_nextReader yX1_nextReader, Cond.code yX1_nextReader cX1_nextReader 2 (some .int), Cond.fieldLink RX1 22 "PaperKeeper$Draft" "reads" "[Z", Cond.fieldLink RX1 25 "PaperKeeper$Draft" "confirmed" "[Z", Cond.methodLink RX2 47 yX2_restartInterval, Cond.instanceMethod yX2_restartInterval, Cond.selects RX2 yX2_restartInterval yX2_restartInterval, Cond.initialized RX2, Cond.code yX2_restartInterval cX2_restartInterval 2 none, Cond.fieldLink RX2 51 "PaperKeeper$Paper" "asked" "Z", Cond.fieldLink RX2 54 "PaperKeeper$Paper" "intervalStart" "I"]
def wsX2_comeIntoForce : List Cond := .code yX2_comeIntoForce cX2_comeIntoForce 2 (some .boolean) :: ((wsX2_comeIntoForce_r1 ++ wsX2_comeIntoForce_r2) ++ wsX20 ++ wsX10)
def wsX2_needsLook : List Cond := .code yX2_needsLook cX2_needsLook 3 (some .boolean) :: ([.fieldLink RX2 33 "PaperKeeper$Paper" "versionCount" "I", .fieldLink RX2 51 "PaperKeeper$Paper" "asked" "Z", .fieldLink RX2 54 "PaperKeeper$Paper" "intervalStart" "I"] ++ wsX20)
def wsX3_init : List Cond := .code yX3_init cX3_init 2 none :: ([.methodLink RX3 1 objectInit, .instanceMethod objectInit, .code objectInit ⟨#[0xb1]⟩ 1 none, .arrayClass .boolean, .fieldLink RX3 9 "PaperKeeper" "mayReview" "[Z", .fieldLink RX3 13 "PaperKeeper" "mayApprove" "[Z", .arrayClass .int, .fieldLink RX3 16 "PaperKeeper" "deputies" "[I", .classLink RX3 20 RX2, .fieldLink RX3 22 "PaperKeeper" "papers" "[LPaperKeeper$Paper;", .classLink RX3 26 RX0, .instantiable RX0 4, .initialized RX0, .fieldLink RX3 29 "PaperKeeper" "copies" "LPaperKeeper$Copies;", .fieldLink RX3 33 "PaperKeeper" "paperCount" "I", .fieldLink RX3 37 "PaperKeeper" "interval" "I", .fieldLink RX3 40 "PaperKeeper" "today" "I", .methodLink RX3 28 yX0_init, .instanceMethod yX0_init, .code yX0_init cX0_init 1 none, .methodLink RX0 3 objectInit, .fieldLink RX0 9 "PaperKeeper$Copies" "papers" "[I", .fieldLink RX0 15 "PaperKeeper$Copies" "versions" "[I", .fieldLink RX0 18 "PaperKeeper$Copies" "walls" "[I"] ++ wsX30 ++ wsX00)
def wsX3_checkRange : List Cond := .code yX3_checkRange cX3_checkRange 3 none :: ([.classLink RX3 47 "java/lang/IllegalArgumentException", .initialized "java/lang/IllegalArgumentException"] ++ (vx_atS RX3 51 "java/lang/IllegalArgumentException" ["java/lang/RuntimeException", "java/lang/Exception"]).filter goodWord)
def wsX3_checkPerson : List Cond := .code yX3_checkPerson cX3_checkPerson 1 none :: ([.methodLink RX3 75 yX3_checkRange, .static yX3_checkRange, .initialized RX3, .code yX3_checkRange cX3_checkRange 3 none, .classLink RX3 47 "java/lang/IllegalArgumentException", .initialized "java/lang/IllegalArgumentException"] ++ (vx_atS RX3 51 "java/lang/IllegalArgumentException" ["java/lang/RuntimeException", "java/lang/Exception"]).filter goodWord)
def wsX3_setRoles : List Cond := .code yX3_setRoles cX3_setRoles 4 none :: ([.fieldLink RX3 9 "PaperKeeper" "mayReview" "[Z", .fieldLink RX3 13 "PaperKeeper" "mayApprove" "[Z", .methodLink RX3 43 yX3_checkPerson, .static yX3_checkPerson, .initialized RX3, .code yX3_checkPerson cX3_checkPerson 1 none, .methodLink RX3 75 yX3_checkRange, .static yX3_checkRange, .code yX3_checkRange cX3_checkRange 3 none, .classLink RX3 47 "java/lang/IllegalArgumentException", .initialized "java/lang/IllegalArgumentException"] ++ wsX30 ++ (vx_atS RX3 51 "java/lang/IllegalArgumentException" ["java/lang/RuntimeException", "java/lang/Exception"]).filter goodWord)
def wsX3_setDeputy : List Cond := .code yX3_setDeputy cX3_setDeputy 4 (some .int) :: ([.classLink RX3 47 "java/lang/IllegalArgumentException", .initialized "java/lang/IllegalArgumentException", .fieldLink RX3 16 "PaperKeeper" "deputies" "[I", .methodLink RX3 43 yX3_checkPerson, .static yX3_checkPerson, .initialized RX3, .code yX3_checkPerson cX3_checkPerson 1 none, .methodLink RX3 75 yX3_checkRange, .static yX3_checkRange, .code yX3_checkRange cX3_checkRange 3 none] ++ wsX30 ++ (vx_atS RX3 51 "java/lang/IllegalArgumentException" ["java/lang/RuntimeException", "java/lang/Exception"]).filter goodWord)
def wsX3_open_r1 : List Cond := [Cond.classLink RX3 54 "java/lang/IllegalStateException", Cond.initialized "java/lang/IllegalStateException", Cond.fieldLink RX3 33 "PaperKeeper" "paperCount" "I", Cond.fieldLink RX3 22 "PaperKeeper" "papers" "[LPaperKeeper$Paper;", Cond.classLink RX3 20 RX2, Cond.instantiable RX2 9, Cond.initialized RX2, Cond.methodLink RX3 59 yX2_init, Cond.instanceMethod yX2_init, Cond.code yX2_init cX2_init 2 none, Cond.methodLink RX2 3 objectInit, Cond.instanceMethod objectInit, Cond.code objectInit ⟨#[0xb1]⟩ 1 none, Cond.fieldLink RX2 9 "PaperKeeper$Paper" "inOrder" "Z", Cond.arrayClass .boolean, Cond.fieldLink RX2 15 "PaperKeeper$Paper" "hangsOn" "[Z", Cond.classLink RX2 19 RX1, Cond.instantiable RX1 12, Cond.initialized RX1, Cond.fieldLink RX2 22 "PaperKeeper$Paper" "draft" "LPaperKeeper$Draft;", Cond.arrayClass .int, Cond.fieldLink RX2 26 "PaperKeeper$Paper" "texts" "[I", Cond.fieldLink RX2 30 "PaperKeeper$Paper" "firstDays" "[I", Cond.methodLink RX2 21 yX1_init]
def wsX3_open_r2 : List Cond := [Cond.instanceMethod yX1_init, Cond.code yX1_init cX1_init 1 none, Cond.methodLink RX1 3 objectInit, Cond.fieldLink RX1 9 "PaperKeeper$Draft" "reviewers" "[I", Cond.fieldLink RX1 15 "PaperKeeper$Draft" "reviewed" "[Z", Cond.fieldLink RX1 19 "PaperKeeper$Draft" "answered" "[Z", Cond.fieldLink RX1 22 "PaperKeeper$Draft" "reads" "[Z", Cond.fieldLink RX1 25 "PaperKeeper$Draft" "confirmed" "[Z"]
def wsX3_open : List Cond := .code yX3_open cX3_open 3 (some .int) :: ((wsX3_open_r1 ++ wsX3_open_r2) ++ wsX30 ++ wsX20 ++ wsX10 ++ (vx_atS RX3 58 "java/lang/IllegalStateException" ["java/lang/RuntimeException", "java/lang/Exception"]).filter goodWord)
def wsX3_paperAt : List Cond := .code yX3_paperAt cX3_paperAt 3 (some (.object "PaperKeeper$Paper")) :: ([.classLink RX3 157 "java/lang/IndexOutOfBoundsException", .initialized "java/lang/IndexOutOfBoundsException", .fieldLink RX3 22 "PaperKeeper" "papers" "[LPaperKeeper$Paper;"] ++ wsX30 ++ (vx_atS RX3 161 "java/lang/IndexOutOfBoundsException" ["java/lang/RuntimeException", "java/lang/Exception"]).filter goodWord)
def wsX3_countOf : List Cond := .code yX3_countOf cX3_countOf 3 (some .int) :: ([])
def wsX3_hang : List Cond := .code yX3_hang cX3_hang 4 (some .int) :: ([.classLink RX3 47 "java/lang/IllegalArgumentException", .initialized "java/lang/IllegalArgumentException", .fieldLink RX3 68 "PaperKeeper$Paper" "hangsOn" "[Z", .methodLink RX3 62 yX3_paperAt, .instanceMethod yX3_paperAt, .selects RX3 yX3_paperAt yX3_paperAt, .initialized RX3, .code yX3_paperAt cX3_paperAt 3 (some (.object "PaperKeeper$Paper")), .classLink RX3 157 "java/lang/IndexOutOfBoundsException", .initialized "java/lang/IndexOutOfBoundsException", .fieldLink RX3 22 "PaperKeeper" "papers" "[LPaperKeeper$Paper;", .methodLink RX3 71 yX3_countOf, .static yX3_countOf, .code yX3_countOf cX3_countOf 3 (some .int)] ++ wsX20 ++ wsX30 ++ (vx_atS RX3 51 "java/lang/IllegalArgumentException" ["java/lang/RuntimeException", "java/lang/Exception"]).filter goodWord ++ (vx_atS RX3 161 "java/lang/IndexOutOfBoundsException" ["java/lang/RuntimeException", "java/lang/Exception"]).filter goodWord)
def wsX3_setInterval : List Cond := .code yX3_setInterval cX3_setInterval 3 (some .int) :: ([.fieldLink RX3 37 "PaperKeeper" "interval" "I", .methodLink RX3 75 yX3_checkRange, .static yX3_checkRange, .initialized RX3, .code yX3_checkRange cX3_checkRange 3 none, .classLink RX3 47 "java/lang/IllegalArgumentException", .initialized "java/lang/IllegalArgumentException"] ++ wsX30 ++ (vx_atS RX3 51 "java/lang/IllegalArgumentException" ["java/lang/RuntimeException", "java/lang/Exception"]).filter goodWord)
def wsX3_draft_r1 : List Cond := [Cond.classLink RX3 54 "java/lang/IllegalStateException", Cond.initialized "java/lang/IllegalStateException", Cond.fieldLink RX3 79 "PaperKeeper$Paper" "hasDraft" "Z", Cond.fieldLink RX3 85 "PaperKeeper$Paper" "draft" "LPaperKeeper$Draft;", Cond.methodLink RX3 62 yX3_paperAt, Cond.instanceMethod yX3_paperAt, Cond.selects RX3 yX3_paperAt yX3_paperAt, Cond.initialized RX3, Cond.code yX3_paperAt cX3_paperAt 3 (some (.object "PaperKeeper$Paper")), Cond.classLink RX3 157 "java/lang/IndexOutOfBoundsException", Cond.initialized "java/lang/IndexOutOfBoundsException", Cond.fieldLink RX3 22 "PaperKeeper" "papers" "[LPaperKeeper$Paper;", Cond.methodLink RX3 43 yX3_checkPerson, Cond.static yX3_checkPerson, Cond.code yX3_checkPerson cX3_checkPerson 1 none, Cond.methodLink RX3 75 yX3_checkRange, Cond.static yX3_checkRange, Cond.code yX3_checkRange cX3_checkRange 3 none, Cond.classLink RX3 47 "java/lang/IllegalArgumentException", Cond.initialized "java/lang/IllegalArgumentException", Cond.methodLink RX3 89 yX1_begin, Cond.instanceMethod yX1_begin, Cond.selects RX1 yX1_begin yX1_begin, Cond.initialized RX1]
def wsX3_draft_r2 : List Cond := [Cond.code yX1_begin cX1_begin 4 none, Cond.fieldLink RX1 28 "PaperKeeper$Draft" "author" "I", Cond.fieldLink RX1 32 "PaperKeeper$Draft" "text" "I", Cond.fieldLink RX1 35 "PaperKeeper$Draft" "round" "I", Cond.fieldLink RX1 38 "PaperKeeper$Draft" "reviewerCount" "I", Cond.fieldLink RX1 22 "PaperKeeper$Draft" "reads" "[Z", Cond.methodLink RX1 41 yX1_beginRound, Cond.instanceMethod yX1_beginRound, Cond.selects RX1 yX1_beginRound yX1_beginRound, Cond.code yX1_beginRound cX1_beginRound 2 none, Cond.fieldLink RX1 44 "PaperKeeper$Draft" "remarkCount" "I", Cond.fieldLink RX1 47 "PaperKeeper$Draft" "approved" "Z", Cond.fieldLink RX1 15 "PaperKeeper$Draft" "reviewed" "[Z", Cond.fieldLink RX1 25 "PaperKeeper$Draft" "confirmed" "[Z"]
def wsX3_draft : List Cond := .code yX3_draft cX3_draft 5 none :: ((wsX3_draft_r1 ++ wsX3_draft_r2) ++ wsX20 ++ wsX30 ++ wsX10 ++ (vx_atS RX3 58 "java/lang/IllegalStateException" ["java/lang/RuntimeException", "java/lang/Exception"]).filter goodWord ++ (vx_atS RX3 161 "java/lang/IndexOutOfBoundsException" ["java/lang/RuntimeException", "java/lang/Exception"]).filter goodWord ++ (vx_atS RX3 51 "java/lang/IllegalArgumentException" ["java/lang/RuntimeException", "java/lang/Exception"]).filter goodWord)
def wsX3_draftOf : List Cond := .code yX3_draftOf cX3_draftOf 1 (some (.object "PaperKeeper$Draft")) :: ([.classLink RX3 54 "java/lang/IllegalStateException", .initialized "java/lang/IllegalStateException", .fieldLink RX3 79 "PaperKeeper$Paper" "hasDraft" "Z", .fieldLink RX3 85 "PaperKeeper$Paper" "draft" "LPaperKeeper$Draft;"] ++ wsX20 ++ (vx_atS RX3 58 "java/lang/IllegalStateException" ["java/lang/RuntimeException", "java/lang/Exception"]).filter goodWord)
def wsX3_change_r1 : List Cond := [Cond.classLink RX3 54 "java/lang/IllegalStateException", Cond.initialized "java/lang/IllegalStateException", Cond.fieldLink RX3 99 "PaperKeeper$Draft" "text" "I", Cond.fieldLink RX3 107 "PaperKeeper$Draft" "round" "I", Cond.methodLink RX3 62 yX3_paperAt, Cond.instanceMethod yX3_paperAt, Cond.selects RX3 yX3_paperAt yX3_paperAt, Cond.initialized RX3, Cond.code yX3_paperAt cX3_paperAt 3 (some (.object "PaperKeeper$Paper")), Cond.classLink RX3 157 "java/lang/IndexOutOfBoundsException", Cond.initialized "java/lang/IndexOutOfBoundsException", Cond.fieldLink RX3 22 "PaperKeeper" "papers" "[LPaperKeeper$Paper;", Cond.methodLink RX3 75 yX3_checkRange, Cond.static yX3_checkRange, Cond.code yX3_checkRange cX3_checkRange 3 none, Cond.classLink RX3 47 "java/lang/IllegalArgumentException", Cond.initialized "java/lang/IllegalArgumentException", Cond.methodLink RX3 95 yX3_draftOf, Cond.static yX3_draftOf, Cond.code yX3_draftOf cX3_draftOf 1 (some (.object "PaperKeeper$Draft")), Cond.fieldLink RX3 79 "PaperKeeper$Paper" "hasDraft" "Z", Cond.fieldLink RX3 85 "PaperKeeper$Paper" "draft" "LPaperKeeper$Draft;", Cond.methodLink RX3 104 yX1_beginRound, Cond.instanceMethod yX1_beginRound]
def wsX3_change_r2 : List Cond := [Cond.selects RX1 yX1_beginRound yX1_beginRound, Cond.initialized RX1, Cond.code yX1_beginRound cX1_beginRound 2 none, Cond.fieldLink RX1 35 "PaperKeeper$Draft" "round" "I", Cond.fieldLink RX1 44 "PaperKeeper$Draft" "remarkCount" "I", Cond.fieldLink RX1 47 "PaperKeeper$Draft" "approved" "Z", Cond.fieldLink RX1 15 "PaperKeeper$Draft" "reviewed" "[Z", Cond.fieldLink RX1 25 "PaperKeeper$Draft" "confirmed" "[Z"]
def wsX3_change : List Cond := .code yX3_change cX3_change 5 (some .int) :: ((wsX3_change_r1 ++ wsX3_change_r2) ++ wsX10 ++ wsX30 ++ wsX20 ++ (vx_atS RX3 58 "java/lang/IllegalStateException" ["java/lang/RuntimeException", "java/lang/Exception"]).filter goodWord ++ (vx_atS RX3 161 "java/lang/IndexOutOfBoundsException" ["java/lang/RuntimeException", "java/lang/Exception"]).filter goodWord ++ (vx_atS RX3 51 "java/lang/IllegalArgumentException" ["java/lang/RuntimeException", "java/lang/Exception"]).filter goodWord)
def wsX3_drop : List Cond := .code yX3_drop cX3_drop 4 (some .int) :: ([.fieldLink RX3 79 "PaperKeeper$Paper" "hasDraft" "Z", .fieldLink RX3 99 "PaperKeeper$Draft" "text" "I", .methodLink RX3 62 yX3_paperAt, .instanceMethod yX3_paperAt, .selects RX3 yX3_paperAt yX3_paperAt, .initialized RX3, .code yX3_paperAt cX3_paperAt 3 (some (.object "PaperKeeper$Paper")), .classLink RX3 157 "java/lang/IndexOutOfBoundsException", .initialized "java/lang/IndexOutOfBoundsException", .fieldLink RX3 22 "PaperKeeper" "papers" "[LPaperKeeper$Paper;", .methodLink RX3 95 yX3_draftOf, .static yX3_draftOf, .code yX3_draftOf cX3_draftOf 1 (some (.object "PaperKeeper$Draft")), .classLink RX3 54 "java/lang/IllegalStateException", .initialized "java/lang/IllegalStateException", .fieldLink RX3 85 "PaperKeeper$Paper" "draft" "LPaperKeeper$Draft;"] ++ wsX20 ++ wsX10 ++ wsX30 ++ (vx_atS RX3 161 "java/lang/IndexOutOfBoundsException" ["java/lang/RuntimeException", "java/lang/Exception"]).filter goodWord ++ (vx_atS RX3 58 "java/lang/IllegalStateException" ["java/lang/RuntimeException", "java/lang/Exception"]).filter goodWord)
def wsX3_reviewer_r1 : List Cond := [Cond.classLink RX3 54 "java/lang/IllegalStateException", Cond.initialized "java/lang/IllegalStateException", Cond.fieldLink RX3 110 "PaperKeeper$Draft" "approved" "Z", Cond.fieldLink RX3 115 "PaperKeeper$Draft" "author" "I", Cond.fieldLink RX3 9 "PaperKeeper" "mayReview" "[Z", Cond.fieldLink RX3 124 "PaperKeeper$Draft" "reviewerCount" "I", Cond.fieldLink RX3 129 "PaperKeeper$Draft" "reviewers" "[I", Cond.methodLink RX3 62 yX3_paperAt, Cond.instanceMethod yX3_paperAt, Cond.selects RX3 yX3_paperAt yX3_paperAt, Cond.initialized RX3, Cond.code yX3_paperAt cX3_paperAt 3 (some (.object "PaperKeeper$Paper")), Cond.classLink RX3 157 "java/lang/IndexOutOfBoundsException", Cond.initialized "java/lang/IndexOutOfBoundsException", Cond.fieldLink RX3 22 "PaperKeeper" "papers" "[LPaperKeeper$Paper;", Cond.methodLink RX3 43 yX3_checkPerson, Cond.static yX3_checkPerson, Cond.code yX3_checkPerson cX3_checkPerson 1 none, Cond.methodLink RX3 75 yX3_checkRange, Cond.static yX3_checkRange, Cond.code yX3_checkRange cX3_checkRange 3 none, Cond.classLink RX3 47 "java/lang/IllegalArgumentException", Cond.initialized "java/lang/IllegalArgumentException", Cond.methodLink RX3 95 yX3_draftOf]
def wsX3_reviewer_r2 : List Cond := [Cond.static yX3_draftOf, Cond.code yX3_draftOf cX3_draftOf 1 (some (.object "PaperKeeper$Draft")), Cond.fieldLink RX3 79 "PaperKeeper$Paper" "hasDraft" "Z", Cond.fieldLink RX3 85 "PaperKeeper$Paper" "draft" "LPaperKeeper$Draft;", Cond.methodLink RX3 120 yX1_hasReviewer, Cond.instanceMethod yX1_hasReviewer, Cond.selects RX1 yX1_hasReviewer yX1_hasReviewer, Cond.initialized RX1, Cond.code yX1_hasReviewer cX1_hasReviewer 3 (some .boolean), Cond.fieldLink RX1 38 "PaperKeeper$Draft" "reviewerCount" "I", Cond.fieldLink RX1 9 "PaperKeeper$Draft" "reviewers" "[I"]
def wsX3_reviewer : List Cond := .code yX3_reviewer cX3_reviewer 5 (some .int) :: ((wsX3_reviewer_r1 ++ wsX3_reviewer_r2) ++ wsX10 ++ wsX30 ++ wsX20 ++ (vx_atS RX3 58 "java/lang/IllegalStateException" ["java/lang/RuntimeException", "java/lang/Exception"]).filter goodWord ++ (vx_atS RX3 161 "java/lang/IndexOutOfBoundsException" ["java/lang/RuntimeException", "java/lang/Exception"]).filter goodWord ++ (vx_atS RX3 51 "java/lang/IllegalArgumentException" ["java/lang/RuntimeException", "java/lang/Exception"]).filter goodWord)
def wsX3_reader_r1 : List Cond := [Cond.classLink RX3 54 "java/lang/IllegalStateException", Cond.initialized "java/lang/IllegalStateException", Cond.fieldLink RX3 132 "PaperKeeper$Draft" "reads" "[Z", Cond.methodLink RX3 62 yX3_paperAt, Cond.instanceMethod yX3_paperAt, Cond.selects RX3 yX3_paperAt yX3_paperAt, Cond.initialized RX3, Cond.code yX3_paperAt cX3_paperAt 3 (some (.object "PaperKeeper$Paper")), Cond.classLink RX3 157 "java/lang/IndexOutOfBoundsException", Cond.initialized "java/lang/IndexOutOfBoundsException", Cond.fieldLink RX3 22 "PaperKeeper" "papers" "[LPaperKeeper$Paper;", Cond.methodLink RX3 43 yX3_checkPerson, Cond.static yX3_checkPerson, Cond.code yX3_checkPerson cX3_checkPerson 1 none, Cond.methodLink RX3 75 yX3_checkRange, Cond.static yX3_checkRange, Cond.code yX3_checkRange cX3_checkRange 3 none, Cond.classLink RX3 47 "java/lang/IllegalArgumentException", Cond.initialized "java/lang/IllegalArgumentException", Cond.methodLink RX3 95 yX3_draftOf, Cond.static yX3_draftOf, Cond.code yX3_draftOf cX3_draftOf 1 (some (.object "PaperKeeper$Draft")), Cond.fieldLink RX3 79 "PaperKeeper$Paper" "hasDraft" "Z", Cond.fieldLink RX3 85 "PaperKeeper$Paper" "draft" "LPaperKeeper$Draft;"]
def wsX3_reader_r2 : List Cond := [Cond.methodLink RX3 71 yX3_countOf, Cond.static yX3_countOf, Cond.code yX3_countOf cX3_countOf 3 (some .int)]
def wsX3_reader : List Cond := .code yX3_reader cX3_reader 5 (some .int) :: ((wsX3_reader_r1 ++ wsX3_reader_r2) ++ wsX10 ++ wsX30 ++ wsX20 ++ (vx_atS RX3 58 "java/lang/IllegalStateException" ["java/lang/RuntimeException", "java/lang/Exception"]).filter goodWord ++ (vx_atS RX3 161 "java/lang/IndexOutOfBoundsException" ["java/lang/RuntimeException", "java/lang/Exception"]).filter goodWord ++ (vx_atS RX3 51 "java/lang/IllegalArgumentException" ["java/lang/RuntimeException", "java/lang/Exception"]).filter goodWord)
def wsX3_review_r1 : List Cond := [Cond.classLink RX3 54 "java/lang/IllegalStateException", Cond.initialized "java/lang/IllegalStateException", Cond.fieldLink RX3 137 "PaperKeeper$Draft" "reviewed" "[Z", Cond.fieldLink RX3 142 "PaperKeeper$Paper" "inOrder" "Z", Cond.methodLink RX3 62 yX3_paperAt, Cond.instanceMethod yX3_paperAt, Cond.selects RX3 yX3_paperAt yX3_paperAt, Cond.initialized RX3, Cond.code yX3_paperAt cX3_paperAt 3 (some (.object "PaperKeeper$Paper")), Cond.classLink RX3 157 "java/lang/IndexOutOfBoundsException", Cond.initialized "java/lang/IndexOutOfBoundsException", Cond.fieldLink RX3 22 "PaperKeeper" "papers" "[LPaperKeeper$Paper;", Cond.methodLink RX3 43 yX3_checkPerson, Cond.static yX3_checkPerson, Cond.code yX3_checkPerson cX3_checkPerson 1 none, Cond.methodLink RX3 75 yX3_checkRange, Cond.static yX3_checkRange, Cond.code yX3_checkRange cX3_checkRange 3 none, Cond.classLink RX3 47 "java/lang/IllegalArgumentException", Cond.initialized "java/lang/IllegalArgumentException", Cond.methodLink RX3 95 yX3_draftOf, Cond.static yX3_draftOf, Cond.code yX3_draftOf cX3_draftOf 1 (some (.object "PaperKeeper$Draft")), Cond.fieldLink RX3 79 "PaperKeeper$Paper" "hasDraft" "Z"]
def wsX3_review_r2 : List Cond := [Cond.fieldLink RX3 85 "PaperKeeper$Paper" "draft" "LPaperKeeper$Draft;", Cond.methodLink RX3 120 yX1_hasReviewer, Cond.instanceMethod yX1_hasReviewer, Cond.selects RX1 yX1_hasReviewer yX1_hasReviewer, Cond.initialized RX1, Cond.code yX1_hasReviewer cX1_hasReviewer 3 (some .boolean), Cond.fieldLink RX1 38 "PaperKeeper$Draft" "reviewerCount" "I", Cond.fieldLink RX1 9 "PaperKeeper$Draft" "reviewers" "[I", Cond.methodLink RX3 145 yX1_nextReviewer, Cond.instanceMethod yX1_nextReviewer, Cond.selects RX1 yX1_nextReviewer yX1_nextReviewer, Cond.code yX1_nextReviewer cX1_nextReviewer 2 (some .int), Cond.fieldLink RX1 15 "PaperKeeper$Draft" "reviewed" "[Z", Cond.methodLink RX3 151 yX1_addRemark, Cond.instanceMethod yX1_addRemark, Cond.selects RX1 yX1_addRemark yX1_addRemark, Cond.code yX1_addRemark cX1_addRemark 2 (some .int), Cond.fieldLink RX1 44 "PaperKeeper$Draft" "remarkCount" "I", Cond.fieldLink RX1 19 "PaperKeeper$Draft" "answered" "[Z"]
def wsX3_review : List Cond := .code yX3_review cX3_review 6 (some .int) :: ((wsX3_review_r1 ++ wsX3_review_r2) ++ wsX10 ++ wsX20 ++ wsX30 ++ (vx_atS RX3 58 "java/lang/IllegalStateException" ["java/lang/RuntimeException", "java/lang/Exception"]).filter goodWord ++ (vx_atS RX3 161 "java/lang/IndexOutOfBoundsException" ["java/lang/RuntimeException", "java/lang/Exception"]).filter goodWord ++ (vx_atS RX3 51 "java/lang/IllegalArgumentException" ["java/lang/RuntimeException", "java/lang/Exception"]).filter goodWord)
def wsX3_answer : List Cond := .code yX3_answer cX3_answer 5 (some .int) :: ([.classLink RX3 157 "java/lang/IndexOutOfBoundsException", .initialized "java/lang/IndexOutOfBoundsException", .classLink RX3 54 "java/lang/IllegalStateException", .initialized "java/lang/IllegalStateException", .fieldLink RX3 154 "PaperKeeper$Draft" "remarkCount" "I", .fieldLink RX3 162 "PaperKeeper$Draft" "answered" "[Z", .methodLink RX3 62 yX3_paperAt, .instanceMethod yX3_paperAt, .selects RX3 yX3_paperAt yX3_paperAt, .initialized RX3, .code yX3_paperAt cX3_paperAt 3 (some (.object "PaperKeeper$Paper")), .fieldLink RX3 22 "PaperKeeper" "papers" "[LPaperKeeper$Paper;", .methodLink RX3 95 yX3_draftOf, .static yX3_draftOf, .code yX3_draftOf cX3_draftOf 1 (some (.object "PaperKeeper$Draft")), .fieldLink RX3 79 "PaperKeeper$Paper" "hasDraft" "Z", .fieldLink RX3 85 "PaperKeeper$Paper" "draft" "LPaperKeeper$Draft;", .methodLink RX3 167 yX1_openRemarks, .instanceMethod yX1_openRemarks, .selects RX1 yX1_openRemarks yX1_openRemarks, .initialized RX1, .code yX1_openRemarks cX1_openRemarks 3 (some .int), .fieldLink RX1 44 "PaperKeeper$Draft" "remarkCount" "I", .fieldLink RX1 19 "PaperKeeper$Draft" "answered" "[Z"] ++ wsX10 ++ wsX30 ++ wsX20 ++ (vx_atS RX3 161 "java/lang/IndexOutOfBoundsException" ["java/lang/RuntimeException", "java/lang/Exception"]).filter goodWord ++ (vx_atS RX3 58 "java/lang/IllegalStateException" ["java/lang/RuntimeException", "java/lang/Exception"]).filter goodWord)
def wsX3_canApprove : List Cond := .code yX3_canApprove cX3_canApprove 4 (some .boolean) :: ([.fieldLink RX3 13 "PaperKeeper" "mayApprove" "[Z", .fieldLink RX3 16 "PaperKeeper" "deputies" "[I"] ++ wsX30)
def wsX3_approve_r1 : List Cond := [Cond.classLink RX3 54 "java/lang/IllegalStateException", Cond.initialized "java/lang/IllegalStateException", Cond.fieldLink RX3 40 "PaperKeeper" "today" "I", Cond.fieldLink RX3 115 "PaperKeeper$Draft" "author" "I", Cond.fieldLink RX3 110 "PaperKeeper$Draft" "approved" "Z", Cond.fieldLink RX3 180 "PaperKeeper$Draft" "firstDay" "I", Cond.methodLink RX3 62 yX3_paperAt, Cond.instanceMethod yX3_paperAt, Cond.selects RX3 yX3_paperAt yX3_paperAt, Cond.initialized RX3, Cond.code yX3_paperAt cX3_paperAt 3 (some (.object "PaperKeeper$Paper")), Cond.classLink RX3 157 "java/lang/IndexOutOfBoundsException", Cond.initialized "java/lang/IndexOutOfBoundsException", Cond.fieldLink RX3 22 "PaperKeeper" "papers" "[LPaperKeeper$Paper;", Cond.methodLink RX3 43 yX3_checkPerson, Cond.static yX3_checkPerson, Cond.code yX3_checkPerson cX3_checkPerson 1 none, Cond.methodLink RX3 75 yX3_checkRange, Cond.static yX3_checkRange, Cond.code yX3_checkRange cX3_checkRange 3 none, Cond.classLink RX3 47 "java/lang/IllegalArgumentException", Cond.initialized "java/lang/IllegalArgumentException", Cond.methodLink RX3 95 yX3_draftOf, Cond.static yX3_draftOf]
def wsX3_approve_r2 : List Cond := [Cond.code yX3_draftOf cX3_draftOf 1 (some (.object "PaperKeeper$Draft")), Cond.fieldLink RX3 79 "PaperKeeper$Paper" "hasDraft" "Z", Cond.fieldLink RX3 85 "PaperKeeper$Paper" "draft" "LPaperKeeper$Draft;", Cond.methodLink RX3 170 yX1_nextStep, Cond.instanceMethod yX1_nextStep, Cond.selects RX1 yX1_nextStep yX1_nextStep, Cond.initialized RX1, Cond.code yX1_nextStep cX1_nextStep 1 (some .int), Cond.fieldLink RX1 38 "PaperKeeper$Draft" "reviewerCount" "I", Cond.fieldLink RX1 47 "PaperKeeper$Draft" "approved" "Z", Cond.methodLink RX1 51 yX1_nextReviewer, Cond.instanceMethod yX1_nextReviewer, Cond.selects RX1 yX1_nextReviewer yX1_nextReviewer, Cond.code yX1_nextReviewer cX1_nextReviewer 2 (some .int), Cond.fieldLink RX1 15 "PaperKeeper$Draft" "reviewed" "[Z", Cond.fieldLink RX1 9 "PaperKeeper$Draft" "reviewers" "[I", Cond.methodLink RX1 55 yX1_openRemarks, Cond.instanceMethod yX1_openRemarks, Cond.selects RX1 yX1_openRemarks yX1_openRemarks, Cond.code yX1_openRemarks cX1_openRemarks 3 (some .int), Cond.fieldLink RX1 44 "PaperKeeper$Draft" "remarkCount" "I", Cond.fieldLink RX1 19 "PaperKeeper$Draft" "answered" "[Z", Cond.methodLink RX1 58 yX1_nextReader, Cond.instanceMethod yX1_nextReader]
def wsX3_approve_r3 : List Cond := [Cond.selects RX1 yX1_nextReader yX1_nextReader, Cond.code yX1_nextReader cX1_nextReader 2 (some .int), Cond.fieldLink RX1 22 "PaperKeeper$Draft" "reads" "[Z", Cond.fieldLink RX1 25 "PaperKeeper$Draft" "confirmed" "[Z", Cond.methodLink RX3 175 yX3_canApprove, Cond.instanceMethod yX3_canApprove, Cond.selects RX3 yX3_canApprove yX3_canApprove, Cond.code yX3_canApprove cX3_canApprove 4 (some .boolean), Cond.fieldLink RX3 13 "PaperKeeper" "mayApprove" "[Z", Cond.fieldLink RX3 16 "PaperKeeper" "deputies" "[I"]
def wsX3_approve : List Cond := .code yX3_approve cX3_approve 6 none :: ((wsX3_approve_r1 ++ (wsX3_approve_r2 ++ wsX3_approve_r3)) ++ wsX30 ++ wsX10 ++ wsX20 ++ (vx_atS RX3 58 "java/lang/IllegalStateException" ["java/lang/RuntimeException", "java/lang/Exception"]).filter goodWord ++ (vx_atS RX3 161 "java/lang/IndexOutOfBoundsException" ["java/lang/RuntimeException", "java/lang/Exception"]).filter goodWord ++ (vx_atS RX3 51 "java/lang/IllegalArgumentException" ["java/lang/RuntimeException", "java/lang/Exception"]).filter goodWord)
def wsX3_confirm_r1 : List Cond := [Cond.classLink RX3 54 "java/lang/IllegalStateException", Cond.initialized "java/lang/IllegalStateException", Cond.fieldLink RX3 110 "PaperKeeper$Draft" "approved" "Z", Cond.fieldLink RX3 132 "PaperKeeper$Draft" "reads" "[Z", Cond.fieldLink RX3 185 "PaperKeeper$Draft" "confirmed" "[Z", Cond.methodLink RX3 62 yX3_paperAt, Cond.instanceMethod yX3_paperAt, Cond.selects RX3 yX3_paperAt yX3_paperAt, Cond.initialized RX3, Cond.code yX3_paperAt cX3_paperAt 3 (some (.object "PaperKeeper$Paper")), Cond.classLink RX3 157 "java/lang/IndexOutOfBoundsException", Cond.initialized "java/lang/IndexOutOfBoundsException", Cond.fieldLink RX3 22 "PaperKeeper" "papers" "[LPaperKeeper$Paper;", Cond.methodLink RX3 43 yX3_checkPerson, Cond.static yX3_checkPerson, Cond.code yX3_checkPerson cX3_checkPerson 1 none, Cond.methodLink RX3 75 yX3_checkRange, Cond.static yX3_checkRange, Cond.code yX3_checkRange cX3_checkRange 3 none, Cond.classLink RX3 47 "java/lang/IllegalArgumentException", Cond.initialized "java/lang/IllegalArgumentException", Cond.methodLink RX3 95 yX3_draftOf, Cond.static yX3_draftOf, Cond.code yX3_draftOf cX3_draftOf 1 (some (.object "PaperKeeper$Draft"))]
def wsX3_confirm_r2 : List Cond := [Cond.fieldLink RX3 79 "PaperKeeper$Paper" "hasDraft" "Z", Cond.fieldLink RX3 85 "PaperKeeper$Paper" "draft" "LPaperKeeper$Draft;", Cond.methodLink RX3 71 yX3_countOf, Cond.static yX3_countOf, Cond.code yX3_countOf cX3_countOf 3 (some .int)]
def wsX3_confirm : List Cond := .code yX3_confirm cX3_confirm 5 (some .int) :: ((wsX3_confirm_r1 ++ wsX3_confirm_r2) ++ wsX10 ++ wsX30 ++ wsX20 ++ (vx_atS RX3 58 "java/lang/IllegalStateException" ["java/lang/RuntimeException", "java/lang/Exception"]).filter goodWord ++ (vx_atS RX3 161 "java/lang/IndexOutOfBoundsException" ["java/lang/RuntimeException", "java/lang/Exception"]).filter goodWord ++ (vx_atS RX3 51 "java/lang/IllegalArgumentException" ["java/lang/RuntimeException", "java/lang/Exception"]).filter goodWord)
def wsX3_askForLooks : List Cond := .code yX3_askForLooks cX3_askForLooks 4 none :: ([.fieldLink RX3 22 "PaperKeeper" "papers" "[LPaperKeeper$Paper;", .fieldLink RX3 68 "PaperKeeper$Paper" "hangsOn" "[Z", .fieldLink RX3 259 "PaperKeeper$Paper" "asked" "Z", .methodLink RX3 211 yX2_newest, .instanceMethod yX2_newest, .selects RX2 yX2_newest yX2_newest, .initialized RX2, .code yX2_newest cX2_newest 1 (some .int), .fieldLink RX2 33 "PaperKeeper$Paper" "versionCount" "I"] ++ wsX30 ++ wsX20)
def wsX3_beginDay_r1 : List Cond := [Cond.fieldLink RX3 22 "PaperKeeper" "papers" "[LPaperKeeper$Paper;", Cond.fieldLink RX3 40 "PaperKeeper" "today" "I", Cond.methodLink RX3 253 yX2_comeIntoForce, Cond.instanceMethod yX2_comeIntoForce, Cond.selects RX2 yX2_comeIntoForce yX2_comeIntoForce, Cond.initialized RX2, Cond.code yX2_comeIntoForce cX2_comeIntoForce 2 (some .boolean), Cond.fieldLink RX2 37 "PaperKeeper$Paper" "hasDraft" "Z", Cond.fieldLink RX2 22 "PaperKeeper$Paper" "draft" "LPaperKeeper$Draft;", Cond.fieldLink RX2 33 "PaperKeeper$Paper" "versionCount" "I", Cond.fieldLink RX2 26 "PaperKeeper$Paper" "texts" "[I", Cond.fieldLink RX2 44 "PaperKeeper$Draft" "text" "I", Cond.fieldLink RX2 30 "PaperKeeper$Paper" "firstDays" "[I", Cond.methodLink RX2 40 yX1_isReady, Cond.instanceMethod yX1_isReady, Cond.selects RX1 yX1_isReady yX1_isReady, Cond.initialized RX1, Cond.code yX1_isReady cX1_isReady 2 (some .boolean), Cond.fieldLink RX1 64 "PaperKeeper$Draft" "firstDay" "I", Cond.methodLink RX1 61 yX1_nextStep, Cond.instanceMethod yX1_nextStep, Cond.selects RX1 yX1_nextStep yX1_nextStep, Cond.code yX1_nextStep cX1_nextStep 1 (some .int), Cond.fieldLink RX1 38 "PaperKeeper$Draft" "reviewerCount" "I"]
def wsX3_beginDay_r2 : List Cond := [Cond.fieldLink RX1 47 "PaperKeeper$Draft" "approved" "Z", Cond.methodLink RX1 51 yX1_nextReviewer, Cond.instanceMethod yX1_nextReviewer, Cond.selects RX1 yX1_nextReviewer yX1_nextReviewer, Cond.code yX1_nextReviewer cX1_nextReviewer 2 (some .int), Cond.fieldLink RX1 15 "PaperKeeper$Draft" "reviewed" "[Z", Cond.fieldLink RX1 9 "PaperKeeper$Draft" "reviewers" "[I", Cond.methodLink RX1 55 yX1_openRemarks, Cond.instanceMethod yX1_openRemarks, Cond.selects RX1 yX1_openRemarks yX1_openRemarks, Cond.code yX1_openRemarks cX1_openRemarks 3 (some .int), Cond.fieldLink RX1 44 "PaperKeeper$Draft" "remarkCount" "I", Cond.fieldLink RX1 19 "PaperKeeper$Draft" "answered" "[Z", Cond.methodLink RX1 58 yX1_nextReader, Cond.instanceMethod yX1_nextReader, Cond.selects RX1 yX1_nextReader yX1_nextReader, Cond.code yX1_nextReader cX1_nextReader 2 (some .int), Cond.fieldLink RX1 22 "PaperKeeper$Draft" "reads" "[Z", Cond.fieldLink RX1 25 "PaperKeeper$Draft" "confirmed" "[Z", Cond.methodLink RX2 47 yX2_restartInterval, Cond.instanceMethod yX2_restartInterval, Cond.selects RX2 yX2_restartInterval yX2_restartInterval, Cond.code yX2_restartInterval cX2_restartInterval 2 none, Cond.fieldLink RX2 51 "PaperKeeper$Paper" "asked" "Z"]
def wsX3_beginDay_r3 : List Cond := [Cond.fieldLink RX2 54 "PaperKeeper$Paper" "intervalStart" "I", Cond.methodLink RX3 256 yX3_askForLooks, Cond.instanceMethod yX3_askForLooks, Cond.selects RX3 yX3_askForLooks yX3_askForLooks, Cond.initialized RX3, Cond.code yX3_askForLooks cX3_askForLooks 4 none, Cond.fieldLink RX3 68 "PaperKeeper$Paper" "hangsOn" "[Z", Cond.fieldLink RX3 259 "PaperKeeper$Paper" "asked" "Z", Cond.methodLink RX3 211 yX2_newest, Cond.instanceMethod yX2_newest, Cond.selects RX2 yX2_newest yX2_newest, Cond.code yX2_newest cX2_newest 1 (some .int)]
def wsX3_beginDay : List Cond := .code yX3_beginDay cX3_beginDay 4 (some .int) :: ((wsX3_beginDay_r1 ++ (wsX3_beginDay_r2 ++ wsX3_beginDay_r3)) ++ wsX30 ++ wsX20 ++ wsX10)
def wsX3_pass_r1 : List Cond := [Cond.classLink RX3 54 "java/lang/IllegalStateException", Cond.initialized "java/lang/IllegalStateException", Cond.fieldLink RX3 40 "PaperKeeper" "today" "I", Cond.methodLink RX3 75 yX3_checkRange, Cond.static yX3_checkRange, Cond.initialized RX3, Cond.code yX3_checkRange cX3_checkRange 3 none, Cond.classLink RX3 47 "java/lang/IllegalArgumentException", Cond.initialized "java/lang/IllegalArgumentException", Cond.methodLink RX3 192 yX3_beginDay, Cond.instanceMethod yX3_beginDay, Cond.selects RX3 yX3_beginDay yX3_beginDay, Cond.code yX3_beginDay cX3_beginDay 4 (some .int), Cond.fieldLink RX3 22 "PaperKeeper" "papers" "[LPaperKeeper$Paper;", Cond.methodLink RX3 253 yX2_comeIntoForce, Cond.instanceMethod yX2_comeIntoForce, Cond.selects RX2 yX2_comeIntoForce yX2_comeIntoForce, Cond.initialized RX2, Cond.code yX2_comeIntoForce cX2_comeIntoForce 2 (some .boolean), Cond.fieldLink RX2 37 "PaperKeeper$Paper" "hasDraft" "Z", Cond.fieldLink RX2 22 "PaperKeeper$Paper" "draft" "LPaperKeeper$Draft;", Cond.fieldLink RX2 33 "PaperKeeper$Paper" "versionCount" "I", Cond.fieldLink RX2 26 "PaperKeeper$Paper" "texts" "[I", Cond.fieldLink RX2 44 "PaperKeeper$Draft" "text" "I"]
def wsX3_pass_r2 : List Cond := [Cond.fieldLink RX2 30 "PaperKeeper$Paper" "firstDays" "[I", Cond.methodLink RX2 40 yX1_isReady, Cond.instanceMethod yX1_isReady, Cond.selects RX1 yX1_isReady yX1_isReady, Cond.initialized RX1, Cond.code yX1_isReady cX1_isReady 2 (some .boolean), Cond.fieldLink RX1 64 "PaperKeeper$Draft" "firstDay" "I", Cond.methodLink RX1 61 yX1_nextStep, Cond.instanceMethod yX1_nextStep, Cond.selects RX1 yX1_nextStep yX1_nextStep, Cond.code yX1_nextStep cX1_nextStep 1 (some .int), Cond.fieldLink RX1 38 "PaperKeeper$Draft" "reviewerCount" "I", Cond.fieldLink RX1 47 "PaperKeeper$Draft" "approved" "Z", Cond.methodLink RX1 51 yX1_nextReviewer, Cond.instanceMethod yX1_nextReviewer, Cond.selects RX1 yX1_nextReviewer yX1_nextReviewer, Cond.code yX1_nextReviewer cX1_nextReviewer 2 (some .int), Cond.fieldLink RX1 15 "PaperKeeper$Draft" "reviewed" "[Z", Cond.fieldLink RX1 9 "PaperKeeper$Draft" "reviewers" "[I", Cond.methodLink RX1 55 yX1_openRemarks, Cond.instanceMethod yX1_openRemarks, Cond.selects RX1 yX1_openRemarks yX1_openRemarks, Cond.code yX1_openRemarks cX1_openRemarks 3 (some .int), Cond.fieldLink RX1 44 "PaperKeeper$Draft" "remarkCount" "I"]
def wsX3_pass_r3 : List Cond := [Cond.fieldLink RX1 19 "PaperKeeper$Draft" "answered" "[Z", Cond.methodLink RX1 58 yX1_nextReader, Cond.instanceMethod yX1_nextReader, Cond.selects RX1 yX1_nextReader yX1_nextReader, Cond.code yX1_nextReader cX1_nextReader 2 (some .int), Cond.fieldLink RX1 22 "PaperKeeper$Draft" "reads" "[Z", Cond.fieldLink RX1 25 "PaperKeeper$Draft" "confirmed" "[Z", Cond.methodLink RX2 47 yX2_restartInterval, Cond.instanceMethod yX2_restartInterval, Cond.selects RX2 yX2_restartInterval yX2_restartInterval, Cond.code yX2_restartInterval cX2_restartInterval 2 none, Cond.fieldLink RX2 51 "PaperKeeper$Paper" "asked" "Z", Cond.fieldLink RX2 54 "PaperKeeper$Paper" "intervalStart" "I", Cond.methodLink RX3 256 yX3_askForLooks, Cond.instanceMethod yX3_askForLooks, Cond.selects RX3 yX3_askForLooks yX3_askForLooks, Cond.code yX3_askForLooks cX3_askForLooks 4 none, Cond.fieldLink RX3 68 "PaperKeeper$Paper" "hangsOn" "[Z", Cond.fieldLink RX3 259 "PaperKeeper$Paper" "asked" "Z", Cond.methodLink RX3 211 yX2_newest, Cond.instanceMethod yX2_newest, Cond.selects RX2 yX2_newest yX2_newest, Cond.code yX2_newest cX2_newest 1 (some .int)]
def wsX3_pass : List Cond := .code yX3_pass cX3_pass 4 (some .int) :: ((wsX3_pass_r1 ++ (wsX3_pass_r2 ++ wsX3_pass_r3)) ++ wsX30 ++ wsX20 ++ wsX10 ++ (vx_atS RX3 58 "java/lang/IllegalStateException" ["java/lang/RuntimeException", "java/lang/Exception"]).filter goodWord ++ (vx_atS RX3 51 "java/lang/IllegalArgumentException" ["java/lang/RuntimeException", "java/lang/Exception"]).filter goodWord)
def wsX3_checkInForce : List Cond := .code yX3_checkInForce cX3_checkInForce 1 none :: ([.classLink RX3 54 "java/lang/IllegalStateException", .initialized "java/lang/IllegalStateException", .methodLink RX3 211 yX2_newest, .instanceMethod yX2_newest, .selects RX2 yX2_newest yX2_newest, .initialized RX2, .code yX2_newest cX2_newest 1 (some .int), .fieldLink RX2 33 "PaperKeeper$Paper" "versionCount" "I"] ++ wsX20 ++ (vx_atS RX3 58 "java/lang/IllegalStateException" ["java/lang/RuntimeException", "java/lang/Exception"]).filter goodWord)
def wsX3_look_r1 : List Cond := [Cond.fieldLink RX3 40 "PaperKeeper" "today" "I", Cond.fieldLink RX3 37 "PaperKeeper" "interval" "I", Cond.methodLink RX3 62 yX3_paperAt, Cond.instanceMethod yX3_paperAt, Cond.selects RX3 yX3_paperAt yX3_paperAt, Cond.initialized RX3, Cond.code yX3_paperAt cX3_paperAt 3 (some (.object "PaperKeeper$Paper")), Cond.classLink RX3 157 "java/lang/IndexOutOfBoundsException", Cond.initialized "java/lang/IndexOutOfBoundsException", Cond.fieldLink RX3 22 "PaperKeeper" "papers" "[LPaperKeeper$Paper;", Cond.methodLink RX3 195 yX3_checkInForce, Cond.static yX3_checkInForce, Cond.code yX3_checkInForce cX3_checkInForce 1 none, Cond.classLink RX3 54 "java/lang/IllegalStateException", Cond.initialized "java/lang/IllegalStateException", Cond.methodLink RX3 211 yX2_newest, Cond.instanceMethod yX2_newest, Cond.selects RX2 yX2_newest yX2_newest, Cond.initialized RX2, Cond.code yX2_newest cX2_newest 1 (some .int), Cond.fieldLink RX2 33 "PaperKeeper$Paper" "versionCount" "I", Cond.methodLink RX3 199 yX2_needsLook, Cond.instanceMethod yX2_needsLook, Cond.selects RX2 yX2_needsLook yX2_needsLook]
def wsX3_look_r2 : List Cond := [Cond.code yX2_needsLook cX2_needsLook 3 (some .boolean), Cond.fieldLink RX2 51 "PaperKeeper$Paper" "asked" "Z", Cond.fieldLink RX2 54 "PaperKeeper$Paper" "intervalStart" "I", Cond.methodLink RX3 203 yX2_restartInterval, Cond.instanceMethod yX2_restartInterval, Cond.selects RX2 yX2_restartInterval yX2_restartInterval, Cond.code yX2_restartInterval cX2_restartInterval 2 none]
def wsX3_look : List Cond := .code yX3_look cX3_look 4 (some .boolean) :: ((wsX3_look_r1 ++ wsX3_look_r2) ++ wsX30 ++ wsX20 ++ (vx_atS RX3 161 "java/lang/IndexOutOfBoundsException" ["java/lang/RuntimeException", "java/lang/Exception"]).filter goodWord ++ (vx_atS RX3 58 "java/lang/IllegalStateException" ["java/lang/RuntimeException", "java/lang/Exception"]).filter goodWord)
def wsX3_isDue : List Cond := .code yX3_isDue cX3_isDue 2 (some .boolean) :: ([.fieldLink RX3 40 "PaperKeeper" "today" "I", .fieldLink RX3 37 "PaperKeeper" "interval" "I", .methodLink RX3 62 yX3_paperAt, .instanceMethod yX3_paperAt, .selects RX3 yX3_paperAt yX3_paperAt, .initialized RX3, .code yX3_paperAt cX3_paperAt 3 (some (.object "PaperKeeper$Paper")), .classLink RX3 157 "java/lang/IndexOutOfBoundsException", .initialized "java/lang/IndexOutOfBoundsException", .fieldLink RX3 22 "PaperKeeper" "papers" "[LPaperKeeper$Paper;", .methodLink RX3 199 yX2_needsLook, .instanceMethod yX2_needsLook, .selects RX2 yX2_needsLook yX2_needsLook, .initialized RX2, .code yX2_needsLook cX2_needsLook 3 (some .boolean), .fieldLink RX2 33 "PaperKeeper$Paper" "versionCount" "I", .fieldLink RX2 51 "PaperKeeper$Paper" "asked" "Z", .fieldLink RX2 54 "PaperKeeper$Paper" "intervalStart" "I"] ++ wsX30 ++ wsX20 ++ (vx_atS RX3 161 "java/lang/IndexOutOfBoundsException" ["java/lang/RuntimeException", "java/lang/Exception"]).filter goodWord)
def wsX3_copy_r1 : List Cond := [Cond.classLink RX3 54 "java/lang/IllegalStateException", Cond.initialized "java/lang/IllegalStateException", Cond.fieldLink RX3 29 "PaperKeeper" "copies" "LPaperKeeper$Copies;", Cond.fieldLink RX3 206 "PaperKeeper$Copies" "count" "I", Cond.methodLink RX3 62 yX3_paperAt, Cond.instanceMethod yX3_paperAt, Cond.selects RX3 yX3_paperAt yX3_paperAt, Cond.initialized RX3, Cond.code yX3_paperAt cX3_paperAt 3 (some (.object "PaperKeeper$Paper")), Cond.classLink RX3 157 "java/lang/IndexOutOfBoundsException", Cond.initialized "java/lang/IndexOutOfBoundsException", Cond.fieldLink RX3 22 "PaperKeeper" "papers" "[LPaperKeeper$Paper;", Cond.methodLink RX3 75 yX3_checkRange, Cond.static yX3_checkRange, Cond.code yX3_checkRange cX3_checkRange 3 none, Cond.classLink RX3 47 "java/lang/IllegalArgumentException", Cond.initialized "java/lang/IllegalArgumentException", Cond.methodLink RX3 195 yX3_checkInForce, Cond.static yX3_checkInForce, Cond.code yX3_checkInForce cX3_checkInForce 1 none, Cond.methodLink RX3 211 yX2_newest, Cond.instanceMethod yX2_newest, Cond.selects RX2 yX2_newest yX2_newest, Cond.initialized RX2]
def wsX3_copy_r2 : List Cond := [Cond.code yX2_newest cX2_newest 1 (some .int), Cond.fieldLink RX2 33 "PaperKeeper$Paper" "versionCount" "I", Cond.methodLink RX3 214 yX0_add, Cond.instanceMethod yX0_add, Cond.selects RX0 yX0_add yX0_add, Cond.initialized RX0, Cond.code yX0_add cX0_add 5 (some .int), Cond.fieldLink RX0 21 "PaperKeeper$Copies" "count" "I", Cond.fieldLink RX0 9 "PaperKeeper$Copies" "papers" "[I", Cond.fieldLink RX0 15 "PaperKeeper$Copies" "versions" "[I", Cond.fieldLink RX0 18 "PaperKeeper$Copies" "walls" "[I"]
def wsX3_copy : List Cond := .code yX3_copy cX3_copy 4 (some .int) :: ((wsX3_copy_r1 ++ wsX3_copy_r2) ++ wsX30 ++ wsX00 ++ wsX20 ++ (vx_atS RX3 58 "java/lang/IllegalStateException" ["java/lang/RuntimeException", "java/lang/Exception"]).filter goodWord ++ (vx_atS RX3 161 "java/lang/IndexOutOfBoundsException" ["java/lang/RuntimeException", "java/lang/Exception"]).filter goodWord ++ (vx_atS RX3 51 "java/lang/IllegalArgumentException" ["java/lang/RuntimeException", "java/lang/Exception"]).filter goodWord)
def wsX3_takeDown : List Cond := .code yX3_takeDown cX3_takeDown 3 (some .int) :: ([.classLink RX3 157 "java/lang/IndexOutOfBoundsException", .initialized "java/lang/IndexOutOfBoundsException", .fieldLink RX3 29 "PaperKeeper" "copies" "LPaperKeeper$Copies;", .fieldLink RX3 206 "PaperKeeper$Copies" "count" "I", .fieldLink RX3 218 "PaperKeeper$Copies" "walls" "[I"] ++ wsX30 ++ wsX00 ++ (vx_atS RX3 161 "java/lang/IndexOutOfBoundsException" ["java/lang/RuntimeException", "java/lang/Exception"]).filter goodWord)
def wsX3_outOfDate : List Cond := .code yX3_outOfDate cX3_outOfDate 2 (some .int) :: ([.fieldLink RX3 29 "PaperKeeper" "copies" "LPaperKeeper$Copies;", .methodLink RX3 62 yX3_paperAt, .instanceMethod yX3_paperAt, .selects RX3 yX3_paperAt yX3_paperAt, .initialized RX3, .code yX3_paperAt cX3_paperAt 3 (some (.object "PaperKeeper$Paper")), .classLink RX3 157 "java/lang/IndexOutOfBoundsException", .initialized "java/lang/IndexOutOfBoundsException", .fieldLink RX3 22 "PaperKeeper" "papers" "[LPaperKeeper$Paper;", .methodLink RX3 211 yX2_newest, .instanceMethod yX2_newest, .selects RX2 yX2_newest yX2_newest, .initialized RX2, .code yX2_newest cX2_newest 1 (some .int), .fieldLink RX2 33 "PaperKeeper$Paper" "versionCount" "I", .methodLink RX3 223 yX0_countOld, .instanceMethod yX0_countOld, .selects RX0 yX0_countOld yX0_countOld, .initialized RX0, .code yX0_countOld cX0_countOld 5 (some .int), .fieldLink RX0 21 "PaperKeeper$Copies" "count" "I", .fieldLink RX0 18 "PaperKeeper$Copies" "walls" "[I", .fieldLink RX0 9 "PaperKeeper$Copies" "papers" "[I", .fieldLink RX0 15 "PaperKeeper$Copies" "versions" "[I"] ++ wsX30 ++ wsX20 ++ wsX00 ++ (vx_atS RX3 161 "java/lang/IndexOutOfBoundsException" ["java/lang/RuntimeException", "java/lang/Exception"]).filter goodWord)
def wsX3_day : List Cond := .code yX3_day cX3_day 1 (some .int) :: ([.fieldLink RX3 40 "PaperKeeper" "today" "I"] ++ wsX30)
def wsX3_step_r1 : List Cond := [Cond.fieldLink RX3 79 "PaperKeeper$Paper" "hasDraft" "Z", Cond.fieldLink RX3 85 "PaperKeeper$Paper" "draft" "LPaperKeeper$Draft;", Cond.methodLink RX3 62 yX3_paperAt, Cond.instanceMethod yX3_paperAt, Cond.selects RX3 yX3_paperAt yX3_paperAt, Cond.initialized RX3, Cond.code yX3_paperAt cX3_paperAt 3 (some (.object "PaperKeeper$Paper")), Cond.classLink RX3 157 "java/lang/IndexOutOfBoundsException", Cond.initialized "java/lang/IndexOutOfBoundsException", Cond.fieldLink RX3 22 "PaperKeeper" "papers" "[LPaperKeeper$Paper;", Cond.methodLink RX3 170 yX1_nextStep, Cond.instanceMethod yX1_nextStep, Cond.selects RX1 yX1_nextStep yX1_nextStep, Cond.initialized RX1, Cond.code yX1_nextStep cX1_nextStep 1 (some .int), Cond.fieldLink RX1 38 "PaperKeeper$Draft" "reviewerCount" "I", Cond.fieldLink RX1 47 "PaperKeeper$Draft" "approved" "Z", Cond.methodLink RX1 51 yX1_nextReviewer, Cond.instanceMethod yX1_nextReviewer, Cond.selects RX1 yX1_nextReviewer yX1_nextReviewer, Cond.code yX1_nextReviewer cX1_nextReviewer 2 (some .int), Cond.fieldLink RX1 15 "PaperKeeper$Draft" "reviewed" "[Z", Cond.fieldLink RX1 9 "PaperKeeper$Draft" "reviewers" "[I", Cond.methodLink RX1 55 yX1_openRemarks]
def wsX3_step_r2 : List Cond := [Cond.instanceMethod yX1_openRemarks, Cond.selects RX1 yX1_openRemarks yX1_openRemarks, Cond.code yX1_openRemarks cX1_openRemarks 3 (some .int), Cond.fieldLink RX1 44 "PaperKeeper$Draft" "remarkCount" "I", Cond.fieldLink RX1 19 "PaperKeeper$Draft" "answered" "[Z", Cond.methodLink RX1 58 yX1_nextReader, Cond.instanceMethod yX1_nextReader, Cond.selects RX1 yX1_nextReader yX1_nextReader, Cond.code yX1_nextReader cX1_nextReader 2 (some .int), Cond.fieldLink RX1 22 "PaperKeeper$Draft" "reads" "[Z", Cond.fieldLink RX1 25 "PaperKeeper$Draft" "confirmed" "[Z"]
def wsX3_step : List Cond := .code yX3_step cX3_step 3 (some .int) :: ((wsX3_step_r1 ++ wsX3_step_r2) ++ wsX20 ++ wsX30 ++ wsX10 ++ (vx_atS RX3 161 "java/lang/IndexOutOfBoundsException" ["java/lang/RuntimeException", "java/lang/Exception"]).filter goodWord)
def wsX3_inForce : List Cond := .code yX3_inForce cX3_inForce 2 (some .int) :: ([.methodLink RX3 62 yX3_paperAt, .instanceMethod yX3_paperAt, .selects RX3 yX3_paperAt yX3_paperAt, .initialized RX3, .code yX3_paperAt cX3_paperAt 3 (some (.object "PaperKeeper$Paper")), .classLink RX3 157 "java/lang/IndexOutOfBoundsException", .initialized "java/lang/IndexOutOfBoundsException", .fieldLink RX3 22 "PaperKeeper" "papers" "[LPaperKeeper$Paper;", .methodLink RX3 211 yX2_newest, .instanceMethod yX2_newest, .selects RX2 yX2_newest yX2_newest, .initialized RX2, .code yX2_newest cX2_newest 1 (some .int), .fieldLink RX2 33 "PaperKeeper$Paper" "versionCount" "I"] ++ wsX30 ++ wsX20 ++ (vx_atS RX3 161 "java/lang/IndexOutOfBoundsException" ["java/lang/RuntimeException", "java/lang/Exception"]).filter goodWord)
def wsX3_text : List Cond := .code yX3_text cX3_text 4 (some .int) :: ([.fieldLink RX3 227 "PaperKeeper$Paper" "texts" "[I", .methodLink RX3 62 yX3_paperAt, .instanceMethod yX3_paperAt, .selects RX3 yX3_paperAt yX3_paperAt, .initialized RX3, .code yX3_paperAt cX3_paperAt 3 (some (.object "PaperKeeper$Paper")), .classLink RX3 157 "java/lang/IndexOutOfBoundsException", .initialized "java/lang/IndexOutOfBoundsException", .fieldLink RX3 22 "PaperKeeper" "papers" "[LPaperKeeper$Paper;", .methodLink RX3 211 yX2_newest, .instanceMethod yX2_newest, .selects RX2 yX2_newest yX2_newest, .initialized RX2, .code yX2_newest cX2_newest 1 (some .int), .fieldLink RX2 33 "PaperKeeper$Paper" "versionCount" "I"] ++ wsX20 ++ wsX30 ++ (vx_atS RX3 161 "java/lang/IndexOutOfBoundsException" ["java/lang/RuntimeException", "java/lang/Exception"]).filter goodWord)
def wsX3_inForceOn : List Cond := .code yX3_inForceOn cX3_inForceOn 4 (some .int) :: ([.fieldLink RX3 40 "PaperKeeper" "today" "I", .methodLink RX3 62 yX3_paperAt, .instanceMethod yX3_paperAt, .selects RX3 yX3_paperAt yX3_paperAt, .initialized RX3, .code yX3_paperAt cX3_paperAt 3 (some (.object "PaperKeeper$Paper")), .classLink RX3 157 "java/lang/IndexOutOfBoundsException", .initialized "java/lang/IndexOutOfBoundsException", .fieldLink RX3 22 "PaperKeeper" "papers" "[LPaperKeeper$Paper;", .methodLink RX3 75 yX3_checkRange, .static yX3_checkRange, .code yX3_checkRange cX3_checkRange 3 none, .classLink RX3 47 "java/lang/IllegalArgumentException", .initialized "java/lang/IllegalArgumentException", .methodLink RX3 230 yX2_versionOn, .instanceMethod yX2_versionOn, .selects RX2 yX2_versionOn yX2_versionOn, .initialized RX2, .code yX2_versionOn cX2_versionOn 3 (some .int), .fieldLink RX2 33 "PaperKeeper$Paper" "versionCount" "I", .fieldLink RX2 30 "PaperKeeper$Paper" "firstDays" "[I"] ++ wsX30 ++ wsX20 ++ (vx_atS RX3 161 "java/lang/IndexOutOfBoundsException" ["java/lang/RuntimeException", "java/lang/Exception"]).filter goodWord ++ (vx_atS RX3 51 "java/lang/IllegalArgumentException" ["java/lang/RuntimeException", "java/lang/Exception"]).filter goodWord)
def wsX3_since : List Cond := .code yX3_since cX3_since 4 (some .int) :: ([.classLink RX3 157 "java/lang/IndexOutOfBoundsException", .initialized "java/lang/IndexOutOfBoundsException", .fieldLink RX3 234 "PaperKeeper$Paper" "versionCount" "I", .fieldLink RX3 239 "PaperKeeper$Paper" "firstDays" "[I", .methodLink RX3 62 yX3_paperAt, .instanceMethod yX3_paperAt, .selects RX3 yX3_paperAt yX3_paperAt, .initialized RX3, .code yX3_paperAt cX3_paperAt 3 (some (.object "PaperKeeper$Paper")), .fieldLink RX3 22 "PaperKeeper" "papers" "[LPaperKeeper$Paper;"] ++ wsX20 ++ wsX30 ++ (vx_atS RX3 161 "java/lang/IndexOutOfBoundsException" ["java/lang/RuntimeException", "java/lang/Exception"]).filter goodWord)
def wsX3_waitsFor_r1 : List Cond := [Cond.fieldLink RX3 79 "PaperKeeper$Paper" "hasDraft" "Z", Cond.fieldLink RX3 85 "PaperKeeper$Paper" "draft" "LPaperKeeper$Draft;", Cond.methodLink RX3 62 yX3_paperAt, Cond.instanceMethod yX3_paperAt, Cond.selects RX3 yX3_paperAt yX3_paperAt, Cond.initialized RX3, Cond.code yX3_paperAt cX3_paperAt 3 (some (.object "PaperKeeper$Paper")), Cond.classLink RX3 157 "java/lang/IndexOutOfBoundsException", Cond.initialized "java/lang/IndexOutOfBoundsException", Cond.fieldLink RX3 22 "PaperKeeper" "papers" "[LPaperKeeper$Paper;", Cond.methodLink RX3 242 yX1_nextPerson, Cond.instanceMethod yX1_nextPerson, Cond.selects RX1 yX1_nextPerson yX1_nextPerson, Cond.initialized RX1, Cond.code yX1_nextPerson cX1_nextPerson 1 (some .int), Cond.fieldLink RX1 28 "PaperKeeper$Draft" "author" "I", Cond.methodLink RX1 61 yX1_nextStep, Cond.instanceMethod yX1_nextStep, Cond.selects RX1 yX1_nextStep yX1_nextStep, Cond.code yX1_nextStep cX1_nextStep 1 (some .int), Cond.fieldLink RX1 38 "PaperKeeper$Draft" "reviewerCount" "I", Cond.fieldLink RX1 47 "PaperKeeper$Draft" "approved" "Z", Cond.methodLink RX1 51 yX1_nextReviewer, Cond.instanceMethod yX1_nextReviewer]
def wsX3_waitsFor_r2 : List Cond := [Cond.selects RX1 yX1_nextReviewer yX1_nextReviewer, Cond.code yX1_nextReviewer cX1_nextReviewer 2 (some .int), Cond.fieldLink RX1 15 "PaperKeeper$Draft" "reviewed" "[Z", Cond.fieldLink RX1 9 "PaperKeeper$Draft" "reviewers" "[I", Cond.methodLink RX1 55 yX1_openRemarks, Cond.instanceMethod yX1_openRemarks, Cond.selects RX1 yX1_openRemarks yX1_openRemarks, Cond.code yX1_openRemarks cX1_openRemarks 3 (some .int), Cond.fieldLink RX1 44 "PaperKeeper$Draft" "remarkCount" "I", Cond.fieldLink RX1 19 "PaperKeeper$Draft" "answered" "[Z", Cond.methodLink RX1 58 yX1_nextReader, Cond.instanceMethod yX1_nextReader, Cond.selects RX1 yX1_nextReader yX1_nextReader, Cond.code yX1_nextReader cX1_nextReader 2 (some .int), Cond.fieldLink RX1 22 "PaperKeeper$Draft" "reads" "[Z", Cond.fieldLink RX1 25 "PaperKeeper$Draft" "confirmed" "[Z"]
def wsX3_waitsFor : List Cond := .code yX3_waitsFor cX3_waitsFor 3 (some .int) :: ((wsX3_waitsFor_r1 ++ wsX3_waitsFor_r2) ++ wsX20 ++ wsX30 ++ wsX10 ++ (vx_atS RX3 161 "java/lang/IndexOutOfBoundsException" ["java/lang/RuntimeException", "java/lang/Exception"]).filter goodWord)
def wsL_draw : List Cond := .code yL_draw cL_draw 4 (some .int) :: ([.constant RL 7 (935717331), .constant RL 8 (1137817079), .constant RL 9 (2147483647)])
def wsL_has : List Cond := .code yL_has cL_has 2 (some .boolean) :: ([])
def wsL_size : List Cond := .code yL_size cL_size 3 (some .int) :: ([])
def wsL_begins_r1 : List Cond := [Cond.methodLink RL 10 yX3_draft, Cond.instanceMethod yX3_draft, Cond.selects RX3 yX3_draft yX3_draft, Cond.initialized RX3, Cond.code yX3_draft cX3_draft 5 none, Cond.classLink RX3 54 "java/lang/IllegalStateException", Cond.initialized "java/lang/IllegalStateException", Cond.fieldLink RX3 79 "PaperKeeper$Paper" "hasDraft" "Z", Cond.fieldLink RX3 85 "PaperKeeper$Paper" "draft" "LPaperKeeper$Draft;", Cond.methodLink RX3 62 yX3_paperAt, Cond.instanceMethod yX3_paperAt, Cond.selects RX3 yX3_paperAt yX3_paperAt, Cond.code yX3_paperAt cX3_paperAt 3 (some (.object "PaperKeeper$Paper")), Cond.classLink RX3 157 "java/lang/IndexOutOfBoundsException", Cond.initialized "java/lang/IndexOutOfBoundsException", Cond.fieldLink RX3 22 "PaperKeeper" "papers" "[LPaperKeeper$Paper;", Cond.methodLink RX3 43 yX3_checkPerson, Cond.static yX3_checkPerson, Cond.code yX3_checkPerson cX3_checkPerson 1 none, Cond.methodLink RX3 75 yX3_checkRange, Cond.static yX3_checkRange, Cond.code yX3_checkRange cX3_checkRange 3 none, Cond.classLink RX3 47 "java/lang/IllegalArgumentException", Cond.initialized "java/lang/IllegalArgumentException"]
def wsL_begins_r2 : List Cond := [Cond.methodLink RX3 89 yX1_begin, Cond.instanceMethod yX1_begin, Cond.selects RX1 yX1_begin yX1_begin, Cond.initialized RX1, Cond.code yX1_begin cX1_begin 4 none, Cond.fieldLink RX1 28 "PaperKeeper$Draft" "author" "I", Cond.fieldLink RX1 32 "PaperKeeper$Draft" "text" "I", Cond.fieldLink RX1 35 "PaperKeeper$Draft" "round" "I", Cond.fieldLink RX1 38 "PaperKeeper$Draft" "reviewerCount" "I", Cond.fieldLink RX1 22 "PaperKeeper$Draft" "reads" "[Z", Cond.methodLink RX1 41 yX1_beginRound, Cond.instanceMethod yX1_beginRound, Cond.selects RX1 yX1_beginRound yX1_beginRound, Cond.code yX1_beginRound cX1_beginRound 2 none, Cond.fieldLink RX1 44 "PaperKeeper$Draft" "remarkCount" "I", Cond.fieldLink RX1 47 "PaperKeeper$Draft" "approved" "Z", Cond.fieldLink RX1 15 "PaperKeeper$Draft" "reviewed" "[Z", Cond.fieldLink RX1 25 "PaperKeeper$Draft" "confirmed" "[Z"]
def wsL_begins : List Cond := .code yL_begins cL_begins 4 (some .int) :: ((wsL_begins_r1 ++ wsL_begins_r2) ++ wsX20 ++ wsX30 ++ wsX10 ++ (vx_atS RX3 58 "java/lang/IllegalStateException" ["java/lang/RuntimeException", "java/lang/Exception"]).filter goodWord ++ (vx_atS RX3 161 "java/lang/IndexOutOfBoundsException" ["java/lang/RuntimeException", "java/lang/Exception"]).filter goodWord ++ (vx_atS RX3 51 "java/lang/IllegalArgumentException" ["java/lang/RuntimeException", "java/lang/Exception"]).filter goodWord)
def wsL_approves_r1 : List Cond := [Cond.methodLink RL 16 yX3_approve, Cond.instanceMethod yX3_approve, Cond.selects RX3 yX3_approve yX3_approve, Cond.initialized RX3, Cond.code yX3_approve cX3_approve 6 none, Cond.classLink RX3 54 "java/lang/IllegalStateException", Cond.initialized "java/lang/IllegalStateException", Cond.fieldLink RX3 40 "PaperKeeper" "today" "I", Cond.fieldLink RX3 115 "PaperKeeper$Draft" "author" "I", Cond.fieldLink RX3 110 "PaperKeeper$Draft" "approved" "Z", Cond.fieldLink RX3 180 "PaperKeeper$Draft" "firstDay" "I", Cond.methodLink RX3 62 yX3_paperAt, Cond.instanceMethod yX3_paperAt, Cond.selects RX3 yX3_paperAt yX3_paperAt, Cond.code yX3_paperAt cX3_paperAt 3 (some (.object "PaperKeeper$Paper")), Cond.classLink RX3 157 "java/lang/IndexOutOfBoundsException", Cond.initialized "java/lang/IndexOutOfBoundsException", Cond.fieldLink RX3 22 "PaperKeeper" "papers" "[LPaperKeeper$Paper;", Cond.methodLink RX3 43 yX3_checkPerson, Cond.static yX3_checkPerson, Cond.code yX3_checkPerson cX3_checkPerson 1 none, Cond.methodLink RX3 75 yX3_checkRange, Cond.static yX3_checkRange, Cond.code yX3_checkRange cX3_checkRange 3 none]
def wsL_approves_r2 : List Cond := [Cond.classLink RX3 47 "java/lang/IllegalArgumentException", Cond.initialized "java/lang/IllegalArgumentException", Cond.methodLink RX3 95 yX3_draftOf, Cond.static yX3_draftOf, Cond.code yX3_draftOf cX3_draftOf 1 (some (.object "PaperKeeper$Draft")), Cond.fieldLink RX3 79 "PaperKeeper$Paper" "hasDraft" "Z", Cond.fieldLink RX3 85 "PaperKeeper$Paper" "draft" "LPaperKeeper$Draft;", Cond.methodLink RX3 170 yX1_nextStep, Cond.instanceMethod yX1_nextStep, Cond.selects RX1 yX1_nextStep yX1_nextStep, Cond.initialized RX1, Cond.code yX1_nextStep cX1_nextStep 1 (some .int), Cond.fieldLink RX1 38 "PaperKeeper$Draft" "reviewerCount" "I", Cond.fieldLink RX1 47 "PaperKeeper$Draft" "approved" "Z", Cond.methodLink RX1 51 yX1_nextReviewer, Cond.instanceMethod yX1_nextReviewer, Cond.selects RX1 yX1_nextReviewer yX1_nextReviewer, Cond.code yX1_nextReviewer cX1_nextReviewer 2 (some .int), Cond.fieldLink RX1 15 "PaperKeeper$Draft" "reviewed" "[Z", Cond.fieldLink RX1 9 "PaperKeeper$Draft" "reviewers" "[I", Cond.methodLink RX1 55 yX1_openRemarks, Cond.instanceMethod yX1_openRemarks, Cond.selects RX1 yX1_openRemarks yX1_openRemarks, Cond.code yX1_openRemarks cX1_openRemarks 3 (some .int)]
def wsL_approves_r3 : List Cond := [Cond.fieldLink RX1 44 "PaperKeeper$Draft" "remarkCount" "I", Cond.fieldLink RX1 19 "PaperKeeper$Draft" "answered" "[Z", Cond.methodLink RX1 58 yX1_nextReader, Cond.instanceMethod yX1_nextReader, Cond.selects RX1 yX1_nextReader yX1_nextReader, Cond.code yX1_nextReader cX1_nextReader 2 (some .int), Cond.fieldLink RX1 22 "PaperKeeper$Draft" "reads" "[Z", Cond.fieldLink RX1 25 "PaperKeeper$Draft" "confirmed" "[Z", Cond.methodLink RX3 175 yX3_canApprove, Cond.instanceMethod yX3_canApprove, Cond.selects RX3 yX3_canApprove yX3_canApprove, Cond.code yX3_canApprove cX3_canApprove 4 (some .boolean), Cond.fieldLink RX3 13 "PaperKeeper" "mayApprove" "[Z", Cond.fieldLink RX3 16 "PaperKeeper" "deputies" "[I"]
def wsL_approves : List Cond := .code yL_approves cL_approves 4 (some .int) :: ((wsL_approves_r1 ++ (wsL_approves_r2 ++ wsL_approves_r3)) ++ wsX30 ++ wsX10 ++ wsX20 ++ (vx_atS RX3 58 "java/lang/IllegalStateException" ["java/lang/RuntimeException", "java/lang/Exception"]).filter goodWord ++ (vx_atS RX3 161 "java/lang/IndexOutOfBoundsException" ["java/lang/RuntimeException", "java/lang/Exception"]).filter goodWord ++ (vx_atS RX3 51 "java/lang/IllegalArgumentException" ["java/lang/RuntimeException", "java/lang/Exception"]).filter goodWord)
def wsL_asks_r1 : List Cond := [Cond.classLink RL 62 "java/lang/IndexOutOfBoundsException", Cond.classLink RL 64 "java/lang/IllegalStateException", Cond.classLink RL 66 "java/lang/IllegalArgumentException", Cond.methodLink RL 19 yL_begins, Cond.static yL_begins, Cond.initialized RL, Cond.code yL_begins cL_begins 4 (some .int), Cond.methodLink RL 10 yX3_draft, Cond.instanceMethod yX3_draft, Cond.selects RX3 yX3_draft yX3_draft, Cond.initialized RX3, Cond.code yX3_draft cX3_draft 5 none, Cond.classLink RX3 54 "java/lang/IllegalStateException", Cond.initialized "java/lang/IllegalStateException", Cond.fieldLink RX3 79 "PaperKeeper$Paper" "hasDraft" "Z", Cond.fieldLink RX3 85 "PaperKeeper$Paper" "draft" "LPaperKeeper$Draft;", Cond.methodLink RX3 62 yX3_paperAt, Cond.instanceMethod yX3_paperAt, Cond.selects RX3 yX3_paperAt yX3_paperAt, Cond.code yX3_paperAt cX3_paperAt 3 (some (.object "PaperKeeper$Paper")), Cond.classLink RX3 157 "java/lang/IndexOutOfBoundsException", Cond.initialized "java/lang/IndexOutOfBoundsException", Cond.fieldLink RX3 22 "PaperKeeper" "papers" "[LPaperKeeper$Paper;", Cond.methodLink RX3 43 yX3_checkPerson]
def wsL_asks_r2 : List Cond := [Cond.static yX3_checkPerson, Cond.code yX3_checkPerson cX3_checkPerson 1 none, Cond.methodLink RX3 75 yX3_checkRange, Cond.static yX3_checkRange, Cond.code yX3_checkRange cX3_checkRange 3 none, Cond.classLink RX3 47 "java/lang/IllegalArgumentException", Cond.initialized "java/lang/IllegalArgumentException", Cond.methodLink RX3 89 yX1_begin, Cond.instanceMethod yX1_begin, Cond.selects RX1 yX1_begin yX1_begin, Cond.initialized RX1, Cond.code yX1_begin cX1_begin 4 none, Cond.fieldLink RX1 28 "PaperKeeper$Draft" "author" "I", Cond.fieldLink RX1 32 "PaperKeeper$Draft" "text" "I", Cond.fieldLink RX1 35 "PaperKeeper$Draft" "round" "I", Cond.fieldLink RX1 38 "PaperKeeper$Draft" "reviewerCount" "I", Cond.fieldLink RX1 22 "PaperKeeper$Draft" "reads" "[Z", Cond.methodLink RX1 41 yX1_beginRound, Cond.instanceMethod yX1_beginRound, Cond.selects RX1 yX1_beginRound yX1_beginRound, Cond.code yX1_beginRound cX1_beginRound 2 none, Cond.fieldLink RX1 44 "PaperKeeper$Draft" "remarkCount" "I", Cond.fieldLink RX1 47 "PaperKeeper$Draft" "approved" "Z", Cond.fieldLink RX1 15 "PaperKeeper$Draft" "reviewed" "[Z"]
def wsL_asks_r3 : List Cond := [Cond.fieldLink RX1 25 "PaperKeeper$Draft" "confirmed" "[Z", Cond.methodLink RL 25 yX3_change, Cond.instanceMethod yX3_change, Cond.selects RX3 yX3_change yX3_change, Cond.code yX3_change cX3_change 5 (some .int), Cond.fieldLink RX3 99 "PaperKeeper$Draft" "text" "I", Cond.fieldLink RX3 107 "PaperKeeper$Draft" "round" "I", Cond.methodLink RX3 95 yX3_draftOf, Cond.static yX3_draftOf, Cond.code yX3_draftOf cX3_draftOf 1 (some (.object "PaperKeeper$Draft")), Cond.methodLink RX3 104 yX1_beginRound, Cond.methodLink RL 29 yX3_drop, Cond.instanceMethod yX3_drop, Cond.selects RX3 yX3_drop yX3_drop, Cond.code yX3_drop cX3_drop 4 (some .int), Cond.methodLink RL 33 yX3_reviewer, Cond.instanceMethod yX3_reviewer, Cond.selects RX3 yX3_reviewer yX3_reviewer, Cond.code yX3_reviewer cX3_reviewer 5 (some .int), Cond.fieldLink RX3 110 "PaperKeeper$Draft" "approved" "Z", Cond.fieldLink RX3 115 "PaperKeeper$Draft" "author" "I", Cond.fieldLink RX3 9 "PaperKeeper" "mayReview" "[Z", Cond.fieldLink RX3 124 "PaperKeeper$Draft" "reviewerCount" "I", Cond.fieldLink RX3 129 "PaperKeeper$Draft" "reviewers" "[I"]
def wsL_asks_r4 : List Cond := [Cond.methodLink RX3 120 yX1_hasReviewer, Cond.instanceMethod yX1_hasReviewer, Cond.selects RX1 yX1_hasReviewer yX1_hasReviewer, Cond.code yX1_hasReviewer cX1_hasReviewer 3 (some .boolean), Cond.fieldLink RX1 9 "PaperKeeper$Draft" "reviewers" "[I", Cond.methodLink RL 36 yX3_reader, Cond.instanceMethod yX3_reader, Cond.selects RX3 yX3_reader yX3_reader, Cond.code yX3_reader cX3_reader 5 (some .int), Cond.fieldLink RX3 132 "PaperKeeper$Draft" "reads" "[Z", Cond.methodLink RX3 71 yX3_countOf, Cond.static yX3_countOf, Cond.code yX3_countOf cX3_countOf 3 (some .int), Cond.methodLink RL 39 yX3_review, Cond.instanceMethod yX3_review, Cond.selects RX3 yX3_review yX3_review, Cond.code yX3_review cX3_review 6 (some .int), Cond.fieldLink RX3 137 "PaperKeeper$Draft" "reviewed" "[Z", Cond.fieldLink RX3 142 "PaperKeeper$Paper" "inOrder" "Z", Cond.methodLink RX3 145 yX1_nextReviewer, Cond.instanceMethod yX1_nextReviewer, Cond.selects RX1 yX1_nextReviewer yX1_nextReviewer, Cond.code yX1_nextReviewer cX1_nextReviewer 2 (some .int), Cond.methodLink RX3 151 yX1_addRemark]
def wsL_asks_r5 : List Cond := [Cond.instanceMethod yX1_addRemark, Cond.selects RX1 yX1_addRemark yX1_addRemark, Cond.code yX1_addRemark cX1_addRemark 2 (some .int), Cond.fieldLink RX1 19 "PaperKeeper$Draft" "answered" "[Z", Cond.methodLink RL 43 yX3_answer, Cond.instanceMethod yX3_answer, Cond.selects RX3 yX3_answer yX3_answer, Cond.code yX3_answer cX3_answer 5 (some .int), Cond.fieldLink RX3 154 "PaperKeeper$Draft" "remarkCount" "I", Cond.fieldLink RX3 162 "PaperKeeper$Draft" "answered" "[Z", Cond.methodLink RX3 167 yX1_openRemarks, Cond.instanceMethod yX1_openRemarks, Cond.selects RX1 yX1_openRemarks yX1_openRemarks, Cond.code yX1_openRemarks cX1_openRemarks 3 (some .int), Cond.methodLink RL 46 yL_approves, Cond.static yL_approves, Cond.code yL_approves cL_approves 4 (some .int), Cond.methodLink RL 16 yX3_approve, Cond.instanceMethod yX3_approve, Cond.selects RX3 yX3_approve yX3_approve, Cond.code yX3_approve cX3_approve 6 none, Cond.fieldLink RX3 40 "PaperKeeper" "today" "I", Cond.fieldLink RX3 180 "PaperKeeper$Draft" "firstDay" "I", Cond.methodLink RX3 170 yX1_nextStep]
def wsL_asks_r6 : List Cond := [Cond.instanceMethod yX1_nextStep, Cond.selects RX1 yX1_nextStep yX1_nextStep, Cond.code yX1_nextStep cX1_nextStep 1 (some .int), Cond.methodLink RX1 51 yX1_nextReviewer, Cond.methodLink RX1 55 yX1_openRemarks, Cond.methodLink RX1 58 yX1_nextReader, Cond.instanceMethod yX1_nextReader, Cond.selects RX1 yX1_nextReader yX1_nextReader, Cond.code yX1_nextReader cX1_nextReader 2 (some .int), Cond.methodLink RX3 175 yX3_canApprove, Cond.instanceMethod yX3_canApprove, Cond.selects RX3 yX3_canApprove yX3_canApprove, Cond.code yX3_canApprove cX3_canApprove 4 (some .boolean), Cond.fieldLink RX3 13 "PaperKeeper" "mayApprove" "[Z", Cond.fieldLink RX3 16 "PaperKeeper" "deputies" "[I", Cond.methodLink RL 49 yX3_confirm, Cond.instanceMethod yX3_confirm, Cond.selects RX3 yX3_confirm yX3_confirm, Cond.code yX3_confirm cX3_confirm 5 (some .int), Cond.fieldLink RX3 185 "PaperKeeper$Draft" "confirmed" "[Z", Cond.methodLink RL 52 yX3_look, Cond.instanceMethod yX3_look, Cond.selects RX3 yX3_look yX3_look, Cond.code yX3_look cX3_look 4 (some .boolean)]
def wsL_asks_r7 : List Cond := [Cond.fieldLink RX3 37 "PaperKeeper" "interval" "I", Cond.methodLink RX3 195 yX3_checkInForce, Cond.static yX3_checkInForce, Cond.code yX3_checkInForce cX3_checkInForce 1 none, Cond.methodLink RX3 211 yX2_newest, Cond.instanceMethod yX2_newest, Cond.selects RX2 yX2_newest yX2_newest, Cond.initialized RX2, Cond.code yX2_newest cX2_newest 1 (some .int), Cond.fieldLink RX2 33 "PaperKeeper$Paper" "versionCount" "I", Cond.methodLink RX3 199 yX2_needsLook, Cond.instanceMethod yX2_needsLook, Cond.selects RX2 yX2_needsLook yX2_needsLook, Cond.code yX2_needsLook cX2_needsLook 3 (some .boolean), Cond.fieldLink RX2 51 "PaperKeeper$Paper" "asked" "Z", Cond.fieldLink RX2 54 "PaperKeeper$Paper" "intervalStart" "I", Cond.methodLink RX3 203 yX2_restartInterval, Cond.instanceMethod yX2_restartInterval, Cond.selects RX2 yX2_restartInterval yX2_restartInterval, Cond.code yX2_restartInterval cX2_restartInterval 2 none, Cond.methodLink RL 56 yX3_copy, Cond.instanceMethod yX3_copy, Cond.selects RX3 yX3_copy yX3_copy, Cond.code yX3_copy cX3_copy 4 (some .int)]
def wsL_asks_r8 : List Cond := [Cond.fieldLink RX3 29 "PaperKeeper" "copies" "LPaperKeeper$Copies;", Cond.fieldLink RX3 206 "PaperKeeper$Copies" "count" "I", Cond.methodLink RX3 214 yX0_add, Cond.instanceMethod yX0_add, Cond.selects RX0 yX0_add yX0_add, Cond.initialized RX0, Cond.code yX0_add cX0_add 5 (some .int), Cond.fieldLink RX0 21 "PaperKeeper$Copies" "count" "I", Cond.fieldLink RX0 9 "PaperKeeper$Copies" "papers" "[I", Cond.fieldLink RX0 15 "PaperKeeper$Copies" "versions" "[I", Cond.fieldLink RX0 18 "PaperKeeper$Copies" "walls" "[I", Cond.methodLink RL 59 yX3_takeDown, Cond.instanceMethod yX3_takeDown, Cond.selects RX3 yX3_takeDown yX3_takeDown, Cond.code yX3_takeDown cX3_takeDown 3 (some .int), Cond.fieldLink RX3 218 "PaperKeeper$Copies" "walls" "[I"]
def wsL_asks : List Cond := .codeWith yL_asks cL_asks 6 (some .int) [(0, 183, 184, 62), (0, 183, 189, 64), (0, 183, 194, 66)] :: ((wsL_asks_r1 ++ (wsL_asks_r2 ++ (wsL_asks_r3 ++ (wsL_asks_r4 ++ (wsL_asks_r5 ++ (wsL_asks_r6 ++ (wsL_asks_r7 ++ wsL_asks_r8))))))) ++ wsX20 ++ wsX30 ++ wsX10 ++ wsX00 ++ (vx_atS RX3 58 "java/lang/IllegalStateException" ["java/lang/RuntimeException", "java/lang/Exception"]).filter goodWord ++ (vx_atS RX3 161 "java/lang/IndexOutOfBoundsException" ["java/lang/RuntimeException", "java/lang/Exception"]).filter goodWord ++ (vx_atS RX3 51 "java/lang/IllegalArgumentException" ["java/lang/RuntimeException", "java/lang/Exception"]).filter goodWord)
def wsL_isPaper_r1 : List Cond := [Cond.methodLink RL 68 yX3_step, Cond.instanceMethod yX3_step, Cond.selects RX3 yX3_step yX3_step, Cond.initialized RX3, Cond.code yX3_step cX3_step 3 (some .int), Cond.fieldLink RX3 79 "PaperKeeper$Paper" "hasDraft" "Z", Cond.fieldLink RX3 85 "PaperKeeper$Paper" "draft" "LPaperKeeper$Draft;", Cond.methodLink RX3 62 yX3_paperAt, Cond.instanceMethod yX3_paperAt, Cond.selects RX3 yX3_paperAt yX3_paperAt, Cond.code yX3_paperAt cX3_paperAt 3 (some (.object "PaperKeeper$Paper")), Cond.classLink RX3 157 "java/lang/IndexOutOfBoundsException", Cond.initialized "java/lang/IndexOutOfBoundsException", Cond.fieldLink RX3 22 "PaperKeeper" "papers" "[LPaperKeeper$Paper;", Cond.methodLink RX3 170 yX1_nextStep, Cond.instanceMethod yX1_nextStep, Cond.selects RX1 yX1_nextStep yX1_nextStep, Cond.initialized RX1, Cond.code yX1_nextStep cX1_nextStep 1 (some .int), Cond.fieldLink RX1 38 "PaperKeeper$Draft" "reviewerCount" "I", Cond.fieldLink RX1 47 "PaperKeeper$Draft" "approved" "Z", Cond.methodLink RX1 51 yX1_nextReviewer, Cond.instanceMethod yX1_nextReviewer, Cond.selects RX1 yX1_nextReviewer yX1_nextReviewer]
def wsL_isPaper_r2 : List Cond := [Cond.code yX1_nextReviewer cX1_nextReviewer 2 (some .int), Cond.fieldLink RX1 15 "PaperKeeper$Draft" "reviewed" "[Z", Cond.fieldLink RX1 9 "PaperKeeper$Draft" "reviewers" "[I", Cond.methodLink RX1 55 yX1_openRemarks, Cond.instanceMethod yX1_openRemarks, Cond.selects RX1 yX1_openRemarks yX1_openRemarks, Cond.code yX1_openRemarks cX1_openRemarks 3 (some .int), Cond.fieldLink RX1 44 "PaperKeeper$Draft" "remarkCount" "I", Cond.fieldLink RX1 19 "PaperKeeper$Draft" "answered" "[Z", Cond.methodLink RX1 58 yX1_nextReader, Cond.instanceMethod yX1_nextReader, Cond.selects RX1 yX1_nextReader yX1_nextReader, Cond.code yX1_nextReader cX1_nextReader 2 (some .int), Cond.fieldLink RX1 22 "PaperKeeper$Draft" "reads" "[Z", Cond.fieldLink RX1 25 "PaperKeeper$Draft" "confirmed" "[Z", Cond.methodLink RL 71 yX3_waitsFor, Cond.instanceMethod yX3_waitsFor, Cond.selects RX3 yX3_waitsFor yX3_waitsFor, Cond.code yX3_waitsFor cX3_waitsFor 3 (some .int), Cond.methodLink RX3 242 yX1_nextPerson, Cond.instanceMethod yX1_nextPerson, Cond.selects RX1 yX1_nextPerson yX1_nextPerson, Cond.code yX1_nextPerson cX1_nextPerson 1 (some .int), Cond.fieldLink RX1 28 "PaperKeeper$Draft" "author" "I"]
def wsL_isPaper_r3 : List Cond := [Cond.methodLink RX1 61 yX1_nextStep, Cond.methodLink RL 74 yX3_inForce, Cond.instanceMethod yX3_inForce, Cond.selects RX3 yX3_inForce yX3_inForce, Cond.code yX3_inForce cX3_inForce 2 (some .int), Cond.methodLink RX3 211 yX2_newest, Cond.instanceMethod yX2_newest, Cond.selects RX2 yX2_newest yX2_newest, Cond.initialized RX2, Cond.code yX2_newest cX2_newest 1 (some .int), Cond.fieldLink RX2 33 "PaperKeeper$Paper" "versionCount" "I", Cond.methodLink RL 77 yX3_inForceOn, Cond.instanceMethod yX3_inForceOn, Cond.selects RX3 yX3_inForceOn yX3_inForceOn, Cond.code yX3_inForceOn cX3_inForceOn 4 (some .int), Cond.fieldLink RX3 40 "PaperKeeper" "today" "I", Cond.methodLink RX3 75 yX3_checkRange, Cond.static yX3_checkRange, Cond.code yX3_checkRange cX3_checkRange 3 none, Cond.classLink RX3 47 "java/lang/IllegalArgumentException", Cond.initialized "java/lang/IllegalArgumentException", Cond.methodLink RX3 230 yX2_versionOn, Cond.instanceMethod yX2_versionOn, Cond.selects RX2 yX2_versionOn yX2_versionOn]
def wsL_isPaper_r4 : List Cond := [Cond.code yX2_versionOn cX2_versionOn 3 (some .int), Cond.fieldLink RX2 30 "PaperKeeper$Paper" "firstDays" "[I", Cond.methodLink RL 80 yX3_isDue, Cond.instanceMethod yX3_isDue, Cond.selects RX3 yX3_isDue yX3_isDue, Cond.code yX3_isDue cX3_isDue 2 (some .boolean), Cond.fieldLink RX3 37 "PaperKeeper" "interval" "I", Cond.methodLink RX3 199 yX2_needsLook, Cond.instanceMethod yX2_needsLook, Cond.selects RX2 yX2_needsLook yX2_needsLook, Cond.code yX2_needsLook cX2_needsLook 3 (some .boolean), Cond.fieldLink RX2 51 "PaperKeeper$Paper" "asked" "Z", Cond.fieldLink RX2 54 "PaperKeeper$Paper" "intervalStart" "I", Cond.methodLink RL 83 yX3_outOfDate, Cond.instanceMethod yX3_outOfDate, Cond.selects RX3 yX3_outOfDate yX3_outOfDate, Cond.code yX3_outOfDate cX3_outOfDate 2 (some .int), Cond.fieldLink RX3 29 "PaperKeeper" "copies" "LPaperKeeper$Copies;", Cond.methodLink RX3 223 yX0_countOld, Cond.instanceMethod yX0_countOld, Cond.selects RX0 yX0_countOld yX0_countOld, Cond.initialized RX0, Cond.code yX0_countOld cX0_countOld 5 (some .int), Cond.fieldLink RX0 21 "PaperKeeper$Copies" "count" "I"]
def wsL_isPaper_r5 : List Cond := [Cond.fieldLink RX0 18 "PaperKeeper$Copies" "walls" "[I", Cond.fieldLink RX0 9 "PaperKeeper$Copies" "papers" "[I", Cond.fieldLink RX0 15 "PaperKeeper$Copies" "versions" "[I", Cond.methodLink RL 86 yX3_text, Cond.instanceMethod yX3_text, Cond.selects RX3 yX3_text yX3_text, Cond.code yX3_text cX3_text 4 (some .int), Cond.fieldLink RX3 227 "PaperKeeper$Paper" "texts" "[I", Cond.methodLink RL 89 yX3_since, Cond.instanceMethod yX3_since, Cond.selects RX3 yX3_since yX3_since, Cond.code yX3_since cX3_since 4 (some .int), Cond.fieldLink RX3 234 "PaperKeeper$Paper" "versionCount" "I", Cond.fieldLink RX3 239 "PaperKeeper$Paper" "firstDays" "[I", Cond.methodLink RL 92 yL_has, Cond.static yL_has, Cond.initialized RL, Cond.code yL_has cL_has 2 (some .boolean)]
def wsL_isPaper : List Cond := .code yL_isPaper cL_isPaper 14 (some .boolean) :: ((wsL_isPaper_r1 ++ (wsL_isPaper_r2 ++ (wsL_isPaper_r3 ++ (wsL_isPaper_r4 ++ wsL_isPaper_r5)))) ++ wsX20 ++ wsX30 ++ wsX10 ++ wsX00 ++ (vx_atS RX3 161 "java/lang/IndexOutOfBoundsException" ["java/lang/RuntimeException", "java/lang/Exception"]).filter goodWord ++ (vx_atS RX3 51 "java/lang/IllegalArgumentException" ["java/lang/RuntimeException", "java/lang/Exception"]).filter goodWord)
def wsL_mayApprove : List Cond := .code yL_mayApprove cL_mayApprove 5 (some .boolean) :: ([.methodLink RL 92 yL_has, .static yL_has, .initialized RL, .code yL_has cL_has 2 (some .boolean)])
def wsL_drafts_r1 : List Cond := [Cond.methodLink RL 68 yX3_step, Cond.instanceMethod yX3_step, Cond.selects RX3 yX3_step yX3_step, Cond.initialized RX3, Cond.code yX3_step cX3_step 3 (some .int), Cond.fieldLink RX3 79 "PaperKeeper$Paper" "hasDraft" "Z", Cond.fieldLink RX3 85 "PaperKeeper$Paper" "draft" "LPaperKeeper$Draft;", Cond.methodLink RX3 62 yX3_paperAt, Cond.instanceMethod yX3_paperAt, Cond.selects RX3 yX3_paperAt yX3_paperAt, Cond.code yX3_paperAt cX3_paperAt 3 (some (.object "PaperKeeper$Paper")), Cond.classLink RX3 157 "java/lang/IndexOutOfBoundsException", Cond.initialized "java/lang/IndexOutOfBoundsException", Cond.fieldLink RX3 22 "PaperKeeper" "papers" "[LPaperKeeper$Paper;", Cond.methodLink RX3 170 yX1_nextStep, Cond.instanceMethod yX1_nextStep, Cond.selects RX1 yX1_nextStep yX1_nextStep, Cond.initialized RX1, Cond.code yX1_nextStep cX1_nextStep 1 (some .int), Cond.fieldLink RX1 38 "PaperKeeper$Draft" "reviewerCount" "I", Cond.fieldLink RX1 47 "PaperKeeper$Draft" "approved" "Z", Cond.methodLink RX1 51 yX1_nextReviewer, Cond.instanceMethod yX1_nextReviewer, Cond.selects RX1 yX1_nextReviewer yX1_nextReviewer]
def wsL_drafts_r2 : List Cond := [Cond.code yX1_nextReviewer cX1_nextReviewer 2 (some .int), Cond.fieldLink RX1 15 "PaperKeeper$Draft" "reviewed" "[Z", Cond.fieldLink RX1 9 "PaperKeeper$Draft" "reviewers" "[I", Cond.methodLink RX1 55 yX1_openRemarks, Cond.instanceMethod yX1_openRemarks, Cond.selects RX1 yX1_openRemarks yX1_openRemarks, Cond.code yX1_openRemarks cX1_openRemarks 3 (some .int), Cond.fieldLink RX1 44 "PaperKeeper$Draft" "remarkCount" "I", Cond.fieldLink RX1 19 "PaperKeeper$Draft" "answered" "[Z", Cond.methodLink RX1 58 yX1_nextReader, Cond.instanceMethod yX1_nextReader, Cond.selects RX1 yX1_nextReader yX1_nextReader, Cond.code yX1_nextReader cX1_nextReader 2 (some .int), Cond.fieldLink RX1 22 "PaperKeeper$Draft" "reads" "[Z", Cond.fieldLink RX1 25 "PaperKeeper$Draft" "confirmed" "[Z", Cond.methodLink RL 71 yX3_waitsFor, Cond.instanceMethod yX3_waitsFor, Cond.selects RX3 yX3_waitsFor yX3_waitsFor, Cond.code yX3_waitsFor cX3_waitsFor 3 (some .int), Cond.methodLink RX3 242 yX1_nextPerson, Cond.instanceMethod yX1_nextPerson, Cond.selects RX1 yX1_nextPerson yX1_nextPerson, Cond.code yX1_nextPerson cX1_nextPerson 1 (some .int), Cond.fieldLink RX1 28 "PaperKeeper$Draft" "author" "I"]
def wsL_drafts_r3 : List Cond := [Cond.methodLink RX1 61 yX1_nextStep, Cond.methodLink RL 96 yL_asks, Cond.static yL_asks, Cond.initialized RL, Cond.codeWith yL_asks cL_asks 6 (some .int) [(0, 183, 184, 62), (0, 183, 189, 64), (0, 183, 194, 66)], Cond.classLink RL 62 "java/lang/IndexOutOfBoundsException", Cond.classLink RL 64 "java/lang/IllegalStateException", Cond.classLink RL 66 "java/lang/IllegalArgumentException", Cond.methodLink RL 19 yL_begins, Cond.static yL_begins, Cond.code yL_begins cL_begins 4 (some .int), Cond.methodLink RL 10 yX3_draft, Cond.instanceMethod yX3_draft, Cond.selects RX3 yX3_draft yX3_draft, Cond.code yX3_draft cX3_draft 5 none, Cond.classLink RX3 54 "java/lang/IllegalStateException", Cond.initialized "java/lang/IllegalStateException", Cond.methodLink RX3 43 yX3_checkPerson, Cond.static yX3_checkPerson, Cond.code yX3_checkPerson cX3_checkPerson 1 none, Cond.methodLink RX3 75 yX3_checkRange, Cond.static yX3_checkRange, Cond.code yX3_checkRange cX3_checkRange 3 none, Cond.classLink RX3 47 "java/lang/IllegalArgumentException"]
def wsL_drafts_r4 : List Cond := [Cond.initialized "java/lang/IllegalArgumentException", Cond.methodLink RX3 89 yX1_begin, Cond.instanceMethod yX1_begin, Cond.selects RX1 yX1_begin yX1_begin, Cond.code yX1_begin cX1_begin 4 none, Cond.fieldLink RX1 32 "PaperKeeper$Draft" "text" "I", Cond.fieldLink RX1 35 "PaperKeeper$Draft" "round" "I", Cond.methodLink RX1 41 yX1_beginRound, Cond.instanceMethod yX1_beginRound, Cond.selects RX1 yX1_beginRound yX1_beginRound, Cond.code yX1_beginRound cX1_beginRound 2 none, Cond.methodLink RL 25 yX3_change, Cond.instanceMethod yX3_change, Cond.selects RX3 yX3_change yX3_change, Cond.code yX3_change cX3_change 5 (some .int), Cond.fieldLink RX3 99 "PaperKeeper$Draft" "text" "I", Cond.fieldLink RX3 107 "PaperKeeper$Draft" "round" "I", Cond.methodLink RX3 95 yX3_draftOf, Cond.static yX3_draftOf, Cond.code yX3_draftOf cX3_draftOf 1 (some (.object "PaperKeeper$Draft")), Cond.methodLink RX3 104 yX1_beginRound, Cond.methodLink RL 29 yX3_drop, Cond.instanceMethod yX3_drop, Cond.selects RX3 yX3_drop yX3_drop]
def wsL_drafts_r5 : List Cond := [Cond.code yX3_drop cX3_drop 4 (some .int), Cond.methodLink RL 33 yX3_reviewer, Cond.instanceMethod yX3_reviewer, Cond.selects RX3 yX3_reviewer yX3_reviewer, Cond.code yX3_reviewer cX3_reviewer 5 (some .int), Cond.fieldLink RX3 110 "PaperKeeper$Draft" "approved" "Z", Cond.fieldLink RX3 115 "PaperKeeper$Draft" "author" "I", Cond.fieldLink RX3 9 "PaperKeeper" "mayReview" "[Z", Cond.fieldLink RX3 124 "PaperKeeper$Draft" "reviewerCount" "I", Cond.fieldLink RX3 129 "PaperKeeper$Draft" "reviewers" "[I", Cond.methodLink RX3 120 yX1_hasReviewer, Cond.instanceMethod yX1_hasReviewer, Cond.selects RX1 yX1_hasReviewer yX1_hasReviewer, Cond.code yX1_hasReviewer cX1_hasReviewer 3 (some .boolean), Cond.methodLink RL 36 yX3_reader, Cond.instanceMethod yX3_reader, Cond.selects RX3 yX3_reader yX3_reader, Cond.code yX3_reader cX3_reader 5 (some .int), Cond.fieldLink RX3 132 "PaperKeeper$Draft" "reads" "[Z", Cond.methodLink RX3 71 yX3_countOf, Cond.static yX3_countOf, Cond.code yX3_countOf cX3_countOf 3 (some .int), Cond.methodLink RL 39 yX3_review, Cond.instanceMethod yX3_review]
def wsL_drafts_r6 : List Cond := [Cond.selects RX3 yX3_review yX3_review, Cond.code yX3_review cX3_review 6 (some .int), Cond.fieldLink RX3 137 "PaperKeeper$Draft" "reviewed" "[Z", Cond.fieldLink RX3 142 "PaperKeeper$Paper" "inOrder" "Z", Cond.methodLink RX3 145 yX1_nextReviewer, Cond.methodLink RX3 151 yX1_addRemark, Cond.instanceMethod yX1_addRemark, Cond.selects RX1 yX1_addRemark yX1_addRemark, Cond.code yX1_addRemark cX1_addRemark 2 (some .int), Cond.methodLink RL 43 yX3_answer, Cond.instanceMethod yX3_answer, Cond.selects RX3 yX3_answer yX3_answer, Cond.code yX3_answer cX3_answer 5 (some .int), Cond.fieldLink RX3 154 "PaperKeeper$Draft" "remarkCount" "I", Cond.fieldLink RX3 162 "PaperKeeper$Draft" "answered" "[Z", Cond.methodLink RX3 167 yX1_openRemarks, Cond.methodLink RL 46 yL_approves, Cond.static yL_approves, Cond.code yL_approves cL_approves 4 (some .int), Cond.methodLink RL 16 yX3_approve, Cond.instanceMethod yX3_approve, Cond.selects RX3 yX3_approve yX3_approve, Cond.code yX3_approve cX3_approve 6 none, Cond.fieldLink RX3 40 "PaperKeeper" "today" "I"]
def wsL_drafts_r7 : List Cond := [Cond.fieldLink RX3 180 "PaperKeeper$Draft" "firstDay" "I", Cond.methodLink RX3 175 yX3_canApprove, Cond.instanceMethod yX3_canApprove, Cond.selects RX3 yX3_canApprove yX3_canApprove, Cond.code yX3_canApprove cX3_canApprove 4 (some .boolean), Cond.fieldLink RX3 13 "PaperKeeper" "mayApprove" "[Z", Cond.fieldLink RX3 16 "PaperKeeper" "deputies" "[I", Cond.methodLink RL 49 yX3_confirm, Cond.instanceMethod yX3_confirm, Cond.selects RX3 yX3_confirm yX3_confirm, Cond.code yX3_confirm cX3_confirm 5 (some .int), Cond.fieldLink RX3 185 "PaperKeeper$Draft" "confirmed" "[Z", Cond.methodLink RL 52 yX3_look, Cond.instanceMethod yX3_look, Cond.selects RX3 yX3_look yX3_look, Cond.code yX3_look cX3_look 4 (some .boolean), Cond.fieldLink RX3 37 "PaperKeeper" "interval" "I", Cond.methodLink RX3 195 yX3_checkInForce, Cond.static yX3_checkInForce, Cond.code yX3_checkInForce cX3_checkInForce 1 none, Cond.methodLink RX3 211 yX2_newest, Cond.instanceMethod yX2_newest, Cond.selects RX2 yX2_newest yX2_newest, Cond.initialized RX2]
def wsL_drafts_r8 : List Cond := [Cond.code yX2_newest cX2_newest 1 (some .int), Cond.fieldLink RX2 33 "PaperKeeper$Paper" "versionCount" "I", Cond.methodLink RX3 199 yX2_needsLook, Cond.instanceMethod yX2_needsLook, Cond.selects RX2 yX2_needsLook yX2_needsLook, Cond.code yX2_needsLook cX2_needsLook 3 (some .boolean), Cond.fieldLink RX2 51 "PaperKeeper$Paper" "asked" "Z", Cond.fieldLink RX2 54 "PaperKeeper$Paper" "intervalStart" "I", Cond.methodLink RX3 203 yX2_restartInterval, Cond.instanceMethod yX2_restartInterval, Cond.selects RX2 yX2_restartInterval yX2_restartInterval, Cond.code yX2_restartInterval cX2_restartInterval 2 none, Cond.methodLink RL 56 yX3_copy, Cond.instanceMethod yX3_copy, Cond.selects RX3 yX3_copy yX3_copy, Cond.code yX3_copy cX3_copy 4 (some .int), Cond.fieldLink RX3 29 "PaperKeeper" "copies" "LPaperKeeper$Copies;", Cond.fieldLink RX3 206 "PaperKeeper$Copies" "count" "I", Cond.methodLink RX3 214 yX0_add, Cond.instanceMethod yX0_add, Cond.selects RX0 yX0_add yX0_add, Cond.initialized RX0, Cond.code yX0_add cX0_add 5 (some .int), Cond.fieldLink RX0 21 "PaperKeeper$Copies" "count" "I"]
def wsL_drafts_r9 : List Cond := [Cond.fieldLink RX0 9 "PaperKeeper$Copies" "papers" "[I", Cond.fieldLink RX0 15 "PaperKeeper$Copies" "versions" "[I", Cond.fieldLink RX0 18 "PaperKeeper$Copies" "walls" "[I", Cond.methodLink RL 59 yX3_takeDown, Cond.instanceMethod yX3_takeDown, Cond.selects RX3 yX3_takeDown yX3_takeDown, Cond.code yX3_takeDown cX3_takeDown 3 (some .int), Cond.fieldLink RX3 218 "PaperKeeper$Copies" "walls" "[I", Cond.methodLink RL 92 yL_has, Cond.static yL_has, Cond.code yL_has cL_has 2 (some .boolean), Cond.methodLink RL 100 yL_size, Cond.static yL_size, Cond.code yL_size cL_size 3 (some .int)]
def wsL_drafts : List Cond := .code yL_drafts cL_drafts 14 (some .boolean) :: ((wsL_drafts_r1 ++ (wsL_drafts_r2 ++ (wsL_drafts_r3 ++ (wsL_drafts_r4 ++ (wsL_drafts_r5 ++ (wsL_drafts_r6 ++ (wsL_drafts_r7 ++ (wsL_drafts_r8 ++ wsL_drafts_r9)))))))) ++ wsX20 ++ wsX30 ++ wsX10 ++ wsX00 ++ (vx_atS RX3 161 "java/lang/IndexOutOfBoundsException" ["java/lang/RuntimeException", "java/lang/Exception"]).filter goodWord ++ (vx_atS RX3 58 "java/lang/IllegalStateException" ["java/lang/RuntimeException", "java/lang/Exception"]).filter goodWord ++ (vx_atS RX3 51 "java/lang/IllegalArgumentException" ["java/lang/RuntimeException", "java/lang/Exception"]).filter goodWord)
def wsL_goesOn_r1 : List Cond := [Cond.methodLink RL 68 yX3_step, Cond.instanceMethod yX3_step, Cond.selects RX3 yX3_step yX3_step, Cond.initialized RX3, Cond.code yX3_step cX3_step 3 (some .int), Cond.fieldLink RX3 79 "PaperKeeper$Paper" "hasDraft" "Z", Cond.fieldLink RX3 85 "PaperKeeper$Paper" "draft" "LPaperKeeper$Draft;", Cond.methodLink RX3 62 yX3_paperAt, Cond.instanceMethod yX3_paperAt, Cond.selects RX3 yX3_paperAt yX3_paperAt, Cond.code yX3_paperAt cX3_paperAt 3 (some (.object "PaperKeeper$Paper")), Cond.classLink RX3 157 "java/lang/IndexOutOfBoundsException", Cond.initialized "java/lang/IndexOutOfBoundsException", Cond.fieldLink RX3 22 "PaperKeeper" "papers" "[LPaperKeeper$Paper;", Cond.methodLink RX3 170 yX1_nextStep, Cond.instanceMethod yX1_nextStep, Cond.selects RX1 yX1_nextStep yX1_nextStep, Cond.initialized RX1, Cond.code yX1_nextStep cX1_nextStep 1 (some .int), Cond.fieldLink RX1 38 "PaperKeeper$Draft" "reviewerCount" "I", Cond.fieldLink RX1 47 "PaperKeeper$Draft" "approved" "Z", Cond.methodLink RX1 51 yX1_nextReviewer, Cond.instanceMethod yX1_nextReviewer, Cond.selects RX1 yX1_nextReviewer yX1_nextReviewer]
def wsL_goesOn_r2 : List Cond := [Cond.code yX1_nextReviewer cX1_nextReviewer 2 (some .int), Cond.fieldLink RX1 15 "PaperKeeper$Draft" "reviewed" "[Z", Cond.fieldLink RX1 9 "PaperKeeper$Draft" "reviewers" "[I", Cond.methodLink RX1 55 yX1_openRemarks, Cond.instanceMethod yX1_openRemarks, Cond.selects RX1 yX1_openRemarks yX1_openRemarks, Cond.code yX1_openRemarks cX1_openRemarks 3 (some .int), Cond.fieldLink RX1 44 "PaperKeeper$Draft" "remarkCount" "I", Cond.fieldLink RX1 19 "PaperKeeper$Draft" "answered" "[Z", Cond.methodLink RX1 58 yX1_nextReader, Cond.instanceMethod yX1_nextReader, Cond.selects RX1 yX1_nextReader yX1_nextReader, Cond.code yX1_nextReader cX1_nextReader 2 (some .int), Cond.fieldLink RX1 22 "PaperKeeper$Draft" "reads" "[Z", Cond.fieldLink RX1 25 "PaperKeeper$Draft" "confirmed" "[Z", Cond.methodLink RL 71 yX3_waitsFor, Cond.instanceMethod yX3_waitsFor, Cond.selects RX3 yX3_waitsFor yX3_waitsFor, Cond.code yX3_waitsFor cX3_waitsFor 3 (some .int), Cond.methodLink RX3 242 yX1_nextPerson, Cond.instanceMethod yX1_nextPerson, Cond.selects RX1 yX1_nextPerson yX1_nextPerson, Cond.code yX1_nextPerson cX1_nextPerson 1 (some .int), Cond.fieldLink RX1 28 "PaperKeeper$Draft" "author" "I"]
def wsL_goesOn_r3 : List Cond := [Cond.methodLink RX1 61 yX1_nextStep, Cond.methodLink RL 96 yL_asks, Cond.static yL_asks, Cond.initialized RL, Cond.codeWith yL_asks cL_asks 6 (some .int) [(0, 183, 184, 62), (0, 183, 189, 64), (0, 183, 194, 66)], Cond.classLink RL 62 "java/lang/IndexOutOfBoundsException", Cond.classLink RL 64 "java/lang/IllegalStateException", Cond.classLink RL 66 "java/lang/IllegalArgumentException", Cond.methodLink RL 19 yL_begins, Cond.static yL_begins, Cond.code yL_begins cL_begins 4 (some .int), Cond.methodLink RL 10 yX3_draft, Cond.instanceMethod yX3_draft, Cond.selects RX3 yX3_draft yX3_draft, Cond.code yX3_draft cX3_draft 5 none, Cond.classLink RX3 54 "java/lang/IllegalStateException", Cond.initialized "java/lang/IllegalStateException", Cond.methodLink RX3 43 yX3_checkPerson, Cond.static yX3_checkPerson, Cond.code yX3_checkPerson cX3_checkPerson 1 none, Cond.methodLink RX3 75 yX3_checkRange, Cond.static yX3_checkRange, Cond.code yX3_checkRange cX3_checkRange 3 none, Cond.classLink RX3 47 "java/lang/IllegalArgumentException"]
def wsL_goesOn_r4 : List Cond := [Cond.initialized "java/lang/IllegalArgumentException", Cond.methodLink RX3 89 yX1_begin, Cond.instanceMethod yX1_begin, Cond.selects RX1 yX1_begin yX1_begin, Cond.code yX1_begin cX1_begin 4 none, Cond.fieldLink RX1 32 "PaperKeeper$Draft" "text" "I", Cond.fieldLink RX1 35 "PaperKeeper$Draft" "round" "I", Cond.methodLink RX1 41 yX1_beginRound, Cond.instanceMethod yX1_beginRound, Cond.selects RX1 yX1_beginRound yX1_beginRound, Cond.code yX1_beginRound cX1_beginRound 2 none, Cond.methodLink RL 25 yX3_change, Cond.instanceMethod yX3_change, Cond.selects RX3 yX3_change yX3_change, Cond.code yX3_change cX3_change 5 (some .int), Cond.fieldLink RX3 99 "PaperKeeper$Draft" "text" "I", Cond.fieldLink RX3 107 "PaperKeeper$Draft" "round" "I", Cond.methodLink RX3 95 yX3_draftOf, Cond.static yX3_draftOf, Cond.code yX3_draftOf cX3_draftOf 1 (some (.object "PaperKeeper$Draft")), Cond.methodLink RX3 104 yX1_beginRound, Cond.methodLink RL 29 yX3_drop, Cond.instanceMethod yX3_drop, Cond.selects RX3 yX3_drop yX3_drop]
def wsL_goesOn_r5 : List Cond := [Cond.code yX3_drop cX3_drop 4 (some .int), Cond.methodLink RL 33 yX3_reviewer, Cond.instanceMethod yX3_reviewer, Cond.selects RX3 yX3_reviewer yX3_reviewer, Cond.code yX3_reviewer cX3_reviewer 5 (some .int), Cond.fieldLink RX3 110 "PaperKeeper$Draft" "approved" "Z", Cond.fieldLink RX3 115 "PaperKeeper$Draft" "author" "I", Cond.fieldLink RX3 9 "PaperKeeper" "mayReview" "[Z", Cond.fieldLink RX3 124 "PaperKeeper$Draft" "reviewerCount" "I", Cond.fieldLink RX3 129 "PaperKeeper$Draft" "reviewers" "[I", Cond.methodLink RX3 120 yX1_hasReviewer, Cond.instanceMethod yX1_hasReviewer, Cond.selects RX1 yX1_hasReviewer yX1_hasReviewer, Cond.code yX1_hasReviewer cX1_hasReviewer 3 (some .boolean), Cond.methodLink RL 36 yX3_reader, Cond.instanceMethod yX3_reader, Cond.selects RX3 yX3_reader yX3_reader, Cond.code yX3_reader cX3_reader 5 (some .int), Cond.fieldLink RX3 132 "PaperKeeper$Draft" "reads" "[Z", Cond.methodLink RX3 71 yX3_countOf, Cond.static yX3_countOf, Cond.code yX3_countOf cX3_countOf 3 (some .int), Cond.methodLink RL 39 yX3_review, Cond.instanceMethod yX3_review]
def wsL_goesOn_r6 : List Cond := [Cond.selects RX3 yX3_review yX3_review, Cond.code yX3_review cX3_review 6 (some .int), Cond.fieldLink RX3 137 "PaperKeeper$Draft" "reviewed" "[Z", Cond.fieldLink RX3 142 "PaperKeeper$Paper" "inOrder" "Z", Cond.methodLink RX3 145 yX1_nextReviewer, Cond.methodLink RX3 151 yX1_addRemark, Cond.instanceMethod yX1_addRemark, Cond.selects RX1 yX1_addRemark yX1_addRemark, Cond.code yX1_addRemark cX1_addRemark 2 (some .int), Cond.methodLink RL 43 yX3_answer, Cond.instanceMethod yX3_answer, Cond.selects RX3 yX3_answer yX3_answer, Cond.code yX3_answer cX3_answer 5 (some .int), Cond.fieldLink RX3 154 "PaperKeeper$Draft" "remarkCount" "I", Cond.fieldLink RX3 162 "PaperKeeper$Draft" "answered" "[Z", Cond.methodLink RX3 167 yX1_openRemarks, Cond.methodLink RL 46 yL_approves, Cond.static yL_approves, Cond.code yL_approves cL_approves 4 (some .int), Cond.methodLink RL 16 yX3_approve, Cond.instanceMethod yX3_approve, Cond.selects RX3 yX3_approve yX3_approve, Cond.code yX3_approve cX3_approve 6 none, Cond.fieldLink RX3 40 "PaperKeeper" "today" "I"]
def wsL_goesOn_r7 : List Cond := [Cond.fieldLink RX3 180 "PaperKeeper$Draft" "firstDay" "I", Cond.methodLink RX3 175 yX3_canApprove, Cond.instanceMethod yX3_canApprove, Cond.selects RX3 yX3_canApprove yX3_canApprove, Cond.code yX3_canApprove cX3_canApprove 4 (some .boolean), Cond.fieldLink RX3 13 "PaperKeeper" "mayApprove" "[Z", Cond.fieldLink RX3 16 "PaperKeeper" "deputies" "[I", Cond.methodLink RL 49 yX3_confirm, Cond.instanceMethod yX3_confirm, Cond.selects RX3 yX3_confirm yX3_confirm, Cond.code yX3_confirm cX3_confirm 5 (some .int), Cond.fieldLink RX3 185 "PaperKeeper$Draft" "confirmed" "[Z", Cond.methodLink RL 52 yX3_look, Cond.instanceMethod yX3_look, Cond.selects RX3 yX3_look yX3_look, Cond.code yX3_look cX3_look 4 (some .boolean), Cond.fieldLink RX3 37 "PaperKeeper" "interval" "I", Cond.methodLink RX3 195 yX3_checkInForce, Cond.static yX3_checkInForce, Cond.code yX3_checkInForce cX3_checkInForce 1 none, Cond.methodLink RX3 211 yX2_newest, Cond.instanceMethod yX2_newest, Cond.selects RX2 yX2_newest yX2_newest, Cond.initialized RX2]
def wsL_goesOn_r8 : List Cond := [Cond.code yX2_newest cX2_newest 1 (some .int), Cond.fieldLink RX2 33 "PaperKeeper$Paper" "versionCount" "I", Cond.methodLink RX3 199 yX2_needsLook, Cond.instanceMethod yX2_needsLook, Cond.selects RX2 yX2_needsLook yX2_needsLook, Cond.code yX2_needsLook cX2_needsLook 3 (some .boolean), Cond.fieldLink RX2 51 "PaperKeeper$Paper" "asked" "Z", Cond.fieldLink RX2 54 "PaperKeeper$Paper" "intervalStart" "I", Cond.methodLink RX3 203 yX2_restartInterval, Cond.instanceMethod yX2_restartInterval, Cond.selects RX2 yX2_restartInterval yX2_restartInterval, Cond.code yX2_restartInterval cX2_restartInterval 2 none, Cond.methodLink RL 56 yX3_copy, Cond.instanceMethod yX3_copy, Cond.selects RX3 yX3_copy yX3_copy, Cond.code yX3_copy cX3_copy 4 (some .int), Cond.fieldLink RX3 29 "PaperKeeper" "copies" "LPaperKeeper$Copies;", Cond.fieldLink RX3 206 "PaperKeeper$Copies" "count" "I", Cond.methodLink RX3 214 yX0_add, Cond.instanceMethod yX0_add, Cond.selects RX0 yX0_add yX0_add, Cond.initialized RX0, Cond.code yX0_add cX0_add 5 (some .int), Cond.fieldLink RX0 21 "PaperKeeper$Copies" "count" "I"]
def wsL_goesOn_r9 : List Cond := [Cond.fieldLink RX0 9 "PaperKeeper$Copies" "papers" "[I", Cond.fieldLink RX0 15 "PaperKeeper$Copies" "versions" "[I", Cond.fieldLink RX0 18 "PaperKeeper$Copies" "walls" "[I", Cond.methodLink RL 59 yX3_takeDown, Cond.instanceMethod yX3_takeDown, Cond.selects RX3 yX3_takeDown yX3_takeDown, Cond.code yX3_takeDown cX3_takeDown 3 (some .int), Cond.fieldLink RX3 218 "PaperKeeper$Copies" "walls" "[I", Cond.methodLink RL 103 yL_mayApprove, Cond.static yL_mayApprove, Cond.code yL_mayApprove cL_mayApprove 5 (some .boolean), Cond.methodLink RL 92 yL_has, Cond.static yL_has, Cond.code yL_has cL_has 2 (some .boolean)]
def wsL_goesOn : List Cond := .code yL_goesOn cL_goesOn 15 (some .boolean) :: ((wsL_goesOn_r1 ++ (wsL_goesOn_r2 ++ (wsL_goesOn_r3 ++ (wsL_goesOn_r4 ++ (wsL_goesOn_r5 ++ (wsL_goesOn_r6 ++ (wsL_goesOn_r7 ++ (wsL_goesOn_r8 ++ wsL_goesOn_r9)))))))) ++ wsX20 ++ wsX30 ++ wsX10 ++ wsX00 ++ (vx_atS RX3 161 "java/lang/IndexOutOfBoundsException" ["java/lang/RuntimeException", "java/lang/Exception"]).filter goodWord ++ (vx_atS RX3 58 "java/lang/IllegalStateException" ["java/lang/RuntimeException", "java/lang/Exception"]).filter goodWord ++ (vx_atS RX3 51 "java/lang/IllegalArgumentException" ["java/lang/RuntimeException", "java/lang/Exception"]).filter goodWord)
def wsL_passes_r1 : List Cond := [Cond.methodLink RL 68 yX3_step, Cond.instanceMethod yX3_step, Cond.selects RX3 yX3_step yX3_step, Cond.initialized RX3, Cond.code yX3_step cX3_step 3 (some .int), Cond.fieldLink RX3 79 "PaperKeeper$Paper" "hasDraft" "Z", Cond.fieldLink RX3 85 "PaperKeeper$Paper" "draft" "LPaperKeeper$Draft;", Cond.methodLink RX3 62 yX3_paperAt, Cond.instanceMethod yX3_paperAt, Cond.selects RX3 yX3_paperAt yX3_paperAt, Cond.code yX3_paperAt cX3_paperAt 3 (some (.object "PaperKeeper$Paper")), Cond.classLink RX3 157 "java/lang/IndexOutOfBoundsException", Cond.initialized "java/lang/IndexOutOfBoundsException", Cond.fieldLink RX3 22 "PaperKeeper" "papers" "[LPaperKeeper$Paper;", Cond.methodLink RX3 170 yX1_nextStep, Cond.instanceMethod yX1_nextStep, Cond.selects RX1 yX1_nextStep yX1_nextStep, Cond.initialized RX1, Cond.code yX1_nextStep cX1_nextStep 1 (some .int), Cond.fieldLink RX1 38 "PaperKeeper$Draft" "reviewerCount" "I", Cond.fieldLink RX1 47 "PaperKeeper$Draft" "approved" "Z", Cond.methodLink RX1 51 yX1_nextReviewer, Cond.instanceMethod yX1_nextReviewer, Cond.selects RX1 yX1_nextReviewer yX1_nextReviewer]
def wsL_passes_r2 : List Cond := [Cond.code yX1_nextReviewer cX1_nextReviewer 2 (some .int), Cond.fieldLink RX1 15 "PaperKeeper$Draft" "reviewed" "[Z", Cond.fieldLink RX1 9 "PaperKeeper$Draft" "reviewers" "[I", Cond.methodLink RX1 55 yX1_openRemarks, Cond.instanceMethod yX1_openRemarks, Cond.selects RX1 yX1_openRemarks yX1_openRemarks, Cond.code yX1_openRemarks cX1_openRemarks 3 (some .int), Cond.fieldLink RX1 44 "PaperKeeper$Draft" "remarkCount" "I", Cond.fieldLink RX1 19 "PaperKeeper$Draft" "answered" "[Z", Cond.methodLink RX1 58 yX1_nextReader, Cond.instanceMethod yX1_nextReader, Cond.selects RX1 yX1_nextReader yX1_nextReader, Cond.code yX1_nextReader cX1_nextReader 2 (some .int), Cond.fieldLink RX1 22 "PaperKeeper$Draft" "reads" "[Z", Cond.fieldLink RX1 25 "PaperKeeper$Draft" "confirmed" "[Z", Cond.methodLink RL 107 yX3_pass, Cond.instanceMethod yX3_pass, Cond.selects RX3 yX3_pass yX3_pass, Cond.code yX3_pass cX3_pass 4 (some .int), Cond.classLink RX3 54 "java/lang/IllegalStateException", Cond.initialized "java/lang/IllegalStateException", Cond.fieldLink RX3 40 "PaperKeeper" "today" "I", Cond.methodLink RX3 75 yX3_checkRange, Cond.static yX3_checkRange]
def wsL_passes_r3 : List Cond := [Cond.code yX3_checkRange cX3_checkRange 3 none, Cond.classLink RX3 47 "java/lang/IllegalArgumentException", Cond.initialized "java/lang/IllegalArgumentException", Cond.methodLink RX3 192 yX3_beginDay, Cond.instanceMethod yX3_beginDay, Cond.selects RX3 yX3_beginDay yX3_beginDay, Cond.code yX3_beginDay cX3_beginDay 4 (some .int), Cond.methodLink RX3 253 yX2_comeIntoForce, Cond.instanceMethod yX2_comeIntoForce, Cond.selects RX2 yX2_comeIntoForce yX2_comeIntoForce, Cond.initialized RX2, Cond.code yX2_comeIntoForce cX2_comeIntoForce 2 (some .boolean), Cond.fieldLink RX2 37 "PaperKeeper$Paper" "hasDraft" "Z", Cond.fieldLink RX2 22 "PaperKeeper$Paper" "draft" "LPaperKeeper$Draft;", Cond.fieldLink RX2 33 "PaperKeeper$Paper" "versionCount" "I", Cond.fieldLink RX2 26 "PaperKeeper$Paper" "texts" "[I", Cond.fieldLink RX2 44 "PaperKeeper$Draft" "text" "I", Cond.fieldLink RX2 30 "PaperKeeper$Paper" "firstDays" "[I", Cond.methodLink RX2 40 yX1_isReady, Cond.instanceMethod yX1_isReady, Cond.selects RX1 yX1_isReady yX1_isReady, Cond.code yX1_isReady cX1_isReady 2 (some .boolean), Cond.fieldLink RX1 64 "PaperKeeper$Draft" "firstDay" "I", Cond.methodLink RX1 61 yX1_nextStep]
def wsL_passes_r4 : List Cond := [Cond.methodLink RX2 47 yX2_restartInterval, Cond.instanceMethod yX2_restartInterval, Cond.selects RX2 yX2_restartInterval yX2_restartInterval, Cond.code yX2_restartInterval cX2_restartInterval 2 none, Cond.fieldLink RX2 51 "PaperKeeper$Paper" "asked" "Z", Cond.fieldLink RX2 54 "PaperKeeper$Paper" "intervalStart" "I", Cond.methodLink RX3 256 yX3_askForLooks, Cond.instanceMethod yX3_askForLooks, Cond.selects RX3 yX3_askForLooks yX3_askForLooks, Cond.code yX3_askForLooks cX3_askForLooks 4 none, Cond.fieldLink RX3 68 "PaperKeeper$Paper" "hangsOn" "[Z", Cond.fieldLink RX3 259 "PaperKeeper$Paper" "asked" "Z", Cond.methodLink RX3 211 yX2_newest, Cond.instanceMethod yX2_newest, Cond.selects RX2 yX2_newest yX2_newest, Cond.code yX2_newest cX2_newest 1 (some .int), Cond.methodLink RL 100 yL_size, Cond.static yL_size, Cond.initialized RL, Cond.code yL_size cL_size 3 (some .int), Cond.methodLink RL 92 yL_has, Cond.static yL_has, Cond.code yL_has cL_has 2 (some .boolean), Cond.methodLink RL 86 yX3_text]
def wsL_passes_r5 : List Cond := [Cond.instanceMethod yX3_text, Cond.selects RX3 yX3_text yX3_text, Cond.code yX3_text cX3_text 4 (some .int), Cond.fieldLink RX3 227 "PaperKeeper$Paper" "texts" "[I", Cond.methodLink RL 89 yX3_since, Cond.instanceMethod yX3_since, Cond.selects RX3 yX3_since yX3_since, Cond.code yX3_since cX3_since 4 (some .int), Cond.fieldLink RX3 234 "PaperKeeper$Paper" "versionCount" "I", Cond.fieldLink RX3 239 "PaperKeeper$Paper" "firstDays" "[I"]
def wsL_passes : List Cond := .code yL_passes cL_passes 10 (some .boolean) :: ((wsL_passes_r1 ++ (wsL_passes_r2 ++ (wsL_passes_r3 ++ (wsL_passes_r4 ++ wsL_passes_r5)))) ++ wsX20 ++ wsX30 ++ wsX10 ++ (vx_atS RX3 161 "java/lang/IndexOutOfBoundsException" ["java/lang/RuntimeException", "java/lang/Exception"]).filter goodWord ++ (vx_atS RX3 58 "java/lang/IllegalStateException" ["java/lang/RuntimeException", "java/lang/Exception"]).filter goodWord ++ (vx_atS RX3 51 "java/lang/IllegalArgumentException" ["java/lang/RuntimeException", "java/lang/Exception"]).filter goodWord)
def wsL_copies_r1 : List Cond := [Cond.methodLink RL 96 yL_asks, Cond.static yL_asks, Cond.initialized RL, Cond.codeWith yL_asks cL_asks 6 (some .int) [(0, 183, 184, 62), (0, 183, 189, 64), (0, 183, 194, 66)], Cond.classLink RL 62 "java/lang/IndexOutOfBoundsException", Cond.classLink RL 64 "java/lang/IllegalStateException", Cond.classLink RL 66 "java/lang/IllegalArgumentException", Cond.methodLink RL 19 yL_begins, Cond.static yL_begins, Cond.code yL_begins cL_begins 4 (some .int), Cond.methodLink RL 10 yX3_draft, Cond.instanceMethod yX3_draft, Cond.selects RX3 yX3_draft yX3_draft, Cond.initialized RX3, Cond.code yX3_draft cX3_draft 5 none, Cond.classLink RX3 54 "java/lang/IllegalStateException", Cond.initialized "java/lang/IllegalStateException", Cond.fieldLink RX3 79 "PaperKeeper$Paper" "hasDraft" "Z", Cond.fieldLink RX3 85 "PaperKeeper$Paper" "draft" "LPaperKeeper$Draft;", Cond.methodLink RX3 62 yX3_paperAt, Cond.instanceMethod yX3_paperAt, Cond.selects RX3 yX3_paperAt yX3_paperAt, Cond.code yX3_paperAt cX3_paperAt 3 (some (.object "PaperKeeper$Paper")), Cond.classLink RX3 157 "java/lang/IndexOutOfBoundsException"]
def wsL_copies_r2 : List Cond := [Cond.initialized "java/lang/IndexOutOfBoundsException", Cond.fieldLink RX3 22 "PaperKeeper" "papers" "[LPaperKeeper$Paper;", Cond.methodLink RX3 43 yX3_checkPerson, Cond.static yX3_checkPerson, Cond.code yX3_checkPerson cX3_checkPerson 1 none, Cond.methodLink RX3 75 yX3_checkRange, Cond.static yX3_checkRange, Cond.code yX3_checkRange cX3_checkRange 3 none, Cond.classLink RX3 47 "java/lang/IllegalArgumentException", Cond.initialized "java/lang/IllegalArgumentException", Cond.methodLink RX3 89 yX1_begin, Cond.instanceMethod yX1_begin, Cond.selects RX1 yX1_begin yX1_begin, Cond.initialized RX1, Cond.code yX1_begin cX1_begin 4 none, Cond.fieldLink RX1 28 "PaperKeeper$Draft" "author" "I", Cond.fieldLink RX1 32 "PaperKeeper$Draft" "text" "I", Cond.fieldLink RX1 35 "PaperKeeper$Draft" "round" "I", Cond.fieldLink RX1 38 "PaperKeeper$Draft" "reviewerCount" "I", Cond.fieldLink RX1 22 "PaperKeeper$Draft" "reads" "[Z", Cond.methodLink RX1 41 yX1_beginRound, Cond.instanceMethod yX1_beginRound, Cond.selects RX1 yX1_beginRound yX1_beginRound, Cond.code yX1_beginRound cX1_beginRound 2 none]
def wsL_copies_r3 : List Cond := [Cond.fieldLink RX1 44 "PaperKeeper$Draft" "remarkCount" "I", Cond.fieldLink RX1 47 "PaperKeeper$Draft" "approved" "Z", Cond.fieldLink RX1 15 "PaperKeeper$Draft" "reviewed" "[Z", Cond.fieldLink RX1 25 "PaperKeeper$Draft" "confirmed" "[Z", Cond.methodLink RL 25 yX3_change, Cond.instanceMethod yX3_change, Cond.selects RX3 yX3_change yX3_change, Cond.code yX3_change cX3_change 5 (some .int), Cond.fieldLink RX3 99 "PaperKeeper$Draft" "text" "I", Cond.fieldLink RX3 107 "PaperKeeper$Draft" "round" "I", Cond.methodLink RX3 95 yX3_draftOf, Cond.static yX3_draftOf, Cond.code yX3_draftOf cX3_draftOf 1 (some (.object "PaperKeeper$Draft")), Cond.methodLink RX3 104 yX1_beginRound, Cond.methodLink RL 29 yX3_drop, Cond.instanceMethod yX3_drop, Cond.selects RX3 yX3_drop yX3_drop, Cond.code yX3_drop cX3_drop 4 (some .int), Cond.methodLink RL 33 yX3_reviewer, Cond.instanceMethod yX3_reviewer, Cond.selects RX3 yX3_reviewer yX3_reviewer, Cond.code yX3_reviewer cX3_reviewer 5 (some .int), Cond.fieldLink RX3 110 "PaperKeeper$Draft" "approved" "Z", Cond.fieldLink RX3 115 "PaperKeeper$Draft" "author" "I"]
def wsL_copies_r4 : List Cond := [Cond.fieldLink RX3 9 "PaperKeeper" "mayReview" "[Z", Cond.fieldLink RX3 124 "PaperKeeper$Draft" "reviewerCount" "I", Cond.fieldLink RX3 129 "PaperKeeper$Draft" "reviewers" "[I", Cond.methodLink RX3 120 yX1_hasReviewer, Cond.instanceMethod yX1_hasReviewer, Cond.selects RX1 yX1_hasReviewer yX1_hasReviewer, Cond.code yX1_hasReviewer cX1_hasReviewer 3 (some .boolean), Cond.fieldLink RX1 9 "PaperKeeper$Draft" "reviewers" "[I", Cond.methodLink RL 36 yX3_reader, Cond.instanceMethod yX3_reader, Cond.selects RX3 yX3_reader yX3_reader, Cond.code yX3_reader cX3_reader 5 (some .int), Cond.fieldLink RX3 132 "PaperKeeper$Draft" "reads" "[Z", Cond.methodLink RX3 71 yX3_countOf, Cond.static yX3_countOf, Cond.code yX3_countOf cX3_countOf 3 (some .int), Cond.methodLink RL 39 yX3_review, Cond.instanceMethod yX3_review, Cond.selects RX3 yX3_review yX3_review, Cond.code yX3_review cX3_review 6 (some .int), Cond.fieldLink RX3 137 "PaperKeeper$Draft" "reviewed" "[Z", Cond.fieldLink RX3 142 "PaperKeeper$Paper" "inOrder" "Z", Cond.methodLink RX3 145 yX1_nextReviewer, Cond.instanceMethod yX1_nextReviewer]
def wsL_copies_r5 : List Cond := [Cond.selects RX1 yX1_nextReviewer yX1_nextReviewer, Cond.code yX1_nextReviewer cX1_nextReviewer 2 (some .int), Cond.methodLink RX3 151 yX1_addRemark, Cond.instanceMethod yX1_addRemark, Cond.selects RX1 yX1_addRemark yX1_addRemark, Cond.code yX1_addRemark cX1_addRemark 2 (some .int), Cond.fieldLink RX1 19 "PaperKeeper$Draft" "answered" "[Z", Cond.methodLink RL 43 yX3_answer, Cond.instanceMethod yX3_answer, Cond.selects RX3 yX3_answer yX3_answer, Cond.code yX3_answer cX3_answer 5 (some .int), Cond.fieldLink RX3 154 "PaperKeeper$Draft" "remarkCount" "I", Cond.fieldLink RX3 162 "PaperKeeper$Draft" "answered" "[Z", Cond.methodLink RX3 167 yX1_openRemarks, Cond.instanceMethod yX1_openRemarks, Cond.selects RX1 yX1_openRemarks yX1_openRemarks, Cond.code yX1_openRemarks cX1_openRemarks 3 (some .int), Cond.methodLink RL 46 yL_approves, Cond.static yL_approves, Cond.code yL_approves cL_approves 4 (some .int), Cond.methodLink RL 16 yX3_approve, Cond.instanceMethod yX3_approve, Cond.selects RX3 yX3_approve yX3_approve, Cond.code yX3_approve cX3_approve 6 none]
def wsL_copies_r6 : List Cond := [Cond.fieldLink RX3 40 "PaperKeeper" "today" "I", Cond.fieldLink RX3 180 "PaperKeeper$Draft" "firstDay" "I", Cond.methodLink RX3 170 yX1_nextStep, Cond.instanceMethod yX1_nextStep, Cond.selects RX1 yX1_nextStep yX1_nextStep, Cond.code yX1_nextStep cX1_nextStep 1 (some .int), Cond.methodLink RX1 51 yX1_nextReviewer, Cond.methodLink RX1 55 yX1_openRemarks, Cond.methodLink RX1 58 yX1_nextReader, Cond.instanceMethod yX1_nextReader, Cond.selects RX1 yX1_nextReader yX1_nextReader, Cond.code yX1_nextReader cX1_nextReader 2 (some .int), Cond.methodLink RX3 175 yX3_canApprove, Cond.instanceMethod yX3_canApprove, Cond.selects RX3 yX3_canApprove yX3_canApprove, Cond.code yX3_canApprove cX3_canApprove 4 (some .boolean), Cond.fieldLink RX3 13 "PaperKeeper" "mayApprove" "[Z", Cond.fieldLink RX3 16 "PaperKeeper" "deputies" "[I", Cond.methodLink RL 49 yX3_confirm, Cond.instanceMethod yX3_confirm, Cond.selects RX3 yX3_confirm yX3_confirm, Cond.code yX3_confirm cX3_confirm 5 (some .int), Cond.fieldLink RX3 185 "PaperKeeper$Draft" "confirmed" "[Z", Cond.methodLink RL 52 yX3_look]
def wsL_copies_r7 : List Cond := [Cond.instanceMethod yX3_look, Cond.selects RX3 yX3_look yX3_look, Cond.code yX3_look cX3_look 4 (some .boolean), Cond.fieldLink RX3 37 "PaperKeeper" "interval" "I", Cond.methodLink RX3 195 yX3_checkInForce, Cond.static yX3_checkInForce, Cond.code yX3_checkInForce cX3_checkInForce 1 none, Cond.methodLink RX3 211 yX2_newest, Cond.instanceMethod yX2_newest, Cond.selects RX2 yX2_newest yX2_newest, Cond.initialized RX2, Cond.code yX2_newest cX2_newest 1 (some .int), Cond.fieldLink RX2 33 "PaperKeeper$Paper" "versionCount" "I", Cond.methodLink RX3 199 yX2_needsLook, Cond.instanceMethod yX2_needsLook, Cond.selects RX2 yX2_needsLook yX2_needsLook, Cond.code yX2_needsLook cX2_needsLook 3 (some .boolean), Cond.fieldLink RX2 51 "PaperKeeper$Paper" "asked" "Z", Cond.fieldLink RX2 54 "PaperKeeper$Paper" "intervalStart" "I", Cond.methodLink RX3 203 yX2_restartInterval, Cond.instanceMethod yX2_restartInterval, Cond.selects RX2 yX2_restartInterval yX2_restartInterval, Cond.code yX2_restartInterval cX2_restartInterval 2 none, Cond.methodLink RL 56 yX3_copy]
def wsL_copies_r8 : List Cond := [Cond.instanceMethod yX3_copy, Cond.selects RX3 yX3_copy yX3_copy, Cond.code yX3_copy cX3_copy 4 (some .int), Cond.fieldLink RX3 29 "PaperKeeper" "copies" "LPaperKeeper$Copies;", Cond.fieldLink RX3 206 "PaperKeeper$Copies" "count" "I", Cond.methodLink RX3 214 yX0_add, Cond.instanceMethod yX0_add, Cond.selects RX0 yX0_add yX0_add, Cond.initialized RX0, Cond.code yX0_add cX0_add 5 (some .int), Cond.fieldLink RX0 21 "PaperKeeper$Copies" "count" "I", Cond.fieldLink RX0 9 "PaperKeeper$Copies" "papers" "[I", Cond.fieldLink RX0 15 "PaperKeeper$Copies" "versions" "[I", Cond.fieldLink RX0 18 "PaperKeeper$Copies" "walls" "[I", Cond.methodLink RL 59 yX3_takeDown, Cond.instanceMethod yX3_takeDown, Cond.selects RX3 yX3_takeDown yX3_takeDown, Cond.code yX3_takeDown cX3_takeDown 3 (some .int), Cond.fieldLink RX3 218 "PaperKeeper$Copies" "walls" "[I", Cond.methodLink RL 80 yX3_isDue, Cond.instanceMethod yX3_isDue, Cond.selects RX3 yX3_isDue yX3_isDue, Cond.code yX3_isDue cX3_isDue 2 (some .boolean)]
def wsL_copies : List Cond := .code yL_copies cL_copies 10 (some .boolean) :: ((wsL_copies_r1 ++ (wsL_copies_r2 ++ (wsL_copies_r3 ++ (wsL_copies_r4 ++ (wsL_copies_r5 ++ (wsL_copies_r6 ++ (wsL_copies_r7 ++ wsL_copies_r8))))))) ++ wsX20 ++ wsX30 ++ wsX10 ++ wsX00 ++ (vx_atS RX3 58 "java/lang/IllegalStateException" ["java/lang/RuntimeException", "java/lang/Exception"]).filter goodWord ++ (vx_atS RX3 161 "java/lang/IndexOutOfBoundsException" ["java/lang/RuntimeException", "java/lang/Exception"]).filter goodWord ++ (vx_atS RX3 51 "java/lang/IllegalArgumentException" ["java/lang/RuntimeException", "java/lang/Exception"]).filter goodWord)
def wsL_step_r1 : List Cond := [Cond.methodLink RL 110 yX3_open, Cond.instanceMethod yX3_open, Cond.selects RX3 yX3_open yX3_open, Cond.initialized RX3, Cond.code yX3_open cX3_open 3 (some .int), Cond.classLink RX3 54 "java/lang/IllegalStateException", Cond.initialized "java/lang/IllegalStateException", Cond.fieldLink RX3 33 "PaperKeeper" "paperCount" "I", Cond.fieldLink RX3 22 "PaperKeeper" "papers" "[LPaperKeeper$Paper;", Cond.classLink RX3 20 RX2, Cond.instantiable RX2 9, Cond.initialized RX2, Cond.methodLink RX3 59 yX2_init, Cond.instanceMethod yX2_init, Cond.code yX2_init cX2_init 2 none, Cond.methodLink RX2 3 objectInit, Cond.instanceMethod objectInit, Cond.code objectInit ⟨#[0xb1]⟩ 1 none, Cond.fieldLink RX2 9 "PaperKeeper$Paper" "inOrder" "Z", Cond.arrayClass .boolean, Cond.fieldLink RX2 15 "PaperKeeper$Paper" "hangsOn" "[Z", Cond.classLink RX2 19 RX1, Cond.instantiable RX1 12, Cond.initialized RX1]
def wsL_step_r2 : List Cond := [Cond.fieldLink RX2 22 "PaperKeeper$Paper" "draft" "LPaperKeeper$Draft;", Cond.arrayClass .int, Cond.fieldLink RX2 26 "PaperKeeper$Paper" "texts" "[I", Cond.fieldLink RX2 30 "PaperKeeper$Paper" "firstDays" "[I", Cond.methodLink RX2 21 yX1_init, Cond.instanceMethod yX1_init, Cond.code yX1_init cX1_init 1 none, Cond.methodLink RX1 3 objectInit, Cond.fieldLink RX1 9 "PaperKeeper$Draft" "reviewers" "[I", Cond.fieldLink RX1 15 "PaperKeeper$Draft" "reviewed" "[Z", Cond.fieldLink RX1 19 "PaperKeeper$Draft" "answered" "[Z", Cond.fieldLink RX1 22 "PaperKeeper$Draft" "reads" "[Z", Cond.fieldLink RX1 25 "PaperKeeper$Draft" "confirmed" "[Z", Cond.methodLink RL 68 yX3_step, Cond.instanceMethod yX3_step, Cond.selects RX3 yX3_step yX3_step, Cond.code yX3_step cX3_step 3 (some .int), Cond.fieldLink RX3 79 "PaperKeeper$Paper" "hasDraft" "Z", Cond.fieldLink RX3 85 "PaperKeeper$Paper" "draft" "LPaperKeeper$Draft;", Cond.methodLink RX3 62 yX3_paperAt, Cond.instanceMethod yX3_paperAt, Cond.selects RX3 yX3_paperAt yX3_paperAt, Cond.code yX3_paperAt cX3_paperAt 3 (some (.object "PaperKeeper$Paper")), Cond.classLink RX3 157 "java/lang/IndexOutOfBoundsException"]
def wsL_step_r3 : List Cond := [Cond.initialized "java/lang/IndexOutOfBoundsException", Cond.methodLink RX3 170 yX1_nextStep, Cond.instanceMethod yX1_nextStep, Cond.selects RX1 yX1_nextStep yX1_nextStep, Cond.code yX1_nextStep cX1_nextStep 1 (some .int), Cond.fieldLink RX1 38 "PaperKeeper$Draft" "reviewerCount" "I", Cond.fieldLink RX1 47 "PaperKeeper$Draft" "approved" "Z", Cond.methodLink RX1 51 yX1_nextReviewer, Cond.instanceMethod yX1_nextReviewer, Cond.selects RX1 yX1_nextReviewer yX1_nextReviewer, Cond.code yX1_nextReviewer cX1_nextReviewer 2 (some .int), Cond.methodLink RX1 55 yX1_openRemarks, Cond.instanceMethod yX1_openRemarks, Cond.selects RX1 yX1_openRemarks yX1_openRemarks, Cond.code yX1_openRemarks cX1_openRemarks 3 (some .int), Cond.fieldLink RX1 44 "PaperKeeper$Draft" "remarkCount" "I", Cond.methodLink RX1 58 yX1_nextReader, Cond.instanceMethod yX1_nextReader, Cond.selects RX1 yX1_nextReader yX1_nextReader, Cond.code yX1_nextReader cX1_nextReader 2 (some .int), Cond.methodLink RL 74 yX3_inForce, Cond.instanceMethod yX3_inForce, Cond.selects RX3 yX3_inForce yX3_inForce, Cond.code yX3_inForce cX3_inForce 2 (some .int)]
def wsL_step_r4 : List Cond := [Cond.methodLink RX3 211 yX2_newest, Cond.instanceMethod yX2_newest, Cond.selects RX2 yX2_newest yX2_newest, Cond.code yX2_newest cX2_newest 1 (some .int), Cond.fieldLink RX2 33 "PaperKeeper$Paper" "versionCount" "I", Cond.methodLink RL 114 yX3_hang, Cond.instanceMethod yX3_hang, Cond.selects RX3 yX3_hang yX3_hang, Cond.code yX3_hang cX3_hang 4 (some .int), Cond.classLink RX3 47 "java/lang/IllegalArgumentException", Cond.initialized "java/lang/IllegalArgumentException", Cond.fieldLink RX3 68 "PaperKeeper$Paper" "hangsOn" "[Z", Cond.methodLink RX3 71 yX3_countOf, Cond.static yX3_countOf, Cond.code yX3_countOf cX3_countOf 3 (some .int), Cond.methodLink RL 100 yL_size, Cond.static yL_size, Cond.initialized RL, Cond.code yL_size cL_size 3 (some .int), Cond.methodLink RL 92 yL_has, Cond.static yL_has, Cond.code yL_has cL_has 2 (some .boolean), Cond.methodLink RL 117 yX3_setRoles, Cond.instanceMethod yX3_setRoles]
def wsL_step_r5 : List Cond := [Cond.selects RX3 yX3_setRoles yX3_setRoles, Cond.code yX3_setRoles cX3_setRoles 4 none, Cond.fieldLink RX3 9 "PaperKeeper" "mayReview" "[Z", Cond.fieldLink RX3 13 "PaperKeeper" "mayApprove" "[Z", Cond.methodLink RX3 43 yX3_checkPerson, Cond.static yX3_checkPerson, Cond.code yX3_checkPerson cX3_checkPerson 1 none, Cond.methodLink RX3 75 yX3_checkRange, Cond.static yX3_checkRange, Cond.code yX3_checkRange cX3_checkRange 3 none, Cond.methodLink RL 121 yX3_setDeputy, Cond.instanceMethod yX3_setDeputy, Cond.selects RX3 yX3_setDeputy yX3_setDeputy, Cond.code yX3_setDeputy cX3_setDeputy 4 (some .int), Cond.fieldLink RX3 16 "PaperKeeper" "deputies" "[I", Cond.methodLink RL 124 yX3_setInterval, Cond.instanceMethod yX3_setInterval, Cond.selects RX3 yX3_setInterval yX3_setInterval, Cond.code yX3_setInterval cX3_setInterval 3 (some .int), Cond.fieldLink RX3 37 "PaperKeeper" "interval" "I", Cond.methodLink RL 127 yL_drafts, Cond.static yL_drafts, Cond.code yL_drafts cL_drafts 14 (some .boolean), Cond.methodLink RL 71 yX3_waitsFor]
def wsL_step_r6 : List Cond := [Cond.instanceMethod yX3_waitsFor, Cond.selects RX3 yX3_waitsFor yX3_waitsFor, Cond.code yX3_waitsFor cX3_waitsFor 3 (some .int), Cond.methodLink RX3 242 yX1_nextPerson, Cond.instanceMethod yX1_nextPerson, Cond.selects RX1 yX1_nextPerson yX1_nextPerson, Cond.code yX1_nextPerson cX1_nextPerson 1 (some .int), Cond.fieldLink RX1 28 "PaperKeeper$Draft" "author" "I", Cond.methodLink RX1 61 yX1_nextStep, Cond.methodLink RL 96 yL_asks, Cond.static yL_asks, Cond.codeWith yL_asks cL_asks 6 (some .int) [(0, 183, 184, 62), (0, 183, 189, 64), (0, 183, 194, 66)], Cond.classLink RL 62 "java/lang/IndexOutOfBoundsException", Cond.classLink RL 64 "java/lang/IllegalStateException", Cond.classLink RL 66 "java/lang/IllegalArgumentException", Cond.methodLink RL 19 yL_begins, Cond.static yL_begins, Cond.code yL_begins cL_begins 4 (some .int), Cond.methodLink RL 10 yX3_draft, Cond.instanceMethod yX3_draft, Cond.selects RX3 yX3_draft yX3_draft, Cond.code yX3_draft cX3_draft 5 none, Cond.methodLink RX3 89 yX1_begin, Cond.instanceMethod yX1_begin]
def wsL_step_r7 : List Cond := [Cond.selects RX1 yX1_begin yX1_begin, Cond.code yX1_begin cX1_begin 4 none, Cond.fieldLink RX1 32 "PaperKeeper$Draft" "text" "I", Cond.fieldLink RX1 35 "PaperKeeper$Draft" "round" "I", Cond.methodLink RX1 41 yX1_beginRound, Cond.instanceMethod yX1_beginRound, Cond.selects RX1 yX1_beginRound yX1_beginRound, Cond.code yX1_beginRound cX1_beginRound 2 none, Cond.methodLink RL 25 yX3_change, Cond.instanceMethod yX3_change, Cond.selects RX3 yX3_change yX3_change, Cond.code yX3_change cX3_change 5 (some .int), Cond.fieldLink RX3 99 "PaperKeeper$Draft" "text" "I", Cond.fieldLink RX3 107 "PaperKeeper$Draft" "round" "I", Cond.methodLink RX3 95 yX3_draftOf, Cond.static yX3_draftOf, Cond.code yX3_draftOf cX3_draftOf 1 (some (.object "PaperKeeper$Draft")), Cond.methodLink RX3 104 yX1_beginRound, Cond.methodLink RL 29 yX3_drop, Cond.instanceMethod yX3_drop, Cond.selects RX3 yX3_drop yX3_drop, Cond.code yX3_drop cX3_drop 4 (some .int), Cond.methodLink RL 33 yX3_reviewer, Cond.instanceMethod yX3_reviewer]
def wsL_step_r8 : List Cond := [Cond.selects RX3 yX3_reviewer yX3_reviewer, Cond.code yX3_reviewer cX3_reviewer 5 (some .int), Cond.fieldLink RX3 110 "PaperKeeper$Draft" "approved" "Z", Cond.fieldLink RX3 115 "PaperKeeper$Draft" "author" "I", Cond.fieldLink RX3 124 "PaperKeeper$Draft" "reviewerCount" "I", Cond.fieldLink RX3 129 "PaperKeeper$Draft" "reviewers" "[I", Cond.methodLink RX3 120 yX1_hasReviewer, Cond.instanceMethod yX1_hasReviewer, Cond.selects RX1 yX1_hasReviewer yX1_hasReviewer, Cond.code yX1_hasReviewer cX1_hasReviewer 3 (some .boolean), Cond.methodLink RL 36 yX3_reader, Cond.instanceMethod yX3_reader, Cond.selects RX3 yX3_reader yX3_reader, Cond.code yX3_reader cX3_reader 5 (some .int), Cond.fieldLink RX3 132 "PaperKeeper$Draft" "reads" "[Z", Cond.methodLink RL 39 yX3_review, Cond.instanceMethod yX3_review, Cond.selects RX3 yX3_review yX3_review, Cond.code yX3_review cX3_review 6 (some .int), Cond.fieldLink RX3 137 "PaperKeeper$Draft" "reviewed" "[Z", Cond.fieldLink RX3 142 "PaperKeeper$Paper" "inOrder" "Z", Cond.methodLink RX3 145 yX1_nextReviewer, Cond.methodLink RX3 151 yX1_addRemark, Cond.instanceMethod yX1_addRemark]
def wsL_step_r9 : List Cond := [Cond.selects RX1 yX1_addRemark yX1_addRemark, Cond.code yX1_addRemark cX1_addRemark 2 (some .int), Cond.methodLink RL 43 yX3_answer, Cond.instanceMethod yX3_answer, Cond.selects RX3 yX3_answer yX3_answer, Cond.code yX3_answer cX3_answer 5 (some .int), Cond.fieldLink RX3 154 "PaperKeeper$Draft" "remarkCount" "I", Cond.fieldLink RX3 162 "PaperKeeper$Draft" "answered" "[Z", Cond.methodLink RX3 167 yX1_openRemarks, Cond.methodLink RL 46 yL_approves, Cond.static yL_approves, Cond.code yL_approves cL_approves 4 (some .int), Cond.methodLink RL 16 yX3_approve, Cond.instanceMethod yX3_approve, Cond.selects RX3 yX3_approve yX3_approve, Cond.code yX3_approve cX3_approve 6 none, Cond.fieldLink RX3 40 "PaperKeeper" "today" "I", Cond.fieldLink RX3 180 "PaperKeeper$Draft" "firstDay" "I", Cond.methodLink RX3 175 yX3_canApprove, Cond.instanceMethod yX3_canApprove, Cond.selects RX3 yX3_canApprove yX3_canApprove, Cond.code yX3_canApprove cX3_canApprove 4 (some .boolean), Cond.methodLink RL 49 yX3_confirm, Cond.instanceMethod yX3_confirm]
def wsL_step_r10 : List Cond := [Cond.selects RX3 yX3_confirm yX3_confirm, Cond.code yX3_confirm cX3_confirm 5 (some .int), Cond.fieldLink RX3 185 "PaperKeeper$Draft" "confirmed" "[Z", Cond.methodLink RL 52 yX3_look, Cond.instanceMethod yX3_look, Cond.selects RX3 yX3_look yX3_look, Cond.code yX3_look cX3_look 4 (some .boolean), Cond.methodLink RX3 195 yX3_checkInForce, Cond.static yX3_checkInForce, Cond.code yX3_checkInForce cX3_checkInForce 1 none, Cond.methodLink RX3 199 yX2_needsLook, Cond.instanceMethod yX2_needsLook, Cond.selects RX2 yX2_needsLook yX2_needsLook, Cond.code yX2_needsLook cX2_needsLook 3 (some .boolean), Cond.fieldLink RX2 51 "PaperKeeper$Paper" "asked" "Z", Cond.fieldLink RX2 54 "PaperKeeper$Paper" "intervalStart" "I", Cond.methodLink RX3 203 yX2_restartInterval, Cond.instanceMethod yX2_restartInterval, Cond.selects RX2 yX2_restartInterval yX2_restartInterval, Cond.code yX2_restartInterval cX2_restartInterval 2 none, Cond.methodLink RL 56 yX3_copy, Cond.instanceMethod yX3_copy, Cond.selects RX3 yX3_copy yX3_copy, Cond.code yX3_copy cX3_copy 4 (some .int)]
def wsL_step_r11 : List Cond := [Cond.fieldLink RX3 29 "PaperKeeper" "copies" "LPaperKeeper$Copies;", Cond.fieldLink RX3 206 "PaperKeeper$Copies" "count" "I", Cond.methodLink RX3 214 yX0_add, Cond.instanceMethod yX0_add, Cond.selects RX0 yX0_add yX0_add, Cond.initialized RX0, Cond.code yX0_add cX0_add 5 (some .int), Cond.fieldLink RX0 21 "PaperKeeper$Copies" "count" "I", Cond.fieldLink RX0 9 "PaperKeeper$Copies" "papers" "[I", Cond.fieldLink RX0 15 "PaperKeeper$Copies" "versions" "[I", Cond.fieldLink RX0 18 "PaperKeeper$Copies" "walls" "[I", Cond.methodLink RL 59 yX3_takeDown, Cond.instanceMethod yX3_takeDown, Cond.selects RX3 yX3_takeDown yX3_takeDown, Cond.code yX3_takeDown cX3_takeDown 3 (some .int), Cond.fieldLink RX3 218 "PaperKeeper$Copies" "walls" "[I", Cond.methodLink RL 131 yL_goesOn, Cond.static yL_goesOn, Cond.code yL_goesOn cL_goesOn 15 (some .boolean), Cond.methodLink RL 103 yL_mayApprove, Cond.static yL_mayApprove, Cond.code yL_mayApprove cL_mayApprove 5 (some .boolean), Cond.methodLink RL 135 yL_copies, Cond.static yL_copies]
def wsL_step_r12 : List Cond := [Cond.code yL_copies cL_copies 10 (some .boolean), Cond.methodLink RL 80 yX3_isDue, Cond.instanceMethod yX3_isDue, Cond.selects RX3 yX3_isDue yX3_isDue, Cond.code yX3_isDue cX3_isDue 2 (some .boolean), Cond.methodLink RL 139 yL_passes, Cond.static yL_passes, Cond.code yL_passes cL_passes 10 (some .boolean), Cond.methodLink RL 107 yX3_pass, Cond.instanceMethod yX3_pass, Cond.selects RX3 yX3_pass yX3_pass, Cond.code yX3_pass cX3_pass 4 (some .int), Cond.methodLink RX3 192 yX3_beginDay, Cond.instanceMethod yX3_beginDay, Cond.selects RX3 yX3_beginDay yX3_beginDay, Cond.code yX3_beginDay cX3_beginDay 4 (some .int), Cond.methodLink RX3 253 yX2_comeIntoForce, Cond.instanceMethod yX2_comeIntoForce, Cond.selects RX2 yX2_comeIntoForce yX2_comeIntoForce, Cond.code yX2_comeIntoForce cX2_comeIntoForce 2 (some .boolean), Cond.fieldLink RX2 37 "PaperKeeper$Paper" "hasDraft" "Z", Cond.fieldLink RX2 44 "PaperKeeper$Draft" "text" "I", Cond.methodLink RX2 40 yX1_isReady, Cond.instanceMethod yX1_isReady]
def wsL_step_r13 : List Cond := [Cond.selects RX1 yX1_isReady yX1_isReady, Cond.code yX1_isReady cX1_isReady 2 (some .boolean), Cond.fieldLink RX1 64 "PaperKeeper$Draft" "firstDay" "I", Cond.methodLink RX2 47 yX2_restartInterval, Cond.methodLink RX3 256 yX3_askForLooks, Cond.instanceMethod yX3_askForLooks, Cond.selects RX3 yX3_askForLooks yX3_askForLooks, Cond.code yX3_askForLooks cX3_askForLooks 4 none, Cond.fieldLink RX3 259 "PaperKeeper$Paper" "asked" "Z", Cond.methodLink RL 86 yX3_text, Cond.instanceMethod yX3_text, Cond.selects RX3 yX3_text yX3_text, Cond.code yX3_text cX3_text 4 (some .int), Cond.fieldLink RX3 227 "PaperKeeper$Paper" "texts" "[I", Cond.methodLink RL 89 yX3_since, Cond.instanceMethod yX3_since, Cond.selects RX3 yX3_since yX3_since, Cond.code yX3_since cX3_since 4 (some .int), Cond.fieldLink RX3 234 "PaperKeeper$Paper" "versionCount" "I", Cond.fieldLink RX3 239 "PaperKeeper$Paper" "firstDays" "[I"]
def wsL_step : List Cond := .code yL_step cL_step 16 (some .boolean) :: ((wsL_step_r1 ++ (wsL_step_r2 ++ (wsL_step_r3 ++ (wsL_step_r4 ++ (wsL_step_r5 ++ (wsL_step_r6 ++ (wsL_step_r7 ++ (wsL_step_r8 ++ (wsL_step_r9 ++ (wsL_step_r10 ++ (wsL_step_r11 ++ (wsL_step_r12 ++ wsL_step_r13)))))))))))) ++ wsX30 ++ wsX20 ++ wsX10 ++ wsX00 ++ (vx_atS RX3 58 "java/lang/IllegalStateException" ["java/lang/RuntimeException", "java/lang/Exception"]).filter goodWord ++ (vx_atS RX3 161 "java/lang/IndexOutOfBoundsException" ["java/lang/RuntimeException", "java/lang/Exception"]).filter goodWord ++ (vx_atS RX3 51 "java/lang/IllegalArgumentException" ["java/lang/RuntimeException", "java/lang/Exception"]).filter goodWord)
def wsL_keeper_r1 : List Cond := [Cond.classLink RL 11 RX3, Cond.instantiable RX3 8, Cond.initialized RX3, Cond.arrayClass .int, Cond.constant RL 144 (1073741824), Cond.methodLink RL 143 yX3_init, Cond.instanceMethod yX3_init, Cond.code yX3_init cX3_init 2 none, Cond.methodLink RX3 1 objectInit, Cond.instanceMethod objectInit, Cond.code objectInit ⟨#[0xb1]⟩ 1 none, Cond.arrayClass .boolean, Cond.fieldLink RX3 9 "PaperKeeper" "mayReview" "[Z", Cond.fieldLink RX3 13 "PaperKeeper" "mayApprove" "[Z", Cond.fieldLink RX3 16 "PaperKeeper" "deputies" "[I", Cond.classLink RX3 20 RX2, Cond.fieldLink RX3 22 "PaperKeeper" "papers" "[LPaperKeeper$Paper;", Cond.classLink RX3 26 RX0, Cond.instantiable RX0 4, Cond.initialized RX0, Cond.fieldLink RX3 29 "PaperKeeper" "copies" "LPaperKeeper$Copies;", Cond.fieldLink RX3 33 "PaperKeeper" "paperCount" "I", Cond.fieldLink RX3 37 "PaperKeeper" "interval" "I", Cond.fieldLink RX3 40 "PaperKeeper" "today" "I"]
def wsL_keeper_r2 : List Cond := [Cond.methodLink RX3 28 yX0_init, Cond.instanceMethod yX0_init, Cond.code yX0_init cX0_init 1 none, Cond.methodLink RX0 3 objectInit, Cond.fieldLink RX0 9 "PaperKeeper$Copies" "papers" "[I", Cond.fieldLink RX0 15 "PaperKeeper$Copies" "versions" "[I", Cond.fieldLink RX0 18 "PaperKeeper$Copies" "walls" "[I", Cond.methodLink RL 145 yL_draw, Cond.static yL_draw, Cond.initialized RL, Cond.code yL_draw cL_draw 4 (some .int), Cond.constant RL 7 (935717331), Cond.constant RL 8 (1137817079), Cond.constant RL 9 (2147483647), Cond.methodLink RL 149 yL_step, Cond.static yL_step, Cond.code yL_step cL_step 16 (some .boolean), Cond.methodLink RL 110 yX3_open, Cond.instanceMethod yX3_open, Cond.selects RX3 yX3_open yX3_open, Cond.code yX3_open cX3_open 3 (some .int), Cond.classLink RX3 54 "java/lang/IllegalStateException", Cond.initialized "java/lang/IllegalStateException", Cond.instantiable RX2 9]
def wsL_keeper_r3 : List Cond := [Cond.initialized RX2, Cond.methodLink RX3 59 yX2_init, Cond.instanceMethod yX2_init, Cond.code yX2_init cX2_init 2 none, Cond.methodLink RX2 3 objectInit, Cond.fieldLink RX2 9 "PaperKeeper$Paper" "inOrder" "Z", Cond.fieldLink RX2 15 "PaperKeeper$Paper" "hangsOn" "[Z", Cond.classLink RX2 19 RX1, Cond.instantiable RX1 12, Cond.initialized RX1, Cond.fieldLink RX2 22 "PaperKeeper$Paper" "draft" "LPaperKeeper$Draft;", Cond.fieldLink RX2 26 "PaperKeeper$Paper" "texts" "[I", Cond.fieldLink RX2 30 "PaperKeeper$Paper" "firstDays" "[I", Cond.methodLink RX2 21 yX1_init, Cond.instanceMethod yX1_init, Cond.code yX1_init cX1_init 1 none, Cond.methodLink RX1 3 objectInit, Cond.fieldLink RX1 9 "PaperKeeper$Draft" "reviewers" "[I", Cond.fieldLink RX1 15 "PaperKeeper$Draft" "reviewed" "[Z", Cond.fieldLink RX1 19 "PaperKeeper$Draft" "answered" "[Z", Cond.fieldLink RX1 22 "PaperKeeper$Draft" "reads" "[Z", Cond.fieldLink RX1 25 "PaperKeeper$Draft" "confirmed" "[Z", Cond.methodLink RL 68 yX3_step, Cond.instanceMethod yX3_step]
def wsL_keeper_r4 : List Cond := [Cond.selects RX3 yX3_step yX3_step, Cond.code yX3_step cX3_step 3 (some .int), Cond.fieldLink RX3 79 "PaperKeeper$Paper" "hasDraft" "Z", Cond.fieldLink RX3 85 "PaperKeeper$Paper" "draft" "LPaperKeeper$Draft;", Cond.methodLink RX3 62 yX3_paperAt, Cond.instanceMethod yX3_paperAt, Cond.selects RX3 yX3_paperAt yX3_paperAt, Cond.code yX3_paperAt cX3_paperAt 3 (some (.object "PaperKeeper$Paper")), Cond.classLink RX3 157 "java/lang/IndexOutOfBoundsException", Cond.initialized "java/lang/IndexOutOfBoundsException", Cond.methodLink RX3 170 yX1_nextStep, Cond.instanceMethod yX1_nextStep, Cond.selects RX1 yX1_nextStep yX1_nextStep, Cond.code yX1_nextStep cX1_nextStep 1 (some .int), Cond.fieldLink RX1 38 "PaperKeeper$Draft" "reviewerCount" "I", Cond.fieldLink RX1 47 "PaperKeeper$Draft" "approved" "Z", Cond.methodLink RX1 51 yX1_nextReviewer, Cond.instanceMethod yX1_nextReviewer, Cond.selects RX1 yX1_nextReviewer yX1_nextReviewer, Cond.code yX1_nextReviewer cX1_nextReviewer 2 (some .int), Cond.methodLink RX1 55 yX1_openRemarks, Cond.instanceMethod yX1_openRemarks, Cond.selects RX1 yX1_openRemarks yX1_openRemarks, Cond.code yX1_openRemarks cX1_openRemarks 3 (some .int)]
def wsL_keeper_r5 : List Cond := [Cond.fieldLink RX1 44 "PaperKeeper$Draft" "remarkCount" "I", Cond.methodLink RX1 58 yX1_nextReader, Cond.instanceMethod yX1_nextReader, Cond.selects RX1 yX1_nextReader yX1_nextReader, Cond.code yX1_nextReader cX1_nextReader 2 (some .int), Cond.methodLink RL 74 yX3_inForce, Cond.instanceMethod yX3_inForce, Cond.selects RX3 yX3_inForce yX3_inForce, Cond.code yX3_inForce cX3_inForce 2 (some .int), Cond.methodLink RX3 211 yX2_newest, Cond.instanceMethod yX2_newest, Cond.selects RX2 yX2_newest yX2_newest, Cond.code yX2_newest cX2_newest 1 (some .int), Cond.fieldLink RX2 33 "PaperKeeper$Paper" "versionCount" "I", Cond.methodLink RL 114 yX3_hang, Cond.instanceMethod yX3_hang, Cond.selects RX3 yX3_hang yX3_hang, Cond.code yX3_hang cX3_hang 4 (some .int), Cond.classLink RX3 47 "java/lang/IllegalArgumentException", Cond.initialized "java/lang/IllegalArgumentException", Cond.fieldLink RX3 68 "PaperKeeper$Paper" "hangsOn" "[Z", Cond.methodLink RX3 71 yX3_countOf, Cond.static yX3_countOf, Cond.code yX3_countOf cX3_countOf 3 (some .int)]
def wsL_keeper_r6 : List Cond := [Cond.methodLink RL 100 yL_size, Cond.static yL_size, Cond.code yL_size cL_size 3 (some .int), Cond.methodLink RL 92 yL_has, Cond.static yL_has, Cond.code yL_has cL_has 2 (some .boolean), Cond.methodLink RL 117 yX3_setRoles, Cond.instanceMethod yX3_setRoles, Cond.selects RX3 yX3_setRoles yX3_setRoles, Cond.code yX3_setRoles cX3_setRoles 4 none, Cond.methodLink RX3 43 yX3_checkPerson, Cond.static yX3_checkPerson, Cond.code yX3_checkPerson cX3_checkPerson 1 none, Cond.methodLink RX3 75 yX3_checkRange, Cond.static yX3_checkRange, Cond.code yX3_checkRange cX3_checkRange 3 none, Cond.methodLink RL 121 yX3_setDeputy, Cond.instanceMethod yX3_setDeputy, Cond.selects RX3 yX3_setDeputy yX3_setDeputy, Cond.code yX3_setDeputy cX3_setDeputy 4 (some .int), Cond.methodLink RL 124 yX3_setInterval, Cond.instanceMethod yX3_setInterval, Cond.selects RX3 yX3_setInterval yX3_setInterval, Cond.code yX3_setInterval cX3_setInterval 3 (some .int)]
def wsL_keeper_r7 : List Cond := [Cond.methodLink RL 127 yL_drafts, Cond.static yL_drafts, Cond.code yL_drafts cL_drafts 14 (some .boolean), Cond.methodLink RL 71 yX3_waitsFor, Cond.instanceMethod yX3_waitsFor, Cond.selects RX3 yX3_waitsFor yX3_waitsFor, Cond.code yX3_waitsFor cX3_waitsFor 3 (some .int), Cond.methodLink RX3 242 yX1_nextPerson, Cond.instanceMethod yX1_nextPerson, Cond.selects RX1 yX1_nextPerson yX1_nextPerson, Cond.code yX1_nextPerson cX1_nextPerson 1 (some .int), Cond.fieldLink RX1 28 "PaperKeeper$Draft" "author" "I", Cond.methodLink RX1 61 yX1_nextStep, Cond.methodLink RL 96 yL_asks, Cond.static yL_asks, Cond.codeWith yL_asks cL_asks 6 (some .int) [(0, 183, 184, 62), (0, 183, 189, 64), (0, 183, 194, 66)], Cond.classLink RL 62 "java/lang/IndexOutOfBoundsException", Cond.classLink RL 64 "java/lang/IllegalStateException", Cond.classLink RL 66 "java/lang/IllegalArgumentException", Cond.methodLink RL 19 yL_begins, Cond.static yL_begins, Cond.code yL_begins cL_begins 4 (some .int), Cond.methodLink RL 10 yX3_draft, Cond.instanceMethod yX3_draft]
def wsL_keeper_r8 : List Cond := [Cond.selects RX3 yX3_draft yX3_draft, Cond.code yX3_draft cX3_draft 5 none, Cond.methodLink RX3 89 yX1_begin, Cond.instanceMethod yX1_begin, Cond.selects RX1 yX1_begin yX1_begin, Cond.code yX1_begin cX1_begin 4 none, Cond.fieldLink RX1 32 "PaperKeeper$Draft" "text" "I", Cond.fieldLink RX1 35 "PaperKeeper$Draft" "round" "I", Cond.methodLink RX1 41 yX1_beginRound, Cond.instanceMethod yX1_beginRound, Cond.selects RX1 yX1_beginRound yX1_beginRound, Cond.code yX1_beginRound cX1_beginRound 2 none, Cond.methodLink RL 25 yX3_change, Cond.instanceMethod yX3_change, Cond.selects RX3 yX3_change yX3_change, Cond.code yX3_change cX3_change 5 (some .int), Cond.fieldLink RX3 99 "PaperKeeper$Draft" "text" "I", Cond.fieldLink RX3 107 "PaperKeeper$Draft" "round" "I", Cond.methodLink RX3 95 yX3_draftOf, Cond.static yX3_draftOf, Cond.code yX3_draftOf cX3_draftOf 1 (some (.object "PaperKeeper$Draft")), Cond.methodLink RX3 104 yX1_beginRound, Cond.methodLink RL 29 yX3_drop, Cond.instanceMethod yX3_drop]
def wsL_keeper_r9 : List Cond := [Cond.selects RX3 yX3_drop yX3_drop, Cond.code yX3_drop cX3_drop 4 (some .int), Cond.methodLink RL 33 yX3_reviewer, Cond.instanceMethod yX3_reviewer, Cond.selects RX3 yX3_reviewer yX3_reviewer, Cond.code yX3_reviewer cX3_reviewer 5 (some .int), Cond.fieldLink RX3 110 "PaperKeeper$Draft" "approved" "Z", Cond.fieldLink RX3 115 "PaperKeeper$Draft" "author" "I", Cond.fieldLink RX3 124 "PaperKeeper$Draft" "reviewerCount" "I", Cond.fieldLink RX3 129 "PaperKeeper$Draft" "reviewers" "[I", Cond.methodLink RX3 120 yX1_hasReviewer, Cond.instanceMethod yX1_hasReviewer, Cond.selects RX1 yX1_hasReviewer yX1_hasReviewer, Cond.code yX1_hasReviewer cX1_hasReviewer 3 (some .boolean), Cond.methodLink RL 36 yX3_reader, Cond.instanceMethod yX3_reader, Cond.selects RX3 yX3_reader yX3_reader, Cond.code yX3_reader cX3_reader 5 (some .int), Cond.fieldLink RX3 132 "PaperKeeper$Draft" "reads" "[Z", Cond.methodLink RL 39 yX3_review, Cond.instanceMethod yX3_review, Cond.selects RX3 yX3_review yX3_review, Cond.code yX3_review cX3_review 6 (some .int), Cond.fieldLink RX3 137 "PaperKeeper$Draft" "reviewed" "[Z"]
def wsL_keeper_r10 : List Cond := [Cond.fieldLink RX3 142 "PaperKeeper$Paper" "inOrder" "Z", Cond.methodLink RX3 145 yX1_nextReviewer, Cond.methodLink RX3 151 yX1_addRemark, Cond.instanceMethod yX1_addRemark, Cond.selects RX1 yX1_addRemark yX1_addRemark, Cond.code yX1_addRemark cX1_addRemark 2 (some .int), Cond.methodLink RL 43 yX3_answer, Cond.instanceMethod yX3_answer, Cond.selects RX3 yX3_answer yX3_answer, Cond.code yX3_answer cX3_answer 5 (some .int), Cond.fieldLink RX3 154 "PaperKeeper$Draft" "remarkCount" "I", Cond.fieldLink RX3 162 "PaperKeeper$Draft" "answered" "[Z", Cond.methodLink RX3 167 yX1_openRemarks, Cond.methodLink RL 46 yL_approves, Cond.static yL_approves, Cond.code yL_approves cL_approves 4 (some .int), Cond.methodLink RL 16 yX3_approve, Cond.instanceMethod yX3_approve, Cond.selects RX3 yX3_approve yX3_approve, Cond.code yX3_approve cX3_approve 6 none, Cond.fieldLink RX3 180 "PaperKeeper$Draft" "firstDay" "I", Cond.methodLink RX3 175 yX3_canApprove, Cond.instanceMethod yX3_canApprove, Cond.selects RX3 yX3_canApprove yX3_canApprove]
def wsL_keeper_r11 : List Cond := [Cond.code yX3_canApprove cX3_canApprove 4 (some .boolean), Cond.methodLink RL 49 yX3_confirm, Cond.instanceMethod yX3_confirm, Cond.selects RX3 yX3_confirm yX3_confirm, Cond.code yX3_confirm cX3_confirm 5 (some .int), Cond.fieldLink RX3 185 "PaperKeeper$Draft" "confirmed" "[Z", Cond.methodLink RL 52 yX3_look, Cond.instanceMethod yX3_look, Cond.selects RX3 yX3_look yX3_look, Cond.code yX3_look cX3_look 4 (some .boolean), Cond.methodLink RX3 195 yX3_checkInForce, Cond.static yX3_checkInForce, Cond.code yX3_checkInForce cX3_checkInForce 1 none, Cond.methodLink RX3 199 yX2_needsLook, Cond.instanceMethod yX2_needsLook, Cond.selects RX2 yX2_needsLook yX2_needsLook, Cond.code yX2_needsLook cX2_needsLook 3 (some .boolean), Cond.fieldLink RX2 51 "PaperKeeper$Paper" "asked" "Z", Cond.fieldLink RX2 54 "PaperKeeper$Paper" "intervalStart" "I", Cond.methodLink RX3 203 yX2_restartInterval, Cond.instanceMethod yX2_restartInterval, Cond.selects RX2 yX2_restartInterval yX2_restartInterval, Cond.code yX2_restartInterval cX2_restartInterval 2 none, Cond.methodLink RL 56 yX3_copy]
def wsL_keeper_r12 : List Cond := [Cond.instanceMethod yX3_copy, Cond.selects RX3 yX3_copy yX3_copy, Cond.code yX3_copy cX3_copy 4 (some .int), Cond.fieldLink RX3 206 "PaperKeeper$Copies" "count" "I", Cond.methodLink RX3 214 yX0_add, Cond.instanceMethod yX0_add, Cond.selects RX0 yX0_add yX0_add, Cond.code yX0_add cX0_add 5 (some .int), Cond.fieldLink RX0 21 "PaperKeeper$Copies" "count" "I", Cond.methodLink RL 59 yX3_takeDown, Cond.instanceMethod yX3_takeDown, Cond.selects RX3 yX3_takeDown yX3_takeDown, Cond.code yX3_takeDown cX3_takeDown 3 (some .int), Cond.fieldLink RX3 218 "PaperKeeper$Copies" "walls" "[I", Cond.methodLink RL 131 yL_goesOn, Cond.static yL_goesOn, Cond.code yL_goesOn cL_goesOn 15 (some .boolean), Cond.methodLink RL 103 yL_mayApprove, Cond.static yL_mayApprove, Cond.code yL_mayApprove cL_mayApprove 5 (some .boolean), Cond.methodLink RL 135 yL_copies, Cond.static yL_copies, Cond.code yL_copies cL_copies 10 (some .boolean), Cond.methodLink RL 80 yX3_isDue]
def wsL_keeper_r13 : List Cond := [Cond.instanceMethod yX3_isDue, Cond.selects RX3 yX3_isDue yX3_isDue, Cond.code yX3_isDue cX3_isDue 2 (some .boolean), Cond.methodLink RL 139 yL_passes, Cond.static yL_passes, Cond.code yL_passes cL_passes 10 (some .boolean), Cond.methodLink RL 107 yX3_pass, Cond.instanceMethod yX3_pass, Cond.selects RX3 yX3_pass yX3_pass, Cond.code yX3_pass cX3_pass 4 (some .int), Cond.methodLink RX3 192 yX3_beginDay, Cond.instanceMethod yX3_beginDay, Cond.selects RX3 yX3_beginDay yX3_beginDay, Cond.code yX3_beginDay cX3_beginDay 4 (some .int), Cond.methodLink RX3 253 yX2_comeIntoForce, Cond.instanceMethod yX2_comeIntoForce, Cond.selects RX2 yX2_comeIntoForce yX2_comeIntoForce, Cond.code yX2_comeIntoForce cX2_comeIntoForce 2 (some .boolean), Cond.fieldLink RX2 37 "PaperKeeper$Paper" "hasDraft" "Z", Cond.fieldLink RX2 44 "PaperKeeper$Draft" "text" "I", Cond.methodLink RX2 40 yX1_isReady, Cond.instanceMethod yX1_isReady, Cond.selects RX1 yX1_isReady yX1_isReady, Cond.code yX1_isReady cX1_isReady 2 (some .boolean)]
def wsL_keeper_r14 : List Cond := [Cond.fieldLink RX1 64 "PaperKeeper$Draft" "firstDay" "I", Cond.methodLink RX2 47 yX2_restartInterval, Cond.methodLink RX3 256 yX3_askForLooks, Cond.instanceMethod yX3_askForLooks, Cond.selects RX3 yX3_askForLooks yX3_askForLooks, Cond.code yX3_askForLooks cX3_askForLooks 4 none, Cond.fieldLink RX3 259 "PaperKeeper$Paper" "asked" "Z", Cond.methodLink RL 86 yX3_text, Cond.instanceMethod yX3_text, Cond.selects RX3 yX3_text yX3_text, Cond.code yX3_text cX3_text 4 (some .int), Cond.fieldLink RX3 227 "PaperKeeper$Paper" "texts" "[I", Cond.methodLink RL 89 yX3_since, Cond.instanceMethod yX3_since, Cond.selects RX3 yX3_since yX3_since, Cond.code yX3_since cX3_since 4 (some .int), Cond.fieldLink RX3 234 "PaperKeeper$Paper" "versionCount" "I", Cond.fieldLink RX3 239 "PaperKeeper$Paper" "firstDays" "[I", Cond.methodLink RL 152 yX3_day, Cond.instanceMethod yX3_day, Cond.selects RX3 yX3_day yX3_day, Cond.code yX3_day cX3_day 1 (some .int), Cond.methodLink RL 156 yL_isPaper, Cond.static yL_isPaper]
def wsL_keeper_r15 : List Cond := [Cond.code yL_isPaper cL_isPaper 14 (some .boolean), Cond.methodLink RL 77 yX3_inForceOn, Cond.instanceMethod yX3_inForceOn, Cond.selects RX3 yX3_inForceOn yX3_inForceOn, Cond.code yX3_inForceOn cX3_inForceOn 4 (some .int), Cond.methodLink RX3 230 yX2_versionOn, Cond.instanceMethod yX2_versionOn, Cond.selects RX2 yX2_versionOn yX2_versionOn, Cond.code yX2_versionOn cX2_versionOn 3 (some .int), Cond.methodLink RL 83 yX3_outOfDate, Cond.instanceMethod yX3_outOfDate, Cond.selects RX3 yX3_outOfDate yX3_outOfDate, Cond.code yX3_outOfDate cX3_outOfDate 2 (some .int), Cond.methodLink RX3 223 yX0_countOld, Cond.instanceMethod yX0_countOld, Cond.selects RX0 yX0_countOld yX0_countOld, Cond.code yX0_countOld cX0_countOld 5 (some .int)]
def wsL_keeper : List Cond := .code yL_keeper cL_keeper 16 (some .boolean) :: ((wsL_keeper_r1 ++ (wsL_keeper_r2 ++ (wsL_keeper_r3 ++ (wsL_keeper_r4 ++ (wsL_keeper_r5 ++ (wsL_keeper_r6 ++ (wsL_keeper_r7 ++ (wsL_keeper_r8 ++ (wsL_keeper_r9 ++ (wsL_keeper_r10 ++ (wsL_keeper_r11 ++ (wsL_keeper_r12 ++ (wsL_keeper_r13 ++ (wsL_keeper_r14 ++ wsL_keeper_r15)))))))))))))) ++ wsX30 ++ wsX00 ++ wsX20 ++ wsX10 ++ (vx_atS RX3 58 "java/lang/IllegalStateException" ["java/lang/RuntimeException", "java/lang/Exception"]).filter goodWord ++ (vx_atS RX3 161 "java/lang/IndexOutOfBoundsException" ["java/lang/RuntimeException", "java/lang/Exception"]).filter goodWord ++ (vx_atS RX3 51 "java/lang/IllegalArgumentException" ["java/lang/RuntimeException", "java/lang/Exception"]).filter goodWord)
def wsL_law0_r1 : List Cond := [Cond.methodLink RL 160 yL_keeper, Cond.static yL_keeper, Cond.initialized RL, Cond.code yL_keeper cL_keeper 16 (some .boolean), Cond.classLink RL 11 RX3, Cond.instantiable RX3 8, Cond.initialized RX3, Cond.arrayClass .int, Cond.constant RL 144 (1073741824), Cond.methodLink RL 143 yX3_init, Cond.instanceMethod yX3_init, Cond.code yX3_init cX3_init 2 none, Cond.methodLink RX3 1 objectInit, Cond.instanceMethod objectInit, Cond.code objectInit ⟨#[0xb1]⟩ 1 none, Cond.arrayClass .boolean, Cond.fieldLink RX3 9 "PaperKeeper" "mayReview" "[Z", Cond.fieldLink RX3 13 "PaperKeeper" "mayApprove" "[Z", Cond.fieldLink RX3 16 "PaperKeeper" "deputies" "[I", Cond.classLink RX3 20 RX2, Cond.fieldLink RX3 22 "PaperKeeper" "papers" "[LPaperKeeper$Paper;", Cond.classLink RX3 26 RX0, Cond.instantiable RX0 4, Cond.initialized RX0]
def wsL_law0_r2 : List Cond := [Cond.fieldLink RX3 29 "PaperKeeper" "copies" "LPaperKeeper$Copies;", Cond.fieldLink RX3 33 "PaperKeeper" "paperCount" "I", Cond.fieldLink RX3 37 "PaperKeeper" "interval" "I", Cond.fieldLink RX3 40 "PaperKeeper" "today" "I", Cond.methodLink RX3 28 yX0_init, Cond.instanceMethod yX0_init, Cond.code yX0_init cX0_init 1 none, Cond.methodLink RX0 3 objectInit, Cond.fieldLink RX0 9 "PaperKeeper$Copies" "papers" "[I", Cond.fieldLink RX0 15 "PaperKeeper$Copies" "versions" "[I", Cond.fieldLink RX0 18 "PaperKeeper$Copies" "walls" "[I", Cond.methodLink RL 145 yL_draw, Cond.static yL_draw, Cond.code yL_draw cL_draw 4 (some .int), Cond.constant RL 7 (935717331), Cond.constant RL 8 (1137817079), Cond.constant RL 9 (2147483647), Cond.methodLink RL 149 yL_step, Cond.static yL_step, Cond.code yL_step cL_step 16 (some .boolean), Cond.methodLink RL 110 yX3_open, Cond.instanceMethod yX3_open, Cond.selects RX3 yX3_open yX3_open, Cond.code yX3_open cX3_open 3 (some .int)]
def wsL_law0_r3 : List Cond := [Cond.classLink RX3 54 "java/lang/IllegalStateException", Cond.initialized "java/lang/IllegalStateException", Cond.instantiable RX2 9, Cond.initialized RX2, Cond.methodLink RX3 59 yX2_init, Cond.instanceMethod yX2_init, Cond.code yX2_init cX2_init 2 none, Cond.methodLink RX2 3 objectInit, Cond.fieldLink RX2 9 "PaperKeeper$Paper" "inOrder" "Z", Cond.fieldLink RX2 15 "PaperKeeper$Paper" "hangsOn" "[Z", Cond.classLink RX2 19 RX1, Cond.instantiable RX1 12, Cond.initialized RX1, Cond.fieldLink RX2 22 "PaperKeeper$Paper" "draft" "LPaperKeeper$Draft;", Cond.fieldLink RX2 26 "PaperKeeper$Paper" "texts" "[I", Cond.fieldLink RX2 30 "PaperKeeper$Paper" "firstDays" "[I", Cond.methodLink RX2 21 yX1_init, Cond.instanceMethod yX1_init, Cond.code yX1_init cX1_init 1 none, Cond.methodLink RX1 3 objectInit, Cond.fieldLink RX1 9 "PaperKeeper$Draft" "reviewers" "[I", Cond.fieldLink RX1 15 "PaperKeeper$Draft" "reviewed" "[Z", Cond.fieldLink RX1 19 "PaperKeeper$Draft" "answered" "[Z", Cond.fieldLink RX1 22 "PaperKeeper$Draft" "reads" "[Z"]
def wsL_law0_r4 : List Cond := [Cond.fieldLink RX1 25 "PaperKeeper$Draft" "confirmed" "[Z", Cond.methodLink RL 68 yX3_step, Cond.instanceMethod yX3_step, Cond.selects RX3 yX3_step yX3_step, Cond.code yX3_step cX3_step 3 (some .int), Cond.fieldLink RX3 79 "PaperKeeper$Paper" "hasDraft" "Z", Cond.fieldLink RX3 85 "PaperKeeper$Paper" "draft" "LPaperKeeper$Draft;", Cond.methodLink RX3 62 yX3_paperAt, Cond.instanceMethod yX3_paperAt, Cond.selects RX3 yX3_paperAt yX3_paperAt, Cond.code yX3_paperAt cX3_paperAt 3 (some (.object "PaperKeeper$Paper")), Cond.classLink RX3 157 "java/lang/IndexOutOfBoundsException", Cond.initialized "java/lang/IndexOutOfBoundsException", Cond.methodLink RX3 170 yX1_nextStep, Cond.instanceMethod yX1_nextStep, Cond.selects RX1 yX1_nextStep yX1_nextStep, Cond.code yX1_nextStep cX1_nextStep 1 (some .int), Cond.fieldLink RX1 38 "PaperKeeper$Draft" "reviewerCount" "I", Cond.fieldLink RX1 47 "PaperKeeper$Draft" "approved" "Z", Cond.methodLink RX1 51 yX1_nextReviewer, Cond.instanceMethod yX1_nextReviewer, Cond.selects RX1 yX1_nextReviewer yX1_nextReviewer, Cond.code yX1_nextReviewer cX1_nextReviewer 2 (some .int), Cond.methodLink RX1 55 yX1_openRemarks]
def wsL_law0_r5 : List Cond := [Cond.instanceMethod yX1_openRemarks, Cond.selects RX1 yX1_openRemarks yX1_openRemarks, Cond.code yX1_openRemarks cX1_openRemarks 3 (some .int), Cond.fieldLink RX1 44 "PaperKeeper$Draft" "remarkCount" "I", Cond.methodLink RX1 58 yX1_nextReader, Cond.instanceMethod yX1_nextReader, Cond.selects RX1 yX1_nextReader yX1_nextReader, Cond.code yX1_nextReader cX1_nextReader 2 (some .int), Cond.methodLink RL 74 yX3_inForce, Cond.instanceMethod yX3_inForce, Cond.selects RX3 yX3_inForce yX3_inForce, Cond.code yX3_inForce cX3_inForce 2 (some .int), Cond.methodLink RX3 211 yX2_newest, Cond.instanceMethod yX2_newest, Cond.selects RX2 yX2_newest yX2_newest, Cond.code yX2_newest cX2_newest 1 (some .int), Cond.fieldLink RX2 33 "PaperKeeper$Paper" "versionCount" "I", Cond.methodLink RL 114 yX3_hang, Cond.instanceMethod yX3_hang, Cond.selects RX3 yX3_hang yX3_hang, Cond.code yX3_hang cX3_hang 4 (some .int), Cond.classLink RX3 47 "java/lang/IllegalArgumentException", Cond.initialized "java/lang/IllegalArgumentException", Cond.fieldLink RX3 68 "PaperKeeper$Paper" "hangsOn" "[Z"]
def wsL_law0_r6 : List Cond := [Cond.methodLink RX3 71 yX3_countOf, Cond.static yX3_countOf, Cond.code yX3_countOf cX3_countOf 3 (some .int), Cond.methodLink RL 100 yL_size, Cond.static yL_size, Cond.code yL_size cL_size 3 (some .int), Cond.methodLink RL 92 yL_has, Cond.static yL_has, Cond.code yL_has cL_has 2 (some .boolean), Cond.methodLink RL 117 yX3_setRoles, Cond.instanceMethod yX3_setRoles, Cond.selects RX3 yX3_setRoles yX3_setRoles, Cond.code yX3_setRoles cX3_setRoles 4 none, Cond.methodLink RX3 43 yX3_checkPerson, Cond.static yX3_checkPerson, Cond.code yX3_checkPerson cX3_checkPerson 1 none, Cond.methodLink RX3 75 yX3_checkRange, Cond.static yX3_checkRange, Cond.code yX3_checkRange cX3_checkRange 3 none, Cond.methodLink RL 121 yX3_setDeputy, Cond.instanceMethod yX3_setDeputy, Cond.selects RX3 yX3_setDeputy yX3_setDeputy, Cond.code yX3_setDeputy cX3_setDeputy 4 (some .int), Cond.methodLink RL 124 yX3_setInterval]
def wsL_law0_r7 : List Cond := [Cond.instanceMethod yX3_setInterval, Cond.selects RX3 yX3_setInterval yX3_setInterval, Cond.code yX3_setInterval cX3_setInterval 3 (some .int), Cond.methodLink RL 127 yL_drafts, Cond.static yL_drafts, Cond.code yL_drafts cL_drafts 14 (some .boolean), Cond.methodLink RL 71 yX3_waitsFor, Cond.instanceMethod yX3_waitsFor, Cond.selects RX3 yX3_waitsFor yX3_waitsFor, Cond.code yX3_waitsFor cX3_waitsFor 3 (some .int), Cond.methodLink RX3 242 yX1_nextPerson, Cond.instanceMethod yX1_nextPerson, Cond.selects RX1 yX1_nextPerson yX1_nextPerson, Cond.code yX1_nextPerson cX1_nextPerson 1 (some .int), Cond.fieldLink RX1 28 "PaperKeeper$Draft" "author" "I", Cond.methodLink RX1 61 yX1_nextStep, Cond.methodLink RL 96 yL_asks, Cond.static yL_asks, Cond.codeWith yL_asks cL_asks 6 (some .int) [(0, 183, 184, 62), (0, 183, 189, 64), (0, 183, 194, 66)], Cond.classLink RL 62 "java/lang/IndexOutOfBoundsException", Cond.classLink RL 64 "java/lang/IllegalStateException", Cond.classLink RL 66 "java/lang/IllegalArgumentException", Cond.methodLink RL 19 yL_begins, Cond.static yL_begins]
def wsL_law0_r8 : List Cond := [Cond.code yL_begins cL_begins 4 (some .int), Cond.methodLink RL 10 yX3_draft, Cond.instanceMethod yX3_draft, Cond.selects RX3 yX3_draft yX3_draft, Cond.code yX3_draft cX3_draft 5 none, Cond.methodLink RX3 89 yX1_begin, Cond.instanceMethod yX1_begin, Cond.selects RX1 yX1_begin yX1_begin, Cond.code yX1_begin cX1_begin 4 none, Cond.fieldLink RX1 32 "PaperKeeper$Draft" "text" "I", Cond.fieldLink RX1 35 "PaperKeeper$Draft" "round" "I", Cond.methodLink RX1 41 yX1_beginRound, Cond.instanceMethod yX1_beginRound, Cond.selects RX1 yX1_beginRound yX1_beginRound, Cond.code yX1_beginRound cX1_beginRound 2 none, Cond.methodLink RL 25 yX3_change, Cond.instanceMethod yX3_change, Cond.selects RX3 yX3_change yX3_change, Cond.code yX3_change cX3_change 5 (some .int), Cond.fieldLink RX3 99 "PaperKeeper$Draft" "text" "I", Cond.fieldLink RX3 107 "PaperKeeper$Draft" "round" "I", Cond.methodLink RX3 95 yX3_draftOf, Cond.static yX3_draftOf, Cond.code yX3_draftOf cX3_draftOf 1 (some (.object "PaperKeeper$Draft"))]
def wsL_law0_r9 : List Cond := [Cond.methodLink RX3 104 yX1_beginRound, Cond.methodLink RL 29 yX3_drop, Cond.instanceMethod yX3_drop, Cond.selects RX3 yX3_drop yX3_drop, Cond.code yX3_drop cX3_drop 4 (some .int), Cond.methodLink RL 33 yX3_reviewer, Cond.instanceMethod yX3_reviewer, Cond.selects RX3 yX3_reviewer yX3_reviewer, Cond.code yX3_reviewer cX3_reviewer 5 (some .int), Cond.fieldLink RX3 110 "PaperKeeper$Draft" "approved" "Z", Cond.fieldLink RX3 115 "PaperKeeper$Draft" "author" "I", Cond.fieldLink RX3 124 "PaperKeeper$Draft" "reviewerCount" "I", Cond.fieldLink RX3 129 "PaperKeeper$Draft" "reviewers" "[I", Cond.methodLink RX3 120 yX1_hasReviewer, Cond.instanceMethod yX1_hasReviewer, Cond.selects RX1 yX1_hasReviewer yX1_hasReviewer, Cond.code yX1_hasReviewer cX1_hasReviewer 3 (some .boolean), Cond.methodLink RL 36 yX3_reader, Cond.instanceMethod yX3_reader, Cond.selects RX3 yX3_reader yX3_reader, Cond.code yX3_reader cX3_reader 5 (some .int), Cond.fieldLink RX3 132 "PaperKeeper$Draft" "reads" "[Z", Cond.methodLink RL 39 yX3_review, Cond.instanceMethod yX3_review]
def wsL_law0_r10 : List Cond := [Cond.selects RX3 yX3_review yX3_review, Cond.code yX3_review cX3_review 6 (some .int), Cond.fieldLink RX3 137 "PaperKeeper$Draft" "reviewed" "[Z", Cond.fieldLink RX3 142 "PaperKeeper$Paper" "inOrder" "Z", Cond.methodLink RX3 145 yX1_nextReviewer, Cond.methodLink RX3 151 yX1_addRemark, Cond.instanceMethod yX1_addRemark, Cond.selects RX1 yX1_addRemark yX1_addRemark, Cond.code yX1_addRemark cX1_addRemark 2 (some .int), Cond.methodLink RL 43 yX3_answer, Cond.instanceMethod yX3_answer, Cond.selects RX3 yX3_answer yX3_answer, Cond.code yX3_answer cX3_answer 5 (some .int), Cond.fieldLink RX3 154 "PaperKeeper$Draft" "remarkCount" "I", Cond.fieldLink RX3 162 "PaperKeeper$Draft" "answered" "[Z", Cond.methodLink RX3 167 yX1_openRemarks, Cond.methodLink RL 46 yL_approves, Cond.static yL_approves, Cond.code yL_approves cL_approves 4 (some .int), Cond.methodLink RL 16 yX3_approve, Cond.instanceMethod yX3_approve, Cond.selects RX3 yX3_approve yX3_approve, Cond.code yX3_approve cX3_approve 6 none, Cond.fieldLink RX3 180 "PaperKeeper$Draft" "firstDay" "I"]
def wsL_law0_r11 : List Cond := [Cond.methodLink RX3 175 yX3_canApprove, Cond.instanceMethod yX3_canApprove, Cond.selects RX3 yX3_canApprove yX3_canApprove, Cond.code yX3_canApprove cX3_canApprove 4 (some .boolean), Cond.methodLink RL 49 yX3_confirm, Cond.instanceMethod yX3_confirm, Cond.selects RX3 yX3_confirm yX3_confirm, Cond.code yX3_confirm cX3_confirm 5 (some .int), Cond.fieldLink RX3 185 "PaperKeeper$Draft" "confirmed" "[Z", Cond.methodLink RL 52 yX3_look, Cond.instanceMethod yX3_look, Cond.selects RX3 yX3_look yX3_look, Cond.code yX3_look cX3_look 4 (some .boolean), Cond.methodLink RX3 195 yX3_checkInForce, Cond.static yX3_checkInForce, Cond.code yX3_checkInForce cX3_checkInForce 1 none, Cond.methodLink RX3 199 yX2_needsLook, Cond.instanceMethod yX2_needsLook, Cond.selects RX2 yX2_needsLook yX2_needsLook, Cond.code yX2_needsLook cX2_needsLook 3 (some .boolean), Cond.fieldLink RX2 51 "PaperKeeper$Paper" "asked" "Z", Cond.fieldLink RX2 54 "PaperKeeper$Paper" "intervalStart" "I", Cond.methodLink RX3 203 yX2_restartInterval, Cond.instanceMethod yX2_restartInterval]
def wsL_law0_r12 : List Cond := [Cond.selects RX2 yX2_restartInterval yX2_restartInterval, Cond.code yX2_restartInterval cX2_restartInterval 2 none, Cond.methodLink RL 56 yX3_copy, Cond.instanceMethod yX3_copy, Cond.selects RX3 yX3_copy yX3_copy, Cond.code yX3_copy cX3_copy 4 (some .int), Cond.fieldLink RX3 206 "PaperKeeper$Copies" "count" "I", Cond.methodLink RX3 214 yX0_add, Cond.instanceMethod yX0_add, Cond.selects RX0 yX0_add yX0_add, Cond.code yX0_add cX0_add 5 (some .int), Cond.fieldLink RX0 21 "PaperKeeper$Copies" "count" "I", Cond.methodLink RL 59 yX3_takeDown, Cond.instanceMethod yX3_takeDown, Cond.selects RX3 yX3_takeDown yX3_takeDown, Cond.code yX3_takeDown cX3_takeDown 3 (some .int), Cond.fieldLink RX3 218 "PaperKeeper$Copies" "walls" "[I", Cond.methodLink RL 131 yL_goesOn, Cond.static yL_goesOn, Cond.code yL_goesOn cL_goesOn 15 (some .boolean), Cond.methodLink RL 103 yL_mayApprove, Cond.static yL_mayApprove, Cond.code yL_mayApprove cL_mayApprove 5 (some .boolean), Cond.methodLink RL 135 yL_copies]
def wsL_law0_r13 : List Cond := [Cond.static yL_copies, Cond.code yL_copies cL_copies 10 (some .boolean), Cond.methodLink RL 80 yX3_isDue, Cond.instanceMethod yX3_isDue, Cond.selects RX3 yX3_isDue yX3_isDue, Cond.code yX3_isDue cX3_isDue 2 (some .boolean), Cond.methodLink RL 139 yL_passes, Cond.static yL_passes, Cond.code yL_passes cL_passes 10 (some .boolean), Cond.methodLink RL 107 yX3_pass, Cond.instanceMethod yX3_pass, Cond.selects RX3 yX3_pass yX3_pass, Cond.code yX3_pass cX3_pass 4 (some .int), Cond.methodLink RX3 192 yX3_beginDay, Cond.instanceMethod yX3_beginDay, Cond.selects RX3 yX3_beginDay yX3_beginDay, Cond.code yX3_beginDay cX3_beginDay 4 (some .int), Cond.methodLink RX3 253 yX2_comeIntoForce, Cond.instanceMethod yX2_comeIntoForce, Cond.selects RX2 yX2_comeIntoForce yX2_comeIntoForce, Cond.code yX2_comeIntoForce cX2_comeIntoForce 2 (some .boolean), Cond.fieldLink RX2 37 "PaperKeeper$Paper" "hasDraft" "Z", Cond.fieldLink RX2 44 "PaperKeeper$Draft" "text" "I", Cond.methodLink RX2 40 yX1_isReady]
def wsL_law0_r14 : List Cond := [Cond.instanceMethod yX1_isReady, Cond.selects RX1 yX1_isReady yX1_isReady, Cond.code yX1_isReady cX1_isReady 2 (some .boolean), Cond.fieldLink RX1 64 "PaperKeeper$Draft" "firstDay" "I", Cond.methodLink RX2 47 yX2_restartInterval, Cond.methodLink RX3 256 yX3_askForLooks, Cond.instanceMethod yX3_askForLooks, Cond.selects RX3 yX3_askForLooks yX3_askForLooks, Cond.code yX3_askForLooks cX3_askForLooks 4 none, Cond.fieldLink RX3 259 "PaperKeeper$Paper" "asked" "Z", Cond.methodLink RL 86 yX3_text, Cond.instanceMethod yX3_text, Cond.selects RX3 yX3_text yX3_text, Cond.code yX3_text cX3_text 4 (some .int), Cond.fieldLink RX3 227 "PaperKeeper$Paper" "texts" "[I", Cond.methodLink RL 89 yX3_since, Cond.instanceMethod yX3_since, Cond.selects RX3 yX3_since yX3_since, Cond.code yX3_since cX3_since 4 (some .int), Cond.fieldLink RX3 234 "PaperKeeper$Paper" "versionCount" "I", Cond.fieldLink RX3 239 "PaperKeeper$Paper" "firstDays" "[I", Cond.methodLink RL 152 yX3_day, Cond.instanceMethod yX3_day, Cond.selects RX3 yX3_day yX3_day]
def wsL_law0_r15 : List Cond := [Cond.code yX3_day cX3_day 1 (some .int), Cond.methodLink RL 156 yL_isPaper, Cond.static yL_isPaper, Cond.code yL_isPaper cL_isPaper 14 (some .boolean), Cond.methodLink RL 77 yX3_inForceOn, Cond.instanceMethod yX3_inForceOn, Cond.selects RX3 yX3_inForceOn yX3_inForceOn, Cond.code yX3_inForceOn cX3_inForceOn 4 (some .int), Cond.methodLink RX3 230 yX2_versionOn, Cond.instanceMethod yX2_versionOn, Cond.selects RX2 yX2_versionOn yX2_versionOn, Cond.code yX2_versionOn cX2_versionOn 3 (some .int), Cond.methodLink RL 83 yX3_outOfDate, Cond.instanceMethod yX3_outOfDate, Cond.selects RX3 yX3_outOfDate yX3_outOfDate, Cond.code yX3_outOfDate cX3_outOfDate 2 (some .int), Cond.methodLink RX3 223 yX0_countOld, Cond.instanceMethod yX0_countOld, Cond.selects RX0 yX0_countOld yX0_countOld, Cond.code yX0_countOld cX0_countOld 5 (some .int)]
def wsL_law0 : List Cond := (wsL_law0_r1 ++ (wsL_law0_r2 ++ (wsL_law0_r3 ++ (wsL_law0_r4 ++ (wsL_law0_r5 ++ (wsL_law0_r6 ++ (wsL_law0_r7 ++ (wsL_law0_r8 ++ (wsL_law0_r9 ++ (wsL_law0_r10 ++ (wsL_law0_r11 ++ (wsL_law0_r12 ++ (wsL_law0_r13 ++ (wsL_law0_r14 ++ wsL_law0_r15)))))))))))))) ++ wsX30 ++ wsX00 ++ wsX20 ++ wsX10 ++ ([] : List Cond)
def wsL_law : List Cond := wsL_law0 ++ (vx_atS RX3 58 "java/lang/IllegalStateException" ["java/lang/RuntimeException", "java/lang/Exception"]).filter goodWord ++ (vx_atS RX3 161 "java/lang/IndexOutOfBoundsException" ["java/lang/RuntimeException", "java/lang/Exception"]).filter goodWord ++ (vx_atS RX3 51 "java/lang/IllegalArgumentException" ["java/lang/RuntimeException", "java/lang/Exception"]).filter goodWord
abbrev vwCl : List vw_C := [(RX0, TX0, 4), (RX1, TX1, 12), (RX2, TX2, 9), (RX3, TX3, 8)]
end
section
theorem dX0_init_0 : decode cX0_init 0 = .ok (.aload_n 0, 1) := by decide +kernel
theorem dX0_init_1 : decode cX0_init 1 = .ok (.invokespecial 3, 3) := by decide +kernel
theorem dX0_init_4 : decode cX0_init 4 = .ok (.aload_n 0, 1) := by decide +kernel
theorem dX0_init_5 : decode cX0_init 5 = .ok (.bipush 30, 2) := by decide +kernel
theorem dX0_init_7 : decode cX0_init 7 = .ok (.newarray .int, 2) := by decide +kernel
theorem dX0_init_9 : decode cX0_init 9 = .ok (.putfield 9, 3) := by decide +kernel
theorem dX0_init_12 : decode cX0_init 12 = .ok (.aload_n 0, 1) := by decide +kernel
theorem dX0_init_13 : decode cX0_init 13 = .ok (.bipush 30, 2) := by decide +kernel
theorem dX0_init_15 : decode cX0_init 15 = .ok (.newarray .int, 2) := by decide +kernel
theorem dX0_init_17 : decode cX0_init 17 = .ok (.putfield 15, 3) := by decide +kernel
theorem dX0_init_20 : decode cX0_init 20 = .ok (.aload_n 0, 1) := by decide +kernel
theorem dX0_init_21 : decode cX0_init 21 = .ok (.bipush 30, 2) := by decide +kernel
theorem dX0_init_23 : decode cX0_init 23 = .ok (.newarray .int, 2) := by decide +kernel
theorem dX0_init_25 : decode cX0_init 25 = .ok (.putfield 18, 3) := by decide +kernel
theorem dX0_init_28 : decode cX0_init 28 = .ok (.return_, 1) := by decide +kernel
theorem dX0_add_0 : decode cX0_add 0 = .ok (.aload_n 0, 1) := by decide +kernel
theorem dX0_add_1 : decode cX0_add 1 = .ok (.getfield 21, 3) := by decide +kernel
theorem dX0_add_4 : decode cX0_add 4 = .ok (.istore 4, 2) := by decide +kernel
theorem dX0_add_6 : decode cX0_add 6 = .ok (.iload 4, 2) := by decide +kernel
theorem dX0_add_8 : decode cX0_add 8 = .ok (.bipush 30, 2) := by decide +kernel
theorem dX0_add_10 : decode cX0_add 10 = .ok (.if_icmp .ge 37, 3) := by decide +kernel
theorem dX0_add_13 : decode cX0_add 13 = .ok (.aload_n 0, 1) := by decide +kernel
theorem dX0_add_14 : decode cX0_add 14 = .ok (.getfield 9, 3) := by decide +kernel
theorem dX0_add_17 : decode cX0_add 17 = .ok (.iload 4, 2) := by decide +kernel
theorem dX0_add_19 : decode cX0_add 19 = .ok (.iload_n 1, 1) := by decide +kernel
theorem dX0_add_20 : decode cX0_add 20 = .ok (.iastore, 1) := by decide +kernel
theorem dX0_add_21 : decode cX0_add 21 = .ok (.aload_n 0, 1) := by decide +kernel
theorem dX0_add_22 : decode cX0_add 22 = .ok (.getfield 15, 3) := by decide +kernel
theorem dX0_add_25 : decode cX0_add 25 = .ok (.iload 4, 2) := by decide +kernel
theorem dX0_add_27 : decode cX0_add 27 = .ok (.iload_n 2, 1) := by decide +kernel
theorem dX0_add_28 : decode cX0_add 28 = .ok (.iastore, 1) := by decide +kernel
theorem dX0_add_29 : decode cX0_add 29 = .ok (.aload_n 0, 1) := by decide +kernel
theorem dX0_add_30 : decode cX0_add 30 = .ok (.getfield 18, 3) := by decide +kernel
theorem dX0_add_33 : decode cX0_add 33 = .ok (.iload 4, 2) := by decide +kernel
theorem dX0_add_35 : decode cX0_add 35 = .ok (.iload_n 3, 1) := by decide +kernel
theorem dX0_add_36 : decode cX0_add 36 = .ok (.iastore, 1) := by decide +kernel
theorem dX0_add_37 : decode cX0_add 37 = .ok (.aload_n 0, 1) := by decide +kernel
theorem dX0_add_38 : decode cX0_add 38 = .ok (.dup, 1) := by decide +kernel
theorem dX0_add_39 : decode cX0_add 39 = .ok (.getfield 21, 3) := by decide +kernel
theorem dX0_add_42 : decode cX0_add 42 = .ok (.iconst 1, 1) := by decide +kernel
theorem dX0_add_43 : decode cX0_add 43 = .ok (.iadd, 1) := by decide +kernel
theorem dX0_add_44 : decode cX0_add 44 = .ok (.putfield 21, 3) := by decide +kernel
theorem dX0_add_47 : decode cX0_add 47 = .ok (.iload 4, 2) := by decide +kernel
theorem dX0_add_49 : decode cX0_add 49 = .ok (.ireturn, 1) := by decide +kernel
theorem dX0_countOld_0 : decode cX0_countOld 0 = .ok (.iconst 0, 1) := by decide +kernel
theorem dX0_countOld_1 : decode cX0_countOld 1 = .ok (.istore_n 3, 1) := by decide +kernel
theorem dX0_countOld_2 : decode cX0_countOld 2 = .ok (.iconst 0, 1) := by decide +kernel
theorem dX0_countOld_3 : decode cX0_countOld 3 = .ok (.istore 4, 2) := by decide +kernel
theorem dX0_countOld_5 : decode cX0_countOld 5 = .ok (.iload 4, 2) := by decide +kernel
theorem dX0_countOld_7 : decode cX0_countOld 7 = .ok (.aload_n 0, 1) := by decide +kernel
theorem dX0_countOld_8 : decode cX0_countOld 8 = .ok (.getfield 21, 3) := by decide +kernel
theorem dX0_countOld_11 : decode cX0_countOld 11 = .ok (.if_icmp .ge 45, 3) := by decide +kernel
theorem dX0_countOld_14 : decode cX0_countOld 14 = .ok (.aload_n 0, 1) := by decide +kernel
theorem dX0_countOld_15 : decode cX0_countOld 15 = .ok (.getfield 18, 3) := by decide +kernel
theorem dX0_countOld_18 : decode cX0_countOld 18 = .ok (.iload 4, 2) := by decide +kernel
theorem dX0_countOld_20 : decode cX0_countOld 20 = .ok (.iaload, 1) := by decide +kernel
theorem dX0_countOld_21 : decode cX0_countOld 21 = .ok (.iconst (-1), 1) := by decide +kernel
theorem dX0_countOld_22 : decode cX0_countOld 22 = .ok (.if_icmp .eq 28, 3) := by decide +kernel
theorem dX0_countOld_25 : decode cX0_countOld 25 = .ok (.aload_n 0, 1) := by decide +kernel
theorem dX0_countOld_26 : decode cX0_countOld 26 = .ok (.getfield 9, 3) := by decide +kernel
theorem dX0_countOld_29 : decode cX0_countOld 29 = .ok (.iload 4, 2) := by decide +kernel
theorem dX0_countOld_31 : decode cX0_countOld 31 = .ok (.iaload, 1) := by decide +kernel
theorem dX0_countOld_32 : decode cX0_countOld 32 = .ok (.iload_n 1, 1) := by decide +kernel
theorem dX0_countOld_33 : decode cX0_countOld 33 = .ok (.if_icmp .ne 17, 3) := by decide +kernel
theorem dX0_countOld_36 : decode cX0_countOld 36 = .ok (.aload_n 0, 1) := by decide +kernel
theorem dX0_countOld_37 : decode cX0_countOld 37 = .ok (.getfield 15, 3) := by decide +kernel
theorem dX0_countOld_40 : decode cX0_countOld 40 = .ok (.iload 4, 2) := by decide +kernel
theorem dX0_countOld_42 : decode cX0_countOld 42 = .ok (.iaload, 1) := by decide +kernel
theorem dX0_countOld_43 : decode cX0_countOld 43 = .ok (.iload_n 2, 1) := by decide +kernel
theorem dX0_countOld_44 : decode cX0_countOld 44 = .ok (.if_icmp .eq 6, 3) := by decide +kernel
theorem dX0_countOld_47 : decode cX0_countOld 47 = .ok (.iinc 3 1, 3) := by decide +kernel
theorem dX0_countOld_50 : decode cX0_countOld 50 = .ok (.iinc 4 1, 3) := by decide +kernel
theorem dX0_countOld_53 : decode cX0_countOld 53 = .ok (.goto (-48), 3) := by decide +kernel
theorem dX0_countOld_56 : decode cX0_countOld 56 = .ok (.iload_n 3, 1) := by decide +kernel
theorem dX0_countOld_57 : decode cX0_countOld 57 = .ok (.ireturn, 1) := by decide +kernel
theorem dX1_init_0 : decode cX1_init 0 = .ok (.aload_n 0, 1) := by decide +kernel
theorem dX1_init_1 : decode cX1_init 1 = .ok (.invokespecial 3, 3) := by decide +kernel
theorem dX1_init_4 : decode cX1_init 4 = .ok (.aload_n 0, 1) := by decide +kernel
theorem dX1_init_5 : decode cX1_init 5 = .ok (.iconst 4, 1) := by decide +kernel
theorem dX1_init_6 : decode cX1_init 6 = .ok (.newarray .int, 2) := by decide +kernel
theorem dX1_init_8 : decode cX1_init 8 = .ok (.putfield 9, 3) := by decide +kernel
theorem dX1_init_11 : decode cX1_init 11 = .ok (.aload_n 0, 1) := by decide +kernel
theorem dX1_init_12 : decode cX1_init 12 = .ok (.bipush 6, 2) := by decide +kernel
theorem dX1_init_14 : decode cX1_init 14 = .ok (.newarray .boolean, 2) := by decide +kernel
theorem dX1_init_16 : decode cX1_init 16 = .ok (.putfield 15, 3) := by decide +kernel
theorem dX1_init_19 : decode cX1_init 19 = .ok (.aload_n 0, 1) := by decide +kernel
theorem dX1_init_20 : decode cX1_init 20 = .ok (.iconst 4, 1) := by decide +kernel
theorem dX1_init_21 : decode cX1_init 21 = .ok (.newarray .boolean, 2) := by decide +kernel
theorem dX1_init_23 : decode cX1_init 23 = .ok (.putfield 19, 3) := by decide +kernel
theorem dX1_init_26 : decode cX1_init 26 = .ok (.aload_n 0, 1) := by decide +kernel
theorem dX1_init_27 : decode cX1_init 27 = .ok (.bipush 6, 2) := by decide +kernel
theorem dX1_init_29 : decode cX1_init 29 = .ok (.newarray .boolean, 2) := by decide +kernel
theorem dX1_init_31 : decode cX1_init 31 = .ok (.putfield 22, 3) := by decide +kernel
theorem dX1_init_34 : decode cX1_init 34 = .ok (.aload_n 0, 1) := by decide +kernel
theorem dX1_init_35 : decode cX1_init 35 = .ok (.bipush 6, 2) := by decide +kernel
theorem dX1_init_37 : decode cX1_init 37 = .ok (.newarray .boolean, 2) := by decide +kernel
theorem dX1_init_39 : decode cX1_init 39 = .ok (.putfield 25, 3) := by decide +kernel
theorem dX1_init_42 : decode cX1_init 42 = .ok (.return_, 1) := by decide +kernel
set_option maxRecDepth 20000 in
theorem ggX1_begin_X1_beginRound : GoodIn wsX1_begin wsX1_beginRound := goodIn_r _ [10, 3, 11, 12, 13, 14, 15, 16, 17, 18, 19, 20, 21, 22, 23, 24, 25, 26] (by decide +kernel) (by decide +kernel)
set_option maxRecDepth 20000 in
theorem gX1_begin_X1_beginRound : GoodIn wsX1_begin (wsV RX1 41 RX1 yX1_beginRound wsX1_beginRound) := goodIn_app (goodIn_of _ (by decide +kernel)) ggX1_begin_X1_beginRound
theorem dX1_begin_0 : decode cX1_begin 0 = .ok (.aload_n 0, 1) := by decide +kernel
theorem dX1_begin_1 : decode cX1_begin 1 = .ok (.iload_n 1, 1) := by decide +kernel
theorem dX1_begin_2 : decode cX1_begin 2 = .ok (.putfield 28, 3) := by decide +kernel
theorem dX1_begin_5 : decode cX1_begin 5 = .ok (.aload_n 0, 1) := by decide +kernel
theorem dX1_begin_6 : decode cX1_begin 6 = .ok (.iload_n 2, 1) := by decide +kernel
theorem dX1_begin_7 : decode cX1_begin 7 = .ok (.putfield 32, 3) := by decide +kernel
theorem dX1_begin_10 : decode cX1_begin 10 = .ok (.aload_n 0, 1) := by decide +kernel
theorem dX1_begin_11 : decode cX1_begin 11 = .ok (.iconst 0, 1) := by decide +kernel
theorem dX1_begin_12 : decode cX1_begin 12 = .ok (.putfield 35, 3) := by decide +kernel
theorem dX1_begin_15 : decode cX1_begin 15 = .ok (.aload_n 0, 1) := by decide +kernel
theorem dX1_begin_16 : decode cX1_begin 16 = .ok (.iconst 0, 1) := by decide +kernel
theorem dX1_begin_17 : decode cX1_begin 17 = .ok (.putfield 38, 3) := by decide +kernel
theorem dX1_begin_20 : decode cX1_begin 20 = .ok (.iconst 0, 1) := by decide +kernel
theorem dX1_begin_21 : decode cX1_begin 21 = .ok (.istore_n 3, 1) := by decide +kernel
theorem dX1_begin_22 : decode cX1_begin 22 = .ok (.iload_n 3, 1) := by decide +kernel
theorem dX1_begin_23 : decode cX1_begin 23 = .ok (.bipush 6, 2) := by decide +kernel
theorem dX1_begin_25 : decode cX1_begin 25 = .ok (.if_icmp .ge 16, 3) := by decide +kernel
theorem dX1_begin_28 : decode cX1_begin 28 = .ok (.aload_n 0, 1) := by decide +kernel
theorem dX1_begin_29 : decode cX1_begin 29 = .ok (.getfield 22, 3) := by decide +kernel
theorem dX1_begin_32 : decode cX1_begin 32 = .ok (.iload_n 3, 1) := by decide +kernel
theorem dX1_begin_33 : decode cX1_begin 33 = .ok (.iconst 0, 1) := by decide +kernel
theorem dX1_begin_34 : decode cX1_begin 34 = .ok (.bastore, 1) := by decide +kernel
theorem dX1_begin_35 : decode cX1_begin 35 = .ok (.iinc 3 1, 3) := by decide +kernel
theorem dX1_begin_38 : decode cX1_begin 38 = .ok (.goto (-16), 3) := by decide +kernel
theorem dX1_begin_41 : decode cX1_begin 41 = .ok (.aload_n 0, 1) := by decide +kernel
theorem dX1_begin_42 : decode cX1_begin 42 = .ok (.invokevirtual 41, 3) := by decide +kernel
theorem dX1_begin_45 : decode cX1_begin 45 = .ok (.return_, 1) := by decide +kernel
theorem dX1_beginRound_0 : decode cX1_beginRound 0 = .ok (.aload_n 0, 1) := by decide +kernel
theorem dX1_beginRound_1 : decode cX1_beginRound 1 = .ok (.dup, 1) := by decide +kernel
theorem dX1_beginRound_2 : decode cX1_beginRound 2 = .ok (.getfield 35, 3) := by decide +kernel
theorem dX1_beginRound_5 : decode cX1_beginRound 5 = .ok (.iconst 1, 1) := by decide +kernel
theorem dX1_beginRound_6 : decode cX1_beginRound 6 = .ok (.iadd, 1) := by decide +kernel
theorem dX1_beginRound_7 : decode cX1_beginRound 7 = .ok (.putfield 35, 3) := by decide +kernel
theorem dX1_beginRound_10 : decode cX1_beginRound 10 = .ok (.aload_n 0, 1) := by decide +kernel
theorem dX1_beginRound_11 : decode cX1_beginRound 11 = .ok (.iconst 0, 1) := by decide +kernel
theorem dX1_beginRound_12 : decode cX1_beginRound 12 = .ok (.putfield 44, 3) := by decide +kernel
theorem dX1_beginRound_15 : decode cX1_beginRound 15 = .ok (.aload_n 0, 1) := by decide +kernel
theorem dX1_beginRound_16 : decode cX1_beginRound 16 = .ok (.iconst 0, 1) := by decide +kernel
theorem dX1_beginRound_17 : decode cX1_beginRound 17 = .ok (.putfield 47, 3) := by decide +kernel
theorem dX1_beginRound_20 : decode cX1_beginRound 20 = .ok (.iconst 0, 1) := by decide +kernel
theorem dX1_beginRound_21 : decode cX1_beginRound 21 = .ok (.istore_n 1, 1) := by decide +kernel
theorem dX1_beginRound_22 : decode cX1_beginRound 22 = .ok (.iload_n 1, 1) := by decide +kernel
theorem dX1_beginRound_23 : decode cX1_beginRound 23 = .ok (.bipush 6, 2) := by decide +kernel
theorem dX1_beginRound_25 : decode cX1_beginRound 25 = .ok (.if_icmp .ge 23, 3) := by decide +kernel
theorem dX1_beginRound_28 : decode cX1_beginRound 28 = .ok (.aload_n 0, 1) := by decide +kernel
theorem dX1_beginRound_29 : decode cX1_beginRound 29 = .ok (.getfield 15, 3) := by decide +kernel
theorem dX1_beginRound_32 : decode cX1_beginRound 32 = .ok (.iload_n 1, 1) := by decide +kernel
theorem dX1_beginRound_33 : decode cX1_beginRound 33 = .ok (.iconst 0, 1) := by decide +kernel
theorem dX1_beginRound_34 : decode cX1_beginRound 34 = .ok (.bastore, 1) := by decide +kernel
theorem dX1_beginRound_35 : decode cX1_beginRound 35 = .ok (.aload_n 0, 1) := by decide +kernel
theorem dX1_beginRound_36 : decode cX1_beginRound 36 = .ok (.getfield 25, 3) := by decide +kernel
theorem dX1_beginRound_39 : decode cX1_beginRound 39 = .ok (.iload_n 1, 1) := by decide +kernel
theorem dX1_beginRound_40 : decode cX1_beginRound 40 = .ok (.iconst 0, 1) := by decide +kernel
theorem dX1_beginRound_41 : decode cX1_beginRound 41 = .ok (.bastore, 1) := by decide +kernel
theorem dX1_beginRound_42 : decode cX1_beginRound 42 = .ok (.iinc 1 1, 3) := by decide +kernel
theorem dX1_beginRound_45 : decode cX1_beginRound 45 = .ok (.goto (-23), 3) := by decide +kernel
theorem dX1_beginRound_48 : decode cX1_beginRound 48 = .ok (.return_, 1) := by decide +kernel
theorem dX1_hasReviewer_0 : decode cX1_hasReviewer 0 = .ok (.iconst 0, 1) := by decide +kernel
theorem dX1_hasReviewer_1 : decode cX1_hasReviewer 1 = .ok (.istore_n 2, 1) := by decide +kernel
theorem dX1_hasReviewer_2 : decode cX1_hasReviewer 2 = .ok (.iload_n 2, 1) := by decide +kernel
theorem dX1_hasReviewer_3 : decode cX1_hasReviewer 3 = .ok (.aload_n 0, 1) := by decide +kernel
theorem dX1_hasReviewer_4 : decode cX1_hasReviewer 4 = .ok (.getfield 38, 3) := by decide +kernel
theorem dX1_hasReviewer_7 : decode cX1_hasReviewer 7 = .ok (.if_icmp .ge 21, 3) := by decide +kernel
theorem dX1_hasReviewer_10 : decode cX1_hasReviewer 10 = .ok (.aload_n 0, 1) := by decide +kernel
theorem dX1_hasReviewer_11 : decode cX1_hasReviewer 11 = .ok (.getfield 9, 3) := by decide +kernel
theorem dX1_hasReviewer_14 : decode cX1_hasReviewer 14 = .ok (.iload_n 2, 1) := by decide +kernel
theorem dX1_hasReviewer_15 : decode cX1_hasReviewer 15 = .ok (.iaload, 1) := by decide +kernel
theorem dX1_hasReviewer_16 : decode cX1_hasReviewer 16 = .ok (.iload_n 1, 1) := by decide +kernel
theorem dX1_hasReviewer_17 : decode cX1_hasReviewer 17 = .ok (.if_icmp .ne 5, 3) := by decide +kernel
theorem dX1_hasReviewer_20 : decode cX1_hasReviewer 20 = .ok (.iconst 1, 1) := by decide +kernel
theorem dX1_hasReviewer_21 : decode cX1_hasReviewer 21 = .ok (.ireturn, 1) := by decide +kernel
theorem dX1_hasReviewer_22 : decode cX1_hasReviewer 22 = .ok (.iinc 2 1, 3) := by decide +kernel
theorem dX1_hasReviewer_25 : decode cX1_hasReviewer 25 = .ok (.goto (-23), 3) := by decide +kernel
theorem dX1_hasReviewer_28 : decode cX1_hasReviewer 28 = .ok (.iconst 0, 1) := by decide +kernel
theorem dX1_hasReviewer_29 : decode cX1_hasReviewer 29 = .ok (.ireturn, 1) := by decide +kernel
theorem dX1_nextReviewer_0 : decode cX1_nextReviewer 0 = .ok (.iconst 0, 1) := by decide +kernel
theorem dX1_nextReviewer_1 : decode cX1_nextReviewer 1 = .ok (.istore_n 1, 1) := by decide +kernel
theorem dX1_nextReviewer_2 : decode cX1_nextReviewer 2 = .ok (.iload_n 1, 1) := by decide +kernel
theorem dX1_nextReviewer_3 : decode cX1_nextReviewer 3 = .ok (.aload_n 0, 1) := by decide +kernel
theorem dX1_nextReviewer_4 : decode cX1_nextReviewer 4 = .ok (.getfield 38, 3) := by decide +kernel
theorem dX1_nextReviewer_7 : decode cX1_nextReviewer 7 = .ok (.if_icmp .ge 30, 3) := by decide +kernel
theorem dX1_nextReviewer_10 : decode cX1_nextReviewer 10 = .ok (.aload_n 0, 1) := by decide +kernel
theorem dX1_nextReviewer_11 : decode cX1_nextReviewer 11 = .ok (.getfield 15, 3) := by decide +kernel
theorem dX1_nextReviewer_14 : decode cX1_nextReviewer 14 = .ok (.aload_n 0, 1) := by decide +kernel
theorem dX1_nextReviewer_15 : decode cX1_nextReviewer 15 = .ok (.getfield 9, 3) := by decide +kernel
theorem dX1_nextReviewer_18 : decode cX1_nextReviewer 18 = .ok (.iload_n 1, 1) := by decide +kernel
theorem dX1_nextReviewer_19 : decode cX1_nextReviewer 19 = .ok (.iaload, 1) := by decide +kernel
theorem dX1_nextReviewer_20 : decode cX1_nextReviewer 20 = .ok (.baload, 1) := by decide +kernel
theorem dX1_nextReviewer_21 : decode cX1_nextReviewer 21 = .ok (.ifCond .ne 10, 3) := by decide +kernel
theorem dX1_nextReviewer_24 : decode cX1_nextReviewer 24 = .ok (.aload_n 0, 1) := by decide +kernel
theorem dX1_nextReviewer_25 : decode cX1_nextReviewer 25 = .ok (.getfield 9, 3) := by decide +kernel
theorem dX1_nextReviewer_28 : decode cX1_nextReviewer 28 = .ok (.iload_n 1, 1) := by decide +kernel
theorem dX1_nextReviewer_29 : decode cX1_nextReviewer 29 = .ok (.iaload, 1) := by decide +kernel
theorem dX1_nextReviewer_30 : decode cX1_nextReviewer 30 = .ok (.ireturn, 1) := by decide +kernel
theorem dX1_nextReviewer_31 : decode cX1_nextReviewer 31 = .ok (.iinc 1 1, 3) := by decide +kernel
theorem dX1_nextReviewer_34 : decode cX1_nextReviewer 34 = .ok (.goto (-32), 3) := by decide +kernel
theorem dX1_nextReviewer_37 : decode cX1_nextReviewer 37 = .ok (.iconst (-1), 1) := by decide +kernel
theorem dX1_nextReviewer_38 : decode cX1_nextReviewer 38 = .ok (.ireturn, 1) := by decide +kernel
theorem dX1_nextReader_0 : decode cX1_nextReader 0 = .ok (.iconst 0, 1) := by decide +kernel
theorem dX1_nextReader_1 : decode cX1_nextReader 1 = .ok (.istore_n 1, 1) := by decide +kernel
theorem dX1_nextReader_2 : decode cX1_nextReader 2 = .ok (.iload_n 1, 1) := by decide +kernel
theorem dX1_nextReader_3 : decode cX1_nextReader 3 = .ok (.bipush 6, 2) := by decide +kernel
theorem dX1_nextReader_5 : decode cX1_nextReader 5 = .ok (.if_icmp .ge 29, 3) := by decide +kernel
theorem dX1_nextReader_8 : decode cX1_nextReader 8 = .ok (.aload_n 0, 1) := by decide +kernel
theorem dX1_nextReader_9 : decode cX1_nextReader 9 = .ok (.getfield 22, 3) := by decide +kernel
theorem dX1_nextReader_12 : decode cX1_nextReader 12 = .ok (.iload_n 1, 1) := by decide +kernel
theorem dX1_nextReader_13 : decode cX1_nextReader 13 = .ok (.baload, 1) := by decide +kernel
theorem dX1_nextReader_14 : decode cX1_nextReader 14 = .ok (.ifCond .eq 14, 3) := by decide +kernel
theorem dX1_nextReader_17 : decode cX1_nextReader 17 = .ok (.aload_n 0, 1) := by decide +kernel
theorem dX1_nextReader_18 : decode cX1_nextReader 18 = .ok (.getfield 25, 3) := by decide +kernel
theorem dX1_nextReader_21 : decode cX1_nextReader 21 = .ok (.iload_n 1, 1) := by decide +kernel
theorem dX1_nextReader_22 : decode cX1_nextReader 22 = .ok (.baload, 1) := by decide +kernel
theorem dX1_nextReader_23 : decode cX1_nextReader 23 = .ok (.ifCond .ne 5, 3) := by decide +kernel
theorem dX1_nextReader_26 : decode cX1_nextReader 26 = .ok (.iload_n 1, 1) := by decide +kernel
theorem dX1_nextReader_27 : decode cX1_nextReader 27 = .ok (.ireturn, 1) := by decide +kernel
theorem dX1_nextReader_28 : decode cX1_nextReader 28 = .ok (.iinc 1 1, 3) := by decide +kernel
theorem dX1_nextReader_31 : decode cX1_nextReader 31 = .ok (.goto (-29), 3) := by decide +kernel
theorem dX1_nextReader_34 : decode cX1_nextReader 34 = .ok (.iconst (-1), 1) := by decide +kernel
theorem dX1_nextReader_35 : decode cX1_nextReader 35 = .ok (.ireturn, 1) := by decide +kernel
theorem dX1_addRemark_0 : decode cX1_addRemark 0 = .ok (.aload_n 0, 1) := by decide +kernel
theorem dX1_addRemark_1 : decode cX1_addRemark 1 = .ok (.getfield 44, 3) := by decide +kernel
theorem dX1_addRemark_4 : decode cX1_addRemark 4 = .ok (.istore_n 1, 1) := by decide +kernel
theorem dX1_addRemark_5 : decode cX1_addRemark 5 = .ok (.iload_n 1, 1) := by decide +kernel
theorem dX1_addRemark_6 : decode cX1_addRemark 6 = .ok (.iconst 4, 1) := by decide +kernel
theorem dX1_addRemark_7 : decode cX1_addRemark 7 = .ok (.if_icmp .ge 20, 3) := by decide +kernel
theorem dX1_addRemark_10 : decode cX1_addRemark 10 = .ok (.aload_n 0, 1) := by decide +kernel
theorem dX1_addRemark_11 : decode cX1_addRemark 11 = .ok (.getfield 19, 3) := by decide +kernel
theorem dX1_addRemark_14 : decode cX1_addRemark 14 = .ok (.iload_n 1, 1) := by decide +kernel
theorem dX1_addRemark_15 : decode cX1_addRemark 15 = .ok (.iconst 0, 1) := by decide +kernel
theorem dX1_addRemark_16 : decode cX1_addRemark 16 = .ok (.bastore, 1) := by decide +kernel
theorem dX1_addRemark_17 : decode cX1_addRemark 17 = .ok (.aload_n 0, 1) := by decide +kernel
theorem dX1_addRemark_18 : decode cX1_addRemark 18 = .ok (.dup, 1) := by decide +kernel
theorem dX1_addRemark_19 : decode cX1_addRemark 19 = .ok (.getfield 44, 3) := by decide +kernel
theorem dX1_addRemark_22 : decode cX1_addRemark 22 = .ok (.iconst 1, 1) := by decide +kernel
theorem dX1_addRemark_23 : decode cX1_addRemark 23 = .ok (.iadd, 1) := by decide +kernel
theorem dX1_addRemark_24 : decode cX1_addRemark 24 = .ok (.putfield 44, 3) := by decide +kernel
theorem dX1_addRemark_27 : decode cX1_addRemark 27 = .ok (.iload_n 1, 1) := by decide +kernel
theorem dX1_addRemark_28 : decode cX1_addRemark 28 = .ok (.ireturn, 1) := by decide +kernel
theorem dX1_openRemarks_0 : decode cX1_openRemarks 0 = .ok (.iconst 0, 1) := by decide +kernel
theorem dX1_openRemarks_1 : decode cX1_openRemarks 1 = .ok (.istore_n 1, 1) := by decide +kernel
theorem dX1_openRemarks_2 : decode cX1_openRemarks 2 = .ok (.iconst 0, 1) := by decide +kernel
theorem dX1_openRemarks_3 : decode cX1_openRemarks 3 = .ok (.istore_n 2, 1) := by decide +kernel
theorem dX1_openRemarks_4 : decode cX1_openRemarks 4 = .ok (.iload_n 2, 1) := by decide +kernel
theorem dX1_openRemarks_5 : decode cX1_openRemarks 5 = .ok (.aload_n 0, 1) := by decide +kernel
theorem dX1_openRemarks_6 : decode cX1_openRemarks 6 = .ok (.getfield 44, 3) := by decide +kernel
theorem dX1_openRemarks_9 : decode cX1_openRemarks 9 = .ok (.if_icmp .ge 21, 3) := by decide +kernel
theorem dX1_openRemarks_12 : decode cX1_openRemarks 12 = .ok (.aload_n 0, 1) := by decide +kernel
theorem dX1_openRemarks_13 : decode cX1_openRemarks 13 = .ok (.getfield 19, 3) := by decide +kernel
theorem dX1_openRemarks_16 : decode cX1_openRemarks 16 = .ok (.iload_n 2, 1) := by decide +kernel
theorem dX1_openRemarks_17 : decode cX1_openRemarks 17 = .ok (.baload, 1) := by decide +kernel
theorem dX1_openRemarks_18 : decode cX1_openRemarks 18 = .ok (.ifCond .ne 6, 3) := by decide +kernel
theorem dX1_openRemarks_21 : decode cX1_openRemarks 21 = .ok (.iinc 1 1, 3) := by decide +kernel
theorem dX1_openRemarks_24 : decode cX1_openRemarks 24 = .ok (.iinc 2 1, 3) := by decide +kernel
theorem dX1_openRemarks_27 : decode cX1_openRemarks 27 = .ok (.goto (-23), 3) := by decide +kernel
theorem dX1_openRemarks_30 : decode cX1_openRemarks 30 = .ok (.iload_n 1, 1) := by decide +kernel
theorem dX1_openRemarks_31 : decode cX1_openRemarks 31 = .ok (.ireturn, 1) := by decide +kernel
set_option maxRecDepth 20000 in
theorem ggX1_nextStep_X1_nextReviewer : GoodIn wsX1_nextStep wsX1_nextReviewer := goodIn_r _ [7, 1, 8, 9, 22, 23, 24, 25, 26, 27, 28, 29, 30, 31, 32, 33] (by decide +kernel) (by decide +kernel)
set_option maxRecDepth 20000 in
theorem gX1_nextStep_X1_nextReviewer : GoodIn wsX1_nextStep (wsV RX1 51 RX1 yX1_nextReviewer wsX1_nextReviewer) := goodIn_app (goodIn_of _ (by decide +kernel)) ggX1_nextStep_X1_nextReviewer
set_option maxRecDepth 20000 in
theorem ggX1_nextStep_X1_openRemarks : GoodIn wsX1_nextStep wsX1_openRemarks := goodIn_r _ [13, 14, 15, 22, 23, 24, 25, 26, 27, 28, 29, 30, 31, 32, 33] (by decide +kernel) (by decide +kernel)
set_option maxRecDepth 20000 in
theorem gX1_nextStep_X1_openRemarks : GoodIn wsX1_nextStep (wsV RX1 55 RX1 yX1_openRemarks wsX1_openRemarks) := goodIn_app (goodIn_of _ (by decide +kernel)) ggX1_nextStep_X1_openRemarks
set_option maxRecDepth 20000 in
theorem ggX1_nextStep_X1_nextReader : GoodIn wsX1_nextStep wsX1_nextReader := goodIn_r _ [19, 20, 21, 22, 23, 24, 25, 26, 27, 28, 29, 30, 31, 32, 33] (by decide +kernel) (by decide +kernel)
set_option maxRecDepth 20000 in
theorem gX1_nextStep_X1_nextReader : GoodIn wsX1_nextStep (wsV RX1 58 RX1 yX1_nextReader wsX1_nextReader) := goodIn_app (goodIn_of _ (by decide +kernel)) ggX1_nextStep_X1_nextReader
theorem dX1_nextStep_0 : decode cX1_nextStep 0 = .ok (.aload_n 0, 1) := by decide +kernel
theorem dX1_nextStep_1 : decode cX1_nextStep 1 = .ok (.getfield 38, 3) := by decide +kernel
theorem dX1_nextStep_4 : decode cX1_nextStep 4 = .ok (.ifCond .eq 11, 3) := by decide +kernel
theorem dX1_nextStep_7 : decode cX1_nextStep 7 = .ok (.aload_n 0, 1) := by decide +kernel
theorem dX1_nextStep_8 : decode cX1_nextStep 8 = .ok (.invokevirtual 51, 3) := by decide +kernel
theorem dX1_nextStep_11 : decode cX1_nextStep 11 = .ok (.iconst (-1), 1) := by decide +kernel
theorem dX1_nextStep_12 : decode cX1_nextStep 12 = .ok (.if_icmp .eq 5, 3) := by decide +kernel
theorem dX1_nextStep_15 : decode cX1_nextStep 15 = .ok (.iconst 1, 1) := by decide +kernel
theorem dX1_nextStep_16 : decode cX1_nextStep 16 = .ok (.ireturn, 1) := by decide +kernel
theorem dX1_nextStep_17 : decode cX1_nextStep 17 = .ok (.aload_n 0, 1) := by decide +kernel
theorem dX1_nextStep_18 : decode cX1_nextStep 18 = .ok (.invokevirtual 55, 3) := by decide +kernel
theorem dX1_nextStep_21 : decode cX1_nextStep 21 = .ok (.ifCond .le 5, 3) := by decide +kernel
theorem dX1_nextStep_24 : decode cX1_nextStep 24 = .ok (.iconst 2, 1) := by decide +kernel
theorem dX1_nextStep_25 : decode cX1_nextStep 25 = .ok (.ireturn, 1) := by decide +kernel
theorem dX1_nextStep_26 : decode cX1_nextStep 26 = .ok (.aload_n 0, 1) := by decide +kernel
theorem dX1_nextStep_27 : decode cX1_nextStep 27 = .ok (.getfield 47, 3) := by decide +kernel
theorem dX1_nextStep_30 : decode cX1_nextStep 30 = .ok (.ifCond .ne 5, 3) := by decide +kernel
theorem dX1_nextStep_33 : decode cX1_nextStep 33 = .ok (.iconst 3, 1) := by decide +kernel
theorem dX1_nextStep_34 : decode cX1_nextStep 34 = .ok (.ireturn, 1) := by decide +kernel
theorem dX1_nextStep_35 : decode cX1_nextStep 35 = .ok (.aload_n 0, 1) := by decide +kernel
theorem dX1_nextStep_36 : decode cX1_nextStep 36 = .ok (.invokevirtual 58, 3) := by decide +kernel
theorem dX1_nextStep_39 : decode cX1_nextStep 39 = .ok (.iconst (-1), 1) := by decide +kernel
theorem dX1_nextStep_40 : decode cX1_nextStep 40 = .ok (.if_icmp .eq 7, 3) := by decide +kernel
theorem dX1_nextStep_43 : decode cX1_nextStep 43 = .ok (.iconst 4, 1) := by decide +kernel
theorem dX1_nextStep_44 : decode cX1_nextStep 44 = .ok (.goto 4, 3) := by decide +kernel
theorem dX1_nextStep_47 : decode cX1_nextStep 47 = .ok (.iconst 5, 1) := by decide +kernel
theorem dX1_nextStep_48 : decode cX1_nextStep 48 = .ok (.ireturn, 1) := by decide +kernel
set_option maxRecDepth 20000 in
theorem ggX1_nextPerson_X1_nextStep : GoodIn wsX1_nextPerson wsX1_nextStep := goodIn_r _ [6, 7, 8, 9, 10, 11, 5, 12, 13, 14, 15, 16, 17, 18, 19, 20, 21, 22, 23, 24, 25, 26, 27, 28, 29, 30, 31, 32, 33, 34, 35, 36, 37, 38] (by decide +kernel) (by decide +kernel)
set_option maxRecDepth 20000 in
theorem gX1_nextPerson_X1_nextStep : GoodIn wsX1_nextPerson (wsV RX1 61 RX1 yX1_nextStep wsX1_nextStep) := goodIn_app (goodIn_of _ (by decide +kernel)) ggX1_nextPerson_X1_nextStep
set_option maxRecDepth 20000 in
theorem ggX1_nextPerson_X1_nextReviewer : GoodIn wsX1_nextPerson wsX1_nextReviewer := goodIn_r _ [12, 7, 13, 14, 27, 28, 29, 30, 31, 32, 33, 34, 35, 36, 37, 38] (by decide +kernel) (by decide +kernel)
set_option maxRecDepth 20000 in
theorem gX1_nextPerson_X1_nextReviewer : GoodIn wsX1_nextPerson (wsV RX1 51 RX1 yX1_nextReviewer wsX1_nextReviewer) := goodIn_app (goodIn_of _ (by decide +kernel)) ggX1_nextPerson_X1_nextReviewer
set_option maxRecDepth 20000 in
theorem ggX1_nextPerson_X1_nextReader : GoodIn wsX1_nextPerson wsX1_nextReader := goodIn_r _ [24, 25, 26, 27, 28, 29, 30, 31, 32, 33, 34, 35, 36, 37, 38] (by decide +kernel) (by decide +kernel)
set_option maxRecDepth 20000 in
theorem gX1_nextPerson_X1_nextReader : GoodIn wsX1_nextPerson (wsV RX1 58 RX1 yX1_nextReader wsX1_nextReader) := goodIn_app (goodIn_of _ (by decide +kernel)) ggX1_nextPerson_X1_nextReader
theorem dX1_nextPerson_0 : decode cX1_nextPerson 0 = .ok (.aload_n 0, 1) := by decide +kernel
theorem dX1_nextPerson_1 : decode cX1_nextPerson 1 = .ok (.invokevirtual 61, 3) := by decide +kernel
theorem dX1_nextPerson_4 : decode cX1_nextPerson 4 = .ok (.tableswitch 47 1 4 #[32, 37, 47, 42], 32) := by decide +kernel
theorem dX1_nextPerson_36 : decode cX1_nextPerson 36 = .ok (.aload_n 0, 1) := by decide +kernel
theorem dX1_nextPerson_37 : decode cX1_nextPerson 37 = .ok (.invokevirtual 51, 3) := by decide +kernel
theorem dX1_nextPerson_40 : decode cX1_nextPerson 40 = .ok (.ireturn, 1) := by decide +kernel
theorem dX1_nextPerson_41 : decode cX1_nextPerson 41 = .ok (.aload_n 0, 1) := by decide +kernel
theorem dX1_nextPerson_42 : decode cX1_nextPerson 42 = .ok (.getfield 28, 3) := by decide +kernel
theorem dX1_nextPerson_45 : decode cX1_nextPerson 45 = .ok (.ireturn, 1) := by decide +kernel
theorem dX1_nextPerson_46 : decode cX1_nextPerson 46 = .ok (.aload_n 0, 1) := by decide +kernel
theorem dX1_nextPerson_47 : decode cX1_nextPerson 47 = .ok (.invokevirtual 58, 3) := by decide +kernel
theorem dX1_nextPerson_50 : decode cX1_nextPerson 50 = .ok (.ireturn, 1) := by decide +kernel
theorem dX1_nextPerson_51 : decode cX1_nextPerson 51 = .ok (.iconst (-1), 1) := by decide +kernel
theorem dX1_nextPerson_52 : decode cX1_nextPerson 52 = .ok (.ireturn, 1) := by decide +kernel
set_option maxRecDepth 20000 in
theorem ggX1_isReady_X1_nextStep : GoodIn wsX1_isReady wsX1_nextStep := goodIn_r _ [6, 7, 8, 9, 10, 11, 5, 12, 13, 14, 15, 16, 17, 18, 19, 20, 21, 22, 23, 24, 25, 26, 27, 28, 29, 30, 31, 32, 33, 34, 35, 36, 37, 38] (by decide +kernel) (by decide +kernel)
set_option maxRecDepth 20000 in
theorem gX1_isReady_X1_nextStep : GoodIn wsX1_isReady (wsV RX1 61 RX1 yX1_nextStep wsX1_nextStep) := goodIn_app (goodIn_of _ (by decide +kernel)) ggX1_isReady_X1_nextStep
theorem dX1_isReady_0 : decode cX1_isReady 0 = .ok (.aload_n 0, 1) := by decide +kernel
theorem dX1_isReady_1 : decode cX1_isReady 1 = .ok (.invokevirtual 61, 3) := by decide +kernel
theorem dX1_isReady_4 : decode cX1_isReady 4 = .ok (.iconst 5, 1) := by decide +kernel
theorem dX1_isReady_5 : decode cX1_isReady 5 = .ok (.if_icmp .ne 15, 3) := by decide +kernel
theorem dX1_isReady_8 : decode cX1_isReady 8 = .ok (.aload_n 0, 1) := by decide +kernel
theorem dX1_isReady_9 : decode cX1_isReady 9 = .ok (.getfield 64, 3) := by decide +kernel
theorem dX1_isReady_12 : decode cX1_isReady 12 = .ok (.iload_n 1, 1) := by decide +kernel
theorem dX1_isReady_13 : decode cX1_isReady 13 = .ok (.if_icmp .gt 7, 3) := by decide +kernel
theorem dX1_isReady_16 : decode cX1_isReady 16 = .ok (.iconst 1, 1) := by decide +kernel
theorem dX1_isReady_17 : decode cX1_isReady 17 = .ok (.goto 4, 3) := by decide +kernel
theorem dX1_isReady_20 : decode cX1_isReady 20 = .ok (.iconst 0, 1) := by decide +kernel
theorem dX1_isReady_21 : decode cX1_isReady 21 = .ok (.ireturn, 1) := by decide +kernel
set_option maxRecDepth 20000 in
theorem ggX2_init_X1_init : GoodIn wsX2_init wsX1_init := goodIn_r _ [16, 17, 2, 3, 11, 18, 5, 19, 20, 21, 22, 32, 33, 34, 35, 36, 37, 38, 39, 40, 41, 42, 43] (by decide +kernel) (by decide +kernel)
set_option maxRecDepth 20000 in
theorem gX2_init_X1_init : GoodIn wsX2_init (wsX1_init) := ggX2_init_X1_init
theorem dX2_init_0 : decode cX2_init 0 = .ok (.aload_n 0, 1) := by decide +kernel
theorem dX2_init_1 : decode cX2_init 1 = .ok (.invokespecial 3, 3) := by decide +kernel
theorem dX2_init_4 : decode cX2_init 4 = .ok (.aload_n 0, 1) := by decide +kernel
theorem dX2_init_5 : decode cX2_init 5 = .ok (.iload_n 1, 1) := by decide +kernel
theorem dX2_init_6 : decode cX2_init 6 = .ok (.putfield 9, 3) := by decide +kernel
theorem dX2_init_9 : decode cX2_init 9 = .ok (.aload_n 0, 1) := by decide +kernel
theorem dX2_init_10 : decode cX2_init 10 = .ok (.bipush 8, 2) := by decide +kernel
theorem dX2_init_12 : decode cX2_init 12 = .ok (.newarray .boolean, 2) := by decide +kernel
theorem dX2_init_14 : decode cX2_init 14 = .ok (.putfield 15, 3) := by decide +kernel
theorem dX2_init_17 : decode cX2_init 17 = .ok (.aload_n 0, 1) := by decide +kernel
theorem dX2_init_18 : decode cX2_init 18 = .ok (.new 19, 3) := by decide +kernel
theorem dX2_init_21 : decode cX2_init 21 = .ok (.dup, 1) := by decide +kernel
theorem dX2_init_22 : decode cX2_init 22 = .ok (.invokespecial 21, 3) := by decide +kernel
theorem dX2_init_25 : decode cX2_init 25 = .ok (.putfield 22, 3) := by decide +kernel
theorem dX2_init_28 : decode cX2_init 28 = .ok (.aload_n 0, 1) := by decide +kernel
theorem dX2_init_29 : decode cX2_init 29 = .ok (.sipush 128, 3) := by decide +kernel
theorem dX2_init_32 : decode cX2_init 32 = .ok (.newarray .int, 2) := by decide +kernel
theorem dX2_init_34 : decode cX2_init 34 = .ok (.putfield 26, 3) := by decide +kernel
theorem dX2_init_37 : decode cX2_init 37 = .ok (.aload_n 0, 1) := by decide +kernel
theorem dX2_init_38 : decode cX2_init 38 = .ok (.sipush 128, 3) := by decide +kernel
theorem dX2_init_41 : decode cX2_init 41 = .ok (.newarray .int, 2) := by decide +kernel
theorem dX2_init_43 : decode cX2_init 43 = .ok (.putfield 30, 3) := by decide +kernel
theorem dX2_init_46 : decode cX2_init 46 = .ok (.return_, 1) := by decide +kernel
theorem dX2_newest_0 : decode cX2_newest 0 = .ok (.aload_n 0, 1) := by decide +kernel
theorem dX2_newest_1 : decode cX2_newest 1 = .ok (.getfield 33, 3) := by decide +kernel
theorem dX2_newest_4 : decode cX2_newest 4 = .ok (.iconst 1, 1) := by decide +kernel
theorem dX2_newest_5 : decode cX2_newest 5 = .ok (.isub, 1) := by decide +kernel
theorem dX2_newest_6 : decode cX2_newest 6 = .ok (.ireturn, 1) := by decide +kernel
theorem dX2_versionOn_0 : decode cX2_versionOn 0 = .ok (.aload_n 0, 1) := by decide +kernel
theorem dX2_versionOn_1 : decode cX2_versionOn 1 = .ok (.getfield 33, 3) := by decide +kernel
theorem dX2_versionOn_4 : decode cX2_versionOn 4 = .ok (.iconst 1, 1) := by decide +kernel
theorem dX2_versionOn_5 : decode cX2_versionOn 5 = .ok (.isub, 1) := by decide +kernel
theorem dX2_versionOn_6 : decode cX2_versionOn 6 = .ok (.istore_n 2, 1) := by decide +kernel
theorem dX2_versionOn_7 : decode cX2_versionOn 7 = .ok (.iload_n 2, 1) := by decide +kernel
theorem dX2_versionOn_8 : decode cX2_versionOn 8 = .ok (.ifCond .lt 21, 3) := by decide +kernel
theorem dX2_versionOn_11 : decode cX2_versionOn 11 = .ok (.aload_n 0, 1) := by decide +kernel
theorem dX2_versionOn_12 : decode cX2_versionOn 12 = .ok (.getfield 30, 3) := by decide +kernel
theorem dX2_versionOn_15 : decode cX2_versionOn 15 = .ok (.iload_n 2, 1) := by decide +kernel
theorem dX2_versionOn_16 : decode cX2_versionOn 16 = .ok (.iaload, 1) := by decide +kernel
theorem dX2_versionOn_17 : decode cX2_versionOn 17 = .ok (.iload_n 1, 1) := by decide +kernel
theorem dX2_versionOn_18 : decode cX2_versionOn 18 = .ok (.if_icmp .gt 5, 3) := by decide +kernel
theorem dX2_versionOn_21 : decode cX2_versionOn 21 = .ok (.iload_n 2, 1) := by decide +kernel
theorem dX2_versionOn_22 : decode cX2_versionOn 22 = .ok (.ireturn, 1) := by decide +kernel
theorem dX2_versionOn_23 : decode cX2_versionOn 23 = .ok (.iinc 2 (-1), 3) := by decide +kernel
theorem dX2_versionOn_26 : decode cX2_versionOn 26 = .ok (.goto (-19), 3) := by decide +kernel
theorem dX2_versionOn_29 : decode cX2_versionOn 29 = .ok (.iconst (-1), 1) := by decide +kernel
theorem dX2_versionOn_30 : decode cX2_versionOn 30 = .ok (.ireturn, 1) := by decide +kernel
set_option maxRecDepth 20000 in
theorem ggX2_comeIntoForce_X1_isReady : GoodIn wsX2_comeIntoForce wsX1_isReady := goodIn_r _ [11, 12, 13, 14, 15, 10, 16, 17, 18, 19, 20, 21, 22, 23, 24, 25, 26, 27, 28, 29, 30, 31, 32, 33, 34, 35, 36, 53, 54, 55, 56, 57, 58, 59, 60, 61, 62, 63, 64] (by decide +kernel) (by decide +kernel)
set_option maxRecDepth 20000 in
theorem gX2_comeIntoForce_X1_isReady : GoodIn wsX2_comeIntoForce (wsV RX2 40 RX1 yX1_isReady wsX1_isReady) := goodIn_app (goodIn_of _ (by decide +kernel)) ggX2_comeIntoForce_X1_isReady
set_option maxRecDepth 20000 in
theorem ggX2_comeIntoForce_X2_restartInterval : GoodIn wsX2_comeIntoForce wsX2_restartInterval := goodIn_r _ [41, 42, 43, 44, 45, 46, 47, 48, 49, 50, 51, 52] (by decide +kernel) (by decide +kernel)
set_option maxRecDepth 20000 in
theorem gX2_comeIntoForce_X2_restartInterval : GoodIn wsX2_comeIntoForce (wsV RX2 47 RX2 yX2_restartInterval wsX2_restartInterval) := goodIn_app (goodIn_of _ (by decide +kernel)) ggX2_comeIntoForce_X2_restartInterval
theorem dX2_comeIntoForce_0 : decode cX2_comeIntoForce 0 = .ok (.aload_n 0, 1) := by decide +kernel
theorem dX2_comeIntoForce_1 : decode cX2_comeIntoForce 1 = .ok (.getfield 37, 3) := by decide +kernel
theorem dX2_comeIntoForce_4 : decode cX2_comeIntoForce 4 = .ok (.ifCond .eq 24, 3) := by decide +kernel
theorem dX2_comeIntoForce_7 : decode cX2_comeIntoForce 7 = .ok (.aload_n 0, 1) := by decide +kernel
theorem dX2_comeIntoForce_8 : decode cX2_comeIntoForce 8 = .ok (.getfield 22, 3) := by decide +kernel
theorem dX2_comeIntoForce_11 : decode cX2_comeIntoForce 11 = .ok (.iload_n 1, 1) := by decide +kernel
theorem dX2_comeIntoForce_12 : decode cX2_comeIntoForce 12 = .ok (.invokevirtual 40, 3) := by decide +kernel
theorem dX2_comeIntoForce_15 : decode cX2_comeIntoForce 15 = .ok (.ifCond .eq 13, 3) := by decide +kernel
theorem dX2_comeIntoForce_18 : decode cX2_comeIntoForce 18 = .ok (.aload_n 0, 1) := by decide +kernel
theorem dX2_comeIntoForce_19 : decode cX2_comeIntoForce 19 = .ok (.getfield 33, 3) := by decide +kernel
theorem dX2_comeIntoForce_22 : decode cX2_comeIntoForce 22 = .ok (.sipush 128, 3) := by decide +kernel
theorem dX2_comeIntoForce_25 : decode cX2_comeIntoForce 25 = .ok (.if_icmp .lt 5, 3) := by decide +kernel
theorem dX2_comeIntoForce_28 : decode cX2_comeIntoForce 28 = .ok (.iconst 0, 1) := by decide +kernel
theorem dX2_comeIntoForce_29 : decode cX2_comeIntoForce 29 = .ok (.ireturn, 1) := by decide +kernel
theorem dX2_comeIntoForce_30 : decode cX2_comeIntoForce 30 = .ok (.aload_n 0, 1) := by decide +kernel
theorem dX2_comeIntoForce_31 : decode cX2_comeIntoForce 31 = .ok (.getfield 26, 3) := by decide +kernel
theorem dX2_comeIntoForce_34 : decode cX2_comeIntoForce 34 = .ok (.aload_n 0, 1) := by decide +kernel
theorem dX2_comeIntoForce_35 : decode cX2_comeIntoForce 35 = .ok (.getfield 33, 3) := by decide +kernel
theorem dX2_comeIntoForce_38 : decode cX2_comeIntoForce 38 = .ok (.aload_n 0, 1) := by decide +kernel
theorem dX2_comeIntoForce_39 : decode cX2_comeIntoForce 39 = .ok (.getfield 22, 3) := by decide +kernel
theorem dX2_comeIntoForce_42 : decode cX2_comeIntoForce 42 = .ok (.getfield 44, 3) := by decide +kernel
theorem dX2_comeIntoForce_45 : decode cX2_comeIntoForce 45 = .ok (.iastore, 1) := by decide +kernel
theorem dX2_comeIntoForce_46 : decode cX2_comeIntoForce 46 = .ok (.aload_n 0, 1) := by decide +kernel
theorem dX2_comeIntoForce_47 : decode cX2_comeIntoForce 47 = .ok (.getfield 30, 3) := by decide +kernel
theorem dX2_comeIntoForce_50 : decode cX2_comeIntoForce 50 = .ok (.aload_n 0, 1) := by decide +kernel
theorem dX2_comeIntoForce_51 : decode cX2_comeIntoForce 51 = .ok (.getfield 33, 3) := by decide +kernel
theorem dX2_comeIntoForce_54 : decode cX2_comeIntoForce 54 = .ok (.iload_n 1, 1) := by decide +kernel
theorem dX2_comeIntoForce_55 : decode cX2_comeIntoForce 55 = .ok (.iastore, 1) := by decide +kernel
theorem dX2_comeIntoForce_56 : decode cX2_comeIntoForce 56 = .ok (.aload_n 0, 1) := by decide +kernel
theorem dX2_comeIntoForce_57 : decode cX2_comeIntoForce 57 = .ok (.dup, 1) := by decide +kernel
theorem dX2_comeIntoForce_58 : decode cX2_comeIntoForce 58 = .ok (.getfield 33, 3) := by decide +kernel
theorem dX2_comeIntoForce_61 : decode cX2_comeIntoForce 61 = .ok (.iconst 1, 1) := by decide +kernel
theorem dX2_comeIntoForce_62 : decode cX2_comeIntoForce 62 = .ok (.iadd, 1) := by decide +kernel
theorem dX2_comeIntoForce_63 : decode cX2_comeIntoForce 63 = .ok (.putfield 33, 3) := by decide +kernel
theorem dX2_comeIntoForce_66 : decode cX2_comeIntoForce 66 = .ok (.aload_n 0, 1) := by decide +kernel
theorem dX2_comeIntoForce_67 : decode cX2_comeIntoForce 67 = .ok (.iconst 0, 1) := by decide +kernel
theorem dX2_comeIntoForce_68 : decode cX2_comeIntoForce 68 = .ok (.putfield 37, 3) := by decide +kernel
theorem dX2_comeIntoForce_71 : decode cX2_comeIntoForce 71 = .ok (.aload_n 0, 1) := by decide +kernel
theorem dX2_comeIntoForce_72 : decode cX2_comeIntoForce 72 = .ok (.iload_n 1, 1) := by decide +kernel
theorem dX2_comeIntoForce_73 : decode cX2_comeIntoForce 73 = .ok (.invokevirtual 47, 3) := by decide +kernel
theorem dX2_comeIntoForce_76 : decode cX2_comeIntoForce 76 = .ok (.iconst 1, 1) := by decide +kernel
theorem dX2_comeIntoForce_77 : decode cX2_comeIntoForce 77 = .ok (.ireturn, 1) := by decide +kernel
theorem dX2_needsLook_0 : decode cX2_needsLook 0 = .ok (.aload_n 0, 1) := by decide +kernel
theorem dX2_needsLook_1 : decode cX2_needsLook 1 = .ok (.getfield 33, 3) := by decide +kernel
theorem dX2_needsLook_4 : decode cX2_needsLook 4 = .ok (.ifCond .le 24, 3) := by decide +kernel
theorem dX2_needsLook_7 : decode cX2_needsLook 7 = .ok (.aload_n 0, 1) := by decide +kernel
theorem dX2_needsLook_8 : decode cX2_needsLook 8 = .ok (.getfield 51, 3) := by decide +kernel
theorem dX2_needsLook_11 : decode cX2_needsLook 11 = .ok (.ifCond .ne 13, 3) := by decide +kernel
theorem dX2_needsLook_14 : decode cX2_needsLook 14 = .ok (.iload_n 1, 1) := by decide +kernel
theorem dX2_needsLook_15 : decode cX2_needsLook 15 = .ok (.aload_n 0, 1) := by decide +kernel
theorem dX2_needsLook_16 : decode cX2_needsLook 16 = .ok (.getfield 54, 3) := by decide +kernel
theorem dX2_needsLook_19 : decode cX2_needsLook 19 = .ok (.isub, 1) := by decide +kernel
theorem dX2_needsLook_20 : decode cX2_needsLook 20 = .ok (.iload_n 2, 1) := by decide +kernel
theorem dX2_needsLook_21 : decode cX2_needsLook 21 = .ok (.if_icmp .lt 7, 3) := by decide +kernel
theorem dX2_needsLook_24 : decode cX2_needsLook 24 = .ok (.iconst 1, 1) := by decide +kernel
theorem dX2_needsLook_25 : decode cX2_needsLook 25 = .ok (.goto 4, 3) := by decide +kernel
theorem dX2_needsLook_28 : decode cX2_needsLook 28 = .ok (.iconst 0, 1) := by decide +kernel
theorem dX2_needsLook_29 : decode cX2_needsLook 29 = .ok (.ireturn, 1) := by decide +kernel
theorem dX2_restartInterval_0 : decode cX2_restartInterval 0 = .ok (.aload_n 0, 1) := by decide +kernel
theorem dX2_restartInterval_1 : decode cX2_restartInterval 1 = .ok (.iconst 0, 1) := by decide +kernel
theorem dX2_restartInterval_2 : decode cX2_restartInterval 2 = .ok (.putfield 51, 3) := by decide +kernel
theorem dX2_restartInterval_5 : decode cX2_restartInterval 5 = .ok (.aload_n 0, 1) := by decide +kernel
theorem dX2_restartInterval_6 : decode cX2_restartInterval 6 = .ok (.iload_n 1, 1) := by decide +kernel
theorem dX2_restartInterval_7 : decode cX2_restartInterval 7 = .ok (.putfield 54, 3) := by decide +kernel
theorem dX2_restartInterval_10 : decode cX2_restartInterval 10 = .ok (.return_, 1) := by decide +kernel
set_option maxRecDepth 20000 in
theorem ggX3_init_X0_init : GoodIn wsX3_init wsX0_init := goodIn_r _ [20, 21, 2, 3, 7, 22, 23, 24, 33, 34, 35, 36] (by decide +kernel) (by decide +kernel)
set_option maxRecDepth 20000 in
theorem gX3_init_X0_init : GoodIn wsX3_init (wsX0_init) := ggX3_init_X0_init
theorem dX3_init_0 : decode cX3_init 0 = .ok (.aload_n 0, 1) := by decide +kernel
theorem dX3_init_1 : decode cX3_init 1 = .ok (.invokespecial 1, 3) := by decide +kernel
theorem dX3_init_4 : decode cX3_init 4 = .ok (.aload_n 0, 1) := by decide +kernel
theorem dX3_init_5 : decode cX3_init 5 = .ok (.bipush 6, 2) := by decide +kernel
theorem dX3_init_7 : decode cX3_init 7 = .ok (.newarray .boolean, 2) := by decide +kernel
theorem dX3_init_9 : decode cX3_init 9 = .ok (.putfield 9, 3) := by decide +kernel
theorem dX3_init_12 : decode cX3_init 12 = .ok (.aload_n 0, 1) := by decide +kernel
theorem dX3_init_13 : decode cX3_init 13 = .ok (.bipush 6, 2) := by decide +kernel
theorem dX3_init_15 : decode cX3_init 15 = .ok (.newarray .boolean, 2) := by decide +kernel
theorem dX3_init_17 : decode cX3_init 17 = .ok (.putfield 13, 3) := by decide +kernel
theorem dX3_init_20 : decode cX3_init 20 = .ok (.aload_n 0, 1) := by decide +kernel
theorem dX3_init_21 : decode cX3_init 21 = .ok (.bipush 6, 2) := by decide +kernel
theorem dX3_init_23 : decode cX3_init 23 = .ok (.newarray .int, 2) := by decide +kernel
theorem dX3_init_25 : decode cX3_init 25 = .ok (.putfield 16, 3) := by decide +kernel
theorem dX3_init_28 : decode cX3_init 28 = .ok (.iconst 0, 1) := by decide +kernel
theorem dX3_init_29 : decode cX3_init 29 = .ok (.istore_n 1, 1) := by decide +kernel
theorem dX3_init_30 : decode cX3_init 30 = .ok (.iload_n 1, 1) := by decide +kernel
theorem dX3_init_31 : decode cX3_init 31 = .ok (.bipush 6, 2) := by decide +kernel
theorem dX3_init_33 : decode cX3_init 33 = .ok (.if_icmp .ge 16, 3) := by decide +kernel
theorem dX3_init_36 : decode cX3_init 36 = .ok (.aload_n 0, 1) := by decide +kernel
theorem dX3_init_37 : decode cX3_init 37 = .ok (.getfield 16, 3) := by decide +kernel
theorem dX3_init_40 : decode cX3_init 40 = .ok (.iload_n 1, 1) := by decide +kernel
theorem dX3_init_41 : decode cX3_init 41 = .ok (.iconst (-1), 1) := by decide +kernel
theorem dX3_init_42 : decode cX3_init 42 = .ok (.iastore, 1) := by decide +kernel
theorem dX3_init_43 : decode cX3_init 43 = .ok (.iinc 1 1, 3) := by decide +kernel
theorem dX3_init_46 : decode cX3_init 46 = .ok (.goto (-16), 3) := by decide +kernel
theorem dX3_init_49 : decode cX3_init 49 = .ok (.aload_n 0, 1) := by decide +kernel
theorem dX3_init_50 : decode cX3_init 50 = .ok (.bipush 8, 2) := by decide +kernel
theorem dX3_init_52 : decode cX3_init 52 = .ok (.anewarray 20, 3) := by decide +kernel
theorem dX3_init_55 : decode cX3_init 55 = .ok (.putfield 22, 3) := by decide +kernel
theorem dX3_init_58 : decode cX3_init 58 = .ok (.aload_n 0, 1) := by decide +kernel
theorem dX3_init_59 : decode cX3_init 59 = .ok (.new 26, 3) := by decide +kernel
theorem dX3_init_62 : decode cX3_init 62 = .ok (.dup, 1) := by decide +kernel
theorem dX3_init_63 : decode cX3_init 63 = .ok (.invokespecial 28, 3) := by decide +kernel
theorem dX3_init_66 : decode cX3_init 66 = .ok (.putfield 29, 3) := by decide +kernel
theorem dX3_init_69 : decode cX3_init 69 = .ok (.aload_n 0, 1) := by decide +kernel
theorem dX3_init_70 : decode cX3_init 70 = .ok (.iconst 0, 1) := by decide +kernel
theorem dX3_init_71 : decode cX3_init 71 = .ok (.putfield 33, 3) := by decide +kernel
theorem dX3_init_74 : decode cX3_init 74 = .ok (.aload_n 0, 1) := by decide +kernel
theorem dX3_init_75 : decode cX3_init 75 = .ok (.bipush 30, 2) := by decide +kernel
theorem dX3_init_77 : decode cX3_init 77 = .ok (.putfield 37, 3) := by decide +kernel
theorem dX3_init_80 : decode cX3_init 80 = .ok (.aload_n 0, 1) := by decide +kernel
theorem dX3_init_81 : decode cX3_init 81 = .ok (.iconst 0, 1) := by decide +kernel
theorem dX3_init_82 : decode cX3_init 82 = .ok (.putfield 40, 3) := by decide +kernel
theorem dX3_init_85 : decode cX3_init 85 = .ok (.return_, 1) := by decide +kernel
set_option maxRecDepth 20000 in
theorem ggX3_setRoles_X3_checkPerson : GoodIn wsX3_setRoles wsX3_checkPerson := goodIn_ca (goodIn_r _ [6, 7, 8, 5, 9, 10, 11] (by decide +kernel) (by decide +kernel)) (goodIn_sub (fun _ h => List.mem_cons_of_mem _ (List.mem_append_right _ h)) (by decide +kernel))
set_option maxRecDepth 20000 in
theorem gX3_setRoles_X3_checkPerson : GoodIn wsX3_setRoles (va_wsS RX3 43 yX3_checkPerson wsX3_checkPerson) := goodIn_app (goodIn_of _ (by decide +kernel)) ggX3_setRoles_X3_checkPerson
theorem dX3_setRoles_0 : decode cX3_setRoles 0 = .ok (.iload_n 1, 1) := by decide +kernel
theorem dX3_setRoles_1 : decode cX3_setRoles 1 = .ok (.invokestatic 43, 3) := by decide +kernel
theorem dX3_setRoles_4 : decode cX3_setRoles 4 = .ok (.aload_n 0, 1) := by decide +kernel
theorem dX3_setRoles_5 : decode cX3_setRoles 5 = .ok (.getfield 9, 3) := by decide +kernel
theorem dX3_setRoles_8 : decode cX3_setRoles 8 = .ok (.iload_n 1, 1) := by decide +kernel
theorem dX3_setRoles_9 : decode cX3_setRoles 9 = .ok (.iload_n 2, 1) := by decide +kernel
theorem dX3_setRoles_10 : decode cX3_setRoles 10 = .ok (.bastore, 1) := by decide +kernel
theorem dX3_setRoles_11 : decode cX3_setRoles 11 = .ok (.aload_n 0, 1) := by decide +kernel
theorem dX3_setRoles_12 : decode cX3_setRoles 12 = .ok (.getfield 13, 3) := by decide +kernel
theorem dX3_setRoles_15 : decode cX3_setRoles 15 = .ok (.iload_n 1, 1) := by decide +kernel
theorem dX3_setRoles_16 : decode cX3_setRoles 16 = .ok (.iload_n 3, 1) := by decide +kernel
theorem dX3_setRoles_17 : decode cX3_setRoles 17 = .ok (.bastore, 1) := by decide +kernel
theorem dX3_setRoles_18 : decode cX3_setRoles 18 = .ok (.return_, 1) := by decide +kernel
set_option maxRecDepth 20000 in
theorem ggX3_setDeputy_X3_checkPerson : GoodIn wsX3_setDeputy wsX3_checkPerson := goodIn_ca (goodIn_r _ [7, 8, 9, 6, 10, 1, 2] (by decide +kernel) (by decide +kernel)) (goodIn_sub (fun _ h => List.mem_cons_of_mem _ (List.mem_append_right _ h)) (by decide +kernel))
set_option maxRecDepth 20000 in
theorem gX3_setDeputy_X3_checkPerson : GoodIn wsX3_setDeputy (va_wsS RX3 43 yX3_checkPerson wsX3_checkPerson) := goodIn_app (goodIn_of _ (by decide +kernel)) ggX3_setDeputy_X3_checkPerson
theorem dX3_setDeputy_0 : decode cX3_setDeputy 0 = .ok (.iload_n 1, 1) := by decide +kernel
theorem dX3_setDeputy_1 : decode cX3_setDeputy 1 = .ok (.invokestatic 43, 3) := by decide +kernel
theorem dX3_setDeputy_4 : decode cX3_setDeputy 4 = .ok (.iload_n 2, 1) := by decide +kernel
theorem dX3_setDeputy_5 : decode cX3_setDeputy 5 = .ok (.iconst (-1), 1) := by decide +kernel
theorem dX3_setDeputy_6 : decode cX3_setDeputy 6 = .ok (.if_icmp .eq 7, 3) := by decide +kernel
theorem dX3_setDeputy_9 : decode cX3_setDeputy 9 = .ok (.iload_n 2, 1) := by decide +kernel
theorem dX3_setDeputy_10 : decode cX3_setDeputy 10 = .ok (.invokestatic 43, 3) := by decide +kernel
theorem dX3_setDeputy_13 : decode cX3_setDeputy 13 = .ok (.iload_n 1, 1) := by decide +kernel
theorem dX3_setDeputy_14 : decode cX3_setDeputy 14 = .ok (.iload_n 2, 1) := by decide +kernel
theorem dX3_setDeputy_15 : decode cX3_setDeputy 15 = .ok (.if_icmp .ne 13, 3) := by decide +kernel
theorem dX3_setDeputy_18 : decode cX3_setDeputy 18 = .ok (.new 47, 3) := by decide +kernel
theorem dX3_setDeputy_21 : decode cX3_setDeputy 21 = .ok (.dup, 1) := by decide +kernel
theorem dX3_setDeputy_22 : decode cX3_setDeputy 22 = .ok (.ldc 49, 2) := by decide +kernel
theorem dX3_setDeputy_24 : decode cX3_setDeputy 24 = .ok (.invokespecial 51, 3) := by decide +kernel
theorem dX3_setDeputy_27 : decode cX3_setDeputy 27 = .ok (.athrow, 1) := by decide +kernel
theorem dX3_setDeputy_28 : decode cX3_setDeputy 28 = .ok (.aload_n 0, 1) := by decide +kernel
theorem dX3_setDeputy_29 : decode cX3_setDeputy 29 = .ok (.getfield 16, 3) := by decide +kernel
theorem dX3_setDeputy_32 : decode cX3_setDeputy 32 = .ok (.iload_n 1, 1) := by decide +kernel
theorem dX3_setDeputy_33 : decode cX3_setDeputy 33 = .ok (.iaload, 1) := by decide +kernel
theorem dX3_setDeputy_34 : decode cX3_setDeputy 34 = .ok (.istore_n 3, 1) := by decide +kernel
theorem dX3_setDeputy_35 : decode cX3_setDeputy 35 = .ok (.aload_n 0, 1) := by decide +kernel
theorem dX3_setDeputy_36 : decode cX3_setDeputy 36 = .ok (.getfield 16, 3) := by decide +kernel
theorem dX3_setDeputy_39 : decode cX3_setDeputy 39 = .ok (.iload_n 1, 1) := by decide +kernel
theorem dX3_setDeputy_40 : decode cX3_setDeputy 40 = .ok (.iload_n 2, 1) := by decide +kernel
theorem dX3_setDeputy_41 : decode cX3_setDeputy 41 = .ok (.iastore, 1) := by decide +kernel
theorem dX3_setDeputy_42 : decode cX3_setDeputy 42 = .ok (.iload_n 3, 1) := by decide +kernel
theorem dX3_setDeputy_43 : decode cX3_setDeputy 43 = .ok (.ireturn, 1) := by decide +kernel
set_option maxRecDepth 20000 in
theorem ggX3_open_X2_init : GoodIn wsX3_open wsX2_init := goodIn_r _ [10, 11, 12, 13, 14, 15, 16, 17, 18, 19, 20, 21, 22, 23, 24, 25, 26, 27, 28, 29, 30, 31, 32, 41, 42, 43, 44, 45, 46, 47, 48, 49, 50, 51, 52, 53, 54, 55, 56, 57, 58, 59, 60, 61] (by decide +kernel) (by decide +kernel)
set_option maxRecDepth 20000 in
theorem gX3_open_X2_init : GoodIn wsX3_open (wsX2_init) := ggX3_open_X2_init
theorem dX3_open_0 : decode cX3_open 0 = .ok (.aload_n 0, 1) := by decide +kernel
theorem dX3_open_1 : decode cX3_open 1 = .ok (.getfield 33, 3) := by decide +kernel
theorem dX3_open_4 : decode cX3_open 4 = .ok (.bipush 8, 2) := by decide +kernel
theorem dX3_open_6 : decode cX3_open 6 = .ok (.if_icmp .lt 13, 3) := by decide +kernel
theorem dX3_open_9 : decode cX3_open 9 = .ok (.new 54, 3) := by decide +kernel
theorem dX3_open_12 : decode cX3_open 12 = .ok (.dup, 1) := by decide +kernel
theorem dX3_open_13 : decode cX3_open 13 = .ok (.ldc 56, 2) := by decide +kernel
theorem dX3_open_15 : decode cX3_open 15 = .ok (.invokespecial 58, 3) := by decide +kernel
theorem dX3_open_18 : decode cX3_open 18 = .ok (.athrow, 1) := by decide +kernel
theorem dX3_open_19 : decode cX3_open 19 = .ok (.aload_n 0, 1) := by decide +kernel
theorem dX3_open_20 : decode cX3_open 20 = .ok (.getfield 33, 3) := by decide +kernel
theorem dX3_open_23 : decode cX3_open 23 = .ok (.istore_n 2, 1) := by decide +kernel
theorem dX3_open_24 : decode cX3_open 24 = .ok (.aload_n 0, 1) := by decide +kernel
theorem dX3_open_25 : decode cX3_open 25 = .ok (.getfield 22, 3) := by decide +kernel
theorem dX3_open_28 : decode cX3_open 28 = .ok (.iload_n 2, 1) := by decide +kernel
theorem dX3_open_29 : decode cX3_open 29 = .ok (.new 20, 3) := by decide +kernel
theorem dX3_open_32 : decode cX3_open 32 = .ok (.dup, 1) := by decide +kernel
theorem dX3_open_33 : decode cX3_open 33 = .ok (.iload_n 1, 1) := by decide +kernel
theorem dX3_open_34 : decode cX3_open 34 = .ok (.invokespecial 59, 3) := by decide +kernel
theorem dX3_open_37 : decode cX3_open 37 = .ok (.aastore, 1) := by decide +kernel
theorem dX3_open_38 : decode cX3_open 38 = .ok (.aload_n 0, 1) := by decide +kernel
theorem dX3_open_39 : decode cX3_open 39 = .ok (.dup, 1) := by decide +kernel
theorem dX3_open_40 : decode cX3_open 40 = .ok (.getfield 33, 3) := by decide +kernel
theorem dX3_open_43 : decode cX3_open 43 = .ok (.iconst 1, 1) := by decide +kernel
theorem dX3_open_44 : decode cX3_open 44 = .ok (.iadd, 1) := by decide +kernel
theorem dX3_open_45 : decode cX3_open 45 = .ok (.putfield 33, 3) := by decide +kernel
theorem dX3_open_48 : decode cX3_open 48 = .ok (.iload_n 2, 1) := by decide +kernel
theorem dX3_open_49 : decode cX3_open 49 = .ok (.ireturn, 1) := by decide +kernel
set_option maxRecDepth 20000 in
theorem ggX3_hang_X3_paperAt : GoodIn wsX3_hang wsX3_paperAt := goodIn_ca (goodIn_r _ [8, 9, 10, 11, 24, 25, 26, 27, 28, 29, 30, 31] (by decide +kernel) (by decide +kernel)) (goodIn_sub (fun _ h => List.mem_cons_of_mem _ (List.mem_append_right _ h)) (by decide +kernel))
set_option maxRecDepth 20000 in
theorem gX3_hang_X3_paperAt : GoodIn wsX3_hang (wsV RX3 62 RX3 yX3_paperAt wsX3_paperAt) := goodIn_app (goodIn_of _ (by decide +kernel)) ggX3_hang_X3_paperAt
set_option maxRecDepth 20000 in
theorem ggX3_hang_X3_countOf : GoodIn wsX3_hang wsX3_countOf := goodIn_r _ [14] (by decide +kernel) (by decide +kernel)
set_option maxRecDepth 20000 in
theorem gX3_hang_X3_countOf : GoodIn wsX3_hang (va_wsS RX3 71 yX3_countOf wsX3_countOf) := goodIn_app (goodIn_of _ (by decide +kernel)) ggX3_hang_X3_countOf
theorem dX3_hang_0 : decode cX3_hang 0 = .ok (.aload_n 0, 1) := by decide +kernel
theorem dX3_hang_1 : decode cX3_hang 1 = .ok (.iload_n 1, 1) := by decide +kernel
theorem dX3_hang_2 : decode cX3_hang 2 = .ok (.invokevirtual 62, 3) := by decide +kernel
theorem dX3_hang_5 : decode cX3_hang 5 = .ok (.astore_n 3, 1) := by decide +kernel
theorem dX3_hang_6 : decode cX3_hang 6 = .ok (.aload_n 0, 1) := by decide +kernel
theorem dX3_hang_7 : decode cX3_hang 7 = .ok (.iload_n 2, 1) := by decide +kernel
theorem dX3_hang_8 : decode cX3_hang 8 = .ok (.invokevirtual 62, 3) := by decide +kernel
theorem dX3_hang_11 : decode cX3_hang 11 = .ok (.pop, 1) := by decide +kernel
theorem dX3_hang_12 : decode cX3_hang 12 = .ok (.iload_n 1, 1) := by decide +kernel
theorem dX3_hang_13 : decode cX3_hang 13 = .ok (.iload_n 2, 1) := by decide +kernel
theorem dX3_hang_14 : decode cX3_hang 14 = .ok (.if_icmp .ne 13, 3) := by decide +kernel
theorem dX3_hang_17 : decode cX3_hang 17 = .ok (.new 47, 3) := by decide +kernel
theorem dX3_hang_20 : decode cX3_hang 20 = .ok (.dup, 1) := by decide +kernel
theorem dX3_hang_21 : decode cX3_hang 21 = .ok (.ldc 66, 2) := by decide +kernel
theorem dX3_hang_23 : decode cX3_hang 23 = .ok (.invokespecial 51, 3) := by decide +kernel
theorem dX3_hang_26 : decode cX3_hang 26 = .ok (.athrow, 1) := by decide +kernel
theorem dX3_hang_27 : decode cX3_hang 27 = .ok (.aload_n 3, 1) := by decide +kernel
theorem dX3_hang_28 : decode cX3_hang 28 = .ok (.getfield 68, 3) := by decide +kernel
theorem dX3_hang_31 : decode cX3_hang 31 = .ok (.iload_n 2, 1) := by decide +kernel
theorem dX3_hang_32 : decode cX3_hang 32 = .ok (.iconst 1, 1) := by decide +kernel
theorem dX3_hang_33 : decode cX3_hang 33 = .ok (.bastore, 1) := by decide +kernel
theorem dX3_hang_34 : decode cX3_hang 34 = .ok (.aload_n 3, 1) := by decide +kernel
theorem dX3_hang_35 : decode cX3_hang 35 = .ok (.getfield 68, 3) := by decide +kernel
theorem dX3_hang_38 : decode cX3_hang 38 = .ok (.invokestatic 71, 3) := by decide +kernel
theorem dX3_hang_41 : decode cX3_hang 41 = .ok (.ireturn, 1) := by decide +kernel
set_option maxRecDepth 20000 in
theorem ggX3_setInterval_X3_checkRange : GoodIn wsX3_setInterval wsX3_checkRange := goodIn_ca (goodIn_r _ [5, 6, 7] (by decide +kernel) (by decide +kernel)) (goodIn_sub (fun _ h => List.mem_cons_of_mem _ (List.mem_append_right _ h)) (by decide +kernel))
set_option maxRecDepth 20000 in
theorem gX3_setInterval_X3_checkRange : GoodIn wsX3_setInterval (va_wsS RX3 75 yX3_checkRange wsX3_checkRange) := goodIn_app (goodIn_of _ (by decide +kernel)) ggX3_setInterval_X3_checkRange
theorem dX3_setInterval_0 : decode cX3_setInterval 0 = .ok (.iload_n 1, 1) := by decide +kernel
theorem dX3_setInterval_1 : decode cX3_setInterval 1 = .ok (.iconst 1, 1) := by decide +kernel
theorem dX3_setInterval_2 : decode cX3_setInterval 2 = .ok (.bipush 100, 2) := by decide +kernel
theorem dX3_setInterval_4 : decode cX3_setInterval 4 = .ok (.invokestatic 75, 3) := by decide +kernel
theorem dX3_setInterval_7 : decode cX3_setInterval 7 = .ok (.aload_n 0, 1) := by decide +kernel
theorem dX3_setInterval_8 : decode cX3_setInterval 8 = .ok (.getfield 37, 3) := by decide +kernel
theorem dX3_setInterval_11 : decode cX3_setInterval 11 = .ok (.istore_n 2, 1) := by decide +kernel
theorem dX3_setInterval_12 : decode cX3_setInterval 12 = .ok (.aload_n 0, 1) := by decide +kernel
theorem dX3_setInterval_13 : decode cX3_setInterval 13 = .ok (.iload_n 1, 1) := by decide +kernel
theorem dX3_setInterval_14 : decode cX3_setInterval 14 = .ok (.putfield 37, 3) := by decide +kernel
theorem dX3_setInterval_17 : decode cX3_setInterval 17 = .ok (.iload_n 2, 1) := by decide +kernel
theorem dX3_setInterval_18 : decode cX3_setInterval 18 = .ok (.ireturn, 1) := by decide +kernel
set_option maxRecDepth 20000 in
theorem ggX3_draft_X3_paperAt : GoodIn wsX3_draft wsX3_paperAt := goodIn_ca (goodIn_r _ [9, 10, 11, 12, 48, 49, 50, 51, 52, 53, 54, 55] (by decide +kernel) (by decide +kernel)) (goodIn_sub (fun _ h => List.mem_cons_of_mem _ (List.mem_append_left _ (List.mem_append_right _ h))) (by decide +kernel))
set_option maxRecDepth 20000 in
theorem gX3_draft_X3_paperAt : GoodIn wsX3_draft (wsV RX3 62 RX3 yX3_paperAt wsX3_paperAt) := goodIn_app (goodIn_of _ (by decide +kernel)) ggX3_draft_X3_paperAt
set_option maxRecDepth 20000 in
theorem ggX3_draft_X3_checkPerson : GoodIn wsX3_draft wsX3_checkPerson := goodIn_ca (goodIn_r _ [15, 16, 17, 8, 18, 19, 20] (by decide +kernel) (by decide +kernel)) (goodIn_sub (fun _ h => List.mem_cons_of_mem _ (List.mem_append_right _ h)) (by decide +kernel))
set_option maxRecDepth 20000 in
theorem gX3_draft_X3_checkPerson : GoodIn wsX3_draft (va_wsS RX3 43 yX3_checkPerson wsX3_checkPerson) := goodIn_app (goodIn_of _ (by decide +kernel)) ggX3_draft_X3_checkPerson
set_option maxRecDepth 20000 in
theorem ggX3_draft_X3_checkRange : GoodIn wsX3_draft wsX3_checkRange := goodIn_ca (goodIn_r _ [18, 19, 20] (by decide +kernel) (by decide +kernel)) (goodIn_sub (fun _ h => List.mem_cons_of_mem _ (List.mem_append_right _ h)) (by decide +kernel))
set_option maxRecDepth 20000 in
theorem gX3_draft_X3_checkRange : GoodIn wsX3_draft (va_wsS RX3 75 yX3_checkRange wsX3_checkRange) := goodIn_app (goodIn_of _ (by decide +kernel)) ggX3_draft_X3_checkRange
set_option maxRecDepth 20000 in
theorem ggX3_draft_X1_begin : GoodIn wsX3_draft wsX1_begin := goodIn_r _ [25, 26, 27, 28, 29, 30, 31, 32, 33, 24, 34, 35, 36, 37, 38, 56, 57, 58, 59, 60, 61, 62, 63, 64, 65, 66, 67] (by decide +kernel) (by decide +kernel)
set_option maxRecDepth 20000 in
theorem gX3_draft_X1_begin : GoodIn wsX3_draft (wsV RX3 89 RX1 yX1_begin wsX1_begin) := goodIn_app (goodIn_of _ (by decide +kernel)) ggX3_draft_X1_begin
theorem dX3_draft_0 : decode cX3_draft 0 = .ok (.aload_n 0, 1) := by decide +kernel
theorem dX3_draft_1 : decode cX3_draft 1 = .ok (.iload_n 1, 1) := by decide +kernel
theorem dX3_draft_2 : decode cX3_draft 2 = .ok (.invokevirtual 62, 3) := by decide +kernel
theorem dX3_draft_5 : decode cX3_draft 5 = .ok (.astore 4, 2) := by decide +kernel
theorem dX3_draft_7 : decode cX3_draft 7 = .ok (.iload_n 2, 1) := by decide +kernel
theorem dX3_draft_8 : decode cX3_draft 8 = .ok (.invokestatic 43, 3) := by decide +kernel
theorem dX3_draft_11 : decode cX3_draft 11 = .ok (.iload_n 3, 1) := by decide +kernel
theorem dX3_draft_12 : decode cX3_draft 12 = .ok (.iconst 0, 1) := by decide +kernel
theorem dX3_draft_13 : decode cX3_draft 13 = .ok (.sipush 9999, 3) := by decide +kernel
theorem dX3_draft_16 : decode cX3_draft 16 = .ok (.invokestatic 75, 3) := by decide +kernel
theorem dX3_draft_19 : decode cX3_draft 19 = .ok (.aload 4, 2) := by decide +kernel
theorem dX3_draft_21 : decode cX3_draft 21 = .ok (.getfield 79, 3) := by decide +kernel
theorem dX3_draft_24 : decode cX3_draft 24 = .ok (.ifCond .eq 13, 3) := by decide +kernel
theorem dX3_draft_27 : decode cX3_draft 27 = .ok (.new 54, 3) := by decide +kernel
theorem dX3_draft_30 : decode cX3_draft 30 = .ok (.dup, 1) := by decide +kernel
theorem dX3_draft_31 : decode cX3_draft 31 = .ok (.ldc 83, 2) := by decide +kernel
theorem dX3_draft_33 : decode cX3_draft 33 = .ok (.invokespecial 58, 3) := by decide +kernel
theorem dX3_draft_36 : decode cX3_draft 36 = .ok (.athrow, 1) := by decide +kernel
theorem dX3_draft_37 : decode cX3_draft 37 = .ok (.aload 4, 2) := by decide +kernel
theorem dX3_draft_39 : decode cX3_draft 39 = .ok (.iconst 1, 1) := by decide +kernel
theorem dX3_draft_40 : decode cX3_draft 40 = .ok (.putfield 79, 3) := by decide +kernel
theorem dX3_draft_43 : decode cX3_draft 43 = .ok (.aload 4, 2) := by decide +kernel
theorem dX3_draft_45 : decode cX3_draft 45 = .ok (.getfield 85, 3) := by decide +kernel
theorem dX3_draft_48 : decode cX3_draft 48 = .ok (.iload_n 2, 1) := by decide +kernel
theorem dX3_draft_49 : decode cX3_draft 49 = .ok (.iload_n 3, 1) := by decide +kernel
theorem dX3_draft_50 : decode cX3_draft 50 = .ok (.invokevirtual 89, 3) := by decide +kernel
theorem dX3_draft_53 : decode cX3_draft 53 = .ok (.return_, 1) := by decide +kernel
set_option maxRecDepth 20000 in
theorem ggX3_change_X3_paperAt : GoodIn wsX3_change wsX3_paperAt := goodIn_ca (goodIn_r _ [9, 10, 11, 12, 45, 46, 47, 48, 49, 50, 51, 52] (by decide +kernel) (by decide +kernel)) (goodIn_sub (fun _ h => List.mem_cons_of_mem _ (List.mem_append_left _ (List.mem_append_right _ h))) (by decide +kernel))
set_option maxRecDepth 20000 in
theorem gX3_change_X3_paperAt : GoodIn wsX3_change (wsV RX3 62 RX3 yX3_paperAt wsX3_paperAt) := goodIn_app (goodIn_of _ (by decide +kernel)) ggX3_change_X3_paperAt
set_option maxRecDepth 20000 in
theorem ggX3_change_X3_checkRange : GoodIn wsX3_change wsX3_checkRange := goodIn_ca (goodIn_r _ [15, 16, 17] (by decide +kernel) (by decide +kernel)) (goodIn_sub (fun _ h => List.mem_cons_of_mem _ (List.mem_append_right _ h)) (by decide +kernel))
set_option maxRecDepth 20000 in
theorem gX3_change_X3_checkRange : GoodIn wsX3_change (va_wsS RX3 75 yX3_checkRange wsX3_checkRange) := goodIn_app (goodIn_of _ (by decide +kernel)) ggX3_change_X3_checkRange
set_option maxRecDepth 20000 in
theorem ggX3_change_X3_draftOf : GoodIn wsX3_change wsX3_draftOf := goodIn_ca (goodIn_r _ [20, 1, 2, 21, 22, 53, 54, 55, 56, 57, 58, 59, 60, 61] (by decide +kernel) (by decide +kernel)) (goodIn_sub (fun _ h => List.mem_cons_of_mem _ (List.mem_append_left _ (List.mem_append_left _ (List.mem_append_right _ h)))) (by decide +kernel))
set_option maxRecDepth 20000 in
theorem gX3_change_X3_draftOf : GoodIn wsX3_change (va_wsS RX3 95 yX3_draftOf wsX3_draftOf) := goodIn_app (goodIn_of _ (by decide +kernel)) ggX3_change_X3_draftOf
set_option maxRecDepth 20000 in
theorem ggX3_change_X1_beginRound : GoodIn wsX3_change wsX1_beginRound := goodIn_r _ [27, 28, 29, 30, 31, 32, 33, 34, 35, 36, 37, 38, 39, 40, 41, 42, 43, 44] (by decide +kernel) (by decide +kernel)
set_option maxRecDepth 20000 in
theorem gX3_change_X1_beginRound : GoodIn wsX3_change (wsV RX3 104 RX1 yX1_beginRound wsX1_beginRound) := goodIn_app (goodIn_of _ (by decide +kernel)) ggX3_change_X1_beginRound
theorem dX3_change_0 : decode cX3_change 0 = .ok (.aload_n 0, 1) := by decide +kernel
theorem dX3_change_1 : decode cX3_change 1 = .ok (.iload_n 1, 1) := by decide +kernel
theorem dX3_change_2 : decode cX3_change 2 = .ok (.invokevirtual 62, 3) := by decide +kernel
theorem dX3_change_5 : decode cX3_change 5 = .ok (.astore_n 3, 1) := by decide +kernel
theorem dX3_change_6 : decode cX3_change 6 = .ok (.iload_n 2, 1) := by decide +kernel
theorem dX3_change_7 : decode cX3_change 7 = .ok (.iconst 0, 1) := by decide +kernel
theorem dX3_change_8 : decode cX3_change 8 = .ok (.sipush 9999, 3) := by decide +kernel
theorem dX3_change_11 : decode cX3_change 11 = .ok (.invokestatic 75, 3) := by decide +kernel
theorem dX3_change_14 : decode cX3_change 14 = .ok (.aload_n 3, 1) := by decide +kernel
theorem dX3_change_15 : decode cX3_change 15 = .ok (.invokestatic 95, 3) := by decide +kernel
theorem dX3_change_18 : decode cX3_change 18 = .ok (.astore 4, 2) := by decide +kernel
theorem dX3_change_20 : decode cX3_change 20 = .ok (.aload 4, 2) := by decide +kernel
theorem dX3_change_22 : decode cX3_change 22 = .ok (.getfield 99, 3) := by decide +kernel
theorem dX3_change_25 : decode cX3_change 25 = .ok (.iload_n 2, 1) := by decide +kernel
theorem dX3_change_26 : decode cX3_change 26 = .ok (.if_icmp .ne 13, 3) := by decide +kernel
theorem dX3_change_29 : decode cX3_change 29 = .ok (.new 54, 3) := by decide +kernel
theorem dX3_change_32 : decode cX3_change 32 = .ok (.dup, 1) := by decide +kernel
theorem dX3_change_33 : decode cX3_change 33 = .ok (.ldc 102, 2) := by decide +kernel
theorem dX3_change_35 : decode cX3_change 35 = .ok (.invokespecial 58, 3) := by decide +kernel
theorem dX3_change_38 : decode cX3_change 38 = .ok (.athrow, 1) := by decide +kernel
theorem dX3_change_39 : decode cX3_change 39 = .ok (.aload 4, 2) := by decide +kernel
theorem dX3_change_41 : decode cX3_change 41 = .ok (.iload_n 2, 1) := by decide +kernel
theorem dX3_change_42 : decode cX3_change 42 = .ok (.putfield 99, 3) := by decide +kernel
theorem dX3_change_45 : decode cX3_change 45 = .ok (.aload 4, 2) := by decide +kernel
theorem dX3_change_47 : decode cX3_change 47 = .ok (.invokevirtual 104, 3) := by decide +kernel
theorem dX3_change_50 : decode cX3_change 50 = .ok (.aload 4, 2) := by decide +kernel
theorem dX3_change_52 : decode cX3_change 52 = .ok (.getfield 107, 3) := by decide +kernel
theorem dX3_change_55 : decode cX3_change 55 = .ok (.ireturn, 1) := by decide +kernel
set_option maxRecDepth 20000 in
theorem ggX3_drop_X3_paperAt : GoodIn wsX3_drop wsX3_paperAt := goodIn_ca (goodIn_r _ [7, 8, 9, 10, 38, 39, 40, 41, 42, 43, 44, 45] (by decide +kernel) (by decide +kernel)) (goodIn_sub (fun _ h => List.mem_cons_of_mem _ (List.mem_append_left _ (List.mem_append_right _ h))) (by decide +kernel))
set_option maxRecDepth 20000 in
theorem gX3_drop_X3_paperAt : GoodIn wsX3_drop (wsV RX3 62 RX3 yX3_paperAt wsX3_paperAt) := goodIn_app (goodIn_of _ (by decide +kernel)) ggX3_drop_X3_paperAt
set_option maxRecDepth 20000 in
theorem ggX3_drop_X3_draftOf : GoodIn wsX3_drop wsX3_draftOf := goodIn_ca (goodIn_r _ [13, 14, 15, 1, 16, 17, 18, 19, 20, 21, 22, 23, 24, 25] (by decide +kernel) (by decide +kernel)) (goodIn_sub (fun _ h => List.mem_cons_of_mem _ (List.mem_append_right _ h)) (by decide +kernel))
set_option maxRecDepth 20000 in
theorem gX3_drop_X3_draftOf : GoodIn wsX3_drop (va_wsS RX3 95 yX3_draftOf wsX3_draftOf) := goodIn_app (goodIn_of _ (by decide +kernel)) ggX3_drop_X3_draftOf
theorem dX3_drop_0 : decode cX3_drop 0 = .ok (.aload_n 0, 1) := by decide +kernel
theorem dX3_drop_1 : decode cX3_drop 1 = .ok (.iload_n 1, 1) := by decide +kernel
theorem dX3_drop_2 : decode cX3_drop 2 = .ok (.invokevirtual 62, 3) := by decide +kernel
theorem dX3_drop_5 : decode cX3_drop 5 = .ok (.astore_n 2, 1) := by decide +kernel
theorem dX3_drop_6 : decode cX3_drop 6 = .ok (.aload_n 2, 1) := by decide +kernel
theorem dX3_drop_7 : decode cX3_drop 7 = .ok (.invokestatic 95, 3) := by decide +kernel
theorem dX3_drop_10 : decode cX3_drop 10 = .ok (.astore_n 3, 1) := by decide +kernel
theorem dX3_drop_11 : decode cX3_drop 11 = .ok (.aload_n 2, 1) := by decide +kernel
theorem dX3_drop_12 : decode cX3_drop 12 = .ok (.iconst 0, 1) := by decide +kernel
theorem dX3_drop_13 : decode cX3_drop 13 = .ok (.putfield 79, 3) := by decide +kernel
theorem dX3_drop_16 : decode cX3_drop 16 = .ok (.aload_n 3, 1) := by decide +kernel
theorem dX3_drop_17 : decode cX3_drop 17 = .ok (.getfield 99, 3) := by decide +kernel
theorem dX3_drop_20 : decode cX3_drop 20 = .ok (.ireturn, 1) := by decide +kernel
set_option maxRecDepth 20000 in
theorem ggX3_reviewer_X3_paperAt : GoodIn wsX3_reviewer wsX3_paperAt := goodIn_ca (goodIn_r _ [12, 13, 14, 15, 48, 49, 50, 51, 52, 53, 54, 55] (by decide +kernel) (by decide +kernel)) (goodIn_sub (fun _ h => List.mem_cons_of_mem _ (List.mem_append_left _ (List.mem_append_right _ h))) (by decide +kernel))
set_option maxRecDepth 20000 in
theorem gX3_reviewer_X3_paperAt : GoodIn wsX3_reviewer (wsV RX3 62 RX3 yX3_paperAt wsX3_paperAt) := goodIn_app (goodIn_of _ (by decide +kernel)) ggX3_reviewer_X3_paperAt
set_option maxRecDepth 20000 in
theorem ggX3_reviewer_X3_checkPerson : GoodIn wsX3_reviewer wsX3_checkPerson := goodIn_ca (goodIn_r _ [18, 19, 20, 11, 21, 22, 23] (by decide +kernel) (by decide +kernel)) (goodIn_sub (fun _ h => List.mem_cons_of_mem _ (List.mem_append_right _ h)) (by decide +kernel))
set_option maxRecDepth 20000 in
theorem gX3_reviewer_X3_checkPerson : GoodIn wsX3_reviewer (va_wsS RX3 43 yX3_checkPerson wsX3_checkPerson) := goodIn_app (goodIn_of _ (by decide +kernel)) ggX3_reviewer_X3_checkPerson
set_option maxRecDepth 20000 in
theorem ggX3_reviewer_X3_draftOf : GoodIn wsX3_reviewer wsX3_draftOf := goodIn_ca (goodIn_r _ [26, 1, 2, 27, 28, 56, 57, 58, 59, 60, 61, 62, 63, 64] (by decide +kernel) (by decide +kernel)) (goodIn_sub (fun _ h => List.mem_cons_of_mem _ (List.mem_append_left _ (List.mem_append_left _ (List.mem_append_right _ h)))) (by decide +kernel))
set_option maxRecDepth 20000 in
theorem gX3_reviewer_X3_draftOf : GoodIn wsX3_reviewer (va_wsS RX3 95 yX3_draftOf wsX3_draftOf) := goodIn_app (goodIn_of _ (by decide +kernel)) ggX3_reviewer_X3_draftOf
set_option maxRecDepth 20000 in
theorem ggX3_reviewer_X1_hasReviewer : GoodIn wsX3_reviewer wsX1_hasReviewer := goodIn_r _ [33, 34, 35, 36, 37, 38, 39, 40, 41, 42, 43, 44, 45, 46, 47] (by decide +kernel) (by decide +kernel)
set_option maxRecDepth 20000 in
theorem gX3_reviewer_X1_hasReviewer : GoodIn wsX3_reviewer (wsV RX3 120 RX1 yX1_hasReviewer wsX1_hasReviewer) := goodIn_app (goodIn_of _ (by decide +kernel)) ggX3_reviewer_X1_hasReviewer
theorem dX3_reviewer_0 : decode cX3_reviewer 0 = .ok (.aload_n 0, 1) := by decide +kernel
theorem dX3_reviewer_1 : decode cX3_reviewer 1 = .ok (.iload_n 1, 1) := by decide +kernel
theorem dX3_reviewer_2 : decode cX3_reviewer 2 = .ok (.invokevirtual 62, 3) := by decide +kernel
theorem dX3_reviewer_5 : decode cX3_reviewer 5 = .ok (.astore_n 3, 1) := by decide +kernel
theorem dX3_reviewer_6 : decode cX3_reviewer 6 = .ok (.iload_n 2, 1) := by decide +kernel
theorem dX3_reviewer_7 : decode cX3_reviewer 7 = .ok (.invokestatic 43, 3) := by decide +kernel
theorem dX3_reviewer_10 : decode cX3_reviewer 10 = .ok (.aload_n 3, 1) := by decide +kernel
theorem dX3_reviewer_11 : decode cX3_reviewer 11 = .ok (.invokestatic 95, 3) := by decide +kernel
theorem dX3_reviewer_14 : decode cX3_reviewer 14 = .ok (.astore 4, 2) := by decide +kernel
theorem dX3_reviewer_16 : decode cX3_reviewer 16 = .ok (.aload 4, 2) := by decide +kernel
theorem dX3_reviewer_18 : decode cX3_reviewer 18 = .ok (.getfield 110, 3) := by decide +kernel
theorem dX3_reviewer_21 : decode cX3_reviewer 21 = .ok (.ifCond .eq 13, 3) := by decide +kernel
theorem dX3_reviewer_24 : decode cX3_reviewer 24 = .ok (.new 54, 3) := by decide +kernel
theorem dX3_reviewer_27 : decode cX3_reviewer 27 = .ok (.dup, 1) := by decide +kernel
theorem dX3_reviewer_28 : decode cX3_reviewer 28 = .ok (.ldc 113, 2) := by decide +kernel
theorem dX3_reviewer_30 : decode cX3_reviewer 30 = .ok (.invokespecial 58, 3) := by decide +kernel
theorem dX3_reviewer_33 : decode cX3_reviewer 33 = .ok (.athrow, 1) := by decide +kernel
theorem dX3_reviewer_34 : decode cX3_reviewer 34 = .ok (.iload_n 2, 1) := by decide +kernel
theorem dX3_reviewer_35 : decode cX3_reviewer 35 = .ok (.aload 4, 2) := by decide +kernel
theorem dX3_reviewer_37 : decode cX3_reviewer 37 = .ok (.getfield 115, 3) := by decide +kernel
theorem dX3_reviewer_40 : decode cX3_reviewer 40 = .ok (.if_icmp .eq 12, 3) := by decide +kernel
theorem dX3_reviewer_43 : decode cX3_reviewer 43 = .ok (.aload_n 0, 1) := by decide +kernel
theorem dX3_reviewer_44 : decode cX3_reviewer 44 = .ok (.getfield 9, 3) := by decide +kernel
theorem dX3_reviewer_47 : decode cX3_reviewer 47 = .ok (.iload_n 2, 1) := by decide +kernel
theorem dX3_reviewer_48 : decode cX3_reviewer 48 = .ok (.baload, 1) := by decide +kernel
theorem dX3_reviewer_49 : decode cX3_reviewer 49 = .ok (.ifCond .ne 13, 3) := by decide +kernel
theorem dX3_reviewer_52 : decode cX3_reviewer 52 = .ok (.new 54, 3) := by decide +kernel
theorem dX3_reviewer_55 : decode cX3_reviewer 55 = .ok (.dup, 1) := by decide +kernel
theorem dX3_reviewer_56 : decode cX3_reviewer 56 = .ok (.ldc 118, 2) := by decide +kernel
theorem dX3_reviewer_58 : decode cX3_reviewer 58 = .ok (.invokespecial 58, 3) := by decide +kernel
theorem dX3_reviewer_61 : decode cX3_reviewer 61 = .ok (.athrow, 1) := by decide +kernel
theorem dX3_reviewer_62 : decode cX3_reviewer 62 = .ok (.aload 4, 2) := by decide +kernel
theorem dX3_reviewer_64 : decode cX3_reviewer 64 = .ok (.iload_n 2, 1) := by decide +kernel
theorem dX3_reviewer_65 : decode cX3_reviewer 65 = .ok (.invokevirtual 120, 3) := by decide +kernel
theorem dX3_reviewer_68 : decode cX3_reviewer 68 = .ok (.ifCond .ne 12, 3) := by decide +kernel
theorem dX3_reviewer_71 : decode cX3_reviewer 71 = .ok (.aload 4, 2) := by decide +kernel
theorem dX3_reviewer_73 : decode cX3_reviewer 73 = .ok (.getfield 124, 3) := by decide +kernel
theorem dX3_reviewer_76 : decode cX3_reviewer 76 = .ok (.iconst 4, 1) := by decide +kernel
theorem dX3_reviewer_77 : decode cX3_reviewer 77 = .ok (.if_icmp .lt 13, 3) := by decide +kernel
theorem dX3_reviewer_80 : decode cX3_reviewer 80 = .ok (.new 54, 3) := by decide +kernel
theorem dX3_reviewer_83 : decode cX3_reviewer 83 = .ok (.dup, 1) := by decide +kernel
theorem dX3_reviewer_84 : decode cX3_reviewer 84 = .ok (.ldc 127, 2) := by decide +kernel
theorem dX3_reviewer_86 : decode cX3_reviewer 86 = .ok (.invokespecial 58, 3) := by decide +kernel
theorem dX3_reviewer_89 : decode cX3_reviewer 89 = .ok (.athrow, 1) := by decide +kernel
theorem dX3_reviewer_90 : decode cX3_reviewer 90 = .ok (.aload 4, 2) := by decide +kernel
theorem dX3_reviewer_92 : decode cX3_reviewer 92 = .ok (.getfield 129, 3) := by decide +kernel
theorem dX3_reviewer_95 : decode cX3_reviewer 95 = .ok (.aload 4, 2) := by decide +kernel
theorem dX3_reviewer_97 : decode cX3_reviewer 97 = .ok (.getfield 124, 3) := by decide +kernel
theorem dX3_reviewer_100 : decode cX3_reviewer 100 = .ok (.iload_n 2, 1) := by decide +kernel
theorem dX3_reviewer_101 : decode cX3_reviewer 101 = .ok (.iastore, 1) := by decide +kernel
theorem dX3_reviewer_102 : decode cX3_reviewer 102 = .ok (.aload 4, 2) := by decide +kernel
theorem dX3_reviewer_104 : decode cX3_reviewer 104 = .ok (.dup, 1) := by decide +kernel
theorem dX3_reviewer_105 : decode cX3_reviewer 105 = .ok (.getfield 124, 3) := by decide +kernel
theorem dX3_reviewer_108 : decode cX3_reviewer 108 = .ok (.iconst 1, 1) := by decide +kernel
theorem dX3_reviewer_109 : decode cX3_reviewer 109 = .ok (.iadd, 1) := by decide +kernel
theorem dX3_reviewer_110 : decode cX3_reviewer 110 = .ok (.putfield 124, 3) := by decide +kernel
theorem dX3_reviewer_113 : decode cX3_reviewer 113 = .ok (.aload 4, 2) := by decide +kernel
theorem dX3_reviewer_115 : decode cX3_reviewer 115 = .ok (.getfield 124, 3) := by decide +kernel
theorem dX3_reviewer_118 : decode cX3_reviewer 118 = .ok (.ireturn, 1) := by decide +kernel
set_option maxRecDepth 20000 in
theorem ggX3_reader_X3_paperAt : GoodIn wsX3_reader wsX3_paperAt := goodIn_ca (goodIn_r _ [8, 9, 10, 11, 40, 41, 42, 43, 44, 45, 46, 47] (by decide +kernel) (by decide +kernel)) (goodIn_sub (fun _ h => List.mem_cons_of_mem _ (List.mem_append_left _ (List.mem_append_right _ h))) (by decide +kernel))
set_option maxRecDepth 20000 in
theorem gX3_reader_X3_paperAt : GoodIn wsX3_reader (wsV RX3 62 RX3 yX3_paperAt wsX3_paperAt) := goodIn_app (goodIn_of _ (by decide +kernel)) ggX3_reader_X3_paperAt
set_option maxRecDepth 20000 in
theorem ggX3_reader_X3_checkPerson : GoodIn wsX3_reader wsX3_checkPerson := goodIn_ca (goodIn_r _ [14, 15, 16, 7, 17, 18, 19] (by decide +kernel) (by decide +kernel)) (goodIn_sub (fun _ h => List.mem_cons_of_mem _ (List.mem_append_right _ h)) (by decide +kernel))
set_option maxRecDepth 20000 in
theorem gX3_reader_X3_checkPerson : GoodIn wsX3_reader (va_wsS RX3 43 yX3_checkPerson wsX3_checkPerson) := goodIn_app (goodIn_of _ (by decide +kernel)) ggX3_reader_X3_checkPerson
set_option maxRecDepth 20000 in
theorem ggX3_reader_X3_draftOf : GoodIn wsX3_reader wsX3_draftOf := goodIn_ca (goodIn_r _ [22, 1, 2, 23, 24, 48, 49, 50, 51, 52, 53, 54, 55, 56] (by decide +kernel) (by decide +kernel)) (goodIn_sub (fun _ h => List.mem_cons_of_mem _ (List.mem_append_left _ (List.mem_append_left _ (List.mem_append_right _ h)))) (by decide +kernel))
set_option maxRecDepth 20000 in
theorem gX3_reader_X3_draftOf : GoodIn wsX3_reader (va_wsS RX3 95 yX3_draftOf wsX3_draftOf) := goodIn_app (goodIn_of _ (by decide +kernel)) ggX3_reader_X3_draftOf
set_option maxRecDepth 20000 in
theorem ggX3_reader_X3_countOf : GoodIn wsX3_reader wsX3_countOf := goodIn_r _ [27] (by decide +kernel) (by decide +kernel)
set_option maxRecDepth 20000 in
theorem gX3_reader_X3_countOf : GoodIn wsX3_reader (va_wsS RX3 71 yX3_countOf wsX3_countOf) := goodIn_app (goodIn_of _ (by decide +kernel)) ggX3_reader_X3_countOf
theorem dX3_reader_0 : decode cX3_reader 0 = .ok (.aload_n 0, 1) := by decide +kernel
theorem dX3_reader_1 : decode cX3_reader 1 = .ok (.iload_n 1, 1) := by decide +kernel
theorem dX3_reader_2 : decode cX3_reader 2 = .ok (.invokevirtual 62, 3) := by decide +kernel
theorem dX3_reader_5 : decode cX3_reader 5 = .ok (.astore_n 3, 1) := by decide +kernel
theorem dX3_reader_6 : decode cX3_reader 6 = .ok (.iload_n 2, 1) := by decide +kernel
theorem dX3_reader_7 : decode cX3_reader 7 = .ok (.invokestatic 43, 3) := by decide +kernel
theorem dX3_reader_10 : decode cX3_reader 10 = .ok (.aload_n 3, 1) := by decide +kernel
theorem dX3_reader_11 : decode cX3_reader 11 = .ok (.invokestatic 95, 3) := by decide +kernel
theorem dX3_reader_14 : decode cX3_reader 14 = .ok (.astore 4, 2) := by decide +kernel
theorem dX3_reader_16 : decode cX3_reader 16 = .ok (.aload 4, 2) := by decide +kernel
theorem dX3_reader_18 : decode cX3_reader 18 = .ok (.getfield 132, 3) := by decide +kernel
theorem dX3_reader_21 : decode cX3_reader 21 = .ok (.iload_n 2, 1) := by decide +kernel
theorem dX3_reader_22 : decode cX3_reader 22 = .ok (.baload, 1) := by decide +kernel
theorem dX3_reader_23 : decode cX3_reader 23 = .ok (.ifCond .eq 13, 3) := by decide +kernel
theorem dX3_reader_26 : decode cX3_reader 26 = .ok (.new 54, 3) := by decide +kernel
theorem dX3_reader_29 : decode cX3_reader 29 = .ok (.dup, 1) := by decide +kernel
theorem dX3_reader_30 : decode cX3_reader 30 = .ok (.ldc 135, 2) := by decide +kernel
theorem dX3_reader_32 : decode cX3_reader 32 = .ok (.invokespecial 58, 3) := by decide +kernel
theorem dX3_reader_35 : decode cX3_reader 35 = .ok (.athrow, 1) := by decide +kernel
theorem dX3_reader_36 : decode cX3_reader 36 = .ok (.aload 4, 2) := by decide +kernel
theorem dX3_reader_38 : decode cX3_reader 38 = .ok (.getfield 132, 3) := by decide +kernel
theorem dX3_reader_41 : decode cX3_reader 41 = .ok (.iload_n 2, 1) := by decide +kernel
theorem dX3_reader_42 : decode cX3_reader 42 = .ok (.iconst 1, 1) := by decide +kernel
theorem dX3_reader_43 : decode cX3_reader 43 = .ok (.bastore, 1) := by decide +kernel
theorem dX3_reader_44 : decode cX3_reader 44 = .ok (.aload 4, 2) := by decide +kernel
theorem dX3_reader_46 : decode cX3_reader 46 = .ok (.getfield 132, 3) := by decide +kernel
theorem dX3_reader_49 : decode cX3_reader 49 = .ok (.invokestatic 71, 3) := by decide +kernel
theorem dX3_reader_52 : decode cX3_reader 52 = .ok (.ireturn, 1) := by decide +kernel
set_option maxRecDepth 20000 in
theorem ggX3_review_X3_paperAt : GoodIn wsX3_review wsX3_paperAt := goodIn_ca (goodIn_r _ [9, 10, 11, 12, 65, 66, 67, 68, 69, 70, 71, 72] (by decide +kernel) (by decide +kernel)) (goodIn_sub (fun _ h => List.mem_cons_of_mem _ (List.mem_append_left _ (List.mem_append_right _ h))) (by decide +kernel))
set_option maxRecDepth 20000 in
theorem gX3_review_X3_paperAt : GoodIn wsX3_review (wsV RX3 62 RX3 yX3_paperAt wsX3_paperAt) := goodIn_app (goodIn_of _ (by decide +kernel)) ggX3_review_X3_paperAt
set_option maxRecDepth 20000 in
theorem ggX3_review_X3_checkPerson : GoodIn wsX3_review wsX3_checkPerson := goodIn_ca (goodIn_r _ [15, 16, 17, 8, 18, 19, 20] (by decide +kernel) (by decide +kernel)) (goodIn_sub (fun _ h => List.mem_cons_of_mem _ (List.mem_append_right _ h)) (by decide +kernel))
set_option maxRecDepth 20000 in
theorem gX3_review_X3_checkPerson : GoodIn wsX3_review (va_wsS RX3 43 yX3_checkPerson wsX3_checkPerson) := goodIn_app (goodIn_of _ (by decide +kernel)) ggX3_review_X3_checkPerson
set_option maxRecDepth 20000 in
theorem ggX3_review_X3_draftOf : GoodIn wsX3_review wsX3_draftOf := goodIn_ca (goodIn_r _ [23, 1, 2, 24, 25, 56, 57, 58, 59, 60, 61, 62, 63, 64] (by decide +kernel) (by decide +kernel)) (goodIn_sub (fun _ h => List.mem_cons_of_mem _ (List.mem_append_left _ (List.mem_append_left _ (List.mem_append_right _ h)))) (by decide +kernel))
set_option maxRecDepth 20000 in
theorem gX3_review_X3_draftOf : GoodIn wsX3_review (va_wsS RX3 95 yX3_draftOf wsX3_draftOf) := goodIn_app (goodIn_of _ (by decide +kernel)) ggX3_review_X3_draftOf
set_option maxRecDepth 20000 in
theorem ggX3_review_X1_hasReviewer : GoodIn wsX3_review wsX1_hasReviewer := goodIn_r _ [30, 31, 32, 44, 45, 46, 47, 48, 49, 50, 51, 52, 53, 54, 55] (by decide +kernel) (by decide +kernel)
set_option maxRecDepth 20000 in
theorem gX3_review_X1_hasReviewer : GoodIn wsX3_review (wsV RX3 120 RX1 yX1_hasReviewer wsX1_hasReviewer) := goodIn_app (goodIn_of _ (by decide +kernel)) ggX3_review_X1_hasReviewer
set_option maxRecDepth 20000 in
theorem ggX3_review_X1_nextReviewer : GoodIn wsX3_review wsX1_nextReviewer := goodIn_r _ [36, 31, 37, 32, 44, 45, 46, 47, 48, 49, 50, 51, 52, 53, 54, 55] (by decide +kernel) (by decide +kernel)
set_option maxRecDepth 20000 in
theorem gX3_review_X1_nextReviewer : GoodIn wsX3_review (wsV RX3 145 RX1 yX1_nextReviewer wsX1_nextReviewer) := goodIn_app (goodIn_of _ (by decide +kernel)) ggX3_review_X1_nextReviewer
set_option maxRecDepth 20000 in
theorem ggX3_review_X1_addRemark : GoodIn wsX3_review wsX1_addRemark := goodIn_r _ [41, 42, 43, 44, 45, 46, 47, 48, 49, 50, 51, 52, 53, 54, 55] (by decide +kernel) (by decide +kernel)
set_option maxRecDepth 20000 in
theorem gX3_review_X1_addRemark : GoodIn wsX3_review (wsV RX3 151 RX1 yX1_addRemark wsX1_addRemark) := goodIn_app (goodIn_of _ (by decide +kernel)) ggX3_review_X1_addRemark
theorem dX3_review_0 : decode cX3_review 0 = .ok (.aload_n 0, 1) := by decide +kernel
theorem dX3_review_1 : decode cX3_review 1 = .ok (.iload_n 1, 1) := by decide +kernel
theorem dX3_review_2 : decode cX3_review 2 = .ok (.invokevirtual 62, 3) := by decide +kernel
theorem dX3_review_5 : decode cX3_review 5 = .ok (.astore 4, 2) := by decide +kernel
theorem dX3_review_7 : decode cX3_review 7 = .ok (.iload_n 2, 1) := by decide +kernel
theorem dX3_review_8 : decode cX3_review 8 = .ok (.invokestatic 43, 3) := by decide +kernel
theorem dX3_review_11 : decode cX3_review 11 = .ok (.aload 4, 2) := by decide +kernel
theorem dX3_review_13 : decode cX3_review 13 = .ok (.invokestatic 95, 3) := by decide +kernel
theorem dX3_review_16 : decode cX3_review 16 = .ok (.astore 5, 2) := by decide +kernel
theorem dX3_review_18 : decode cX3_review 18 = .ok (.aload 5, 2) := by decide +kernel
theorem dX3_review_20 : decode cX3_review 20 = .ok (.iload_n 2, 1) := by decide +kernel
theorem dX3_review_21 : decode cX3_review 21 = .ok (.invokevirtual 120, 3) := by decide +kernel
theorem dX3_review_24 : decode cX3_review 24 = .ok (.ifCond .eq 13, 3) := by decide +kernel
theorem dX3_review_27 : decode cX3_review 27 = .ok (.aload 5, 2) := by decide +kernel
theorem dX3_review_29 : decode cX3_review 29 = .ok (.getfield 137, 3) := by decide +kernel
theorem dX3_review_32 : decode cX3_review 32 = .ok (.iload_n 2, 1) := by decide +kernel
theorem dX3_review_33 : decode cX3_review 33 = .ok (.baload, 1) := by decide +kernel
theorem dX3_review_34 : decode cX3_review 34 = .ok (.ifCond .eq 13, 3) := by decide +kernel
theorem dX3_review_37 : decode cX3_review 37 = .ok (.new 54, 3) := by decide +kernel
theorem dX3_review_40 : decode cX3_review 40 = .ok (.dup, 1) := by decide +kernel
theorem dX3_review_41 : decode cX3_review 41 = .ok (.ldc 140, 2) := by decide +kernel
theorem dX3_review_43 : decode cX3_review 43 = .ok (.invokespecial 58, 3) := by decide +kernel
theorem dX3_review_46 : decode cX3_review 46 = .ok (.athrow, 1) := by decide +kernel
theorem dX3_review_47 : decode cX3_review 47 = .ok (.aload 4, 2) := by decide +kernel
theorem dX3_review_49 : decode cX3_review 49 = .ok (.getfield 142, 3) := by decide +kernel
theorem dX3_review_52 : decode cX3_review 52 = .ok (.ifCond .eq 22, 3) := by decide +kernel
theorem dX3_review_55 : decode cX3_review 55 = .ok (.aload 5, 2) := by decide +kernel
theorem dX3_review_57 : decode cX3_review 57 = .ok (.invokevirtual 145, 3) := by decide +kernel
theorem dX3_review_60 : decode cX3_review 60 = .ok (.iload_n 2, 1) := by decide +kernel
theorem dX3_review_61 : decode cX3_review 61 = .ok (.if_icmp .eq 13, 3) := by decide +kernel
theorem dX3_review_64 : decode cX3_review 64 = .ok (.new 54, 3) := by decide +kernel
theorem dX3_review_67 : decode cX3_review 67 = .ok (.dup, 1) := by decide +kernel
theorem dX3_review_68 : decode cX3_review 68 = .ok (.ldc 149, 2) := by decide +kernel
theorem dX3_review_70 : decode cX3_review 70 = .ok (.invokespecial 58, 3) := by decide +kernel
theorem dX3_review_73 : decode cX3_review 73 = .ok (.athrow, 1) := by decide +kernel
theorem dX3_review_74 : decode cX3_review 74 = .ok (.aload 5, 2) := by decide +kernel
theorem dX3_review_76 : decode cX3_review 76 = .ok (.getfield 137, 3) := by decide +kernel
theorem dX3_review_79 : decode cX3_review 79 = .ok (.iload_n 2, 1) := by decide +kernel
theorem dX3_review_80 : decode cX3_review 80 = .ok (.iconst 1, 1) := by decide +kernel
theorem dX3_review_81 : decode cX3_review 81 = .ok (.bastore, 1) := by decide +kernel
theorem dX3_review_82 : decode cX3_review 82 = .ok (.iload_n 3, 1) := by decide +kernel
theorem dX3_review_83 : decode cX3_review 83 = .ok (.ifCond .eq 11, 3) := by decide +kernel
theorem dX3_review_86 : decode cX3_review 86 = .ok (.aload 5, 2) := by decide +kernel
theorem dX3_review_88 : decode cX3_review 88 = .ok (.invokevirtual 151, 3) := by decide +kernel
theorem dX3_review_91 : decode cX3_review 91 = .ok (.goto 4, 3) := by decide +kernel
theorem dX3_review_94 : decode cX3_review 94 = .ok (.iconst (-1), 1) := by decide +kernel
theorem dX3_review_95 : decode cX3_review 95 = .ok (.ireturn, 1) := by decide +kernel
set_option maxRecDepth 20000 in
theorem ggX3_answer_X3_paperAt : GoodIn wsX3_answer wsX3_paperAt := goodIn_ca (goodIn_r _ [11, 1, 2, 12, 37, 38, 39, 40, 41, 42, 43, 44] (by decide +kernel) (by decide +kernel)) (goodIn_sub (fun _ h => List.mem_cons_of_mem _ (List.mem_append_left _ (List.mem_append_right _ h))) (by decide +kernel))
set_option maxRecDepth 20000 in
theorem gX3_answer_X3_paperAt : GoodIn wsX3_answer (wsV RX3 62 RX3 yX3_paperAt wsX3_paperAt) := goodIn_app (goodIn_of _ (by decide +kernel)) ggX3_answer_X3_paperAt
set_option maxRecDepth 20000 in
theorem ggX3_answer_X3_draftOf : GoodIn wsX3_answer wsX3_draftOf := goodIn_ca (goodIn_r _ [15, 3, 4, 16, 17, 45, 46, 47, 48, 49, 50, 51, 52, 53] (by decide +kernel) (by decide +kernel)) (goodIn_sub (fun _ h => List.mem_cons_of_mem _ (List.mem_append_right _ h)) (by decide +kernel))
set_option maxRecDepth 20000 in
theorem gX3_answer_X3_draftOf : GoodIn wsX3_answer (va_wsS RX3 95 yX3_draftOf wsX3_draftOf) := goodIn_app (goodIn_of _ (by decide +kernel)) ggX3_answer_X3_draftOf
set_option maxRecDepth 20000 in
theorem ggX3_answer_X1_openRemarks : GoodIn wsX3_answer wsX1_openRemarks := goodIn_r _ [22, 23, 24, 25, 26, 27, 28, 29, 30, 31, 32, 33, 34, 35, 36] (by decide +kernel) (by decide +kernel)
set_option maxRecDepth 20000 in
theorem gX3_answer_X1_openRemarks : GoodIn wsX3_answer (wsV RX3 167 RX1 yX1_openRemarks wsX1_openRemarks) := goodIn_app (goodIn_of _ (by decide +kernel)) ggX3_answer_X1_openRemarks
theorem dX3_answer_0 : decode cX3_answer 0 = .ok (.aload_n 0, 1) := by decide +kernel
theorem dX3_answer_1 : decode cX3_answer 1 = .ok (.iload_n 1, 1) := by decide +kernel
theorem dX3_answer_2 : decode cX3_answer 2 = .ok (.invokevirtual 62, 3) := by decide +kernel
theorem dX3_answer_5 : decode cX3_answer 5 = .ok (.astore_n 3, 1) := by decide +kernel
theorem dX3_answer_6 : decode cX3_answer 6 = .ok (.aload_n 3, 1) := by decide +kernel
theorem dX3_answer_7 : decode cX3_answer 7 = .ok (.invokestatic 95, 3) := by decide +kernel
theorem dX3_answer_10 : decode cX3_answer 10 = .ok (.astore 4, 2) := by decide +kernel
theorem dX3_answer_12 : decode cX3_answer 12 = .ok (.iload_n 2, 1) := by decide +kernel
theorem dX3_answer_13 : decode cX3_answer 13 = .ok (.ifCond .lt 12, 3) := by decide +kernel
theorem dX3_answer_16 : decode cX3_answer 16 = .ok (.iload_n 2, 1) := by decide +kernel
theorem dX3_answer_17 : decode cX3_answer 17 = .ok (.aload 4, 2) := by decide +kernel
theorem dX3_answer_19 : decode cX3_answer 19 = .ok (.getfield 154, 3) := by decide +kernel
theorem dX3_answer_22 : decode cX3_answer 22 = .ok (.if_icmp .lt 13, 3) := by decide +kernel
theorem dX3_answer_25 : decode cX3_answer 25 = .ok (.new 157, 3) := by decide +kernel
theorem dX3_answer_28 : decode cX3_answer 28 = .ok (.dup, 1) := by decide +kernel
theorem dX3_answer_29 : decode cX3_answer 29 = .ok (.ldc 159, 2) := by decide +kernel
theorem dX3_answer_31 : decode cX3_answer 31 = .ok (.invokespecial 161, 3) := by decide +kernel
theorem dX3_answer_34 : decode cX3_answer 34 = .ok (.athrow, 1) := by decide +kernel
theorem dX3_answer_35 : decode cX3_answer 35 = .ok (.aload 4, 2) := by decide +kernel
theorem dX3_answer_37 : decode cX3_answer 37 = .ok (.getfield 162, 3) := by decide +kernel
theorem dX3_answer_40 : decode cX3_answer 40 = .ok (.iload_n 2, 1) := by decide +kernel
theorem dX3_answer_41 : decode cX3_answer 41 = .ok (.baload, 1) := by decide +kernel
theorem dX3_answer_42 : decode cX3_answer 42 = .ok (.ifCond .eq 13, 3) := by decide +kernel
theorem dX3_answer_45 : decode cX3_answer 45 = .ok (.new 54, 3) := by decide +kernel
theorem dX3_answer_48 : decode cX3_answer 48 = .ok (.dup, 1) := by decide +kernel
theorem dX3_answer_49 : decode cX3_answer 49 = .ok (.ldc 165, 2) := by decide +kernel
theorem dX3_answer_51 : decode cX3_answer 51 = .ok (.invokespecial 58, 3) := by decide +kernel
theorem dX3_answer_54 : decode cX3_answer 54 = .ok (.athrow, 1) := by decide +kernel
theorem dX3_answer_55 : decode cX3_answer 55 = .ok (.aload 4, 2) := by decide +kernel
theorem dX3_answer_57 : decode cX3_answer 57 = .ok (.getfield 162, 3) := by decide +kernel
theorem dX3_answer_60 : decode cX3_answer 60 = .ok (.iload_n 2, 1) := by decide +kernel
theorem dX3_answer_61 : decode cX3_answer 61 = .ok (.iconst 1, 1) := by decide +kernel
theorem dX3_answer_62 : decode cX3_answer 62 = .ok (.bastore, 1) := by decide +kernel
theorem dX3_answer_63 : decode cX3_answer 63 = .ok (.aload 4, 2) := by decide +kernel
theorem dX3_answer_65 : decode cX3_answer 65 = .ok (.invokevirtual 167, 3) := by decide +kernel
theorem dX3_answer_68 : decode cX3_answer 68 = .ok (.ireturn, 1) := by decide +kernel
set_option maxRecDepth 20000 in
theorem ggX3_approve_X3_paperAt : GoodIn wsX3_approve wsX3_paperAt := goodIn_ca (goodIn_r _ [11, 12, 13, 14, 59, 60, 61, 62, 63, 64, 65, 66] (by decide +kernel) (by decide +kernel)) (goodIn_sub (fun _ h => List.mem_cons_of_mem _ (List.mem_append_left _ (List.mem_append_right _ h))) (by decide +kernel))
set_option maxRecDepth 20000 in
theorem gX3_approve_X3_paperAt : GoodIn wsX3_approve (wsV RX3 62 RX3 yX3_paperAt wsX3_paperAt) := goodIn_app (goodIn_of _ (by decide +kernel)) ggX3_approve_X3_paperAt
set_option maxRecDepth 20000 in
theorem ggX3_approve_X3_checkPerson : GoodIn wsX3_approve wsX3_checkPerson := goodIn_ca (goodIn_r _ [17, 18, 19, 10, 20, 21, 22] (by decide +kernel) (by decide +kernel)) (goodIn_sub (fun _ h => List.mem_cons_of_mem _ (List.mem_append_right _ h)) (by decide +kernel))
set_option maxRecDepth 20000 in
theorem gX3_approve_X3_checkPerson : GoodIn wsX3_approve (va_wsS RX3 43 yX3_checkPerson wsX3_checkPerson) := goodIn_app (goodIn_of _ (by decide +kernel)) ggX3_approve_X3_checkPerson
set_option maxRecDepth 20000 in
theorem ggX3_approve_X3_checkRange : GoodIn wsX3_approve wsX3_checkRange := goodIn_ca (goodIn_r _ [20, 21, 22] (by decide +kernel) (by decide +kernel)) (goodIn_sub (fun _ h => List.mem_cons_of_mem _ (List.mem_append_right _ h)) (by decide +kernel))
set_option maxRecDepth 20000 in
theorem gX3_approve_X3_checkRange : GoodIn wsX3_approve (va_wsS RX3 75 yX3_checkRange wsX3_checkRange) := goodIn_app (goodIn_of _ (by decide +kernel)) ggX3_approve_X3_checkRange
set_option maxRecDepth 20000 in
theorem ggX3_approve_X3_draftOf : GoodIn wsX3_approve wsX3_draftOf := goodIn_ca (goodIn_r _ [25, 1, 2, 26, 27, 79, 80, 81, 82, 83, 84, 85, 86, 87] (by decide +kernel) (by decide +kernel)) (goodIn_sub (fun _ h => List.mem_cons_of_mem _ (List.mem_append_left _ (List.mem_append_left _ (List.mem_append_right _ h)))) (by decide +kernel))
end
section
set_option maxRecDepth 20000 in
theorem gX3_approve_X3_draftOf : GoodIn wsX3_approve (va_wsS RX3 95 yX3_draftOf wsX3_draftOf) := goodIn_app (goodIn_of _ (by decide +kernel)) ggX3_approve_X3_draftOf
set_option maxRecDepth 20000 in
theorem ggX3_approve_X1_nextStep : GoodIn wsX3_approve wsX1_nextStep := goodIn_r _ [32, 33, 34, 35, 36, 37, 31, 38, 39, 40, 41, 42, 43, 44, 45, 46, 47, 48, 49, 50, 51, 52, 67, 68, 69, 70, 71, 72, 73, 74, 75, 76, 77, 78] (by decide +kernel) (by decide +kernel)
set_option maxRecDepth 20000 in
theorem gX3_approve_X1_nextStep : GoodIn wsX3_approve (wsV RX3 170 RX1 yX1_nextStep wsX1_nextStep) := goodIn_app (goodIn_of _ (by decide +kernel)) ggX3_approve_X1_nextStep
set_option maxRecDepth 20000 in
theorem ggX3_approve_X3_canApprove : GoodIn wsX3_approve wsX3_canApprove := goodIn_r _ [56, 57, 58, 59, 60, 61, 62, 63, 64, 65, 66] (by decide +kernel) (by decide +kernel)
set_option maxRecDepth 20000 in
theorem gX3_approve_X3_canApprove : GoodIn wsX3_approve (wsV RX3 175 RX3 yX3_canApprove wsX3_canApprove) := goodIn_app (goodIn_of _ (by decide +kernel)) ggX3_approve_X3_canApprove
theorem dX3_approve_0 : decode cX3_approve 0 = .ok (.aload_n 0, 1) := by decide +kernel
theorem dX3_approve_1 : decode cX3_approve 1 = .ok (.iload_n 1, 1) := by decide +kernel
theorem dX3_approve_2 : decode cX3_approve 2 = .ok (.invokevirtual 62, 3) := by decide +kernel
theorem dX3_approve_5 : decode cX3_approve 5 = .ok (.astore 4, 2) := by decide +kernel
theorem dX3_approve_7 : decode cX3_approve 7 = .ok (.iload_n 2, 1) := by decide +kernel
theorem dX3_approve_8 : decode cX3_approve 8 = .ok (.invokestatic 43, 3) := by decide +kernel
theorem dX3_approve_11 : decode cX3_approve 11 = .ok (.iload_n 3, 1) := by decide +kernel
theorem dX3_approve_12 : decode cX3_approve 12 = .ok (.aload_n 0, 1) := by decide +kernel
theorem dX3_approve_13 : decode cX3_approve 13 = .ok (.getfield 40, 3) := by decide +kernel
theorem dX3_approve_16 : decode cX3_approve 16 = .ok (.iconst 1, 1) := by decide +kernel
theorem dX3_approve_17 : decode cX3_approve 17 = .ok (.iadd, 1) := by decide +kernel
theorem dX3_approve_18 : decode cX3_approve 18 = .ok (.sipush 1000, 3) := by decide +kernel
theorem dX3_approve_21 : decode cX3_approve 21 = .ok (.invokestatic 75, 3) := by decide +kernel
theorem dX3_approve_24 : decode cX3_approve 24 = .ok (.aload 4, 2) := by decide +kernel
theorem dX3_approve_26 : decode cX3_approve 26 = .ok (.invokestatic 95, 3) := by decide +kernel
theorem dX3_approve_29 : decode cX3_approve 29 = .ok (.astore 5, 2) := by decide +kernel
theorem dX3_approve_31 : decode cX3_approve 31 = .ok (.aload 5, 2) := by decide +kernel
theorem dX3_approve_33 : decode cX3_approve 33 = .ok (.invokevirtual 170, 3) := by decide +kernel
theorem dX3_approve_36 : decode cX3_approve 36 = .ok (.iconst 3, 1) := by decide +kernel
theorem dX3_approve_37 : decode cX3_approve 37 = .ok (.if_icmp .eq 13, 3) := by decide +kernel
theorem dX3_approve_40 : decode cX3_approve 40 = .ok (.new 54, 3) := by decide +kernel
theorem dX3_approve_43 : decode cX3_approve 43 = .ok (.dup, 1) := by decide +kernel
theorem dX3_approve_44 : decode cX3_approve 44 = .ok (.ldc 173, 2) := by decide +kernel
theorem dX3_approve_46 : decode cX3_approve 46 = .ok (.invokespecial 58, 3) := by decide +kernel
theorem dX3_approve_49 : decode cX3_approve 49 = .ok (.athrow, 1) := by decide +kernel
theorem dX3_approve_50 : decode cX3_approve 50 = .ok (.iload_n 2, 1) := by decide +kernel
theorem dX3_approve_51 : decode cX3_approve 51 = .ok (.aload 5, 2) := by decide +kernel
theorem dX3_approve_53 : decode cX3_approve 53 = .ok (.getfield 115, 3) := by decide +kernel
theorem dX3_approve_56 : decode cX3_approve 56 = .ok (.if_icmp .eq 11, 3) := by decide +kernel
theorem dX3_approve_59 : decode cX3_approve 59 = .ok (.aload_n 0, 1) := by decide +kernel
theorem dX3_approve_60 : decode cX3_approve 60 = .ok (.iload_n 2, 1) := by decide +kernel
theorem dX3_approve_61 : decode cX3_approve 61 = .ok (.invokevirtual 175, 3) := by decide +kernel
theorem dX3_approve_64 : decode cX3_approve 64 = .ok (.ifCond .ne 13, 3) := by decide +kernel
theorem dX3_approve_67 : decode cX3_approve 67 = .ok (.new 54, 3) := by decide +kernel
theorem dX3_approve_70 : decode cX3_approve 70 = .ok (.dup, 1) := by decide +kernel
theorem dX3_approve_71 : decode cX3_approve 71 = .ok (.ldc 178, 2) := by decide +kernel
theorem dX3_approve_73 : decode cX3_approve 73 = .ok (.invokespecial 58, 3) := by decide +kernel
theorem dX3_approve_76 : decode cX3_approve 76 = .ok (.athrow, 1) := by decide +kernel
theorem dX3_approve_77 : decode cX3_approve 77 = .ok (.aload 5, 2) := by decide +kernel
theorem dX3_approve_79 : decode cX3_approve 79 = .ok (.iconst 1, 1) := by decide +kernel
theorem dX3_approve_80 : decode cX3_approve 80 = .ok (.putfield 110, 3) := by decide +kernel
theorem dX3_approve_83 : decode cX3_approve 83 = .ok (.aload 5, 2) := by decide +kernel
theorem dX3_approve_85 : decode cX3_approve 85 = .ok (.iload_n 3, 1) := by decide +kernel
theorem dX3_approve_86 : decode cX3_approve 86 = .ok (.putfield 180, 3) := by decide +kernel
theorem dX3_approve_89 : decode cX3_approve 89 = .ok (.return_, 1) := by decide +kernel
set_option maxRecDepth 20000 in
theorem ggX3_confirm_X3_paperAt : GoodIn wsX3_confirm wsX3_paperAt := goodIn_ca (goodIn_r _ [10, 11, 12, 13, 42, 43, 44, 45, 46, 47, 48, 49] (by decide +kernel) (by decide +kernel)) (goodIn_sub (fun _ h => List.mem_cons_of_mem _ (List.mem_append_left _ (List.mem_append_right _ h))) (by decide +kernel))
set_option maxRecDepth 20000 in
theorem gX3_confirm_X3_paperAt : GoodIn wsX3_confirm (wsV RX3 62 RX3 yX3_paperAt wsX3_paperAt) := goodIn_app (goodIn_of _ (by decide +kernel)) ggX3_confirm_X3_paperAt
set_option maxRecDepth 20000 in
theorem ggX3_confirm_X3_checkPerson : GoodIn wsX3_confirm wsX3_checkPerson := goodIn_ca (goodIn_r _ [16, 17, 18, 9, 19, 20, 21] (by decide +kernel) (by decide +kernel)) (goodIn_sub (fun _ h => List.mem_cons_of_mem _ (List.mem_append_right _ h)) (by decide +kernel))
set_option maxRecDepth 20000 in
theorem gX3_confirm_X3_checkPerson : GoodIn wsX3_confirm (va_wsS RX3 43 yX3_checkPerson wsX3_checkPerson) := goodIn_app (goodIn_of _ (by decide +kernel)) ggX3_confirm_X3_checkPerson
set_option maxRecDepth 20000 in
theorem ggX3_confirm_X3_draftOf : GoodIn wsX3_confirm wsX3_draftOf := goodIn_ca (goodIn_r _ [24, 1, 2, 25, 26, 50, 51, 52, 53, 54, 55, 56, 57, 58] (by decide +kernel) (by decide +kernel)) (goodIn_sub (fun _ h => List.mem_cons_of_mem _ (List.mem_append_left _ (List.mem_append_left _ (List.mem_append_right _ h)))) (by decide +kernel))
set_option maxRecDepth 20000 in
theorem gX3_confirm_X3_draftOf : GoodIn wsX3_confirm (va_wsS RX3 95 yX3_draftOf wsX3_draftOf) := goodIn_app (goodIn_of _ (by decide +kernel)) ggX3_confirm_X3_draftOf
set_option maxRecDepth 20000 in
theorem ggX3_confirm_X3_countOf : GoodIn wsX3_confirm wsX3_countOf := goodIn_r _ [29] (by decide +kernel) (by decide +kernel)
set_option maxRecDepth 20000 in
theorem gX3_confirm_X3_countOf : GoodIn wsX3_confirm (va_wsS RX3 71 yX3_countOf wsX3_countOf) := goodIn_app (goodIn_of _ (by decide +kernel)) ggX3_confirm_X3_countOf
theorem dX3_confirm_0 : decode cX3_confirm 0 = .ok (.aload_n 0, 1) := by decide +kernel
theorem dX3_confirm_1 : decode cX3_confirm 1 = .ok (.iload_n 1, 1) := by decide +kernel
theorem dX3_confirm_2 : decode cX3_confirm 2 = .ok (.invokevirtual 62, 3) := by decide +kernel
theorem dX3_confirm_5 : decode cX3_confirm 5 = .ok (.astore_n 3, 1) := by decide +kernel
theorem dX3_confirm_6 : decode cX3_confirm 6 = .ok (.iload_n 2, 1) := by decide +kernel
theorem dX3_confirm_7 : decode cX3_confirm 7 = .ok (.invokestatic 43, 3) := by decide +kernel
theorem dX3_confirm_10 : decode cX3_confirm 10 = .ok (.aload_n 3, 1) := by decide +kernel
theorem dX3_confirm_11 : decode cX3_confirm 11 = .ok (.invokestatic 95, 3) := by decide +kernel
theorem dX3_confirm_14 : decode cX3_confirm 14 = .ok (.astore 4, 2) := by decide +kernel
theorem dX3_confirm_16 : decode cX3_confirm 16 = .ok (.aload 4, 2) := by decide +kernel
theorem dX3_confirm_18 : decode cX3_confirm 18 = .ok (.getfield 110, 3) := by decide +kernel
theorem dX3_confirm_21 : decode cX3_confirm 21 = .ok (.ifCond .ne 13, 3) := by decide +kernel
theorem dX3_confirm_24 : decode cX3_confirm 24 = .ok (.new 54, 3) := by decide +kernel
theorem dX3_confirm_27 : decode cX3_confirm 27 = .ok (.dup, 1) := by decide +kernel
theorem dX3_confirm_28 : decode cX3_confirm 28 = .ok (.ldc 183, 2) := by decide +kernel
theorem dX3_confirm_30 : decode cX3_confirm 30 = .ok (.invokespecial 58, 3) := by decide +kernel
theorem dX3_confirm_33 : decode cX3_confirm 33 = .ok (.athrow, 1) := by decide +kernel
theorem dX3_confirm_34 : decode cX3_confirm 34 = .ok (.aload 4, 2) := by decide +kernel
theorem dX3_confirm_36 : decode cX3_confirm 36 = .ok (.getfield 132, 3) := by decide +kernel
theorem dX3_confirm_39 : decode cX3_confirm 39 = .ok (.iload_n 2, 1) := by decide +kernel
theorem dX3_confirm_40 : decode cX3_confirm 40 = .ok (.baload, 1) := by decide +kernel
theorem dX3_confirm_41 : decode cX3_confirm 41 = .ok (.ifCond .eq 13, 3) := by decide +kernel
theorem dX3_confirm_44 : decode cX3_confirm 44 = .ok (.aload 4, 2) := by decide +kernel
theorem dX3_confirm_46 : decode cX3_confirm 46 = .ok (.getfield 185, 3) := by decide +kernel
theorem dX3_confirm_49 : decode cX3_confirm 49 = .ok (.iload_n 2, 1) := by decide +kernel
theorem dX3_confirm_50 : decode cX3_confirm 50 = .ok (.baload, 1) := by decide +kernel
theorem dX3_confirm_51 : decode cX3_confirm 51 = .ok (.ifCond .eq 13, 3) := by decide +kernel
theorem dX3_confirm_54 : decode cX3_confirm 54 = .ok (.new 54, 3) := by decide +kernel
theorem dX3_confirm_57 : decode cX3_confirm 57 = .ok (.dup, 1) := by decide +kernel
theorem dX3_confirm_58 : decode cX3_confirm 58 = .ok (.ldc 188, 2) := by decide +kernel
theorem dX3_confirm_60 : decode cX3_confirm 60 = .ok (.invokespecial 58, 3) := by decide +kernel
theorem dX3_confirm_63 : decode cX3_confirm 63 = .ok (.athrow, 1) := by decide +kernel
theorem dX3_confirm_64 : decode cX3_confirm 64 = .ok (.aload 4, 2) := by decide +kernel
theorem dX3_confirm_66 : decode cX3_confirm 66 = .ok (.getfield 185, 3) := by decide +kernel
theorem dX3_confirm_69 : decode cX3_confirm 69 = .ok (.iload_n 2, 1) := by decide +kernel
theorem dX3_confirm_70 : decode cX3_confirm 70 = .ok (.iconst 1, 1) := by decide +kernel
theorem dX3_confirm_71 : decode cX3_confirm 71 = .ok (.bastore, 1) := by decide +kernel
theorem dX3_confirm_72 : decode cX3_confirm 72 = .ok (.aload 4, 2) := by decide +kernel
theorem dX3_confirm_74 : decode cX3_confirm 74 = .ok (.getfield 132, 3) := by decide +kernel
theorem dX3_confirm_77 : decode cX3_confirm 77 = .ok (.invokestatic 71, 3) := by decide +kernel
theorem dX3_confirm_80 : decode cX3_confirm 80 = .ok (.aload 4, 2) := by decide +kernel
theorem dX3_confirm_82 : decode cX3_confirm 82 = .ok (.getfield 185, 3) := by decide +kernel
theorem dX3_confirm_85 : decode cX3_confirm 85 = .ok (.invokestatic 71, 3) := by decide +kernel
theorem dX3_confirm_88 : decode cX3_confirm 88 = .ok (.isub, 1) := by decide +kernel
theorem dX3_confirm_89 : decode cX3_confirm 89 = .ok (.ireturn, 1) := by decide +kernel
set_option maxRecDepth 20000 in
theorem ggX3_pass_X3_checkRange : GoodIn wsX3_pass wsX3_checkRange := goodIn_ca (goodIn_r _ [7, 8, 9] (by decide +kernel) (by decide +kernel)) (goodIn_sub (fun _ h => List.mem_cons_of_mem _ (List.mem_append_right _ h)) (by decide +kernel))
set_option maxRecDepth 20000 in
theorem gX3_pass_X3_checkRange : GoodIn wsX3_pass (va_wsS RX3 75 yX3_checkRange wsX3_checkRange) := goodIn_app (goodIn_of _ (by decide +kernel)) ggX3_pass_X3_checkRange
set_option maxRecDepth 20000 in
theorem ggX3_pass_X3_beginDay : GoodIn wsX3_pass wsX3_beginDay := goodIn_r _ [13, 14, 3, 15, 16, 17, 18, 19, 20, 21, 22, 23, 24, 25, 26, 27, 28, 29, 30, 31, 32, 33, 34, 35, 36, 37, 38, 39, 40, 41, 42, 43, 44, 45, 46, 47, 48, 49, 50, 51, 52, 53, 54, 55, 56, 57, 58, 59, 60, 61, 62, 63, 64, 6, 65, 66, 67, 68, 69, 70, 71, 72, 73, 74, 75, 76, 77, 78, 79, 80, 81, 82, 83, 84, 85, 86, 87, 88, 89, 90, 91, 92, 93, 94, 95, 96, 97, 98, 99, 100] (by decide +kernel) (by decide +kernel)
set_option maxRecDepth 20000 in
theorem gX3_pass_X3_beginDay : GoodIn wsX3_pass (wsV RX3 192 RX3 yX3_beginDay wsX3_beginDay) := goodIn_app (goodIn_of _ (by decide +kernel)) ggX3_pass_X3_beginDay
theorem dX3_pass_0 : decode cX3_pass 0 = .ok (.iload_n 1, 1) := by decide +kernel
theorem dX3_pass_1 : decode cX3_pass 1 = .ok (.iconst 1, 1) := by decide +kernel
theorem dX3_pass_2 : decode cX3_pass 2 = .ok (.bipush 50, 2) := by decide +kernel
theorem dX3_pass_4 : decode cX3_pass 4 = .ok (.invokestatic 75, 3) := by decide +kernel
theorem dX3_pass_7 : decode cX3_pass 7 = .ok (.aload_n 0, 1) := by decide +kernel
theorem dX3_pass_8 : decode cX3_pass 8 = .ok (.getfield 40, 3) := by decide +kernel
theorem dX3_pass_11 : decode cX3_pass 11 = .ok (.iload_n 1, 1) := by decide +kernel
theorem dX3_pass_12 : decode cX3_pass 12 = .ok (.iadd, 1) := by decide +kernel
theorem dX3_pass_13 : decode cX3_pass 13 = .ok (.sipush 1000, 3) := by decide +kernel
theorem dX3_pass_16 : decode cX3_pass 16 = .ok (.if_icmp .le 13, 3) := by decide +kernel
theorem dX3_pass_19 : decode cX3_pass 19 = .ok (.new 54, 3) := by decide +kernel
theorem dX3_pass_22 : decode cX3_pass 22 = .ok (.dup, 1) := by decide +kernel
theorem dX3_pass_23 : decode cX3_pass 23 = .ok (.ldc 190, 2) := by decide +kernel
theorem dX3_pass_25 : decode cX3_pass 25 = .ok (.invokespecial 58, 3) := by decide +kernel
theorem dX3_pass_28 : decode cX3_pass 28 = .ok (.athrow, 1) := by decide +kernel
theorem dX3_pass_29 : decode cX3_pass 29 = .ok (.iconst 0, 1) := by decide +kernel
theorem dX3_pass_30 : decode cX3_pass 30 = .ok (.istore_n 2, 1) := by decide +kernel
theorem dX3_pass_31 : decode cX3_pass 31 = .ok (.iconst 0, 1) := by decide +kernel
theorem dX3_pass_32 : decode cX3_pass 32 = .ok (.istore_n 3, 1) := by decide +kernel
theorem dX3_pass_33 : decode cX3_pass 33 = .ok (.iload_n 3, 1) := by decide +kernel
theorem dX3_pass_34 : decode cX3_pass 34 = .ok (.iload_n 1, 1) := by decide +kernel
theorem dX3_pass_35 : decode cX3_pass 35 = .ok (.if_icmp .ge 26, 3) := by decide +kernel
theorem dX3_pass_38 : decode cX3_pass 38 = .ok (.aload_n 0, 1) := by decide +kernel
theorem dX3_pass_39 : decode cX3_pass 39 = .ok (.dup, 1) := by decide +kernel
theorem dX3_pass_40 : decode cX3_pass 40 = .ok (.getfield 40, 3) := by decide +kernel
theorem dX3_pass_43 : decode cX3_pass 43 = .ok (.iconst 1, 1) := by decide +kernel
theorem dX3_pass_44 : decode cX3_pass 44 = .ok (.iadd, 1) := by decide +kernel
theorem dX3_pass_45 : decode cX3_pass 45 = .ok (.putfield 40, 3) := by decide +kernel
theorem dX3_pass_48 : decode cX3_pass 48 = .ok (.iload_n 2, 1) := by decide +kernel
theorem dX3_pass_49 : decode cX3_pass 49 = .ok (.aload_n 0, 1) := by decide +kernel
theorem dX3_pass_50 : decode cX3_pass 50 = .ok (.invokevirtual 192, 3) := by decide +kernel
theorem dX3_pass_53 : decode cX3_pass 53 = .ok (.iadd, 1) := by decide +kernel
theorem dX3_pass_54 : decode cX3_pass 54 = .ok (.istore_n 2, 1) := by decide +kernel
theorem dX3_pass_55 : decode cX3_pass 55 = .ok (.iinc 3 1, 3) := by decide +kernel
theorem dX3_pass_58 : decode cX3_pass 58 = .ok (.goto (-25), 3) := by decide +kernel
theorem dX3_pass_61 : decode cX3_pass 61 = .ok (.iload_n 2, 1) := by decide +kernel
theorem dX3_pass_62 : decode cX3_pass 62 = .ok (.ireturn, 1) := by decide +kernel
set_option maxRecDepth 20000 in
theorem ggX3_look_X3_paperAt : GoodIn wsX3_look wsX3_paperAt := goodIn_ca (goodIn_r _ [7, 8, 9, 10, 32, 33, 34, 35, 36, 37, 38, 39] (by decide +kernel) (by decide +kernel)) (goodIn_sub (fun _ h => List.mem_cons_of_mem _ (List.mem_append_left _ (List.mem_append_right _ h))) (by decide +kernel))
set_option maxRecDepth 20000 in
theorem gX3_look_X3_paperAt : GoodIn wsX3_look (wsV RX3 62 RX3 yX3_paperAt wsX3_paperAt) := goodIn_app (goodIn_of _ (by decide +kernel)) ggX3_look_X3_paperAt
set_option maxRecDepth 20000 in
theorem ggX3_look_X3_checkInForce : GoodIn wsX3_look wsX3_checkInForce := goodIn_ca (goodIn_r _ [13, 14, 15, 16, 17, 18, 19, 20, 21, 40, 41, 42, 43, 44, 45, 46, 47, 48] (by decide +kernel) (by decide +kernel)) (goodIn_sub (fun _ h => List.mem_cons_of_mem _ (List.mem_append_right _ h)) (by decide +kernel))
set_option maxRecDepth 20000 in
theorem gX3_look_X3_checkInForce : GoodIn wsX3_look (va_wsS RX3 195 yX3_checkInForce wsX3_checkInForce) := goodIn_app (goodIn_of _ (by decide +kernel)) ggX3_look_X3_checkInForce
set_option maxRecDepth 20000 in
theorem ggX3_look_X2_needsLook : GoodIn wsX3_look wsX2_needsLook := goodIn_r _ [25, 21, 26, 27, 40, 41, 42, 43, 44, 45, 46, 47, 48] (by decide +kernel) (by decide +kernel)
set_option maxRecDepth 20000 in
theorem gX3_look_X2_needsLook : GoodIn wsX3_look (wsV RX3 199 RX2 yX2_needsLook wsX2_needsLook) := goodIn_app (goodIn_of _ (by decide +kernel)) ggX3_look_X2_needsLook
set_option maxRecDepth 20000 in
theorem ggX3_look_X2_restartInterval : GoodIn wsX3_look wsX2_restartInterval := goodIn_r _ [31, 26, 27, 40, 41, 42, 43, 44, 45, 46, 47, 48] (by decide +kernel) (by decide +kernel)
set_option maxRecDepth 20000 in
theorem gX3_look_X2_restartInterval : GoodIn wsX3_look (wsV RX3 203 RX2 yX2_restartInterval wsX2_restartInterval) := goodIn_app (goodIn_of _ (by decide +kernel)) ggX3_look_X2_restartInterval
theorem dX3_look_0 : decode cX3_look 0 = .ok (.aload_n 0, 1) := by decide +kernel
theorem dX3_look_1 : decode cX3_look 1 = .ok (.iload_n 1, 1) := by decide +kernel
theorem dX3_look_2 : decode cX3_look 2 = .ok (.invokevirtual 62, 3) := by decide +kernel
theorem dX3_look_5 : decode cX3_look 5 = .ok (.astore_n 2, 1) := by decide +kernel
theorem dX3_look_6 : decode cX3_look 6 = .ok (.aload_n 2, 1) := by decide +kernel
theorem dX3_look_7 : decode cX3_look 7 = .ok (.invokestatic 195, 3) := by decide +kernel
theorem dX3_look_10 : decode cX3_look 10 = .ok (.aload_n 2, 1) := by decide +kernel
theorem dX3_look_11 : decode cX3_look 11 = .ok (.aload_n 0, 1) := by decide +kernel
theorem dX3_look_12 : decode cX3_look 12 = .ok (.getfield 40, 3) := by decide +kernel
theorem dX3_look_15 : decode cX3_look 15 = .ok (.aload_n 0, 1) := by decide +kernel
theorem dX3_look_16 : decode cX3_look 16 = .ok (.getfield 37, 3) := by decide +kernel
theorem dX3_look_19 : decode cX3_look 19 = .ok (.invokevirtual 199, 3) := by decide +kernel
theorem dX3_look_22 : decode cX3_look 22 = .ok (.istore_n 3, 1) := by decide +kernel
theorem dX3_look_23 : decode cX3_look 23 = .ok (.aload_n 2, 1) := by decide +kernel
theorem dX3_look_24 : decode cX3_look 24 = .ok (.aload_n 0, 1) := by decide +kernel
theorem dX3_look_25 : decode cX3_look 25 = .ok (.getfield 40, 3) := by decide +kernel
theorem dX3_look_28 : decode cX3_look 28 = .ok (.invokevirtual 203, 3) := by decide +kernel
theorem dX3_look_31 : decode cX3_look 31 = .ok (.iload_n 3, 1) := by decide +kernel
theorem dX3_look_32 : decode cX3_look 32 = .ok (.ireturn, 1) := by decide +kernel
set_option maxRecDepth 20000 in
theorem ggX3_isDue_X3_paperAt : GoodIn wsX3_isDue wsX3_paperAt := goodIn_ca (goodIn_r _ [7, 8, 9, 10, 19, 20, 21, 22, 23, 24, 25, 26] (by decide +kernel) (by decide +kernel)) (goodIn_sub (fun _ h => List.mem_cons_of_mem _ (List.mem_append_right _ h)) (by decide +kernel))
set_option maxRecDepth 20000 in
theorem gX3_isDue_X3_paperAt : GoodIn wsX3_isDue (wsV RX3 62 RX3 yX3_paperAt wsX3_paperAt) := goodIn_app (goodIn_of _ (by decide +kernel)) ggX3_isDue_X3_paperAt
set_option maxRecDepth 20000 in
theorem ggX3_isDue_X2_needsLook : GoodIn wsX3_isDue wsX2_needsLook := goodIn_r _ [15, 16, 17, 18, 27, 28, 29, 30, 31, 32, 33, 34, 35] (by decide +kernel) (by decide +kernel)
set_option maxRecDepth 20000 in
theorem gX3_isDue_X2_needsLook : GoodIn wsX3_isDue (wsV RX3 199 RX2 yX2_needsLook wsX2_needsLook) := goodIn_app (goodIn_of _ (by decide +kernel)) ggX3_isDue_X2_needsLook
theorem dX3_isDue_0 : decode cX3_isDue 0 = .ok (.aload_n 0, 1) := by decide +kernel
theorem dX3_isDue_1 : decode cX3_isDue 1 = .ok (.iload_n 1, 1) := by decide +kernel
theorem dX3_isDue_2 : decode cX3_isDue 2 = .ok (.invokevirtual 62, 3) := by decide +kernel
theorem dX3_isDue_5 : decode cX3_isDue 5 = .ok (.aload_n 0, 1) := by decide +kernel
theorem dX3_isDue_6 : decode cX3_isDue 6 = .ok (.getfield 40, 3) := by decide +kernel
theorem dX3_isDue_9 : decode cX3_isDue 9 = .ok (.aload_n 0, 1) := by decide +kernel
theorem dX3_isDue_10 : decode cX3_isDue 10 = .ok (.getfield 37, 3) := by decide +kernel
theorem dX3_isDue_13 : decode cX3_isDue 13 = .ok (.invokevirtual 199, 3) := by decide +kernel
theorem dX3_isDue_16 : decode cX3_isDue 16 = .ok (.ireturn, 1) := by decide +kernel
set_option maxRecDepth 20000 in
theorem ggX3_copy_X3_paperAt : GoodIn wsX3_copy wsX3_paperAt := goodIn_ca (goodIn_r _ [9, 10, 11, 12, 36, 37, 38, 39, 40, 41, 42, 43] (by decide +kernel) (by decide +kernel)) (goodIn_sub (fun _ h => List.mem_cons_of_mem _ (List.mem_append_left _ (List.mem_append_right _ h))) (by decide +kernel))
set_option maxRecDepth 20000 in
theorem gX3_copy_X3_paperAt : GoodIn wsX3_copy (wsV RX3 62 RX3 yX3_paperAt wsX3_paperAt) := goodIn_app (goodIn_of _ (by decide +kernel)) ggX3_copy_X3_paperAt
set_option maxRecDepth 20000 in
theorem ggX3_copy_X3_checkRange : GoodIn wsX3_copy wsX3_checkRange := goodIn_ca (goodIn_r _ [15, 16, 17] (by decide +kernel) (by decide +kernel)) (goodIn_sub (fun _ h => List.mem_cons_of_mem _ (List.mem_append_right _ h)) (by decide +kernel))
set_option maxRecDepth 20000 in
theorem gX3_copy_X3_checkRange : GoodIn wsX3_copy (va_wsS RX3 75 yX3_checkRange wsX3_checkRange) := goodIn_app (goodIn_of _ (by decide +kernel)) ggX3_copy_X3_checkRange
set_option maxRecDepth 20000 in
theorem ggX3_copy_X3_checkInForce : GoodIn wsX3_copy wsX3_checkInForce := goodIn_ca (goodIn_r _ [20, 1, 2, 21, 22, 23, 24, 25, 26, 48, 49, 50, 51, 52, 53, 54, 55, 56] (by decide +kernel) (by decide +kernel)) (goodIn_sub (fun _ h => List.mem_cons_of_mem _ (List.mem_append_left _ (List.mem_append_left _ (List.mem_append_right _ h)))) (by decide +kernel))
set_option maxRecDepth 20000 in
theorem gX3_copy_X3_checkInForce : GoodIn wsX3_copy (va_wsS RX3 195 yX3_checkInForce wsX3_checkInForce) := goodIn_app (goodIn_of _ (by decide +kernel)) ggX3_copy_X3_checkInForce
set_option maxRecDepth 20000 in
theorem ggX3_copy_X2_newest : GoodIn wsX3_copy wsX2_newest := goodIn_r _ [25, 26, 48, 49, 50, 51, 52, 53, 54, 55, 56] (by decide +kernel) (by decide +kernel)
set_option maxRecDepth 20000 in
theorem gX3_copy_X2_newest : GoodIn wsX3_copy (wsV RX3 211 RX2 yX2_newest wsX2_newest) := goodIn_app (goodIn_of _ (by decide +kernel)) ggX3_copy_X2_newest
set_option maxRecDepth 20000 in
theorem ggX3_copy_X0_add : GoodIn wsX3_copy wsX0_add := goodIn_r _ [31, 32, 33, 34, 35, 44, 45, 46, 47] (by decide +kernel) (by decide +kernel)
set_option maxRecDepth 20000 in
theorem gX3_copy_X0_add : GoodIn wsX3_copy (wsV RX3 214 RX0 yX0_add wsX0_add) := goodIn_app (goodIn_of _ (by decide +kernel)) ggX3_copy_X0_add
theorem dX3_copy_0 : decode cX3_copy 0 = .ok (.aload_n 0, 1) := by decide +kernel
theorem dX3_copy_1 : decode cX3_copy 1 = .ok (.iload_n 1, 1) := by decide +kernel
theorem dX3_copy_2 : decode cX3_copy 2 = .ok (.invokevirtual 62, 3) := by decide +kernel
theorem dX3_copy_5 : decode cX3_copy 5 = .ok (.astore_n 3, 1) := by decide +kernel
theorem dX3_copy_6 : decode cX3_copy 6 = .ok (.iload_n 2, 1) := by decide +kernel
theorem dX3_copy_7 : decode cX3_copy 7 = .ok (.iconst 0, 1) := by decide +kernel
theorem dX3_copy_8 : decode cX3_copy 8 = .ok (.bipush 9, 2) := by decide +kernel
theorem dX3_copy_10 : decode cX3_copy 10 = .ok (.invokestatic 75, 3) := by decide +kernel
theorem dX3_copy_13 : decode cX3_copy 13 = .ok (.aload_n 3, 1) := by decide +kernel
theorem dX3_copy_14 : decode cX3_copy 14 = .ok (.invokestatic 195, 3) := by decide +kernel
theorem dX3_copy_17 : decode cX3_copy 17 = .ok (.aload_n 0, 1) := by decide +kernel
theorem dX3_copy_18 : decode cX3_copy 18 = .ok (.getfield 29, 3) := by decide +kernel
theorem dX3_copy_21 : decode cX3_copy 21 = .ok (.getfield 206, 3) := by decide +kernel
theorem dX3_copy_24 : decode cX3_copy 24 = .ok (.bipush 30, 2) := by decide +kernel
theorem dX3_copy_26 : decode cX3_copy 26 = .ok (.if_icmp .lt 13, 3) := by decide +kernel
theorem dX3_copy_29 : decode cX3_copy 29 = .ok (.new 54, 3) := by decide +kernel
theorem dX3_copy_32 : decode cX3_copy 32 = .ok (.dup, 1) := by decide +kernel
theorem dX3_copy_33 : decode cX3_copy 33 = .ok (.ldc 209, 2) := by decide +kernel
theorem dX3_copy_35 : decode cX3_copy 35 = .ok (.invokespecial 58, 3) := by decide +kernel
theorem dX3_copy_38 : decode cX3_copy 38 = .ok (.athrow, 1) := by decide +kernel
theorem dX3_copy_39 : decode cX3_copy 39 = .ok (.aload_n 0, 1) := by decide +kernel
theorem dX3_copy_40 : decode cX3_copy 40 = .ok (.getfield 29, 3) := by decide +kernel
theorem dX3_copy_43 : decode cX3_copy 43 = .ok (.iload_n 1, 1) := by decide +kernel
theorem dX3_copy_44 : decode cX3_copy 44 = .ok (.aload_n 3, 1) := by decide +kernel
theorem dX3_copy_45 : decode cX3_copy 45 = .ok (.invokevirtual 211, 3) := by decide +kernel
theorem dX3_copy_48 : decode cX3_copy 48 = .ok (.iload_n 2, 1) := by decide +kernel
theorem dX3_copy_49 : decode cX3_copy 49 = .ok (.invokevirtual 214, 3) := by decide +kernel
theorem dX3_copy_52 : decode cX3_copy 52 = .ok (.ireturn, 1) := by decide +kernel
theorem dX3_takeDown_0 : decode cX3_takeDown 0 = .ok (.iload_n 1, 1) := by decide +kernel
theorem dX3_takeDown_1 : decode cX3_takeDown 1 = .ok (.ifCond .lt 27, 3) := by decide +kernel
theorem dX3_takeDown_4 : decode cX3_takeDown 4 = .ok (.iload_n 1, 1) := by decide +kernel
theorem dX3_takeDown_5 : decode cX3_takeDown 5 = .ok (.aload_n 0, 1) := by decide +kernel
theorem dX3_takeDown_6 : decode cX3_takeDown 6 = .ok (.getfield 29, 3) := by decide +kernel
theorem dX3_takeDown_9 : decode cX3_takeDown 9 = .ok (.getfield 206, 3) := by decide +kernel
theorem dX3_takeDown_12 : decode cX3_takeDown 12 = .ok (.if_icmp .ge 16, 3) := by decide +kernel
theorem dX3_takeDown_15 : decode cX3_takeDown 15 = .ok (.aload_n 0, 1) := by decide +kernel
theorem dX3_takeDown_16 : decode cX3_takeDown 16 = .ok (.getfield 29, 3) := by decide +kernel
theorem dX3_takeDown_19 : decode cX3_takeDown 19 = .ok (.getfield 218, 3) := by decide +kernel
theorem dX3_takeDown_22 : decode cX3_takeDown 22 = .ok (.iload_n 1, 1) := by decide +kernel
theorem dX3_takeDown_23 : decode cX3_takeDown 23 = .ok (.iaload, 1) := by decide +kernel
theorem dX3_takeDown_24 : decode cX3_takeDown 24 = .ok (.iconst (-1), 1) := by decide +kernel
theorem dX3_takeDown_25 : decode cX3_takeDown 25 = .ok (.if_icmp .ne 13, 3) := by decide +kernel
theorem dX3_takeDown_28 : decode cX3_takeDown 28 = .ok (.new 157, 3) := by decide +kernel
theorem dX3_takeDown_31 : decode cX3_takeDown 31 = .ok (.dup, 1) := by decide +kernel
theorem dX3_takeDown_32 : decode cX3_takeDown 32 = .ok (.ldc 221, 2) := by decide +kernel
theorem dX3_takeDown_34 : decode cX3_takeDown 34 = .ok (.invokespecial 161, 3) := by decide +kernel
theorem dX3_takeDown_37 : decode cX3_takeDown 37 = .ok (.athrow, 1) := by decide +kernel
theorem dX3_takeDown_38 : decode cX3_takeDown 38 = .ok (.aload_n 0, 1) := by decide +kernel
theorem dX3_takeDown_39 : decode cX3_takeDown 39 = .ok (.getfield 29, 3) := by decide +kernel
theorem dX3_takeDown_42 : decode cX3_takeDown 42 = .ok (.getfield 218, 3) := by decide +kernel
theorem dX3_takeDown_45 : decode cX3_takeDown 45 = .ok (.iload_n 1, 1) := by decide +kernel
theorem dX3_takeDown_46 : decode cX3_takeDown 46 = .ok (.iaload, 1) := by decide +kernel
theorem dX3_takeDown_47 : decode cX3_takeDown 47 = .ok (.istore_n 2, 1) := by decide +kernel
theorem dX3_takeDown_48 : decode cX3_takeDown 48 = .ok (.aload_n 0, 1) := by decide +kernel
theorem dX3_takeDown_49 : decode cX3_takeDown 49 = .ok (.getfield 29, 3) := by decide +kernel
theorem dX3_takeDown_52 : decode cX3_takeDown 52 = .ok (.getfield 218, 3) := by decide +kernel
theorem dX3_takeDown_55 : decode cX3_takeDown 55 = .ok (.iload_n 1, 1) := by decide +kernel
theorem dX3_takeDown_56 : decode cX3_takeDown 56 = .ok (.iconst (-1), 1) := by decide +kernel
theorem dX3_takeDown_57 : decode cX3_takeDown 57 = .ok (.iastore, 1) := by decide +kernel
theorem dX3_takeDown_58 : decode cX3_takeDown 58 = .ok (.iload_n 2, 1) := by decide +kernel
theorem dX3_takeDown_59 : decode cX3_takeDown 59 = .ok (.ireturn, 1) := by decide +kernel
set_option maxRecDepth 20000 in
theorem ggX3_outOfDate_X3_paperAt : GoodIn wsX3_outOfDate wsX3_paperAt := goodIn_ca (goodIn_r _ [6, 7, 8, 9, 25, 26, 27, 28, 29, 30, 31, 32] (by decide +kernel) (by decide +kernel)) (goodIn_sub (fun _ h => List.mem_cons_of_mem _ (List.mem_append_right _ h)) (by decide +kernel))
set_option maxRecDepth 20000 in
theorem gX3_outOfDate_X3_paperAt : GoodIn wsX3_outOfDate (wsV RX3 62 RX3 yX3_paperAt wsX3_paperAt) := goodIn_app (goodIn_of _ (by decide +kernel)) ggX3_outOfDate_X3_paperAt
set_option maxRecDepth 20000 in
theorem ggX3_outOfDate_X2_newest : GoodIn wsX3_outOfDate wsX2_newest := goodIn_r _ [14, 15, 33, 34, 35, 36, 37, 38, 39, 40, 41] (by decide +kernel) (by decide +kernel)
set_option maxRecDepth 20000 in
theorem gX3_outOfDate_X2_newest : GoodIn wsX3_outOfDate (wsV RX3 211 RX2 yX2_newest wsX2_newest) := goodIn_app (goodIn_of _ (by decide +kernel)) ggX3_outOfDate_X2_newest
set_option maxRecDepth 20000 in
theorem ggX3_outOfDate_X0_countOld : GoodIn wsX3_outOfDate wsX0_countOld := goodIn_r _ [20, 21, 22, 23, 24, 42, 43, 44, 45] (by decide +kernel) (by decide +kernel)
set_option maxRecDepth 20000 in
theorem gX3_outOfDate_X0_countOld : GoodIn wsX3_outOfDate (wsV RX3 223 RX0 yX0_countOld wsX0_countOld) := goodIn_app (goodIn_of _ (by decide +kernel)) ggX3_outOfDate_X0_countOld
theorem dX3_outOfDate_0 : decode cX3_outOfDate 0 = .ok (.aload_n 0, 1) := by decide +kernel
theorem dX3_outOfDate_1 : decode cX3_outOfDate 1 = .ok (.getfield 29, 3) := by decide +kernel
theorem dX3_outOfDate_4 : decode cX3_outOfDate 4 = .ok (.iload_n 1, 1) := by decide +kernel
theorem dX3_outOfDate_5 : decode cX3_outOfDate 5 = .ok (.aload_n 0, 1) := by decide +kernel
theorem dX3_outOfDate_6 : decode cX3_outOfDate 6 = .ok (.iload_n 1, 1) := by decide +kernel
theorem dX3_outOfDate_7 : decode cX3_outOfDate 7 = .ok (.invokevirtual 62, 3) := by decide +kernel
theorem dX3_outOfDate_10 : decode cX3_outOfDate 10 = .ok (.invokevirtual 211, 3) := by decide +kernel
theorem dX3_outOfDate_13 : decode cX3_outOfDate 13 = .ok (.invokevirtual 223, 3) := by decide +kernel
theorem dX3_outOfDate_16 : decode cX3_outOfDate 16 = .ok (.ireturn, 1) := by decide +kernel
theorem dX3_day_0 : decode cX3_day 0 = .ok (.aload_n 0, 1) := by decide +kernel
theorem dX3_day_1 : decode cX3_day 1 = .ok (.getfield 40, 3) := by decide +kernel
theorem dX3_day_4 : decode cX3_day 4 = .ok (.ireturn, 1) := by decide +kernel
set_option maxRecDepth 20000 in
theorem ggX3_step_X3_paperAt : GoodIn wsX3_step wsX3_paperAt := goodIn_ca (goodIn_r _ [7, 8, 9, 10, 45, 46, 47, 48, 49, 50, 51, 52] (by decide +kernel) (by decide +kernel)) (goodIn_sub (fun _ h => List.mem_cons_of_mem _ (List.mem_append_right _ h)) (by decide +kernel))
set_option maxRecDepth 20000 in
theorem gX3_step_X3_paperAt : GoodIn wsX3_step (wsV RX3 62 RX3 yX3_paperAt wsX3_paperAt) := goodIn_app (goodIn_of _ (by decide +kernel)) ggX3_step_X3_paperAt
set_option maxRecDepth 20000 in
theorem ggX3_step_X1_nextStep : GoodIn wsX3_step wsX1_nextStep := goodIn_r _ [15, 16, 17, 18, 19, 20, 14, 21, 22, 23, 24, 25, 26, 27, 28, 29, 30, 31, 32, 33, 34, 35, 53, 54, 55, 56, 57, 58, 59, 60, 61, 62, 63, 64] (by decide +kernel) (by decide +kernel)
set_option maxRecDepth 20000 in
theorem gX3_step_X1_nextStep : GoodIn wsX3_step (wsV RX3 170 RX1 yX1_nextStep wsX1_nextStep) := goodIn_app (goodIn_of _ (by decide +kernel)) ggX3_step_X1_nextStep
theorem dX3_step_0 : decode cX3_step 0 = .ok (.aload_n 0, 1) := by decide +kernel
theorem dX3_step_1 : decode cX3_step 1 = .ok (.iload_n 1, 1) := by decide +kernel
theorem dX3_step_2 : decode cX3_step 2 = .ok (.invokevirtual 62, 3) := by decide +kernel
theorem dX3_step_5 : decode cX3_step 5 = .ok (.astore_n 2, 1) := by decide +kernel
theorem dX3_step_6 : decode cX3_step 6 = .ok (.aload_n 2, 1) := by decide +kernel
theorem dX3_step_7 : decode cX3_step 7 = .ok (.getfield 79, 3) := by decide +kernel
theorem dX3_step_10 : decode cX3_step 10 = .ok (.ifCond .eq 13, 3) := by decide +kernel
theorem dX3_step_13 : decode cX3_step 13 = .ok (.aload_n 2, 1) := by decide +kernel
theorem dX3_step_14 : decode cX3_step 14 = .ok (.getfield 85, 3) := by decide +kernel
theorem dX3_step_17 : decode cX3_step 17 = .ok (.invokevirtual 170, 3) := by decide +kernel
theorem dX3_step_20 : decode cX3_step 20 = .ok (.goto 4, 3) := by decide +kernel
theorem dX3_step_23 : decode cX3_step 23 = .ok (.iconst 0, 1) := by decide +kernel
theorem dX3_step_24 : decode cX3_step 24 = .ok (.ireturn, 1) := by decide +kernel
set_option maxRecDepth 20000 in
theorem ggX3_inForce_X3_paperAt : GoodIn wsX3_inForce wsX3_paperAt := goodIn_ca (goodIn_r _ [5, 6, 7, 8, 15, 16, 17, 18, 19, 20, 21, 22] (by decide +kernel) (by decide +kernel)) (goodIn_sub (fun _ h => List.mem_cons_of_mem _ (List.mem_append_right _ h)) (by decide +kernel))
set_option maxRecDepth 20000 in
theorem gX3_inForce_X3_paperAt : GoodIn wsX3_inForce (wsV RX3 62 RX3 yX3_paperAt wsX3_paperAt) := goodIn_app (goodIn_of _ (by decide +kernel)) ggX3_inForce_X3_paperAt
set_option maxRecDepth 20000 in
theorem ggX3_inForce_X2_newest : GoodIn wsX3_inForce wsX2_newest := goodIn_r _ [13, 14, 23, 24, 25, 26, 27, 28, 29, 30, 31] (by decide +kernel) (by decide +kernel)
set_option maxRecDepth 20000 in
theorem gX3_inForce_X2_newest : GoodIn wsX3_inForce (wsV RX3 211 RX2 yX2_newest wsX2_newest) := goodIn_app (goodIn_of _ (by decide +kernel)) ggX3_inForce_X2_newest
theorem dX3_inForce_0 : decode cX3_inForce 0 = .ok (.aload_n 0, 1) := by decide +kernel
theorem dX3_inForce_1 : decode cX3_inForce 1 = .ok (.iload_n 1, 1) := by decide +kernel
theorem dX3_inForce_2 : decode cX3_inForce 2 = .ok (.invokevirtual 62, 3) := by decide +kernel
theorem dX3_inForce_5 : decode cX3_inForce 5 = .ok (.invokevirtual 211, 3) := by decide +kernel
theorem dX3_inForce_8 : decode cX3_inForce 8 = .ok (.ireturn, 1) := by decide +kernel
set_option maxRecDepth 20000 in
theorem ggX3_text_X3_paperAt : GoodIn wsX3_text wsX3_paperAt := goodIn_ca (goodIn_r _ [6, 7, 8, 9, 25, 26, 27, 28, 29, 30, 31, 32] (by decide +kernel) (by decide +kernel)) (goodIn_sub (fun _ h => List.mem_cons_of_mem _ (List.mem_append_right _ h)) (by decide +kernel))
set_option maxRecDepth 20000 in
theorem gX3_text_X3_paperAt : GoodIn wsX3_text (wsV RX3 62 RX3 yX3_paperAt wsX3_paperAt) := goodIn_app (goodIn_of _ (by decide +kernel)) ggX3_text_X3_paperAt
set_option maxRecDepth 20000 in
theorem ggX3_text_X2_newest : GoodIn wsX3_text wsX2_newest := goodIn_r _ [14, 15, 16, 17, 18, 19, 20, 21, 22, 23, 24] (by decide +kernel) (by decide +kernel)
set_option maxRecDepth 20000 in
theorem gX3_text_X2_newest : GoodIn wsX3_text (wsV RX3 211 RX2 yX2_newest wsX2_newest) := goodIn_app (goodIn_of _ (by decide +kernel)) ggX3_text_X2_newest
theorem dX3_text_0 : decode cX3_text 0 = .ok (.aload_n 0, 1) := by decide +kernel
theorem dX3_text_1 : decode cX3_text 1 = .ok (.iload_n 1, 1) := by decide +kernel
theorem dX3_text_2 : decode cX3_text 2 = .ok (.invokevirtual 62, 3) := by decide +kernel
theorem dX3_text_5 : decode cX3_text 5 = .ok (.astore_n 2, 1) := by decide +kernel
theorem dX3_text_6 : decode cX3_text 6 = .ok (.aload_n 2, 1) := by decide +kernel
theorem dX3_text_7 : decode cX3_text 7 = .ok (.invokevirtual 211, 3) := by decide +kernel
theorem dX3_text_10 : decode cX3_text 10 = .ok (.istore_n 3, 1) := by decide +kernel
theorem dX3_text_11 : decode cX3_text 11 = .ok (.iload_n 3, 1) := by decide +kernel
theorem dX3_text_12 : decode cX3_text 12 = .ok (.ifCond .ge 7, 3) := by decide +kernel
theorem dX3_text_15 : decode cX3_text 15 = .ok (.iconst (-1), 1) := by decide +kernel
theorem dX3_text_16 : decode cX3_text 16 = .ok (.goto 9, 3) := by decide +kernel
theorem dX3_text_19 : decode cX3_text 19 = .ok (.aload_n 2, 1) := by decide +kernel
theorem dX3_text_20 : decode cX3_text 20 = .ok (.getfield 227, 3) := by decide +kernel
theorem dX3_text_23 : decode cX3_text 23 = .ok (.iload_n 3, 1) := by decide +kernel
theorem dX3_text_24 : decode cX3_text 24 = .ok (.iaload, 1) := by decide +kernel
theorem dX3_text_25 : decode cX3_text 25 = .ok (.ireturn, 1) := by decide +kernel
set_option maxRecDepth 20000 in
theorem ggX3_inForceOn_X3_paperAt : GoodIn wsX3_inForceOn wsX3_paperAt := goodIn_ca (goodIn_r _ [6, 7, 8, 9, 22, 23, 24, 25, 26, 27, 28, 29] (by decide +kernel) (by decide +kernel)) (goodIn_sub (fun _ h => List.mem_cons_of_mem _ (List.mem_append_left _ (List.mem_append_right _ h))) (by decide +kernel))
set_option maxRecDepth 20000 in
theorem gX3_inForceOn_X3_paperAt : GoodIn wsX3_inForceOn (wsV RX3 62 RX3 yX3_paperAt wsX3_paperAt) := goodIn_app (goodIn_of _ (by decide +kernel)) ggX3_inForceOn_X3_paperAt
set_option maxRecDepth 20000 in
theorem ggX3_inForceOn_X3_checkRange : GoodIn wsX3_inForceOn wsX3_checkRange := goodIn_ca (goodIn_r _ [12, 13, 14] (by decide +kernel) (by decide +kernel)) (goodIn_sub (fun _ h => List.mem_cons_of_mem _ (List.mem_append_right _ h)) (by decide +kernel))
set_option maxRecDepth 20000 in
theorem gX3_inForceOn_X3_checkRange : GoodIn wsX3_inForceOn (va_wsS RX3 75 yX3_checkRange wsX3_checkRange) := goodIn_app (goodIn_of _ (by decide +kernel)) ggX3_inForceOn_X3_checkRange
set_option maxRecDepth 20000 in
theorem ggX3_inForceOn_X2_versionOn : GoodIn wsX3_inForceOn wsX2_versionOn := goodIn_r _ [19, 20, 21, 30, 31, 32, 33, 34, 35, 36, 37, 38] (by decide +kernel) (by decide +kernel)
set_option maxRecDepth 20000 in
theorem gX3_inForceOn_X2_versionOn : GoodIn wsX3_inForceOn (wsV RX3 230 RX2 yX2_versionOn wsX2_versionOn) := goodIn_app (goodIn_of _ (by decide +kernel)) ggX3_inForceOn_X2_versionOn
theorem dX3_inForceOn_0 : decode cX3_inForceOn 0 = .ok (.aload_n 0, 1) := by decide +kernel
theorem dX3_inForceOn_1 : decode cX3_inForceOn 1 = .ok (.iload_n 1, 1) := by decide +kernel
theorem dX3_inForceOn_2 : decode cX3_inForceOn 2 = .ok (.invokevirtual 62, 3) := by decide +kernel
theorem dX3_inForceOn_5 : decode cX3_inForceOn 5 = .ok (.astore_n 3, 1) := by decide +kernel
theorem dX3_inForceOn_6 : decode cX3_inForceOn 6 = .ok (.iload_n 2, 1) := by decide +kernel
theorem dX3_inForceOn_7 : decode cX3_inForceOn 7 = .ok (.iconst 0, 1) := by decide +kernel
theorem dX3_inForceOn_8 : decode cX3_inForceOn 8 = .ok (.aload_n 0, 1) := by decide +kernel
theorem dX3_inForceOn_9 : decode cX3_inForceOn 9 = .ok (.getfield 40, 3) := by decide +kernel
theorem dX3_inForceOn_12 : decode cX3_inForceOn 12 = .ok (.invokestatic 75, 3) := by decide +kernel
theorem dX3_inForceOn_15 : decode cX3_inForceOn 15 = .ok (.aload_n 3, 1) := by decide +kernel
theorem dX3_inForceOn_16 : decode cX3_inForceOn 16 = .ok (.iload_n 2, 1) := by decide +kernel
theorem dX3_inForceOn_17 : decode cX3_inForceOn 17 = .ok (.invokevirtual 230, 3) := by decide +kernel
theorem dX3_inForceOn_20 : decode cX3_inForceOn 20 = .ok (.ireturn, 1) := by decide +kernel
set_option maxRecDepth 20000 in
theorem ggX3_since_X3_paperAt : GoodIn wsX3_since wsX3_paperAt := goodIn_ca (goodIn_r _ [9, 1, 2, 10, 20, 21, 22, 23, 24, 25, 26, 27] (by decide +kernel) (by decide +kernel)) (goodIn_sub (fun _ h => List.mem_cons_of_mem _ (List.mem_append_right _ h)) (by decide +kernel))
set_option maxRecDepth 20000 in
theorem gX3_since_X3_paperAt : GoodIn wsX3_since (wsV RX3 62 RX3 yX3_paperAt wsX3_paperAt) := goodIn_app (goodIn_of _ (by decide +kernel)) ggX3_since_X3_paperAt
theorem dX3_since_0 : decode cX3_since 0 = .ok (.aload_n 0, 1) := by decide +kernel
theorem dX3_since_1 : decode cX3_since 1 = .ok (.iload_n 1, 1) := by decide +kernel
theorem dX3_since_2 : decode cX3_since 2 = .ok (.invokevirtual 62, 3) := by decide +kernel
theorem dX3_since_5 : decode cX3_since 5 = .ok (.astore_n 3, 1) := by decide +kernel
theorem dX3_since_6 : decode cX3_since 6 = .ok (.iload_n 2, 1) := by decide +kernel
theorem dX3_since_7 : decode cX3_since 7 = .ok (.ifCond .lt 11, 3) := by decide +kernel
theorem dX3_since_10 : decode cX3_since 10 = .ok (.iload_n 2, 1) := by decide +kernel
theorem dX3_since_11 : decode cX3_since 11 = .ok (.aload_n 3, 1) := by decide +kernel
theorem dX3_since_12 : decode cX3_since 12 = .ok (.getfield 234, 3) := by decide +kernel
theorem dX3_since_15 : decode cX3_since 15 = .ok (.if_icmp .lt 13, 3) := by decide +kernel
theorem dX3_since_18 : decode cX3_since 18 = .ok (.new 157, 3) := by decide +kernel
theorem dX3_since_21 : decode cX3_since 21 = .ok (.dup, 1) := by decide +kernel
theorem dX3_since_22 : decode cX3_since 22 = .ok (.ldc 237, 2) := by decide +kernel
theorem dX3_since_24 : decode cX3_since 24 = .ok (.invokespecial 161, 3) := by decide +kernel
theorem dX3_since_27 : decode cX3_since 27 = .ok (.athrow, 1) := by decide +kernel
theorem dX3_since_28 : decode cX3_since 28 = .ok (.aload_n 3, 1) := by decide +kernel
theorem dX3_since_29 : decode cX3_since 29 = .ok (.getfield 239, 3) := by decide +kernel
theorem dX3_since_32 : decode cX3_since 32 = .ok (.iload_n 2, 1) := by decide +kernel
theorem dX3_since_33 : decode cX3_since 33 = .ok (.iaload, 1) := by decide +kernel
theorem dX3_since_34 : decode cX3_since 34 = .ok (.ireturn, 1) := by decide +kernel
set_option maxRecDepth 20000 in
theorem ggX3_waitsFor_X3_paperAt : GoodIn wsX3_waitsFor wsX3_paperAt := goodIn_ca (goodIn_r _ [7, 8, 9, 10, 50, 51, 52, 53, 54, 55, 56, 57] (by decide +kernel) (by decide +kernel)) (goodIn_sub (fun _ h => List.mem_cons_of_mem _ (List.mem_append_right _ h)) (by decide +kernel))
set_option maxRecDepth 20000 in
theorem gX3_waitsFor_X3_paperAt : GoodIn wsX3_waitsFor (wsV RX3 62 RX3 yX3_paperAt wsX3_paperAt) := goodIn_app (goodIn_of _ (by decide +kernel)) ggX3_waitsFor_X3_paperAt
set_option maxRecDepth 20000 in
theorem ggX3_waitsFor_X1_nextPerson : GoodIn wsX3_waitsFor wsX1_nextPerson := goodIn_r _ [15, 16, 17, 18, 19, 14, 20, 21, 22, 23, 24, 25, 26, 27, 28, 29, 30, 31, 32, 33, 34, 35, 36, 37, 38, 39, 40, 58, 59, 60, 61, 62, 63, 64, 65, 66, 67, 68, 69] (by decide +kernel) (by decide +kernel)
set_option maxRecDepth 20000 in
theorem gX3_waitsFor_X1_nextPerson : GoodIn wsX3_waitsFor (wsV RX3 242 RX1 yX1_nextPerson wsX1_nextPerson) := goodIn_app (goodIn_of _ (by decide +kernel)) ggX3_waitsFor_X1_nextPerson
theorem dX3_waitsFor_0 : decode cX3_waitsFor 0 = .ok (.aload_n 0, 1) := by decide +kernel
theorem dX3_waitsFor_1 : decode cX3_waitsFor 1 = .ok (.iload_n 1, 1) := by decide +kernel
theorem dX3_waitsFor_2 : decode cX3_waitsFor 2 = .ok (.invokevirtual 62, 3) := by decide +kernel
theorem dX3_waitsFor_5 : decode cX3_waitsFor 5 = .ok (.astore_n 2, 1) := by decide +kernel
theorem dX3_waitsFor_6 : decode cX3_waitsFor 6 = .ok (.aload_n 2, 1) := by decide +kernel
theorem dX3_waitsFor_7 : decode cX3_waitsFor 7 = .ok (.getfield 79, 3) := by decide +kernel
theorem dX3_waitsFor_10 : decode cX3_waitsFor 10 = .ok (.ifCond .eq 13, 3) := by decide +kernel
theorem dX3_waitsFor_13 : decode cX3_waitsFor 13 = .ok (.aload_n 2, 1) := by decide +kernel
theorem dX3_waitsFor_14 : decode cX3_waitsFor 14 = .ok (.getfield 85, 3) := by decide +kernel
theorem dX3_waitsFor_17 : decode cX3_waitsFor 17 = .ok (.invokevirtual 242, 3) := by decide +kernel
theorem dX3_waitsFor_20 : decode cX3_waitsFor 20 = .ok (.goto 4, 3) := by decide +kernel
theorem dX3_waitsFor_23 : decode cX3_waitsFor 23 = .ok (.iconst (-1), 1) := by decide +kernel
theorem dX3_waitsFor_24 : decode cX3_waitsFor 24 = .ok (.ireturn, 1) := by decide +kernel
set_option maxRecDepth 20000 in
theorem ggX3_checkPerson_X3_checkRange : GoodIn wsX3_checkPerson wsX3_checkRange := goodIn_ca (goodIn_r _ [4, 5, 6] (by decide +kernel) (by decide +kernel)) (goodIn_sub (fun _ h => List.mem_cons_of_mem _ (List.mem_append_right _ h)) (by decide +kernel))
set_option maxRecDepth 20000 in
theorem gX3_checkPerson_X3_checkRange : GoodIn wsX3_checkPerson (va_wsS RX3 75 yX3_checkRange wsX3_checkRange) := goodIn_app (goodIn_of _ (by decide +kernel)) ggX3_checkPerson_X3_checkRange
theorem dX3_checkPerson_0 : decode cX3_checkPerson 0 = .ok (.iload_n 0, 1) := by decide +kernel
theorem dX3_checkPerson_1 : decode cX3_checkPerson 1 = .ok (.iconst 0, 1) := by decide +kernel
theorem dX3_checkPerson_2 : decode cX3_checkPerson 2 = .ok (.iconst 5, 1) := by decide +kernel
theorem dX3_checkPerson_3 : decode cX3_checkPerson 3 = .ok (.invokestatic 75, 3) := by decide +kernel
theorem dX3_checkPerson_6 : decode cX3_checkPerson 6 = .ok (.return_, 1) := by decide +kernel
theorem dX3_checkRange_0 : decode cX3_checkRange 0 = .ok (.iload_n 0, 1) := by decide +kernel
theorem dX3_checkRange_1 : decode cX3_checkRange 1 = .ok (.iload_n 1, 1) := by decide +kernel
theorem dX3_checkRange_2 : decode cX3_checkRange 2 = .ok (.if_icmp .lt 8, 3) := by decide +kernel
theorem dX3_checkRange_5 : decode cX3_checkRange 5 = .ok (.iload_n 0, 1) := by decide +kernel
theorem dX3_checkRange_6 : decode cX3_checkRange 6 = .ok (.iload_n 2, 1) := by decide +kernel
theorem dX3_checkRange_7 : decode cX3_checkRange 7 = .ok (.if_icmp .le 13, 3) := by decide +kernel
theorem dX3_checkRange_10 : decode cX3_checkRange 10 = .ok (.new 47, 3) := by decide +kernel
theorem dX3_checkRange_13 : decode cX3_checkRange 13 = .ok (.dup, 1) := by decide +kernel
theorem dX3_checkRange_14 : decode cX3_checkRange 14 = .ok (.ldc 245, 2) := by decide +kernel
theorem dX3_checkRange_16 : decode cX3_checkRange 16 = .ok (.invokespecial 51, 3) := by decide +kernel
theorem dX3_checkRange_19 : decode cX3_checkRange 19 = .ok (.athrow, 1) := by decide +kernel
theorem dX3_checkRange_20 : decode cX3_checkRange 20 = .ok (.return_, 1) := by decide +kernel
set_option maxRecDepth 20000 in
theorem ggX3_checkInForce_X2_newest : GoodIn wsX3_checkInForce wsX2_newest := goodIn_r _ [7, 8, 9, 10, 11, 12, 13, 14, 15, 16, 17] (by decide +kernel) (by decide +kernel)
set_option maxRecDepth 20000 in
theorem gX3_checkInForce_X2_newest : GoodIn wsX3_checkInForce (wsV RX3 211 RX2 yX2_newest wsX2_newest) := goodIn_app (goodIn_of _ (by decide +kernel)) ggX3_checkInForce_X2_newest
theorem dX3_checkInForce_0 : decode cX3_checkInForce 0 = .ok (.aload_n 0, 1) := by decide +kernel
theorem dX3_checkInForce_1 : decode cX3_checkInForce 1 = .ok (.invokevirtual 211, 3) := by decide +kernel
theorem dX3_checkInForce_4 : decode cX3_checkInForce 4 = .ok (.iconst (-1), 1) := by decide +kernel
theorem dX3_checkInForce_5 : decode cX3_checkInForce 5 = .ok (.if_icmp .ne 13, 3) := by decide +kernel
theorem dX3_checkInForce_8 : decode cX3_checkInForce 8 = .ok (.new 54, 3) := by decide +kernel
theorem dX3_checkInForce_11 : decode cX3_checkInForce 11 = .ok (.dup, 1) := by decide +kernel
theorem dX3_checkInForce_12 : decode cX3_checkInForce 12 = .ok (.ldc 247, 2) := by decide +kernel
theorem dX3_checkInForce_14 : decode cX3_checkInForce 14 = .ok (.invokespecial 58, 3) := by decide +kernel
theorem dX3_checkInForce_17 : decode cX3_checkInForce 17 = .ok (.athrow, 1) := by decide +kernel
theorem dX3_checkInForce_18 : decode cX3_checkInForce 18 = .ok (.return_, 1) := by decide +kernel
theorem dX3_countOf_0 : decode cX3_countOf 0 = .ok (.iconst 0, 1) := by decide +kernel
theorem dX3_countOf_1 : decode cX3_countOf 1 = .ok (.istore_n 1, 1) := by decide +kernel
theorem dX3_countOf_2 : decode cX3_countOf 2 = .ok (.iconst 0, 1) := by decide +kernel
theorem dX3_countOf_3 : decode cX3_countOf 3 = .ok (.istore_n 2, 1) := by decide +kernel
theorem dX3_countOf_4 : decode cX3_countOf 4 = .ok (.iload_n 2, 1) := by decide +kernel
theorem dX3_countOf_5 : decode cX3_countOf 5 = .ok (.aload_n 0, 1) := by decide +kernel
theorem dX3_countOf_6 : decode cX3_countOf 6 = .ok (.arraylength, 1) := by decide +kernel
theorem dX3_countOf_7 : decode cX3_countOf 7 = .ok (.if_icmp .ge 18, 3) := by decide +kernel
theorem dX3_countOf_10 : decode cX3_countOf 10 = .ok (.aload_n 0, 1) := by decide +kernel
theorem dX3_countOf_11 : decode cX3_countOf 11 = .ok (.iload_n 2, 1) := by decide +kernel
theorem dX3_countOf_12 : decode cX3_countOf 12 = .ok (.baload, 1) := by decide +kernel
theorem dX3_countOf_13 : decode cX3_countOf 13 = .ok (.ifCond .eq 6, 3) := by decide +kernel
theorem dX3_countOf_16 : decode cX3_countOf 16 = .ok (.iinc 1 1, 3) := by decide +kernel
theorem dX3_countOf_19 : decode cX3_countOf 19 = .ok (.iinc 2 1, 3) := by decide +kernel
theorem dX3_countOf_22 : decode cX3_countOf 22 = .ok (.goto (-18), 3) := by decide +kernel
theorem dX3_countOf_25 : decode cX3_countOf 25 = .ok (.iload_n 1, 1) := by decide +kernel
theorem dX3_countOf_26 : decode cX3_countOf 26 = .ok (.ireturn, 1) := by decide +kernel
theorem dX3_paperAt_0 : decode cX3_paperAt 0 = .ok (.iload_n 1, 1) := by decide +kernel
theorem dX3_paperAt_1 : decode cX3_paperAt 1 = .ok (.ifCond .lt 18, 3) := by decide +kernel
theorem dX3_paperAt_4 : decode cX3_paperAt 4 = .ok (.iload_n 1, 1) := by decide +kernel
theorem dX3_paperAt_5 : decode cX3_paperAt 5 = .ok (.bipush 8, 2) := by decide +kernel
theorem dX3_paperAt_7 : decode cX3_paperAt 7 = .ok (.if_icmp .ge 12, 3) := by decide +kernel
theorem dX3_paperAt_10 : decode cX3_paperAt 10 = .ok (.aload_n 0, 1) := by decide +kernel
theorem dX3_paperAt_11 : decode cX3_paperAt 11 = .ok (.getfield 22, 3) := by decide +kernel
theorem dX3_paperAt_14 : decode cX3_paperAt 14 = .ok (.iload_n 1, 1) := by decide +kernel
theorem dX3_paperAt_15 : decode cX3_paperAt 15 = .ok (.aaload, 1) := by decide +kernel
theorem dX3_paperAt_16 : decode cX3_paperAt 16 = .ok (.goto 4, 3) := by decide +kernel
theorem dX3_paperAt_19 : decode cX3_paperAt 19 = .ok (.aconst_null, 1) := by decide +kernel
theorem dX3_paperAt_20 : decode cX3_paperAt 20 = .ok (.astore_n 2, 1) := by decide +kernel
theorem dX3_paperAt_21 : decode cX3_paperAt 21 = .ok (.aload_n 2, 1) := by decide +kernel
theorem dX3_paperAt_22 : decode cX3_paperAt 22 = .ok (.ifnonnull 13, 3) := by decide +kernel
theorem dX3_paperAt_25 : decode cX3_paperAt 25 = .ok (.new 157, 3) := by decide +kernel
theorem dX3_paperAt_28 : decode cX3_paperAt 28 = .ok (.dup, 1) := by decide +kernel
theorem dX3_paperAt_29 : decode cX3_paperAt 29 = .ok (.ldc 249, 2) := by decide +kernel
theorem dX3_paperAt_31 : decode cX3_paperAt 31 = .ok (.invokespecial 161, 3) := by decide +kernel
theorem dX3_paperAt_34 : decode cX3_paperAt 34 = .ok (.athrow, 1) := by decide +kernel
theorem dX3_paperAt_35 : decode cX3_paperAt 35 = .ok (.aload_n 2, 1) := by decide +kernel
theorem dX3_paperAt_36 : decode cX3_paperAt 36 = .ok (.areturn, 1) := by decide +kernel
theorem dX3_draftOf_0 : decode cX3_draftOf 0 = .ok (.aload_n 0, 1) := by decide +kernel
theorem dX3_draftOf_1 : decode cX3_draftOf 1 = .ok (.getfield 79, 3) := by decide +kernel
theorem dX3_draftOf_4 : decode cX3_draftOf 4 = .ok (.ifCond .ne 13, 3) := by decide +kernel
theorem dX3_draftOf_7 : decode cX3_draftOf 7 = .ok (.new 54, 3) := by decide +kernel
theorem dX3_draftOf_10 : decode cX3_draftOf 10 = .ok (.dup, 1) := by decide +kernel
theorem dX3_draftOf_11 : decode cX3_draftOf 11 = .ok (.ldc 251, 2) := by decide +kernel
theorem dX3_draftOf_13 : decode cX3_draftOf 13 = .ok (.invokespecial 58, 3) := by decide +kernel
theorem dX3_draftOf_16 : decode cX3_draftOf 16 = .ok (.athrow, 1) := by decide +kernel
theorem dX3_draftOf_17 : decode cX3_draftOf 17 = .ok (.aload_n 0, 1) := by decide +kernel
theorem dX3_draftOf_18 : decode cX3_draftOf 18 = .ok (.getfield 85, 3) := by decide +kernel
theorem dX3_draftOf_21 : decode cX3_draftOf 21 = .ok (.areturn, 1) := by decide +kernel
theorem dX3_canApprove_0 : decode cX3_canApprove 0 = .ok (.aload_n 0, 1) := by decide +kernel
theorem dX3_canApprove_1 : decode cX3_canApprove 1 = .ok (.getfield 13, 3) := by decide +kernel
theorem dX3_canApprove_4 : decode cX3_canApprove 4 = .ok (.iload_n 1, 1) := by decide +kernel
theorem dX3_canApprove_5 : decode cX3_canApprove 5 = .ok (.baload, 1) := by decide +kernel
theorem dX3_canApprove_6 : decode cX3_canApprove 6 = .ok (.istore_n 2, 1) := by decide +kernel
theorem dX3_canApprove_7 : decode cX3_canApprove 7 = .ok (.iconst 0, 1) := by decide +kernel
theorem dX3_canApprove_8 : decode cX3_canApprove 8 = .ok (.istore_n 3, 1) := by decide +kernel
theorem dX3_canApprove_9 : decode cX3_canApprove 9 = .ok (.iload_n 3, 1) := by decide +kernel
theorem dX3_canApprove_10 : decode cX3_canApprove 10 = .ok (.bipush 6, 2) := by decide +kernel
theorem dX3_canApprove_12 : decode cX3_canApprove 12 = .ok (.if_icmp .ge 38, 3) := by decide +kernel
theorem dX3_canApprove_15 : decode cX3_canApprove 15 = .ok (.iload_n 2, 1) := by decide +kernel
theorem dX3_canApprove_16 : decode cX3_canApprove 16 = .ok (.ifCond .ne 22, 3) := by decide +kernel
theorem dX3_canApprove_19 : decode cX3_canApprove 19 = .ok (.aload_n 0, 1) := by decide +kernel
theorem dX3_canApprove_20 : decode cX3_canApprove 20 = .ok (.getfield 13, 3) := by decide +kernel
theorem dX3_canApprove_23 : decode cX3_canApprove 23 = .ok (.iload_n 3, 1) := by decide +kernel
theorem dX3_canApprove_24 : decode cX3_canApprove 24 = .ok (.baload, 1) := by decide +kernel
theorem dX3_canApprove_25 : decode cX3_canApprove 25 = .ok (.ifCond .eq 17, 3) := by decide +kernel
theorem dX3_canApprove_28 : decode cX3_canApprove 28 = .ok (.aload_n 0, 1) := by decide +kernel
theorem dX3_canApprove_29 : decode cX3_canApprove 29 = .ok (.getfield 16, 3) := by decide +kernel
theorem dX3_canApprove_32 : decode cX3_canApprove 32 = .ok (.iload_n 3, 1) := by decide +kernel
theorem dX3_canApprove_33 : decode cX3_canApprove 33 = .ok (.iaload, 1) := by decide +kernel
theorem dX3_canApprove_34 : decode cX3_canApprove 34 = .ok (.iload_n 1, 1) := by decide +kernel
theorem dX3_canApprove_35 : decode cX3_canApprove 35 = .ok (.if_icmp .ne 7, 3) := by decide +kernel
theorem dX3_canApprove_38 : decode cX3_canApprove 38 = .ok (.iconst 1, 1) := by decide +kernel
theorem dX3_canApprove_39 : decode cX3_canApprove 39 = .ok (.goto 4, 3) := by decide +kernel
theorem dX3_canApprove_42 : decode cX3_canApprove 42 = .ok (.iconst 0, 1) := by decide +kernel
theorem dX3_canApprove_43 : decode cX3_canApprove 43 = .ok (.istore_n 2, 1) := by decide +kernel
theorem dX3_canApprove_44 : decode cX3_canApprove 44 = .ok (.iinc 3 1, 3) := by decide +kernel
theorem dX3_canApprove_47 : decode cX3_canApprove 47 = .ok (.goto (-38), 3) := by decide +kernel
theorem dX3_canApprove_50 : decode cX3_canApprove 50 = .ok (.iload_n 2, 1) := by decide +kernel
theorem dX3_canApprove_51 : decode cX3_canApprove 51 = .ok (.ireturn, 1) := by decide +kernel
set_option maxRecDepth 20000 in
theorem ggX3_beginDay_X2_comeIntoForce : GoodIn wsX3_beginDay wsX2_comeIntoForce := goodIn_r _ [7, 8, 9, 10, 11, 12, 13, 14, 15, 16, 17, 18, 19, 20, 21, 22, 23, 24, 25, 26, 27, 28, 29, 30, 31, 32, 33, 34, 35, 36, 37, 38, 39, 40, 41, 42, 43, 44, 45, 46, 6, 47, 48, 49, 69, 70, 71, 72, 73, 74, 75, 76, 77, 78, 79, 80, 81, 82, 83, 84, 85, 86, 87, 88, 89] (by decide +kernel) (by decide +kernel)
set_option maxRecDepth 20000 in
theorem gX3_beginDay_X2_comeIntoForce : GoodIn wsX3_beginDay (wsV RX3 253 RX2 yX2_comeIntoForce wsX2_comeIntoForce) := goodIn_app (goodIn_of _ (by decide +kernel)) ggX3_beginDay_X2_comeIntoForce
set_option maxRecDepth 20000 in
theorem ggX3_beginDay_X3_askForLooks : GoodIn wsX3_beginDay wsX3_askForLooks := goodIn_r _ [54, 1, 55, 56, 57, 58, 59, 6, 60, 10, 61, 62, 63, 64, 65, 66, 67, 68, 69, 70, 71, 72, 73, 74, 75, 76, 77] (by decide +kernel) (by decide +kernel)
set_option maxRecDepth 20000 in
theorem gX3_beginDay_X3_askForLooks : GoodIn wsX3_beginDay (wsV RX3 256 RX3 yX3_askForLooks wsX3_askForLooks) := goodIn_app (goodIn_of _ (by decide +kernel)) ggX3_beginDay_X3_askForLooks
theorem dX3_beginDay_0 : decode cX3_beginDay 0 = .ok (.iconst 0, 1) := by decide +kernel
theorem dX3_beginDay_1 : decode cX3_beginDay 1 = .ok (.istore_n 1, 1) := by decide +kernel
theorem dX3_beginDay_2 : decode cX3_beginDay 2 = .ok (.iconst 0, 1) := by decide +kernel
theorem dX3_beginDay_3 : decode cX3_beginDay 3 = .ok (.istore_n 2, 1) := by decide +kernel
theorem dX3_beginDay_4 : decode cX3_beginDay 4 = .ok (.iload_n 2, 1) := by decide +kernel
theorem dX3_beginDay_5 : decode cX3_beginDay 5 = .ok (.bipush 8, 2) := by decide +kernel
theorem dX3_beginDay_7 : decode cX3_beginDay 7 = .ok (.if_icmp .ge 39, 3) := by decide +kernel
theorem dX3_beginDay_10 : decode cX3_beginDay 10 = .ok (.aload_n 0, 1) := by decide +kernel
theorem dX3_beginDay_11 : decode cX3_beginDay 11 = .ok (.getfield 22, 3) := by decide +kernel
theorem dX3_beginDay_14 : decode cX3_beginDay 14 = .ok (.iload_n 2, 1) := by decide +kernel
theorem dX3_beginDay_15 : decode cX3_beginDay 15 = .ok (.aaload, 1) := by decide +kernel
theorem dX3_beginDay_16 : decode cX3_beginDay 16 = .ok (.astore_n 3, 1) := by decide +kernel
theorem dX3_beginDay_17 : decode cX3_beginDay 17 = .ok (.aload_n 3, 1) := by decide +kernel
theorem dX3_beginDay_18 : decode cX3_beginDay 18 = .ok (.ifnull 22, 3) := by decide +kernel
theorem dX3_beginDay_21 : decode cX3_beginDay 21 = .ok (.aload_n 3, 1) := by decide +kernel
theorem dX3_beginDay_22 : decode cX3_beginDay 22 = .ok (.aload_n 0, 1) := by decide +kernel
theorem dX3_beginDay_23 : decode cX3_beginDay 23 = .ok (.getfield 40, 3) := by decide +kernel
theorem dX3_beginDay_26 : decode cX3_beginDay 26 = .ok (.invokevirtual 253, 3) := by decide +kernel
theorem dX3_beginDay_29 : decode cX3_beginDay 29 = .ok (.ifCond .eq 11, 3) := by decide +kernel
theorem dX3_beginDay_32 : decode cX3_beginDay 32 = .ok (.iinc 1 1, 3) := by decide +kernel
theorem dX3_beginDay_35 : decode cX3_beginDay 35 = .ok (.aload_n 0, 1) := by decide +kernel
theorem dX3_beginDay_36 : decode cX3_beginDay 36 = .ok (.iload_n 2, 1) := by decide +kernel
theorem dX3_beginDay_37 : decode cX3_beginDay 37 = .ok (.invokevirtual 256, 3) := by decide +kernel
theorem dX3_beginDay_40 : decode cX3_beginDay 40 = .ok (.iinc 2 1, 3) := by decide +kernel
theorem dX3_beginDay_43 : decode cX3_beginDay 43 = .ok (.goto (-39), 3) := by decide +kernel
theorem dX3_beginDay_46 : decode cX3_beginDay 46 = .ok (.iload_n 1, 1) := by decide +kernel
theorem dX3_beginDay_47 : decode cX3_beginDay 47 = .ok (.ireturn, 1) := by decide +kernel
set_option maxRecDepth 20000 in
theorem ggX3_askForLooks_X2_newest : GoodIn wsX3_askForLooks wsX2_newest := goodIn_r _ [8, 9, 18, 19, 20, 21, 22, 23, 24, 25, 26] (by decide +kernel) (by decide +kernel)
set_option maxRecDepth 20000 in
theorem gX3_askForLooks_X2_newest : GoodIn wsX3_askForLooks (wsV RX3 211 RX2 yX2_newest wsX2_newest) := goodIn_app (goodIn_of _ (by decide +kernel)) ggX3_askForLooks_X2_newest
theorem dX3_askForLooks_0 : decode cX3_askForLooks 0 = .ok (.iconst 0, 1) := by decide +kernel
theorem dX3_askForLooks_1 : decode cX3_askForLooks 1 = .ok (.istore_n 2, 1) := by decide +kernel
theorem dX3_askForLooks_2 : decode cX3_askForLooks 2 = .ok (.iload_n 2, 1) := by decide +kernel
theorem dX3_askForLooks_3 : decode cX3_askForLooks 3 = .ok (.bipush 8, 2) := by decide +kernel
theorem dX3_askForLooks_5 : decode cX3_askForLooks 5 = .ok (.if_icmp .ge 42, 3) := by decide +kernel
theorem dX3_askForLooks_8 : decode cX3_askForLooks 8 = .ok (.aload_n 0, 1) := by decide +kernel
theorem dX3_askForLooks_9 : decode cX3_askForLooks 9 = .ok (.getfield 22, 3) := by decide +kernel
theorem dX3_askForLooks_12 : decode cX3_askForLooks 12 = .ok (.iload_n 2, 1) := by decide +kernel
theorem dX3_askForLooks_13 : decode cX3_askForLooks 13 = .ok (.aaload, 1) := by decide +kernel
theorem dX3_askForLooks_14 : decode cX3_askForLooks 14 = .ok (.astore_n 3, 1) := by decide +kernel
theorem dX3_askForLooks_15 : decode cX3_askForLooks 15 = .ok (.aload_n 3, 1) := by decide +kernel
theorem dX3_askForLooks_16 : decode cX3_askForLooks 16 = .ok (.ifnull 25, 3) := by decide +kernel
theorem dX3_askForLooks_19 : decode cX3_askForLooks 19 = .ok (.aload_n 3, 1) := by decide +kernel
theorem dX3_askForLooks_20 : decode cX3_askForLooks 20 = .ok (.getfield 68, 3) := by decide +kernel
theorem dX3_askForLooks_23 : decode cX3_askForLooks 23 = .ok (.iload_n 1, 1) := by decide +kernel
theorem dX3_askForLooks_24 : decode cX3_askForLooks 24 = .ok (.baload, 1) := by decide +kernel
theorem dX3_askForLooks_25 : decode cX3_askForLooks 25 = .ok (.ifCond .eq 16, 3) := by decide +kernel
theorem dX3_askForLooks_28 : decode cX3_askForLooks 28 = .ok (.aload_n 3, 1) := by decide +kernel
theorem dX3_askForLooks_29 : decode cX3_askForLooks 29 = .ok (.invokevirtual 211, 3) := by decide +kernel
theorem dX3_askForLooks_32 : decode cX3_askForLooks 32 = .ok (.iconst (-1), 1) := by decide +kernel
theorem dX3_askForLooks_33 : decode cX3_askForLooks 33 = .ok (.if_icmp .eq 8, 3) := by decide +kernel
theorem dX3_askForLooks_36 : decode cX3_askForLooks 36 = .ok (.aload_n 3, 1) := by decide +kernel
theorem dX3_askForLooks_37 : decode cX3_askForLooks 37 = .ok (.iconst 1, 1) := by decide +kernel
theorem dX3_askForLooks_38 : decode cX3_askForLooks 38 = .ok (.putfield 259, 3) := by decide +kernel
theorem dX3_askForLooks_41 : decode cX3_askForLooks 41 = .ok (.iinc 2 1, 3) := by decide +kernel
theorem dX3_askForLooks_44 : decode cX3_askForLooks 44 = .ok (.goto (-42), 3) := by decide +kernel
theorem dX3_askForLooks_47 : decode cX3_askForLooks 47 = .ok (.return_, 1) := by decide +kernel
end
section
/-! THE CORE: one form of contract for every method, its frame rule, and rows for calls, ends and array cells. -/
section QA
/-- the array classes of the system, always in this order -/
abbrev q_ty (cI cZ cP : ClassId) : List (ClassId × FieldType) := [(cI, .int), (cZ, .boolean), (cP, .object "PaperKeeper$Paper")]
/-- the texts of the class's exceptions, by their places in its file -/
def q_strs : List (Nat × String) := [(49, "nobody is the own deputy"), (56, "there are 8 papers"), (66, "a paper does not hang on itself"), (83, "the paper has a draft"), (102, "the draft has this text"), (113, "the draft is approved"), (118, "the person may not review it"), (127, "the person is named, or there are 4"), (135, "the person is named"), (140, "the person has no review to give"), (149, "it is not the person's turn"), (159, "no such remark in this round"), (165, "the remark is answered"), (173, "the round is not over, or the draft is approved"), (178, "the person may not approve it"), (183, "the draft is not approved"), (188, "the person has nothing to confirm"), (190, "the day would be above 1000"), (209, "there were 30 copies"), (221, "no such copy hangs"), (237, "no such version"), (245, "out of range"), (247, "the paper has no version in force"), (249, "no such paper"), (251, "the paper has no draft")]
def q_IAE : String := "java/lang/IllegalArgumentException"
def q_ISE : String := "java/lang/IllegalStateException"
def q_IOB : String := "java/lang/IndexOutOfBoundsException"
/-- the words of throws and catches that aren't of every state -/
def q_ng : List Cond := [.declares (Bundle.initS "java/lang/RuntimeException"), .declares (Bundle.initS "java/lang/Exception"), .declares (Bundle.initS "java/lang/Throwable"), .castable q_IAE q_IAE, .castable q_ISE q_ISE, .castable q_IOB q_IOB]
def q_nc : List (String × String) := [(q_IAE, q_IOB), (q_ISE, q_IOB), (q_ISE, q_IAE), (q_IOB, q_IAE), (q_IOB, q_ISE), (q_IAE, q_ISE)]
/-- what every state of the system knows of the machine's tables -/
def q_KK (D : va_G) (cI cZ cP : ClassId) (U : State) : Prop :=
  va_K D vwCl (q_ty cI cZ cP) U ∧ (∀ q ∈ q_strs, ∃ sa : Nat, vk_R RX3 q.1 q.2 sa U) ∧ (∀ w ∈ q_ng, va_Nw w U) ∧ (∀ q ∈ q_nc, va_Nc q.1 q.2 U) ∧ va_AO "PaperKeeper$Paper" U
theorem q_KK.warm {D : va_G} {cI cZ cP : ClassId} {s U : State} (hW : s.WarmedH U.vm) (h : q_KK D cI cZ cP s) : q_KK D cI cZ cP U := by
  obtain ⟨h1, h2, h3, h4, h5⟩ := h
  refine ⟨va_K.moved hW.alike h1, fun q hq => ?_, fun w hw => ?_, fun q hq => va_Nc.moved hW.alike (h4 q hq), va_AO.moved hW.alike h5⟩
  · obtain ⟨sa, ha⟩ := h2 q hq
    exact ⟨sa, vk_R.warm hW ha⟩
  · have h9 := h3 w hw
    simp only [q_ng, List.mem_cons, List.not_mem_nil, or_false] at hw
    rcases hw with rfl | rfl | rfl | rfl | rfl | rfl
    · exact va_Nw.warmD hW h9
    · exact va_Nw.warmD hW h9
    · exact va_Nw.warmD hW h9
    · exact va_Nw.warmC hW h9
    · exact va_Nw.warmC hW h9
    · exact va_Nw.warmC hW h9
/-- the two statics that every throw reads -/
def q_Z (A : Nat → Prop) (U : State) (H : Heap) : Prop := vx_Zq Bundle.tN "UNASSIGNED_STACK" Bundle.steD A U H ∧ vx_Zq Bundle.tN "SUPPRESSED_SENTINEL" Bundle.listD A U H
theorem q_Z.moved {A : Nat → Prop} {u U : State} {H : Heap} (hvm : u.vm.Alike U.vm) (h : q_Z A u H) : q_Z A U H := ⟨h.1.moved hvm, h.2.moved hvm⟩
theorem q_Z.kept {A : Nat → Prop} {U : State} {H H1 : Heap} (h : q_Z A U H) (hq : ∀ a : Nat, a < H.size → ¬ A a → H1[a]? = H[a]?) : q_Z A U H1 := ⟨h.1.kept hq, h.2.kept hq⟩
theorem q_Z.narrow {A B : Nat → Prop} {U : State} {H : Heap} (h : q_Z A U H) (hAB : ∀ q, B q → A q) : q_Z B U H := ⟨h.1.narrow hAB, h.2.narrow hAB⟩
/-- a method's start: its world, the tables, the statics -/
def q_P (D : va_G) (cI cZ cP : ClassId) (av : List Value) (w : va_W) (sz : Nat) : Array Value → State → Prop :=
  va_Pc av (fun U => U.heap.size = sz ∧ va_P D vwCl w U.heap ∧ va_D (fun _ => True) w ∧ q_KK D cI cZ cP U ∧ q_Z (va_A w sz) U U.heap)
/-- a method's end: what it answers and how its world stands then -/
def q_Q {S : Type} (D : va_G) (post : Option Value → S → Prop) (W' : S → va_W) (A : Nat → Prop) : Array Value → State → Outcome → State → Prop := fun _ st oc t =>
  (∃ (v : Option Value) (u : S), oc = .returned v ∧ post v u ∧ va_P D vwCl (W' u) t.heap ∧ va_D A (W' u)) ∧ va_F A st t
/-- a method that has thrown: which class, its world as it was -/
def q_X (D : va_G) (xp : String → Prop) (w : va_W) (A : Nat → Prop) : String → State → State → Prop := fun E st t => xp E ∧ va_P D vwCl w t.heap ∧ va_F A st t
/-- THE CONTRACT -/
def q_C (l : Launch) (y : MethodName) (ws : List Cond) (rm : Room) (D : va_G) (cI cZ cP : ClassId) (av : List Value) (w : va_W) {S : Type} (post : Option Value → S → Prop) (W' : S → va_W) (xp : String → Prop) (mc ms : Nat) : Prop :=
  ∀ sz : Nat, vx_Met l y ws rm (q_P D cI cZ cP av w sz) (q_Q D post W' (va_A w sz)) (q_X D xp w (va_A w sz)) mc ms (va_A w sz)
theorem q_P.blind {D : va_G} {cI cZ cP : ClassId} {av : List Value} {w : va_W} {sz : Nat} : FrameBlind (q_P D cI cZ cP av w sz) := by
  intro a U g mk h
  obtain ⟨h1, h2, h3, h4, h5, h6⟩ := h
  exact ⟨h1, h2, h3, h4, q_KK.warm (s := U) (U := U.calling g mk a) (State.WarmedH.refl U) h5, q_Z.moved (u := U) (U := U.calling g mk a) (Vm.Alike.refl U.vm) h6⟩
-- worlds as lists of cells
theorem q_mem {D : va_G} {cl : List vw_C} {ws : va_W} {H : Heap} : va_P D cl ws H ↔ ∀ q ∈ ws, va_at D cl q H := by
  constructor
  · intro h q hq
    obtain ⟨k, hk⟩ := List.getElem?_of_mem hq
    exact h k q hk
  · intro h k q hk
    exact h q (List.mem_of_getElem? hk)
theorem q_memA {ws : va_W} {sz q : Nat} : va_A ws sz q ↔ (∃ e : va_E, (q, e) ∈ ws) ∨ sz ≤ q := by
  unfold va_A
  constructor
  · rintro (⟨k, e, h⟩ | h)
    · exact Or.inl ⟨e, List.mem_of_getElem? h⟩
    · exact Or.inr h
  · rintro (⟨e, h⟩ | h)
    · obtain ⟨k, hk⟩ := List.getElem?_of_mem h
      exact Or.inl ⟨k, e, hk⟩
    · exact Or.inr h
theorem q_nodup {A : Nat → Prop} {ws : va_W} : va_D A ws ↔ (ws.map (fun q => q.1)).Nodup ∧ ∀ q ∈ ws, A q.1 := by
  constructor
  · intro h
    refine ⟨?_, fun q hq => ?_⟩
    · refine List.pairwise_iff_getElem.mpr ?_
      intro i j hi hj hij he
      rw [List.length_map] at hi hj
      rw [List.getElem_map, List.getElem_map] at he
      have := h.1 i j _ _ (List.getElem?_eq_getElem hi) (List.getElem?_eq_getElem hj) he
      omega
    · obtain ⟨k, hk⟩ := List.getElem?_of_mem hq
      exact h.2 k q hk
  · intro h
    refine ⟨fun i j p q hp hq he => ?_, fun k q hk => h.2 q (List.mem_of_getElem? hk)⟩
    obtain ⟨hi, hp⟩ := List.getElem?_eq_some_iff.mp hp
    obtain ⟨hj, hq⟩ := List.getElem?_eq_some_iff.mp hq
    have h1 := List.pairwise_iff_getElem.mp h.1
    rcases Nat.lt_trichotomy i j with hij | hij | hij
    · exact absurd (by rw [List.getElem_map, List.getElem_map, hp, hq]; exact he) (h1 i j (by rw [List.length_map]; exact hi) (by rw [List.length_map]; exact hj) hij)
    · exact hij
    · exact absurd (by rw [List.getElem_map, List.getElem_map, hp, hq]; exact he.symm) (h1 j i (by rw [List.length_map]; exact hj) (by rw [List.length_map]; exact hi) hij)
theorem q_Pperm {D : va_G} {cl : List vw_C} {w v : va_W} {H : Heap} (hp : w.Perm v) (h : va_P D cl w H) : va_P D cl v H := q_mem.mpr fun q hq => q_mem.mp h q (hp.mem_iff.mpr hq)
theorem q_Dperm {A : Nat → Prop} {w v : va_W} (hp : w.Perm v) (h : va_D A w) : va_D A v := by
  obtain ⟨h1, h2⟩ := q_nodup.mp h
  exact q_nodup.mpr ⟨(hp.map _).nodup_iff.mp h1, fun q hq => h2 q (hp.mem_iff.mpr hq)⟩
theorem q_Aperm {w v : va_W} {sz : Nat} (hp : w.Perm v) : va_A w sz = va_A v sz := by
  funext q
  apply propext
  rw [q_memA, q_memA]
  constructor
  · rintro (⟨e, h⟩ | h)
    · exact Or.inl ⟨e, hp.mem_iff.mp h⟩
    · exact Or.inr h
  · rintro (⟨e, h⟩ | h)
    · exact Or.inl ⟨e, hp.mem_iff.mpr h⟩
    · exact Or.inr h
theorem q_Pl {D : va_G} {cl : List vw_C} {w x : va_W} {H : Heap} (h : va_P D cl (w ++ x) H) : va_P D cl w H := q_mem.mpr fun q hq => q_mem.mp h q (List.mem_append_left _ hq)
theorem q_Pr {D : va_G} {cl : List vw_C} {w x : va_W} {H : Heap} (h : va_P D cl (w ++ x) H) : va_P D cl x H := q_mem.mpr fun q hq => q_mem.mp h q (List.mem_append_right _ hq)
theorem q_Dl {A : Nat → Prop} {w x : va_W} (h : va_D A (w ++ x)) : va_D A w := by
  obtain ⟨h1, h2⟩ := q_nodup.mp h
  rw [List.map_append] at h1
  exact q_nodup.mpr ⟨(List.nodup_append.mp h1).1, fun q hq => h2 q (List.mem_append_left _ hq)⟩
theorem q_Dr {A : Nat → Prop} {w x : va_W} (h : va_D A (w ++ x)) : va_D A x := by
  obtain ⟨h1, h2⟩ := q_nodup.mp h
  rw [List.map_append] at h1
  exact q_nodup.mpr ⟨(List.nodup_append.mp h1).2.1, fun q hq => h2 q (List.mem_append_right _ hq)⟩
theorem q_Dx {A : Nat → Prop} {w x : va_W} (h : va_D A (w ++ x)) : ∀ p ∈ w, ∀ q ∈ x, p.1 ≠ q.1 := by
  obtain ⟨h1, -⟩ := q_nodup.mp h
  rw [List.map_append] at h1
  intro p hp q hq
  exact (List.nodup_append.mp h1).2.2 _ (List.mem_map_of_mem hp) _ (List.mem_map_of_mem hq)
theorem q_Dapp {A : Nat → Prop} {w x : va_W} (h1 : va_D A w) (h2 : va_D A x) (h : ∀ p ∈ w, ∀ q ∈ x, p.1 ≠ q.1) : va_D A (w ++ x) := by
  obtain ⟨a1, a2⟩ := q_nodup.mp h1
  obtain ⟨b1, b2⟩ := q_nodup.mp h2
  refine q_nodup.mpr ⟨?_, fun q hq => ?_⟩
  · rw [List.map_append]
    refine List.nodup_append.mpr ⟨a1, b1, ?_⟩
    intro a ha b hb
    obtain ⟨p, hp, rfl⟩ := List.mem_map.mp ha
    obtain ⟨q, hq, rfl⟩ := List.mem_map.mp hb
    exact h p hp q hq
  · rcases List.mem_append.mp hq with h9 | h9
    · exact a2 q h9
    · exact b2 q h9
theorem q_Aw {w x : va_W} {sz q : Nat} (h : va_A w sz q) : va_A (w ++ x) sz q := by
  rw [q_memA] at h ⊢
  rcases h with ⟨e, h⟩ | h
  · exact Or.inl ⟨e, List.mem_append_left _ h⟩
  · exact Or.inr h
/-- a cell beside a world isn't one that the world's method may change -/
theorem q_out {D : va_G} {cl : List vw_C} {A : Nat → Prop} {w x : va_W} {H : Heap} (hP : va_P D cl (w ++ x) H) (hD : va_D A (w ++ x)) : ∀ q ∈ x, q.1 < H.size ∧ ¬ va_A w H.size q.1 := by
  intro q hq
  have hlt : q.1 < H.size := (q_mem.mp (q_Pr hP) q hq).lt
  refine ⟨hlt, fun h => ?_⟩
  rcases q_memA.mp h with ⟨e, he⟩ | h9
  · exact q_Dx hD _ he _ hq rfl
  · omega
/-- behind a method of the part w: the whole -/
theorem q_back {D : va_G} {cl : List vw_C} {A : Nat → Prop} {w x w1 : va_W} {H H1 : Heap} (hP : va_P D cl (w ++ x) H) (hD : va_D A (w ++ x)) (hk : ∀ q : Nat, q < H.size → ¬ va_A w H.size q → H1[q]? = H[q]?) (hP1 : va_P D cl w1 H1) (hD1 : va_D (va_A w H.size) w1) :
    va_P D cl (w1 ++ x) H1 ∧ va_D (va_A (w ++ x) H.size) (w1 ++ x) := by
  have ho := q_out hP hD
  refine ⟨q_mem.mpr fun q hq => ?_, q_Dapp (hD1.weaken fun _ _ _ h => q_Aw h) ?_ ?_⟩
  · rcases List.mem_append.mp hq with h | h
    · exact q_mem.mp hP1 q h
    · exact (q_mem.mp (q_Pr hP) q h).kept (hk _ (ho q h).1 (ho q h).2)
  · refine q_nodup.mpr ⟨(q_nodup.mp (q_Dr hD)).1, fun q hq => q_memA.mpr (Or.inl ⟨q.2, List.mem_append_right _ hq⟩)⟩
  · intro p hp q hq he
    have := (q_nodup.mp hD1).2 p hp
    rw [he] at this
    exact (ho q hq).2 this
/-- THE FRAME RULE: a method of a part is one of the whole -/
theorem q_C.fr {l : Launch} {y : MethodName} {ws : List Cond} {rm : Room} {D : va_G} {cI cZ cP : ClassId} {av : List Value} {w : va_W} {S : Type} {post : Option Value → S → Prop} {W' : S → va_W} {xp : String → Prop} {mc ms : Nat} (h : q_C l y ws rm D cI cZ cP av w post W' xp mc ms) (x : va_W) :
    q_C l y ws rm D cI cZ cP av (w ++ x) post (fun u => W' u ++ x) xp mc ms := by
  intro sz p e ha hc hk s m args below hf happ hpre _
  obtain ⟨e0, e1, e2, e3, e4, e5⟩ := hpre
  obtain ⟨n, o, h1, h2, h3, h4⟩ := h sz p e ha hc hk s m args below hf happ ⟨e0, e1, q_Pl e2, q_Dl e3, e4, e5.narrow fun q hq => q_Aw hq⟩ trivial
  refine ⟨n, o, h1, h2, h3, ?_⟩
  subst e1
  rcases h4 with ⟨⟨⟨v, u, rfl, hp, hP, hD⟩, hF⟩, L, hE, hL⟩ | ⟨q, rfl, E, ce, L, ⟨hx, hP, hF⟩, hce, hcv, hcl, hW, hsm, hL⟩
  · obtain ⟨k1, k2⟩ := q_back e2 e3 hF.2 hP hD
    exact Or.inl ⟨⟨⟨v, u, rfl, hp, k1, k2⟩, hF.1, fun q hq hA => hF.2 q hq (fun h => hA (q_Aw h))⟩, L, hE, fun q hq => q_Aw (hL q hq)⟩
  · have ho := q_out e2 e3
    refine Or.inr ⟨q, rfl, E, ce, L, ⟨hx, q_mem.mpr fun q hq => ?_, hF.1, fun q hq hA => hF.2 q hq (fun h => hA (q_Aw h))⟩, hce, hcv, hcl, hW, hsm, fun z hz => q_Aw (hL z hz)⟩
    rcases List.mem_append.mp hq with h | h
    · exact q_mem.mp hP q h
    · exact (q_mem.mp (q_Pr e2) q h).kept (hF.2 _ (ho q h).1 (ho q h).2)
theorem q_C.perm {l : Launch} {y : MethodName} {ws : List Cond} {rm : Room} {D : va_G} {cI cZ cP : ClassId} {av : List Value} {w v : va_W} {S : Type} {post : Option Value → S → Prop} {W' V' : S → va_W} {xp : String → Prop} {mc ms : Nat} (h : q_C l y ws rm D cI cZ cP av w post W' xp mc ms) (hp : w.Perm v) (hp2 : ∀ u, (W' u).Perm (V' u)) :
    q_C l y ws rm D cI cZ cP av v post V' xp mc ms := by
  intro sz p e ha hc hk s m args below hf happ hpre _
  obtain ⟨e0, e1, e2, e3, e4, e5⟩ := hpre
  have hA := q_Aperm (sz := sz) hp
  obtain ⟨n, o, h1, h2, h3, h4⟩ := h sz p e ha hc hk s m args below hf happ ⟨e0, e1, q_Pperm hp.symm e2, q_Dperm hp.symm e3, e4, by rw [hA]; exact e5⟩ trivial
  refine ⟨n, o, h1, h2, h3, ?_⟩
  rw [hA] at h4
  rcases h4 with ⟨⟨⟨v, u, rfl, hq, hP, hD⟩, hF⟩, L, hE, hL⟩ | ⟨q, rfl, E, ce, L, ⟨hx, hP, hF⟩, hr⟩
  · exact Or.inl ⟨⟨⟨v, u, rfl, hq, q_Pperm (hp2 u) hP, q_Dperm (hp2 u) hD⟩, hF⟩, L, hE, hL⟩
  · exact Or.inr ⟨q, rfl, E, ce, L, ⟨hx, q_Pperm hp hP, hF⟩, hr⟩
/-- the part stands behind -/
theorem q_C.fl {l : Launch} {y : MethodName} {ws : List Cond} {rm : Room} {D : va_G} {cI cZ cP : ClassId} {av : List Value} {w : va_W} {S : Type} {post : Option Value → S → Prop} {W' : S → va_W} {xp : String → Prop} {mc ms : Nat} (h : q_C l y ws rm D cI cZ cP av w post W' xp mc ms) (x : va_W) :
    q_C l y ws rm D cI cZ cP av (x ++ w) post (fun u => x ++ W' u) xp mc ms := (h.fr x).perm List.perm_append_comm (fun _ => List.perm_append_comm)
/-- the answers said otherwise -/
theorem q_C.post {l : Launch} {y : MethodName} {ws : List Cond} {rm : Room} {D : va_G} {cI cZ cP : ClassId} {av : List Value} {w : va_W} {S S2 : Type} {post : Option Value → S → Prop} {post2 : Option Value → S2 → Prop} {W' : S → va_W} {W2 : S2 → va_W} {xp xp2 : String → Prop} {mc ms : Nat} (h : q_C l y ws rm D cI cZ cP av w post W' xp mc ms)
    (hq : ∀ v u, post v u → ∃ u2, post2 v u2 ∧ W' u = W2 u2) (hx : ∀ E, xp E → xp2 E) : q_C l y ws rm D cI cZ cP av w post2 W2 xp2 mc ms := by
  intro sz p e ha hc hk s m args below hf happ hpre _
  obtain ⟨n, o, h1, h2, h3, h4⟩ := h sz p e ha hc hk s m args below hf happ hpre trivial
  refine ⟨n, o, h1, h2, h3, ?_⟩
  rcases h4 with ⟨⟨⟨v, u, rfl, hp, hP, hD⟩, hF⟩, L, hE, hL⟩ | ⟨q, rfl, E, ce, L, ⟨hxp, hP, hF⟩, hr⟩
  · obtain ⟨u2, k1, k2⟩ := hq v u hp
    exact Or.inl ⟨⟨⟨v, u2, rfl, k1, by rw [← k2]; exact hP, by rw [← k2]; exact hD⟩, hF⟩, L, hE, hL⟩
  · exact Or.inr ⟨q, rfl, E, ce, L, ⟨hx E hxp, hP, hF⟩, hr⟩
end QA
end
section
/-! ROWS: a method's body, its calls, its ends, throws, cells. -/
section QB
variable {p : Program} {l : Launch} {e : Env} {R : Room} {s : State} {m : MethodId} {args : Array Value} {below : List Frame} {meth : Method} {c : Code} {H : Heap} {locs : List Loc} {cells slots : Nat} {Q : State → Prop}
variable {D : va_G} {cI cZ cP : ClassId} {A : Nat → Prop} {cc : ByteArray} {pc nL : Nat} {ls : Array Slot} {rest st0 : List Value} {own : String} {Ts : List Cond} {w : va_W}
/-- what a walk has at hand -/
def q_B (p : Program) (l : Launch) (s : State) (m : MethodId) (args : Array Value) (meth : Method) (c : Code) (D : va_G) (cI cZ cP : ClassId) (A : Nat → Prop) (cc : ByteArray) (nL : Nat) (own : String) (Ts : List Cond) : Prop :=
  p.tables.exec = Jvm.exec ∧ c.code = cc ∧ c.maxLocals = nL ∧ meth.locks = false ∧ s.vm.findClass own = some m.cls ∧ (∀ w ∈ Ts, w.before args s = true) ∧ q_KK D cI cZ cP s ∧ q_Z A s s.heap ∧ (∀ q, s.heap.size ≤ q → A q)
theorem q_B.hx (B : q_B p l s m args meth c D cI cZ cP A cc nL own Ts) : p.tables.exec = Jvm.exec := B.1
theorem q_B.hb (B : q_B p l s m args meth c D cI cZ cP A cc nL own Ts) : c.code = cc := B.2.1
theorem q_B.hml (B : q_B p l s m args meth c D cI cZ cP A cc nL own Ts) : c.maxLocals = nL := B.2.2.1
theorem q_B.hlk (B : q_B p l s m args meth c D cI cZ cP A cc nL own Ts) : meth.locks = false := B.2.2.2.1
theorem q_B.hown (B : q_B p l s m args meth c D cI cZ cP A cc nL own Ts) : s.vm.findClass own = some m.cls := B.2.2.2.2.1
theorem q_B.hts (B : q_B p l s m args meth c D cI cZ cP A cc nL own Ts) : ∀ w ∈ Ts, w.before args s = true := B.2.2.2.2.2.1
theorem q_B.hKK (B : q_B p l s m args meth c D cI cZ cP A cc nL own Ts) : q_KK D cI cZ cP s := B.2.2.2.2.2.2.1
theorem q_B.hK (B : q_B p l s m args meth c D cI cZ cP A cc nL own Ts) : va_K D vwCl (q_ty cI cZ cP) s := B.hKK.1
theorem q_B.hZ (B : q_B p l s m args meth c D cI cZ cP A cc nL own Ts) : q_Z A s s.heap := B.2.2.2.2.2.2.2.1
theorem q_B.hA (B : q_B p l s m args meth c D cI cZ cP A cc nL own Ts) : ∀ q, s.heap.size ≤ q → A q := B.2.2.2.2.2.2.2.2
/-- a body without handlers -/
theorem q_of {l : Launch} {y : MethodName} {ws ws' : List Cond} {rm : Room} {D : va_G} {cI cZ cP : ClassId} {av : List Value} {w : va_W} {S : Type} {post : Option Value → S → Prop} {W' : S → va_W} {xp : String → Prop} {mc ms : Nat} {cc : ByteArray} {maxL : Nat} {ret : Option FieldType}
    (hy : plainName y.cls = true) (hw : ws = Cond.code y cc maxL ret :: ws') (hlen : (lg_sl av).length ≤ maxL)
    (body : ∀ (p : Program) (e : Env) (s : State) (m : MethodId) (below : List Frame) (meth : Method) (c : Code) (A : Nat → Prop) (ls : Array Slot), q_B p l s m av.toArray meth c D cI cZ cP A cc maxL y.cls ws → meth.sig.returnType = ret → (∀ x ∈ c.exceptionTable.toList, False) → meth.name = y.name →
      va_P D vwCl w s.heap → va_D A w → va_S A s.heap s.heap [] → lv_has ls maxL (lv_args 0 av) →
      W p l e rm s m av.toArray below meth c s.heap [] 0 0 (vx_MQ below (q_Q D post W' A) (q_X D xp w A) av.toArray s mc ms A) (F0 m 0 ls [])) :
    q_C l y ws rm D cI cZ cP av w post W' xp mc ms := by
  intro sz
  refine vx_ofW (cc := cc) (maxL := maxL) (ret := ret) hy hw ?_
  intro p e s m args below meth c s₁ B hml htb hv
  obtain ⟨rfl, hsz, hP, hD, hKK, hZ⟩ := hv
  subst hsz
  have hl := lv_entry av (n := maxL) hlen
  rw [lg_entry_eq]
  exact body p e s m below meth c (va_A w s.heap.size) _ ⟨B.exec, B.bytes, hml, B.notSynchronized, findClass_of_methodNamed B.named, atoms_spec (ws := ws) B.pre, hKK, hZ, fun q h => Or.inr h⟩ B.returns htb (name_of_methodNamed B.named B.method).1 hP hD.self va_S.rf hl
/-- a body with handlers -/
theorem q_ofH {l : Launch} {y : MethodName} {ws ws' : List Cond} {rm : Room} {D : va_G} {cI cZ cP : ClassId} {av : List Value} {w : va_W} {S : Type} {post : Option Value → S → Prop} {W' : S → va_W} {xp : String → Prop} {mc ms : Nat} {cc : ByteArray} {maxL : Nat} {ret : Option FieldType} {hh : List (Nat × Nat × Nat × Nat)}
    (hy : plainName y.cls = true) (hw : ws = Cond.codeWith y cc maxL ret hh :: ws') (hlen : (lg_sl av).length ≤ maxL)
    (body : ∀ (p : Program) (e : Env) (s : State) (m : MethodId) (below : List Frame) (meth : Method) (c : Code) (A : Nat → Prop) (ls : Array Slot), q_B p l s m av.toArray meth c D cI cZ cP A cc maxL y.cls ws → meth.sig.returnType = ret → c.exceptionTable.toList = tableOf hh →
      va_P D vwCl w s.heap → va_D A w → va_S A s.heap s.heap [] → lv_has ls maxL (lv_args 0 av) →
      W p l e rm s m av.toArray below meth c s.heap [] 0 0 (vx_MQ below (q_Q D post W' A) (q_X D xp w A) av.toArray s mc ms A) (F0 m 0 ls [])) :
    q_C l y ws rm D cI cZ cP av w post W' xp mc ms := by
  intro sz
  refine vx_ofWH (cc := cc) (maxL := maxL) (ret := ret) (hh := hh) hy hw ?_
  intro p e s m args below meth c s₁ B hml hv
  obtain ⟨rfl, hsz, hP, hD, hKK, hZ⟩ := hv
  subst hsz
  have hl := lv_entry av (n := maxL) hlen
  have hts := atoms_spec (ws := ws) B.pre
  rw [lg_entry_eq]
  exact body p e s m below meth c (va_A w s.heap.size) _ ⟨B.exec, B.bytes, hml, B.notSynchronized, findClass_of_methodNamed B.named, hts, hKK, hZ, fun q h => Or.inr h⟩ B.returns (vx_table (x := y) B (hts _ (by rw [hw]; exact List.mem_cons_self))) hP hD.self va_S.rf hl
/-- the callee's start, out of the caller's world -/
theorem q_pre (B : q_B p l s m args meth c D cI cZ cP A cc nL own Ts) (hP : va_P D vwCl w H) (hD : va_D A w) (hS : va_S A s.heap H locs) {av : List Value} {U : State} (hU : U.heap = H) (hW : s.WarmedH U.vm) : q_P D cI cZ cP av w H.size av.toArray U := by
  refine ⟨rfl, by rw [hU], by rw [hU]; exact hP, hD.weaken (fun _ _ _ _ => trivial), B.hKK.warm hW, ?_⟩
  rw [hU]
  refine q_Z.moved hW.alike ((B.hZ.kept hS.2.1).narrow fun q h => ?_)
  rcases q_memA.mp h with ⟨e9, h9⟩ | h9
  · exact (q_nodup.mp hD).2 _ h9
  · exact B.hA q (Nat.le_trans hS.1 h9)
theorem q_sub (B : q_B p l s m args meth c D cI cZ cP A cc nL own Ts) (hD : va_D A w) (hS : va_S A s.heap H locs) : ∀ q, va_A w H.size q → A q := by
  intro q h
  rcases q_memA.mp h with ⟨e9, h9⟩ | h9
  · exact (q_nodup.mp hD).2 _ h9
  · exact B.hA q (Nat.le_trans hS.1 h9)
/-- a call, by what it runs to -/
theorem q_call {S : Type} {post : Option Value → S → Prop} {W' : S → va_W} {xp : String → Prop} {mc ms : Nat} {a : Array Value} (B : q_B p l s m args meth c D cI cZ cP A cc nL own Ts) (hP : va_P D vwCl w H) (hD : va_D A w) (hS : va_S A s.heap H locs)
    (hr : vx_Run p l e R s m args below meth c H locs cells slots mc ms (F0 m pc ls st0) rest (q_Q D post W' (va_A w H.size) a) (q_X D xp w (va_A w H.size)) (va_A w H.size))
    (kx : ∀ (E : String) (ce : Cell) (q9 : Addr) (H1 : Heap) (locs1 : List Loc), xp E → va_P D vwCl w H1 → va_S A s.heap H1 locs1 → H1[q9]? = some ce → ce.vm = .none → s.vm.findClass E = some ce.cls → vx_W p l e R s m args below meth c H1 locs1 (cells + mc) (slots + ms) Q (F0 m pc ls rest) q9)
    (kk : ∀ (v : Option Value) (u : S) (H1 : Heap) (locs1 : List Loc), post v u → va_P D vwCl (W' u) H1 → va_D A (W' u) → va_S A s.heap H1 locs1 → W p l e R s m args below meth c H1 locs1 (cells + mc) (slots + ms) Q (F0 m (pc + 3) ls (v.toList ++ rest))) :
    W p l e R s m args below meth c H locs cells slots Q (F0 m pc ls st0) := by
  have hs := q_sub B hD hS
  intro T hT X
  rcases hr T hT X with ⟨v, st₀, t, T', L, h0, X', hL, e1, e2, ⟨⟨v9, u, hv, hp, hPn, hDn⟩, hF⟩, st⟩ | ⟨q, st₀, t, T', L, E, ce, h0, X', hL, e1, e2, ⟨hx9, hPx, hFx⟩, hce, hcv, hcl, st⟩
  · cases hv
    obtain ⟨k1, k2, k3⟩ := vx_keep h0 e1 hS (fun q _ h => hs q h) hs hL hF
    obtain ⟨t2, a1, b1⟩ := kk v u T'.heap (locs ++ L) hp (by rw [e1]; exact hPn) (hDn.weaken fun _ _ _ h => hs _ h) k3 T' rfl X'
    exact ⟨t2, st t2 a1, b1⟩
  · obtain ⟨k1, k2, k3⟩ := vx_keep h0 e1 hS (fun q _ h => hs q h) hs hL hFx
    obtain ⟨t2, a1, b1⟩ := kx E ce q T'.heap (locs ++ L) hx9 (by rw [e1]; exact hPx) k3 (by rw [e1]; exact hce) hcv hcl T' rfl X'
    exact ⟨t2, st.trans a1, b1⟩
/-- invokevirtual -/
theorem q_callV {S : Type} {post : Option Value → S → Prop} {W' : S → va_W} {xp : String → Prop} {mc ms n index maxL b : Nat} {y : MethodName} {bytes : ByteArray} {ret : Option FieldType} {ws : List Cond} {rm : Room} {As : List Value} {C : String} (B : q_B p l s m args meth c D cI cZ cP A cc nL own Ts) (hP : va_P D vwCl w H) (hD : va_D A w) (hS : va_S A s.heap H locs)
    (hC : q_C l y ws rm D cI cZ cP (.ref b :: As) w post W' xp mc ms) (cw : CallW R s args own C index y bytes maxL ret ws rm mc ms n)
    (q0 ci : Nat) {fs : List Value} {vc : vw_C} (hq : w[q0]? = some (b, .inr (ci, fs))) (hc : vwCl[ci]? = some vc) (hvc : vc.1 = C) (hn : As.length = n) (hls : ls.size = nL) (hst : st0 = As.reverse ++ .ref b :: rest) (hcat : (rest.map fun v => v.category).sum ≤ 8)
    (hdg : decode cc pc = .ok (.invokevirtual index, 3)) (hf : cells + mc ≤ R.cells ∧ slots + ms ≤ R.slots)
    (kx : ∀ (E : String) (ce : Cell) (q9 : Addr) (H1 : Heap) (locs1 : List Loc), xp E → va_P D vwCl w H1 → va_S A s.heap H1 locs1 → H1[q9]? = some ce → ce.vm = .none → s.vm.findClass E = some ce.cls → vx_W p l e R s m args below meth c H1 locs1 (cells + mc) (slots + ms) Q (F0 m pc ls rest) q9)
    (kk : ∀ (v : Option Value) (u : S) (H1 : Heap) (locs1 : List Loc), post v u → va_P D vwCl (W' u) H1 → va_D A (W' u) → va_S A s.heap H1 locs1 → W p l e R s m args below meth c H1 locs1 (cells + mc) (slots + ms) Q (F0 m (pc + 3) ls (v.toList ++ rest))) :
    W p l e R s m args below meth c H locs cells slots Q (F0 m pc ls st0) :=
  q_call B hP hD hS (vx_runV ⟨B.hx, B.hb, B.hml, B.hown, B.hts⟩ (hC H.size) cw ⟨q_P.blind, by rw [← hvc]; exact va_recv B.hK hP hc hq, fun U hU hW => q_pre B hP hD hS hU hW⟩ rfl hn hls hst (lv_room hcat) hdg hf) kx kk
/-- invokestatic -/
theorem q_callS {S : Type} {post : Option Value → S → Prop} {W' : S → va_W} {xp : String → Prop} {mc ms n index maxL : Nat} {y : MethodName} {bytes : ByteArray} {ret : Option FieldType} {ws : List Cond} {rm : Room} {As : List Value} (B : q_B p l s m args meth c D cI cZ cP A cc nL own Ts) (hP : va_P D vwCl w H) (hD : va_D A w) (hS : va_S A s.heap H locs)
    (hC : q_C l y ws rm D cI cZ cP As w post W' xp mc ms) (cw : CallB R s args own index y bytes maxL ret ws rm mc ms n ∧ (Cond.static y).before args s = true)
    (hn : As.length = n) (hls : ls.size = nL) (hst : st0 = As.reverse ++ rest) (hcat : (rest.map fun v => v.category).sum ≤ 8)
    (hdg : decode cc pc = .ok (.invokestatic index, 3)) (hf : cells + mc ≤ R.cells ∧ slots + ms ≤ R.slots)
    (kx : ∀ (E : String) (ce : Cell) (q9 : Addr) (H1 : Heap) (locs1 : List Loc), xp E → va_P D vwCl w H1 → va_S A s.heap H1 locs1 → H1[q9]? = some ce → ce.vm = .none → s.vm.findClass E = some ce.cls → vx_W p l e R s m args below meth c H1 locs1 (cells + mc) (slots + ms) Q (F0 m pc ls rest) q9)
    (kk : ∀ (v : Option Value) (u : S) (H1 : Heap) (locs1 : List Loc), post v u → va_P D vwCl (W' u) H1 → va_D A (W' u) → va_S A s.heap H1 locs1 → W p l e R s m args below meth c H1 locs1 (cells + mc) (slots + ms) Q (F0 m (pc + 3) ls (v.toList ++ rest))) :
    W p l e R s m args below meth c H locs cells slots Q (F0 m pc ls st0) :=
  q_call B hP hD hS (vx_runS ⟨B.hx, B.hb, B.hml, B.hown, B.hts⟩ (hC H.size) cw ⟨q_P.blind, fun U hU hW => q_pre B hP hD hS hU hW⟩ rfl hn hls hst (lv_room hcat) hdg hf) kx kk
/-- invokestatic of a method with handlers -/
theorem q_callSX {S : Type} {post : Option Value → S → Prop} {W' : S → va_W} {xp : String → Prop} {mc ms n index maxL : Nat} {y : MethodName} {bytes : ByteArray} {ret : Option FieldType} {hh : List (Nat × Nat × Nat × Nat)} {ws : List Cond} {rm : Room} {As : List Value} (B : q_B p l s m args meth c D cI cZ cP A cc nL own Ts) (hP : va_P D vwCl w H) (hD : va_D A w) (hS : va_S A s.heap H locs)
    (hC : q_C l y ws rm D cI cZ cP As w post W' xp mc ms) (cw : vx_CSW R s args own index y bytes maxL ret hh ws rm mc ms n)
    (hn : As.length = n) (hls : ls.size = nL) (hst : st0 = As.reverse ++ rest) (hcat : (rest.map fun v => v.category).sum ≤ 8)
    (hdg : decode cc pc = .ok (.invokestatic index, 3)) (hf : cells + mc ≤ R.cells ∧ slots + ms ≤ R.slots)
    (kx : ∀ (E : String) (ce : Cell) (q9 : Addr) (H1 : Heap) (locs1 : List Loc), xp E → va_P D vwCl w H1 → va_S A s.heap H1 locs1 → H1[q9]? = some ce → ce.vm = .none → s.vm.findClass E = some ce.cls → vx_W p l e R s m args below meth c H1 locs1 (cells + mc) (slots + ms) Q (F0 m pc ls rest) q9)
    (kk : ∀ (v : Option Value) (u : S) (H1 : Heap) (locs1 : List Loc), post v u → va_P D vwCl (W' u) H1 → va_D A (W' u) → va_S A s.heap H1 locs1 → W p l e R s m args below meth c H1 locs1 (cells + mc) (slots + ms) Q (F0 m (pc + 3) ls (v.toList ++ rest))) :
    W p l e R s m args below meth c H locs cells slots Q (F0 m pc ls st0) :=
  q_call B hP hD hS (vx_runSX ⟨B.hx, B.hb, B.hml, B.hown, B.hts⟩ (hC H.size) cw ⟨q_P.blind, fun U hU hW => q_pre B hP hD hS hU hW⟩ rfl hn hls hst (lv_room hcat) hdg hf) kx kk
-- ends
section
variable {S : Type} {post : Option Value → S → Prop} {W' : S → va_W} {XC : String → State → State → Prop} {mc ms : Nat} {u : S}
theorem q_iret (B : q_B p l s m args meth c D cI cZ cP A cc nL own Ts) (hr : meth.sig.returnType = some .int) (hP : va_P D vwCl w H) (hD : va_D A w) (hS : va_S A s.heap H locs) {v : Int32} (u : S) (hw : W' u = w) (hp : post (some (.int v)) u) (hc : cells ≤ mc) (hs : slots ≤ ms) (hdg : decode cc pc = .ok (.ireturn, 1)) :
    W p l e R s m args below meth c H locs cells slots (vx_MQ below (q_Q D post W' A) XC args s mc ms A) (F0 m pc ls [.int v]) :=
  W.widen hc hs (vx_ret (W.iret B.hx B.hb hr (fun t ht _ => ⟨⟨_, u, rfl, hp, by rw [ht, hw]; exact hP, by rw [hw]; exact hD⟩, hS.F ht⟩) hS.2.2 hdg B.hlk))
theorem q_zret (B : q_B p l s m args meth c D cI cZ cP A cc nL own Ts) (hr : meth.sig.returnType = some .boolean) (hP : va_P D vwCl w H) (hD : va_D A w) (hS : va_S A s.heap H locs) {v : Int32} (hn : narrow .boolean (.int v) = .int v) (u : S) (hw : W' u = w) (hp : post (some (.int v)) u) (hc : cells ≤ mc) (hs : slots ≤ ms) (hdg : decode cc pc = .ok (.ireturn, 1)) :
    W p l e R s m args below meth c H locs cells slots (vx_MQ below (q_Q D post W' A) XC args s mc ms A) (F0 m pc ls [.int v]) :=
  W.widen hc hs (vx_ret (W.zret B.hx B.hb hr hn (fun t ht _ => ⟨⟨_, u, rfl, hp, by rw [ht, hw]; exact hP, by rw [hw]; exact hD⟩, hS.F ht⟩) hS.2.2 hdg B.hlk))
theorem q_vret (B : q_B p l s m args meth c D cI cZ cP A cc nL own Ts) (hr : meth.sig.returnType = none) (hP : va_P D vwCl w H) (hD : va_D A w) (hS : va_S A s.heap H locs) (u : S) (hw : W' u = w) (hp : post none u) (hc : cells ≤ mc) (hs : slots ≤ ms) (hdg : decode cc pc = .ok (.return_, 1)) :
    W p l e R s m args below meth c H locs cells slots (vx_MQ below (q_Q D post W' A) XC args s mc ms A) (F0 m pc ls []) :=
  W.widen hc hs (vx_ret (W.vret B.hx B.hb hr (fun t ht _ => ⟨⟨_, u, rfl, hp, by rw [ht, hw]; exact hP, by rw [hw]; exact hD⟩, hS.F ht⟩) hS.2.2 hdg B.hlk))
theorem q_aret (B : q_B p l s m args meth c D cI cZ cP A cc nL own Ts) {nm : String} (hr : meth.sig.returnType = some (.object nm)) (hP : va_P D vwCl w H) (hD : va_D A w) (hS : va_S A s.heap H locs) {b : Nat} (u : S) (hw : W' u = w) (hp : post (some (.ref b)) u) (hc : cells ≤ mc) (hs : slots ≤ ms) (hdg : decode cc pc = .ok (.areturn, 1)) :
    W p l e R s m args below meth c H locs cells slots (vx_MQ below (q_Q D post W' A) XC args s mc ms A) (F0 m pc ls [.ref b]) :=
  W.widen hc hs (vx_ret (W.aret B.hx B.hb hr (Or.inl ⟨nm, rfl⟩) (Or.inr ⟨b, rfl⟩) (fun t ht _ => ⟨⟨_, u, rfl, hp, by rw [ht, hw]; exact hP, by rw [hw]; exact hD⟩, hS.F ht⟩) hS.2.2 hdg B.hlk))
end
-- throws
abbrev q_up : List String := ["java/lang/RuntimeException", "java/lang/Exception"]
theorem q_ng_of (B : q_B p l s m args meth c D cI cZ cP A cc nL own Ts) : ∀ w ∈ q_ng, w.before args s = true := fun w hw => va_Nw.use (by revert w; decide +kernel) (B.hKK.2.2.1 w hw)
/-- the three classes that the class throws, by its own links -/
def q_E (E : String) (ik ic : Nat) : Prop := Bundle.fit E = true ∧ (∀ w ∈ (vx_atS RX3 ic E q_up).filter (fun w => !goodWord w), w ∈ q_ng) ∧ (∀ w ∈ Cond.classLink RX3 ik E :: Cond.initialized E :: vx_atS RX3 ic E q_up, vx_ot w = true)
theorem q_E_IAE : q_E q_IAE 47 51 := ⟨by decide +kernel, by decide +kernel, by decide +kernel⟩
theorem q_E_ISE : q_E q_ISE 54 58 := ⟨by decide +kernel, by decide +kernel, by decide +kernel⟩
theorem q_E_IOB : q_E q_IOB 157 161 := ⟨by decide +kernel, by decide +kernel, by decide +kernel⟩
theorem q_throw {Qc : Array Value → State → Outcome → State → Prop} {xp : String → Prop} {mc ms : Nat} (B : q_B p l s m args meth c D cI cZ cP A cc nL RX3 Ts) (hfl : l.stackTraces = false) (htb : ∀ x ∈ c.exceptionTable.toList, False) (hP : va_P D vwCl w H) (hS : va_S A s.heap H locs) {E text : String} {ik ic is : Nat} (hE : q_E E ik ic)
    (hg : GoodIn Ts (Cond.classLink RX3 ik E :: Cond.initialized E :: (vx_atS RX3 ic E q_up).filter goodWord)) (htx : (is, text) ∈ q_strs) (hls : ls.size = nL)
    (d0 : decode cc pc = .ok (.new ik, 3)) (d3 : decode cc (pc + 3) = .ok (.dup, 1)) (d4 : decode cc (pc + 4) = .ok (.ldc is, 2)) (d6 : decode cc (pc + 6) = .ok (.invokespecial ic, 3)) (d9 : decode cc (pc + 9) = .ok (.athrow, 1))
    (hR : 5 < R.frames ∧ (rest.map fun v => v.category).sum + 82 ≤ R.locals ∧ cells + 1 ≤ R.cells ∧ slots + 6 ≤ R.slots) (hxp : xp E) (hc : cells + 1 ≤ mc) (hs : slots + 6 ≤ ms) :
    W p l e R s m args below meth c H locs cells slots (vx_MQ below Qc (q_X D xp w A) args s mc ms A) (F0 m pc ls rest) := by
  obtain ⟨sa, hsa⟩ := B.hKK.2.1 _ htx
  have hw : ∀ w ∈ Cond.classLink RX3 ik E :: Cond.initialized E :: (vx_atS RX3 ic E q_up).filter goodWord, w.before args s = true := fun w h => B.hts w (hg w h).1
  refine vx_throwS (cls := E) (names := q_up) (sa := sa) B.hx B.hb hfl B.hown hE.1 (by decide +kernel) (hw _ List.mem_cons_self) (hw _ (List.mem_cons_of_mem _ List.mem_cons_self)) hsa
    (vx_hat (fun w h => hw w (List.mem_cons_of_mem _ (List.mem_cons_of_mem _ h))) hE.2.1 (q_ng_of B)) hE.2.2 B.hZ.1 B.hZ.2 hS (by rw [B.hml]; exact hls) d0 d3 d4 d6 d9 (fun x h => (htb x h).elim) hR.1 hR.2.1 hR.2.2.1 hR.2.2.2 B.hlk ?_ hS.2.2 hc hs
  intro t hal hsz hq
  refine ⟨hxp, q_mem.mpr fun q h => (q_mem.mp hP q h).kept (hq _ (q_mem.mp hP q h).lt), Nat.le_trans hS.1 hsz, fun q h hA => ?_⟩
  rw [hq q (Nat.lt_of_lt_of_le h hS.1)]
  exact hS.2.1 q h hA
/-- an exception goes on -/
theorem q_xout {Qc : Array Value → State → Outcome → State → Prop} {xp : String → Prop} {mc ms : Nat} {E : String} {ce : Cell} {q9 : Addr} (B : q_B p l s m args meth c D cI cZ cP A cc nL own Ts) (htb : ∀ x ∈ c.exceptionTable.toList, False) (hP : va_P D vwCl w H) (hS : va_S A s.heap H locs) (hcell : H[q9]? = some ce) (hv : ce.vm = .none) (hcl : s.vm.findClass E = some ce.cls) (hxp : xp E) (hc : cells ≤ mc) (hs : slots ≤ ms) :
    vx_W p l e R s m args below meth c H locs cells slots (vx_MQ below Qc (q_X D xp w A) args s mc ms A) (F0 m pc ls rest) q9 :=
  vx_out (fun x h => (htb x h).elim) B.hlk hcell hv hcl (fun t ht _ => ⟨hxp, by rw [ht]; exact hP, hS.F ht⟩) hS.2.2 hc hs
-- cells
section
variable {a n j : Nat} {f : Nat → Int32} {i x : Int32}
theorem q_iald (B : q_B p l s m args meth c D cI cZ cP A cc nL own Ts) (hP : va_P D vwCl w H) (q0 : Nat) (ha : w[q0]? = some (a, .inl (cI, n, .inl f))) (hi : i = nI j) (hj : j < n) (hn : n < 2 ^ 31) (hdg : decode cc pc = .ok (.iaload, 1))
    (kk : W p l e R s m args below meth c H locs cells slots Q (F0 m (pc + 1) ls (.int (f j) :: rest))) : W p l e R s m args below meth c H locs cells slots Q (F0 m pc ls (.int i :: .ref a :: rest)) := by
  subst hi
  refine va_iald B.hx B.hb B.hK hP q0 0 ha rfl (vp_in_nI hj hn) hdg ?_
  rw [nI_clamp (Nat.lt_trans hj hn)]
  exact kk
theorem q_zald (B : q_B p l s m args meth c D cI cZ cP A cc nL own Ts) (hP : va_P D vwCl w H) (q0 : Nat) (ha : w[q0]? = some (a, .inl (cZ, n, .inl f))) (hi : i = nI j) (hj : j < n) (hn : n < 2 ^ 31) (hdg : decode cc pc = .ok (.baload, 1))
    (kk : W p l e R s m args below meth c H locs cells slots Q (F0 m (pc + 1) ls (.int (f j) :: rest))) : W p l e R s m args below meth c H locs cells slots Q (F0 m pc ls (.int i :: .ref a :: rest)) := by
  subst hi
  refine va_zald B.hx B.hb B.hK hP q0 1 ha rfl (vp_in_nI hj hn) hdg ?_
  rw [nI_clamp (Nat.lt_trans hj hn)]
  exact kk
theorem q_aald (B : q_B p l s m args meth c D cI cZ cP A cc nL own Ts) (hP : va_P D vwCl w H) (q0 : Nat) {g : Nat → Option Nat} (ha : w[q0]? = some (a, .inl (cP, n, .inr (.inr (.inr (.inr g)))))) (hi : i = nI j) (hj : j < n) (hn : n < 2 ^ 31) (hdg : decode cc pc = .ok (.aaload, 1))
    (kk : W p l e R s m args below meth c H locs cells slots Q (F0 m (pc + 1) ls (va_rf (g j) :: rest))) : W p l e R s m args below meth c H locs cells slots Q (F0 m pc ls (.int i :: .ref a :: rest)) := by
  subst hi
  refine va_aldq B.hx B.hb B.hK hP q0 2 ha rfl (vp_in_nI hj hn) hdg ?_
  rw [nI_clamp (Nat.lt_trans hj hn)]
  exact kk
theorem q_iast (B : q_B p l s m args meth c D cI cZ cP A cc nL own Ts) (hP : va_P D vwCl w H) (hD : va_D A w) (hS : va_S A s.heap H locs) (q0 : Nat) (ha : w[q0]? = some (a, .inl (cI, n, .inl f))) (hi : i = nI j) (hj : j < n) (hn : n < 2 ^ 31) (hdg : decode cc pc = .ok (.iastore, 1)) {w' : va_W} (hw : w.set q0 (a, .inl (cI, n, .inl (upd f j x))) = w')
    (kk : ∀ (H1 : Heap) (locs1 : List Loc), va_P D vwCl w' H1 → va_D A w' → va_S A s.heap H1 locs1 → W p l e R s m args below meth c H1 locs1 cells slots Q (F0 m (pc + 1) ls rest)) : W p l e R s m args below meth c H locs cells slots Q (F0 m pc ls (.int x :: .int i :: .ref a :: rest)) := by
  subst hi
  refine va_iast B.hx B.hb B.hK hP hD hS q0 0 ha rfl (vp_in_nI hj hn) hdg ?_
  rw [nI_clamp (Nat.lt_trans hj hn), hw]
  exact kk
theorem q_zast (B : q_B p l s m args meth c D cI cZ cP A cc nL own Ts) (hP : va_P D vwCl w H) (hD : va_D A w) (hS : va_S A s.heap H locs) (q0 : Nat) (ha : w[q0]? = some (a, .inl (cZ, n, .inl f))) (hi : i = nI j) (hj : j < n) (hn : n < 2 ^ 31) (hv : vp_nar .boolean x = x) (hdg : decode cc pc = .ok (.bastore, 1)) {w' : va_W} (hw : w.set q0 (a, .inl (cZ, n, .inl (upd f j x))) = w')
    (kk : ∀ (H1 : Heap) (locs1 : List Loc), va_P D vwCl w' H1 → va_D A w' → va_S A s.heap H1 locs1 → W p l e R s m args below meth c H1 locs1 cells slots Q (F0 m (pc + 1) ls rest)) : W p l e R s m args below meth c H locs cells slots Q (F0 m pc ls (.int x :: .int i :: .ref a :: rest)) := by
  subst hi
  refine va_zast B.hx B.hb B.hK hP hD hS q0 1 ha rfl (vp_in_nI hj hn) hdg ?_
  rw [nI_clamp (Nat.lt_trans hj hn), hv, hw]
  exact kk
end
/-- a field of an object -/
theorem q_get (B : q_B p l s m args meth c D cI cZ cP A cc nL own Ts) (hP : va_P D vwCl w H) {C ref : String} {T : u_T} {N ci index a : Nat} (hin : ∀ w ∈ u_ws C T N, w ∈ Ts) (hc : vwCl[ci]? = some (C, T, N)) (q0 : Nat) {fs : List Value} (he : w[q0]? = some (a, .inr (ci, fs))) (k : Nat) (hk : k < N) (hlink : Cond.fieldLink own index ref (T k).2.1 (T k).2.2.1 ∈ Ts) (hsame : (T k).1 = ref) {v : Value} (hv : fs[k]? = some v) (hdg : decode cc pc = .ok (.getfield index, 3))
    (kk : W p l e R s m args below meth c H locs cells slots Q (F0 m (pc + 3) ls (v :: rest))) : W p l e R s m args below meth c H locs cells slots Q (F0 m pc ls (.ref a :: rest)) :=
  va_get B.hx B.hb B.hts hin B.hown B.hK hP q0 he hc k hk (B.hts _ hlink) (fun x h => by rw [← hsame]; exact h) hv hdg kk
theorem q_put (B : q_B p l s m args meth c D cI cZ cP A cc nL own Ts) (hP : va_P D vwCl w H) (hD : va_D A w) (hS : va_S A s.heap H locs) {C ref : String} {T : u_T} {N ci index a : Nat} (hin : ∀ w ∈ u_ws C T N, w ∈ Ts) (hc : vwCl[ci]? = some (C, T, N)) (ty0 : Nat → FieldType) (hty : ∀ k, k < N → parseFieldDescriptor (T k).2.2.1 = some (ty0 k)) (hnm : ∀ a, a < N → ∀ b, b < N → a ≠ b → (T a).2.1 ≠ (T b).2.1) (q0 : Nat) {fs : List Value} (he : w[q0]? = some (a, .inr (ci, fs))) (k : Nat) (hk : k < N) (hlink : Cond.fieldLink own index ref (T k).2.1 (T k).2.2.1 ∈ Ts) (hsame : (T k).1 = ref) (hfin : (T k).2.2.2 = false) {v : Value} (hn : narrow (ty0 k) v = v) (hfit : fits (ty0 k) v = true) (hl : k < fs.length) (hdg : decode cc pc = .ok (.putfield index, 3)) {w' : va_W} (hw : w.set q0 (a, .inr (ci, fs.set k v)) = w')
    (kk : ∀ (H1 : Heap) (locs1 : List Loc), va_P D vwCl w' H1 → va_D A w' → va_S A s.heap H1 locs1 → W p l e R s m args below meth c H1 locs1 cells slots Q (F0 m (pc + 3) ls rest)) : W p l e R s m args below meth c H locs cells slots Q (F0 m pc ls (v :: .ref a :: rest)) :=
  va_put B.hx B.hb B.hts hin ty0 hty hnm B.hown B.hK hP hD hS q0 he hc k hk (B.hts _ hlink) (fun x h => by rw [← hsame]; exact h) hfin (hty k hk) hn hfit hl hdg (by rw [hw]; exact kk)
/-- the value on top, said otherwise -/
theorem q_top {v v2 : Value} (h : v = v2) (k : W p l e R s m args below meth c H locs cells slots Q (F0 m pc ls (v2 :: rest))) : W p l e R s m args below meth c H locs cells slots Q (F0 m pc ls (v :: rest)) := by rw [h]; exact k
end QB
end
section
/-! THE STATE: how the objects lie, and the words of what the methods answer. -/
section QS
/-- a draft and its arrays: a 2 the draft, a 3 .. a 7 reviewers, reviewed, answered, reads, confirmed; X k field k; Y 1 .. Y 5 -/
def dw (cI cZ : ClassId) (a : Nat → Nat) (X : Nat → Int32) (Y : Nat → Nat → Int32) : va_W :=
  [(a 2, .inr (1, [.ref (a 3), .ref (a 4), .ref (a 5), .ref (a 6), .ref (a 7), .int (X 5), .int (X 6), .int (X 7), .int (X 8), .int (X 9), .int (X 10), .int (X 11)])),
   (a 3, .inl (cI, 4, .inl (Y 1))), (a 4, .inl (cZ, 6, .inl (Y 2))), (a 5, .inl (cZ, 4, .inl (Y 3))), (a 6, .inl (cZ, 6, .inl (Y 4))), (a 7, .inl (cZ, 6, .inl (Y 5)))]
/-- a paper beside its draft: X 0 in order, X 1 versions, X 2 has a draft, X 3 asked, X 4 since; Y 0 hangs on, Y 6 texts, Y 7 first days -/
def ppw (cI cZ : ClassId) (a : Nat → Nat) (X : Nat → Int32) (Y : Nat → Nat → Int32) : va_W :=
  [(a 0, .inr (2, [.int (X 0), .ref (a 1), .ref (a 2), .ref (a 8), .ref (a 9), .int (X 1), .int (X 2), .int (X 3), .int (X 4)])),
   (a 1, .inl (cZ, 8, .inl (Y 0))), (a 8, .inl (cI, 128, .inl (Y 6))), (a 9, .inl (cI, 128, .inl (Y 7)))]
/-- the keeper: I 5 papers, I 6 interval, I 7 today; V 0 may review, V 1 may approve, V 2 deputies; P the papers -/
def kq (cI cZ cP : ClassId) (b : Nat → Nat) (I : Nat → Int32) (V : Nat → Nat → Int32) (P : Nat → Option Nat) : va_W :=
  [(b 0, .inr (3, [.ref (b 1), .ref (b 2), .ref (b 3), .ref (b 4), .ref (b 5), .int (I 5), .int (I 6), .int (I 7)])),
   (b 1, .inl (cZ, 6, .inl (V 0))), (b 2, .inl (cZ, 6, .inl (V 1))), (b 3, .inl (cI, 6, .inl (V 2))), (b 4, .inl (cP, 8, .inr (.inr (.inr (.inr P)))))]
/-- the copies: I 3 how many; V 10 papers, V 11 versions, V 12 walls -/
def cw (cI : ClassId) (b : Nat → Nat) (I : Nat → Int32) (V : Nat → Nat → Int32) : va_W :=
  [(b 5, .inr (0, [.ref (b 6), .ref (b 7), .ref (b 8), .int (I 3)])), (b 6, .inl (cI, 30, .inl (V 10))), (b 7, .inl (cI, 30, .inl (V 11))), (b 8, .inl (cI, 30, .inl (V 12)))]
/-- the first of k places from i on that is good: its value; else -1 -/
def pF (ok : Nat → Bool) (v : Nat → Int32) : Nat → Nat → Int32
  | 0, _ => -1
  | k + 1, i => if ok i = true then v i else pF ok v k (i + 1)
/-- the last of the first n places that is good: its value; else -1 -/
def pL (ok : Nat → Bool) (v : Nat → Int32) : Nat → Int32
  | 0 => -1
  | n + 1 => if ok n = true then v n else pL ok v n
/-- is one of k places from i on good? -/
def pX (ok : Nat → Bool) : Nat → Nat → Bool
  | 0, _ => false
  | k + 1, i => ok i || pX ok k (i + 1)
/-- how many of the first n places are good -/
def pN (ok : Nat → Bool) : Nat → Nat
  | 0 => 0
  | n + 1 => if ok n = true then pN ok n + 1 else pN ok n
/-- a place in a row, from a number -/
def ix (x : Int32) : Nat := x.toNatClampNeg
theorem ix_nI {n : Nat} (h : n < 2 ^ 31) : ix (nI n) = n := nI_clamp h
/-- is it in the range? -/
def rg (x lo hi : Int32) : Bool := decide (lo ≤ x) && decide (x ≤ hi)
theorem rg_of {x lo hi : Int32} (h1 : ¬ x < lo) (h2 : ¬ hi < x) : rg x lo hi = true := by
  rw [Int32.lt_iff_toInt_lt] at h1 h2
  simp only [rg, Bool.and_eq_true, decide_eq_true_eq, Int32.le_iff_toInt_le]
  omega
theorem rg_lo {x lo hi : Int32} (h : x < lo) : rg x lo hi = false := by
  rw [Int32.lt_iff_toInt_lt] at h
  simp only [rg, Bool.and_eq_false_iff, decide_eq_false_iff_not, Int32.le_iff_toInt_le]
  omega
theorem rg_hi {x lo hi : Int32} (h : hi < x) : rg x lo hi = false := by
  rw [Int32.lt_iff_toInt_lt] at h
  simp only [rg, Bool.and_eq_false_iff, decide_eq_false_iff_not, Int32.le_iff_toInt_le]
  omega
/-- a number from 0 to n -/
theorem rg_nI {x : Int32} {n : Nat} (hn : n < 2 ^ 31) (h : rg x 0 (nI n) = true) : ∃ j : Nat, j ≤ n ∧ x = nI j := by
  simp only [rg, Bool.and_eq_true, decide_eq_true_eq] at h
  refine nI_of2 (M := nI n) (nI_toInt hn) ?_ h.2
  have h1 := h.1
  rw [Int32.le_iff_toInt_le] at h1
  rw [Int32.lt_iff_toInt_lt]
  omega
theorem nI_eq0 {n : Nat} (h : n < 2 ^ 31) : nI n = 0 ↔ n = 0 := by
  rw [← nI_0]; exact nI_eq h (by omega)
theorem nI_nm1 {n : Nat} (h : n < 2 ^ 31) : ¬ nI n = -1 := by
  intro e
  have h1 := nI_toInt h
  rw [e] at h1
  have h2 : (-1 : Int32).toInt = -1 := by decide
  omega
end QS
end
section
/-! LOOPS, FRAMES IN A ROW, and small facts. -/
section QL
variable {p : Program} {l : Launch} {e : Env} {R : Room} {s : State} {m : MethodId} {args : Array Value} {below : List Frame} {meth : Method} {c : Code} {H : Heap} {locs : List Loc} {cells slots : Nat} {Q : State → Prop}
variable {D : va_G} {A : Nat → Prop} {pc nL : Nat} {ls : Array Slot} {st0 : List Value}
/-- a loop that writes nothing -/
theorem q_loop (I : Nat → Prop) (μ : Nat → Nat) (lv : Nat → List (Nat × Value)) (x0 : Nat) (h0 : I x0) (hl : lv_has ls nL (lv x0))
    (hs : ∀ x, I x → (∀ y, I y → μ y < μ x → ∀ ls, lv_has ls nL (lv y) → W p l e R s m args below meth c H locs cells slots Q (F0 m pc ls st0)) → ∀ ls, lv_has ls nL (lv x) → W p l e R s m args below meth c H locs cells slots Q (F0 m pc ls st0)) :
    W p l e R s m args below meth c H locs cells slots Q (F0 m pc ls st0) := by
  have key : ∀ N x, μ x < N → I x → ∀ ls, lv_has ls nL (lv x) → W p l e R s m args below meth c H locs cells slots Q (F0 m pc ls st0) := by
    intro N
    induction N with
    | zero => intro x h; exact absurd h (Nat.not_lt_zero _)
    | succ N ih => intro x h hI ls hl; exact hs x hI (fun y hy hlt => ih y (by omega) hy) ls hl
  exact key (μ x0 + 1) x0 (by omega) h0 ls hl
/-- a loop that changes its world -/
theorem q_loopW (I : Nat → Prop) (μ : Nat → Nat) (lv : Nat → List (Nat × Value)) (wf : Nat → va_W) (x0 : Nat) (h0 : I x0) (hl : lv_has ls nL (lv x0)) (hP : va_P D vwCl (wf x0) H) (hD : va_D A (wf x0)) (hS : va_S A s.heap H locs)
    (hs : ∀ x, I x → (∀ y, I y → μ y < μ x → ∀ (ls : Array Slot) (H : Heap) (locs : List Loc), lv_has ls nL (lv y) → va_P D vwCl (wf y) H → va_D A (wf y) → va_S A s.heap H locs → W p l e R s m args below meth c H locs cells slots Q (F0 m pc ls st0)) → ∀ (ls : Array Slot) (H : Heap) (locs : List Loc), lv_has ls nL (lv x) → va_P D vwCl (wf x) H → va_D A (wf x) → va_S A s.heap H locs → W p l e R s m args below meth c H locs cells slots Q (F0 m pc ls st0)) :
    W p l e R s m args below meth c H locs cells slots Q (F0 m pc ls st0) := by
  have key : ∀ N x, μ x < N → I x → ∀ (ls : Array Slot) (H : Heap) (locs : List Loc), lv_has ls nL (lv x) → va_P D vwCl (wf x) H → va_D A (wf x) → va_S A s.heap H locs → W p l e R s m args below meth c H locs cells slots Q (F0 m pc ls st0) := by
    intro N
    induction N with
    | zero => intro x h; exact absurd h (Nat.not_lt_zero _)
    | succ N ih => intro x h hI ls H locs hl hP hD hS; exact hs x hI (fun y hy hlt => ih y (by omega) hy) ls H locs hl hP hD hS
  exact key (μ x0 + 1) x0 (by omega) h0 ls H locs hl hP hD hS
end QL
section QF
variable {l : Launch} {y : MethodName} {ws : List Cond} {rm : Room} {D : va_G} {cI cZ cP : ClassId} {av : List Value} {S : Type} {post : Option Value → S → Prop} {xp : String → Prop} {mc ms : Nat}
/-- a contract of w1 ++ w2, in w1 ++ (w2 ++ x) -/
theorem q_C.fr2 {w1 w2 : va_W} {W1 W2 : S → va_W} (h : q_C l y ws rm D cI cZ cP av (w1 ++ w2) post (fun u => W1 u ++ W2 u) xp mc ms) (x : va_W) : q_C l y ws rm D cI cZ cP av (w1 ++ (w2 ++ x)) post (fun u => W1 u ++ (W2 u ++ x)) xp mc ms := by
  have h2 := h.fr x
  simp only [List.append_assoc] at h2
  exact h2
/-- a contract of w, in x1 ++ (x2 ++ w) -/
theorem q_C.fl2 {w : va_W} {W' : S → va_W} (h : q_C l y ws rm D cI cZ cP av w post W' xp mc ms) (x1 x2 : va_W) : q_C l y ws rm D cI cZ cP av (x1 ++ (x2 ++ w)) post (fun u => x1 ++ (x2 ++ W' u)) xp mc ms := (h.fl x2).fl x1
theorem q_C.fl3 {w : va_W} {W' : S → va_W} (h : q_C l y ws rm D cI cZ cP av w post W' xp mc ms) (x1 x2 x3 : va_W) : q_C l y ws rm D cI cZ cP av (x1 ++ (x2 ++ (x3 ++ w))) post (fun u => x1 ++ (x2 ++ (x3 ++ W' u))) xp mc ms := ((h.fl x3).fl x2).fl x1
end QF
theorem q_allg_IAE : ((vx_atS RX3 51 "java/lang/IllegalArgumentException" ["java/lang/RuntimeException", "java/lang/Exception"]).filter goodWord).all goodWord = true := by simp
theorem q_allg_ISE : ((vx_atS RX3 58 "java/lang/IllegalStateException" ["java/lang/RuntimeException", "java/lang/Exception"]).filter goodWord).all goodWord = true := by simp
theorem q_allg_IOB : ((vx_atS RX3 161 "java/lang/IndexOutOfBoundsException" ["java/lang/RuntimeException", "java/lang/Exception"]).filter goodWord).all goodWord = true := by simp
theorem nI_le0 {n : Nat} (h : n < 2 ^ 31) : nI n ≤ 0 ↔ n = 0 := by
  rw [← nI_0, nI_leI h (by omega)]; omega
theorem nI_gt0 {n : Nat} (h : n < 2 ^ 31) : 0 < nI n ↔ 0 < n := by
  rw [← nI_0, nI_ltI (by omega) h]
/-- the version before the count -/
def vn : Nat → Int32
  | 0 => -1
  | k + 1 => nI k
theorem vn_eq (w : Nat) : nI w - nI 1 = vn w := by
  cases w with
  | zero => decide
  | succ k => exact nI_pred k
theorem vn_s {w : Nat} (h : 0 < w) : vn w = nI (w - 1) := by
  cases w with
  | zero => omega
  | succ k => rfl
theorem vn_m1 {w : Nat} (hw : w < 2 ^ 31) : vn w = -1 ↔ w = 0 := by
  cases w with
  | zero => simp [vn]
  | succ k =>
    constructor
    · intro h; exact absurd h (nI_nm1 (by omega))
    · intro h; omega
/-- one down: 'k--' -/
theorem nI_dec (n : Nat) : nI (n + 1) + Int32.ofInt (-1) = nI n := pk_m1 n
theorem pF_no {ok : Nat → Bool} {v : Nat → Int32} {n i : Nat} (h : i < n) (hk : ok i = false) : pF ok v (n - i) i = pF ok v (n - (i + 1)) (i + 1) := by
  obtain ⟨k, hk2⟩ : ∃ k, n - i = k + 1 := ⟨n - i - 1, by omega⟩
  rw [hk2, show n - (i + 1) = k by omega, pF, if_neg (by rw [hk]; decide)]
theorem pF_yes {ok : Nat → Bool} {v : Nat → Int32} {n i : Nat} (h : i < n) (hk : ok i = true) : pF ok v (n - i) i = v i := by
  obtain ⟨k, hk2⟩ : ∃ k, n - i = k + 1 := ⟨n - i - 1, by omega⟩
  rw [hk2, pF, if_pos hk]
theorem pF_end {ok : Nat → Bool} {v : Nat → Int32} {n i : Nat} (h : n ≤ i) : pF ok v (n - i) i = -1 := by
  rw [show n - i = 0 by omega, pF]
theorem pX_no {ok : Nat → Bool} {n i : Nat} (h : i < n) (hk : ok i = false) : pX ok (n - i) i = pX ok (n - (i + 1)) (i + 1) := by
  obtain ⟨k, hk2⟩ : ∃ k, n - i = k + 1 := ⟨n - i - 1, by omega⟩
  rw [hk2, show n - (i + 1) = k by omega, pX, hk, Bool.false_or]
theorem pX_yes {ok : Nat → Bool} {n i : Nat} (h : i < n) (hk : ok i = true) : pX ok (n - i) i = true := by
  obtain ⟨k, hk2⟩ : ∃ k, n - i = k + 1 := ⟨n - i - 1, by omega⟩
  rw [hk2, pX, hk, Bool.true_or]
theorem pX_end {ok : Nat → Bool} {n i : Nat} (h : n ≤ i) : pX ok (n - i) i = false := by
  rw [show n - i = 0 by omega, pX]
theorem pN_no {ok : Nat → Bool} {i : Nat} (hk : ok i = false) : pN ok (i + 1) = pN ok i := by
  rw [pN, if_neg (by rw [hk]; decide)]
theorem pN_yes {ok : Nat → Bool} {i : Nat} (hk : ok i = true) : pN ok (i + 1) = pN ok i + 1 := by
  rw [pN, if_pos hk]
theorem pN_le (ok : Nat → Bool) (n : Nat) : pN ok n ≤ n := by
  induction n with
  | zero => exact Nat.le_refl 0
  | succ n ih => rw [pN]; split <;> omega
theorem pL_no {ok : Nat → Bool} {v : Nat → Int32} {i : Nat} (hk : ok i = false) : pL ok v (i + 1) = pL ok v i := by
  rw [pL, if_neg (by rw [hk]; decide)]
theorem pL_yes {ok : Nat → Bool} {v : Nat → Int32} {i : Nat} (hk : ok i = true) : pL ok v (i + 1) = v i := by
  rw [pL, if_pos hk]
/-- has the reviewer at this place still to review? -/
def okR (rv rd : Nat → Int32) (i : Nat) : Bool := decide (rd (ix (rv i)) = 0)
theorem okR_nI {rv rd : Nat → Int32} {i j : Nat} (h : rv i = nI j) (hj : j < 6) : okR rv rd i = decide (rd j = 0) := by
  rw [okR, h, ix_nI (by omega)]
/-- has this reader still to confirm? -/
def okC (re cf : Nat → Int32) (i : Nat) : Bool := decide (re i ≠ 0) && decide (cf i = 0)
/-- a draft's counts: n reviewers, all persons; k remarks -/
def wd (X : Nat → Int32) (Y : Nat → Nat → Int32) (n k : Nat) : Prop := X 8 = nI n ∧ n ≤ 4 ∧ X 9 = nI k ∧ k ≤ 4 ∧ ∀ i, i < n → ∃ j, j < 6 ∧ Y 1 i = nI j
abbrev dNR (Y : Nat → Nat → Int32) (n : Nat) : Int32 := pF (okR (Y 1) (Y 2)) (Y 1) n 0
abbrev dNC (Y : Nat → Nat → Int32) : Int32 := pF (okC (Y 4) (Y 5)) nI 6 0
abbrev dOR (Y : Nat → Nat → Int32) (k : Nat) : Nat := pN (fun i => decide (Y 3 i = 0)) k
/-- the step of a draft: n reviewers, the next of them, the open remarks, the approval, the next reader -/
def stp (n : Nat) (nr : Int32) (op : Nat) (ap nc : Int32) : Int32 := if n = 0 ∨ ¬ nr = -1 then nI 1 else if 0 < op then nI 2 else if ap = 0 then nI 3 else if ¬ nc = -1 then nI 4 else nI 5
/-- the first n places set to nothing -/
def zf (f : Nat → Int32) (n : Nat) : Nat → Int32 := fun j => if j < n then nI 0 else f j
theorem zf_0 (f : Nat → Int32) : zf f 0 = f := by funext j; simp [zf]
theorem zf_s (f : Nat → Int32) (i : Nat) : upd (zf f i) i (nI 0) = zf f (i + 1) := by
  funext j
  by_cases h : j = i
  · subst h; simp [upd, zf]
  · simp only [upd, zf, if_neg h]
    by_cases h2 : j < i
    · rw [if_pos h2, if_pos (by omega)]
    · rw [if_neg h2, if_neg (by omega)]
/-- on whom a step waits -/
def prs (st nr au nc : Int32) : Int32 := if st = nI 1 then nr else if st = nI 2 then au else if st = nI 4 then nc else -1
theorem stp_or (n : Nat) (nr : Int32) (op : Nat) (ap nc : Int32) : stp n nr op ap nc = nI 1 ∨ stp n nr op ap nc = nI 2 ∨ stp n nr op ap nc = nI 3 ∨ stp n nr op ap nc = nI 4 ∨ stp n nr op ap nc = nI 5 := by
  unfold stp
  split
  · exact Or.inl rfl
  · split
    · exact Or.inr (Or.inl rfl)
    · split
      · exact Or.inr (Or.inr (Or.inl rfl))
      · split
        · exact Or.inr (Or.inr (Or.inr (Or.inl rfl)))
        · exact Or.inr (Or.inr (Or.inr (Or.inr rfl)))
theorem vn_dec (k : Nat) : nI k + Int32.ofInt (-1) = vn k := by
  cases k with
  | zero => decide
  | succ k => exact nI_dec k
/-- is a look due? -/
def nl (w : Nat) (asked t since iv : Int32) : Int32 := if 0 < w ∧ (¬ asked = 0 ∨ ¬ t - since < iv) then nI 1 else nI 0
/-- a truth as a number -/
def bI (b : Bool) : Int32 := if b = true then nI 1 else nI 0
theorem bI_t {b : Bool} (h : b = true) : nI 1 = bI b := by rw [bI, if_pos h]
theorem bI_f {b : Bool} (h : b = false) : nI 0 = bI b := by rw [bI, if_neg (by rw [h]; decide)]
/-- is one of the first n places good? -/
def pE (ok : Nat → Bool) : Nat → Bool
  | 0 => false
  | n + 1 => pE ok n || ok n
/-- may this person approve: by role, or as a deputy? -/
def ca (f d : Nat → Int32) (j n : Nat) : Bool := decide (¬ f j = 0) || pE (fun i => decide (¬ f i = 0) && decide (d i = nI j)) n
theorem ca_0 {f d : Nat → Int32} {j : Nat} (h : f j = 0 ∨ f j = 1) : f j = bI (ca f d j 0) := by
  rcases h with h | h
  · simp [ca, pE, bI, h]; rfl
  · simp [ca, pE, bI, h]; rfl
theorem ca_s {f d : Nat → Int32} {j i : Nat} : ca f d j (i + 1) = (ca f d j i || (decide (¬ f i = 0) && decide (d i = nI j))) := by
  simp only [ca, pE, Bool.or_assoc]
theorem bI_0 {b : Bool} : bI b = 0 ↔ b = false := by
  cases b
  · exact ⟨fun _ => rfl, fun _ => rfl⟩
  · exact ⟨fun h => absurd h (by decide), fun h => absurd h (by decide)⟩
/-- a method that needs no cell -/
theorem q_C.fr0 {l : Launch} {y : MethodName} {ws : List Cond} {rm : Room} {D : va_G} {cI cZ cP : ClassId} {av : List Value} {S : Type} {post : Option Value → S → Prop} {xp : String → Prop} {mc ms : Nat} (h : q_C l y ws rm D cI cZ cP av [] post (fun _ => []) xp mc ms) (x : va_W) : q_C l y ws rm D cI cZ cP av x post (fun _ => x) xp mc ms := h.fr x
theorem cf_yes {a b c : Prop} [Decidable (b ∧ c)] (h1 : ¬ a) (h2 : ¬ (if b ∧ c then nI 1 else nI 0) = 0) : ¬ a ∧ b ∧ c := by
  refine ⟨h1, ?_⟩
  by_cases h : b ∧ c
  · exact h
  · rw [if_neg h] at h2; exact absurd rfl h2
theorem cf_no1 {a b c : Prop} (h1 : a) : ¬ (¬ a ∧ b ∧ c) := fun h => h.1 h1
theorem cf_no2 {a b c : Prop} [Decidable (b ∧ c)] (h2 : (if b ∧ c then nI 1 else nI 0) = 0) : ¬ (¬ a ∧ b ∧ c) := by
  intro h
  rw [if_pos h.2] at h2
  exact absurd h2 (by decide)
end
section
/-! The draft: its methods. -/
set_option maxHeartbeats 4000000 in
set_option maxRecDepth 100000 in
theorem c1_nextReviewer (l : Launch) (D : va_G) (cI cZ cP : ClassId) (a : Nat → Nat) (X : Nat → Int32) (Y : Nat → Nat → Int32) (n k : Nat) (hW : wd X Y n k) : q_C l yX1_nextReviewer wsX1_nextReviewer ({ frames := 0, cells := 0, slots := 0, locals := 0 }) D cI cZ cP [.ref (a 2)] (dw cI cZ a X Y) (S := Unit) (fun v _ => v = some (.int (dNR Y n))) (fun _ => dw cI cZ a X Y) (fun _ => False) 0 0 := by
  refine q_of (cc := cX1_nextReviewer) (maxL := 2) (ret := (some .int)) (by decide +kernel) rfl (Nat.le_of_ble_eq_true rfl) ?_
  intro p e s m below meth c A ls B hr htb hmn hP hD hS hl
  have hl : lv_has ls 2 [(0, .ref (a 2))] := hl
  have hi1 : ∀ w ∈ u_ws RX1 TX1 12, w ∈ wsX1_nextReviewer := by decide +kernel
  obtain ⟨hn, hn4, hm, hm4, hv⟩ := id hW
  refine lv_iconst (v := (nI 0)) B.hx B.hb dX1_nextReviewer_0 (by decide) ?_
  refine lv_istore_n (lv' := [(1, .int (nI 0)), (0, .ref (a 2))]) B.hx B.hb dX1_nextReviewer_1 rfl hl (by decide) rfl (fun ls hl => ?_)
  refine q_loop (nL := 2) (fun i : Nat => i ≤ n ∧ dNR Y n = pF (okR (Y 1) (Y 2)) (Y 1) (n - i) i) (fun i : Nat => n - i) (fun i : Nat => [(1, .int (nI i)), (0, .ref (a 2))]) (0) ⟨Nat.zero_le _, rfl⟩ (lv_sub hl [0, 1] rfl) ?_
  intro i1 hI2 ih3 ls hl
  have hI2 : i1 ≤ n ∧ dNR Y n = pF (okR (Y 1) (Y 2)) (Y 1) (n - i1) i1 := hI2
  have hl : lv_has ls 2 [(1, .int (nI i1)), (0, .ref (a 2))] := hl
  obtain ⟨hi, he⟩ := hI2
  refine lv_iload_n B.hx B.hb dX1_nextReviewer_2 rfl (lv_at hl 0 rfl) ?_
  refine lv_aload_n B.hx B.hb dX1_nextReviewer_3 rfl (lv_at hl 1 rfl) ?_
  refine q_get B hP (C := RX1) (ref := "PaperKeeper$Draft") (T := TX1) (N := 12) (ci := 1) hi1 rfl 0 rfl 8 (by decide) (by decide +kernel) rfl (v := .int (X 8)) rfl dX1_nextReviewer_4 ?_
  refine q_top (v2 := .int (nI n)) (congrArg Value.int hn) ?_
  refine lv_icmp_ge (tgt := 37) B.hx B.hb dX1_nextReviewer_7 (by decide) (fun c4 => ?_) (fun c4 => ?_)
  · replace c4 := (nI_leI (by omega) (by omega)).mp c4
    refine lv_iconst (v := (-1)) B.hx B.hb dX1_nextReviewer_37 (by decide) ?_
    exact q_iret B hr hP hD hS (u := ()) rfl (by rw [he, pF_end (by omega)]) (Nat.le_of_ble_eq_true rfl) (Nat.le_of_ble_eq_true rfl) dX1_nextReviewer_38
  · replace c4 := mt (nI_leI (by omega) (by omega)).mpr c4
    refine lv_aload_n B.hx B.hb dX1_nextReviewer_10 rfl (lv_at hl 1 rfl) ?_
    refine q_get B hP (C := RX1) (ref := "PaperKeeper$Draft") (T := TX1) (N := 12) (ci := 1) hi1 rfl 0 rfl 1 (by decide) (by decide +kernel) rfl (v := .ref (a 4)) rfl dX1_nextReviewer_11 ?_
    refine lv_aload_n B.hx B.hb dX1_nextReviewer_14 rfl (lv_at hl 1 rfl) ?_
    refine q_get B hP (C := RX1) (ref := "PaperKeeper$Draft") (T := TX1) (N := 12) (ci := 1) hi1 rfl 0 rfl 0 (by decide) (by decide +kernel) rfl (v := .ref (a 3)) rfl dX1_nextReviewer_15 ?_
    refine lv_iload_n B.hx B.hb dX1_nextReviewer_18 rfl (lv_at hl 0 rfl) ?_
    obtain ⟨j, hj, ej⟩ := hv i1 (by omega)
    refine q_iald B hP 1 rfl (j := i1) rfl (by omega) (by decide) dX1_nextReviewer_19 ?_
    refine q_top (v2 := .int (nI j)) (congrArg Value.int ej) ?_
    refine q_zald B hP 2 rfl (j := j) rfl (by omega) (by decide) dX1_nextReviewer_20 ?_
    refine lv_if_ne (tgt := 31) B.hx B.hb dX1_nextReviewer_21 (by decide) (fun c5 => ?_) (fun c5 => ?_)
    · refine lv_iinc (v := (nI ((i1 + 1)))) (lv' := [(1, .int (nI ((i1 + 1)))), (0, .ref (a 2))]) B.hx B.hb dX1_nextReviewer_31 hl (k := 0) rfl (nI_1 _) (by decide) rfl (fun ls hl => ?_)
      refine lv_goto (tgt := 2) B.hx B.hb dX1_nextReviewer_34 (by decide) ?_
      exact ih3 (i1 + 1) ⟨by omega, by rw [he, pF_no (by omega) (by rw [okR_nI ej hj]; exact decide_eq_false c5)]⟩ (by omega) ls (lv_sub hl [0, 1] rfl)
    · refine lv_aload_n B.hx B.hb dX1_nextReviewer_24 rfl (lv_at hl 1 rfl) ?_
      refine q_get B hP (C := RX1) (ref := "PaperKeeper$Draft") (T := TX1) (N := 12) (ci := 1) hi1 rfl 0 rfl 0 (by decide) (by decide +kernel) rfl (v := .ref (a 3)) rfl dX1_nextReviewer_25 ?_
      refine lv_iload_n B.hx B.hb dX1_nextReviewer_28 rfl (lv_at hl 0 rfl) ?_
      refine q_iald B hP 1 rfl (j := i1) rfl (by omega) (by decide) dX1_nextReviewer_29 ?_
      exact q_iret B hr hP hD hS (u := ()) rfl (by rw [he, pF_yes (by omega) (by rw [okR_nI ej hj]; exact decide_eq_true c5)]) (Nat.le_of_ble_eq_true rfl) (Nat.le_of_ble_eq_true rfl) dX1_nextReviewer_30
set_option maxHeartbeats 4000000 in
set_option maxRecDepth 100000 in
theorem c1_nextReader (l : Launch) (D : va_G) (cI cZ cP : ClassId) (a : Nat → Nat) (X : Nat → Int32) (Y : Nat → Nat → Int32) : q_C l yX1_nextReader wsX1_nextReader ({ frames := 0, cells := 0, slots := 0, locals := 0 }) D cI cZ cP [.ref (a 2)] (dw cI cZ a X Y) (S := Unit) (fun v _ => v = some (.int (dNC Y))) (fun _ => dw cI cZ a X Y) (fun _ => False) 0 0 := by
  refine q_of (cc := cX1_nextReader) (maxL := 2) (ret := (some .int)) (by decide +kernel) rfl (Nat.le_of_ble_eq_true rfl) ?_
  intro p e s m below meth c A ls B hr htb hmn hP hD hS hl
  have hl : lv_has ls 2 [(0, .ref (a 2))] := hl
  have hi1 : ∀ w ∈ u_ws RX1 TX1 12, w ∈ wsX1_nextReader := by decide +kernel
  refine lv_iconst (v := (nI 0)) B.hx B.hb dX1_nextReader_0 (by decide) ?_
  refine lv_istore_n (lv' := [(1, .int (nI 0)), (0, .ref (a 2))]) B.hx B.hb dX1_nextReader_1 rfl hl (by decide) rfl (fun ls hl => ?_)
  refine q_loop (nL := 2) (fun i : Nat => i ≤ 6 ∧ dNC Y = pF (okC (Y 4) (Y 5)) nI (6 - i) i) (fun i : Nat => 6 - i) (fun i : Nat => [(1, .int (nI i)), (0, .ref (a 2))]) (0) ⟨Nat.zero_le _, rfl⟩ (lv_sub hl [0, 1] rfl) ?_
  intro i1 hI2 ih3 ls hl
  have hI2 : i1 ≤ 6 ∧ dNC Y = pF (okC (Y 4) (Y 5)) nI (6 - i1) i1 := hI2
  have hl : lv_has ls 2 [(1, .int (nI i1)), (0, .ref (a 2))] := hl
  obtain ⟨hi, he⟩ := hI2
  refine lv_iload_n B.hx B.hb dX1_nextReader_2 rfl (lv_at hl 0 rfl) ?_
  refine lv_bipush (v := (nI 6)) B.hx B.hb dX1_nextReader_3 (by decide) ?_
  refine lv_icmp_ge (tgt := 34) B.hx B.hb dX1_nextReader_5 (by decide) (fun c4 => ?_) (fun c4 => ?_)
  · replace c4 := (nI_leI (by omega) (by omega)).mp c4
    refine lv_iconst (v := (-1)) B.hx B.hb dX1_nextReader_34 (by decide) ?_
    exact q_iret B hr hP hD hS (u := ()) rfl (by rw [he, pF_end (by omega)]) (Nat.le_of_ble_eq_true rfl) (Nat.le_of_ble_eq_true rfl) dX1_nextReader_35
  · replace c4 := mt (nI_leI (by omega) (by omega)).mpr c4
    refine lv_aload_n B.hx B.hb dX1_nextReader_8 rfl (lv_at hl 1 rfl) ?_
    refine q_get B hP (C := RX1) (ref := "PaperKeeper$Draft") (T := TX1) (N := 12) (ci := 1) hi1 rfl 0 rfl 3 (by decide) (by decide +kernel) rfl (v := .ref (a 6)) rfl dX1_nextReader_9 ?_
    refine lv_iload_n B.hx B.hb dX1_nextReader_12 rfl (lv_at hl 0 rfl) ?_
    refine q_zald B hP 4 rfl (j := i1) rfl (by omega) (by decide) dX1_nextReader_13 ?_
    refine lv_if_eq (tgt := 28) B.hx B.hb dX1_nextReader_14 (by decide) (fun c5 => ?_) (fun c5 => ?_)
    · refine lv_iinc (v := (nI ((i1 + 1)))) (lv' := [(1, .int (nI ((i1 + 1)))), (0, .ref (a 2))]) B.hx B.hb dX1_nextReader_28 hl (k := 0) rfl (nI_1 _) (by decide) rfl (fun ls hl => ?_)
      refine lv_goto (tgt := 2) B.hx B.hb dX1_nextReader_31 (by decide) ?_
      exact ih3 (i1 + 1) ⟨by omega, by rw [he, pF_no (by omega) (by simp [okC, c5])]⟩ (by omega) ls (lv_sub hl [0, 1] rfl)
    · refine lv_aload_n B.hx B.hb dX1_nextReader_17 rfl (lv_at hl 1 rfl) ?_
      refine q_get B hP (C := RX1) (ref := "PaperKeeper$Draft") (T := TX1) (N := 12) (ci := 1) hi1 rfl 0 rfl 4 (by decide) (by decide +kernel) rfl (v := .ref (a 7)) rfl dX1_nextReader_18 ?_
      refine lv_iload_n B.hx B.hb dX1_nextReader_21 rfl (lv_at hl 0 rfl) ?_
      refine q_zald B hP 5 rfl (j := i1) rfl (by omega) (by decide) dX1_nextReader_22 ?_
      refine lv_if_ne (tgt := 28) B.hx B.hb dX1_nextReader_23 (by decide) (fun c6 => ?_) (fun c6 => ?_)
      · refine lv_iinc (v := (nI ((i1 + 1)))) (lv' := [(1, .int (nI ((i1 + 1)))), (0, .ref (a 2))]) B.hx B.hb dX1_nextReader_28 hl (k := 0) rfl (nI_1 _) (by decide) rfl (fun ls hl => ?_)
        refine lv_goto (tgt := 2) B.hx B.hb dX1_nextReader_31 (by decide) ?_
        exact ih3 (i1 + 1) ⟨by omega, by rw [he, pF_no (by omega) (by simp [okC, c5, c6])]⟩ (by omega) ls (lv_sub hl [0, 1] rfl)
      · refine lv_iload_n B.hx B.hb dX1_nextReader_26 rfl (lv_at hl 0 rfl) ?_
        exact q_iret B hr hP hD hS (u := ()) rfl (by rw [he, pF_yes (by omega) (by simp [okC, c6, c5])]) (Nat.le_of_ble_eq_true rfl) (Nat.le_of_ble_eq_true rfl) dX1_nextReader_27
set_option maxHeartbeats 4000000 in
set_option maxRecDepth 100000 in
theorem c1_openRemarks (l : Launch) (D : va_G) (cI cZ cP : ClassId) (a : Nat → Nat) (X : Nat → Int32) (Y : Nat → Nat → Int32) (k : Nat) (hm : X 9 = nI k) (hm4 : k ≤ 4) : q_C l yX1_openRemarks wsX1_openRemarks ({ frames := 0, cells := 0, slots := 0, locals := 0 }) D cI cZ cP [.ref (a 2)] (dw cI cZ a X Y) (S := Unit) (fun v _ => v = some (.int (nI (dOR Y k)))) (fun _ => dw cI cZ a X Y) (fun _ => False) 0 0 := by
  refine q_of (cc := cX1_openRemarks) (maxL := 3) (ret := (some .int)) (by decide +kernel) rfl (Nat.le_of_ble_eq_true rfl) ?_
  intro p e s m below meth c A ls B hr htb hmn hP hD hS hl
  have hl : lv_has ls 3 [(0, .ref (a 2))] := hl
  have hi1 : ∀ w ∈ u_ws RX1 TX1 12, w ∈ wsX1_openRemarks := by decide +kernel
  refine lv_iconst (v := (nI 0)) B.hx B.hb dX1_openRemarks_0 (by decide) ?_
  refine lv_istore_n (lv' := [(1, .int (nI 0)), (0, .ref (a 2))]) B.hx B.hb dX1_openRemarks_1 rfl hl (by decide) rfl (fun ls hl => ?_)
  refine lv_iconst (v := (nI 0)) B.hx B.hb dX1_openRemarks_2 (by decide) ?_
  refine lv_istore_n (lv' := [(2, .int (nI 0)), (1, .int (nI 0)), (0, .ref (a 2))]) B.hx B.hb dX1_openRemarks_3 rfl hl (by decide) rfl (fun ls hl => ?_)
  refine q_loop (nL := 3) (fun i : Nat => i ≤ k) (fun i : Nat => k - i) (fun i : Nat => [(2, .int (nI i)), (1, .int (nI (dOR Y i))), (0, .ref (a 2))]) (0) (Nat.zero_le _) (lv_sub hl [0, 1, 2] rfl) ?_
  intro i1 hI2 ih3 ls hl
  have hI2 : i1 ≤ k := hI2
  have hl : lv_has ls 3 [(2, .int (nI i1)), (1, .int (nI (dOR Y i1))), (0, .ref (a 2))] := hl
  refine lv_iload_n B.hx B.hb dX1_openRemarks_4 rfl (lv_at hl 0 rfl) ?_
  refine lv_aload_n B.hx B.hb dX1_openRemarks_5 rfl (lv_at hl 2 rfl) ?_
  refine q_get B hP (C := RX1) (ref := "PaperKeeper$Draft") (T := TX1) (N := 12) (ci := 1) hi1 rfl 0 rfl 9 (by decide) (by decide +kernel) rfl (v := .int (X 9)) rfl dX1_openRemarks_6 ?_
  refine q_top (v2 := .int (nI k)) (congrArg Value.int hm) ?_
  refine lv_icmp_ge (tgt := 30) B.hx B.hb dX1_openRemarks_9 (by decide) (fun c4 => ?_) (fun c4 => ?_)
  · replace c4 := (nI_leI (by omega) (by omega)).mp c4
    refine lv_iload_n B.hx B.hb dX1_openRemarks_30 rfl (lv_at hl 1 rfl) ?_
    exact q_iret B hr hP hD hS (u := ()) rfl (by rw [show k = i1 by omega]) (Nat.le_of_ble_eq_true rfl) (Nat.le_of_ble_eq_true rfl) dX1_openRemarks_31
  · replace c4 := mt (nI_leI (by omega) (by omega)).mpr c4
    refine lv_aload_n B.hx B.hb dX1_openRemarks_12 rfl (lv_at hl 2 rfl) ?_
    refine q_get B hP (C := RX1) (ref := "PaperKeeper$Draft") (T := TX1) (N := 12) (ci := 1) hi1 rfl 0 rfl 2 (by decide) (by decide +kernel) rfl (v := .ref (a 5)) rfl dX1_openRemarks_13 ?_
    refine lv_iload_n B.hx B.hb dX1_openRemarks_16 rfl (lv_at hl 0 rfl) ?_
    refine q_zald B hP 3 rfl (j := i1) rfl (by omega) (by decide) dX1_openRemarks_17 ?_
    refine lv_if_ne (tgt := 24) B.hx B.hb dX1_openRemarks_18 (by decide) (fun c5 => ?_) (fun c5 => ?_)
    · have hl : lv_has ls 3 [(2, .int (nI i1)), (1, .int (nI (dOR Y (i1 + 1)))), (0, .ref (a 2))] := by rw [show dOR Y (i1 + 1) = dOR Y i1 from pN_no (decide_eq_false c5)]; exact hl
      refine lv_iinc (v := (nI ((i1 + 1)))) (lv' := [(2, .int (nI ((i1 + 1)))), (1, .int (nI (dOR Y (i1 + 1)))), (0, .ref (a 2))]) B.hx B.hb dX1_openRemarks_24 hl (k := 0) rfl (nI_1 _) (by decide) rfl (fun ls hl => ?_)
      refine lv_goto (tgt := 4) B.hx B.hb dX1_openRemarks_27 (by decide) ?_
      exact ih3 (i1 + 1) (by omega) (by omega) ls (lv_sub hl [0, 1, 2] rfl)
    · refine lv_iinc (v := (nI (dOR Y (i1 + 1)))) (lv' := [(1, .int (nI (dOR Y (i1 + 1)))), (2, .int (nI i1)), (0, .ref (a 2))]) B.hx B.hb dX1_openRemarks_21 hl (k := 1) rfl (by rw [show dOR Y (i1 + 1) = dOR Y i1 + 1 from pN_yes (decide_eq_true c5)]; exact nI_1 _) (by decide) rfl (fun ls hl => ?_)
      refine lv_iinc (v := (nI ((i1 + 1)))) (lv' := [(2, .int (nI ((i1 + 1)))), (1, .int (nI (dOR Y (i1 + 1)))), (0, .ref (a 2))]) B.hx B.hb dX1_openRemarks_24 hl (k := 1) rfl (nI_1 _) (by decide) rfl (fun ls hl => ?_)
      refine lv_goto (tgt := 4) B.hx B.hb dX1_openRemarks_27 (by decide) ?_
      exact ih3 (i1 + 1) (by omega) (by omega) ls (lv_sub hl [0, 1, 2] rfl)
set_option maxHeartbeats 4000000 in
set_option maxRecDepth 100000 in
theorem c1_hasReviewer (l : Launch) (D : va_G) (cI cZ cP : ClassId) (a : Nat → Nat) (X : Nat → Int32) (Y : Nat → Nat → Int32) (x : Int32) (n : Nat) (hn : X 8 = nI n) (hn4 : n ≤ 4) : q_C l yX1_hasReviewer wsX1_hasReviewer ({ frames := 0, cells := 0, slots := 0, locals := 0 }) D cI cZ cP [.ref (a 2), .int x] (dw cI cZ a X Y) (S := Unit) (fun v _ => v = some (.int (if pX (fun i => decide (Y 1 i = x)) n 0 = true then nI 1 else nI 0))) (fun _ => dw cI cZ a X Y) (fun _ => False) 0 0 := by
  refine q_of (cc := cX1_hasReviewer) (maxL := 3) (ret := (some .boolean)) (by decide +kernel) rfl (Nat.le_of_ble_eq_true rfl) ?_
  intro p e s m below meth c A ls B hr htb hmn hP hD hS hl
  have hl : lv_has ls 3 [(0, .ref (a 2)), (1, .int x)] := hl
  have hi1 : ∀ w ∈ u_ws RX1 TX1 12, w ∈ wsX1_hasReviewer := by decide +kernel
  refine lv_iconst (v := (nI 0)) B.hx B.hb dX1_hasReviewer_0 (by decide) ?_
  refine lv_istore_n (lv' := [(2, .int (nI 0)), (0, .ref (a 2)), (1, .int x)]) B.hx B.hb dX1_hasReviewer_1 rfl hl (by decide) rfl (fun ls hl => ?_)
  refine q_loop (nL := 3) (fun i : Nat => i ≤ n ∧ pX (fun i => decide (Y 1 i = x)) n 0 = pX (fun i => decide (Y 1 i = x)) (n - i) i) (fun i : Nat => n - i) (fun i : Nat => [(2, .int (nI i)), (0, .ref (a 2)), (1, .int x)]) (0) ⟨Nat.zero_le _, rfl⟩ (lv_sub hl [0, 1, 2] rfl) ?_
  intro i1 hI2 ih3 ls hl
  have hI2 : i1 ≤ n ∧ pX (fun i => decide (Y 1 i = x)) n 0 = pX (fun i => decide (Y 1 i = x)) (n - i1) i1 := hI2
  have hl : lv_has ls 3 [(2, .int (nI i1)), (0, .ref (a 2)), (1, .int x)] := hl
  obtain ⟨hi, he⟩ := hI2
  refine lv_iload_n B.hx B.hb dX1_hasReviewer_2 rfl (lv_at hl 0 rfl) ?_
  refine lv_aload_n B.hx B.hb dX1_hasReviewer_3 rfl (lv_at hl 1 rfl) ?_
  refine q_get B hP (C := RX1) (ref := "PaperKeeper$Draft") (T := TX1) (N := 12) (ci := 1) hi1 rfl 0 rfl 8 (by decide) (by decide +kernel) rfl (v := .int (X 8)) rfl dX1_hasReviewer_4 ?_
  refine q_top (v2 := .int (nI n)) (congrArg Value.int hn) ?_
  refine lv_icmp_ge (tgt := 28) B.hx B.hb dX1_hasReviewer_7 (by decide) (fun c4 => ?_) (fun c4 => ?_)
  · replace c4 := (nI_leI (by omega) (by omega)).mp c4
    refine lv_iconst (v := (nI 0)) B.hx B.hb dX1_hasReviewer_28 (by decide) ?_
    exact q_zret B hr hP hD hS (by decide) (u := ()) rfl (by rw [he, pX_end (by omega)]; rfl) (Nat.le_of_ble_eq_true rfl) (Nat.le_of_ble_eq_true rfl) dX1_hasReviewer_29
  · replace c4 := mt (nI_leI (by omega) (by omega)).mpr c4
    refine lv_aload_n B.hx B.hb dX1_hasReviewer_10 rfl (lv_at hl 1 rfl) ?_
    refine q_get B hP (C := RX1) (ref := "PaperKeeper$Draft") (T := TX1) (N := 12) (ci := 1) hi1 rfl 0 rfl 0 (by decide) (by decide +kernel) rfl (v := .ref (a 3)) rfl dX1_hasReviewer_11 ?_
    refine lv_iload_n B.hx B.hb dX1_hasReviewer_14 rfl (lv_at hl 0 rfl) ?_
    refine q_iald B hP 1 rfl (j := i1) rfl (by omega) (by decide) dX1_hasReviewer_15 ?_
    refine lv_iload_n B.hx B.hb dX1_hasReviewer_16 rfl (lv_at hl 2 rfl) ?_
    refine lv_icmp_ne (tgt := 22) B.hx B.hb dX1_hasReviewer_17 (by decide) (fun c5 => ?_) (fun c5 => ?_)
    · refine lv_iinc (v := (nI ((i1 + 1)))) (lv' := [(2, .int (nI ((i1 + 1)))), (0, .ref (a 2)), (1, .int x)]) B.hx B.hb dX1_hasReviewer_22 hl (k := 0) rfl (nI_1 _) (by decide) rfl (fun ls hl => ?_)
      refine lv_goto (tgt := 2) B.hx B.hb dX1_hasReviewer_25 (by decide) ?_
      exact ih3 (i1 + 1) ⟨by omega, by rw [he, pX_no (by omega) (decide_eq_false c5)]⟩ (by omega) ls (lv_sub hl [0, 1, 2] rfl)
    · refine lv_iconst (v := (nI 1)) B.hx B.hb dX1_hasReviewer_20 (by decide) ?_
      exact q_zret B hr hP hD hS (by decide) (u := ()) rfl (by rw [he, pX_yes (by omega) (decide_eq_true c5)]; rfl) (Nat.le_of_ble_eq_true rfl) (Nat.le_of_ble_eq_true rfl) dX1_hasReviewer_21
set_option maxHeartbeats 4000000 in
set_option maxRecDepth 100000 in
theorem c1_nextStep (l : Launch) (D : va_G) (cI cZ cP : ClassId) (a : Nat → Nat) (X : Nat → Int32) (Y : Nat → Nat → Int32) (n k : Nat) (hW : wd X Y n k) : q_C l yX1_nextStep wsX1_nextStep ({ frames := 1, cells := 0, slots := 0, locals := 22 }) D cI cZ cP [.ref (a 2)] (dw cI cZ a X Y) (S := Unit) (fun v _ => v = some (.int (stp n (dNR Y n) (dOR Y k) (X 10) (dNC Y)))) (fun _ => dw cI cZ a X Y) (fun _ => False) 0 0 := by
  refine q_of (cc := cX1_nextStep) (maxL := 1) (ret := (some .int)) (by decide +kernel) rfl (Nat.le_of_ble_eq_true rfl) ?_
  intro p e s m below meth c A ls B hr htb hmn hP hD hS hl
  have hl : lv_has ls 1 [(0, .ref (a 2))] := hl
  have hi1 : ∀ w ∈ u_ws RX1 TX1 12, w ∈ wsX1_nextStep := by decide +kernel
  obtain ⟨hn, hn4, hm, hm4, hv⟩ := id hW
  have hor : dOR Y k ≤ 4 := Nat.le_trans (pN_le _ _) hm4
  refine lv_aload_n B.hx B.hb dX1_nextStep_0 rfl (lv_at hl 0 rfl) ?_
  refine q_get B hP (C := RX1) (ref := "PaperKeeper$Draft") (T := TX1) (N := 12) (ci := 1) hi1 rfl 0 rfl 8 (by decide) (by decide +kernel) rfl (v := .int (X 8)) rfl dX1_nextStep_1 ?_
  refine q_top (v2 := .int (nI n)) (congrArg Value.int hn) ?_
  refine lv_if_eq (tgt := 15) B.hx B.hb dX1_nextStep_4 (by decide) (fun c1 => ?_) (fun c1 => ?_)
  · replace c1 := (nI_eq0 (by omega)).mp c1
    refine lv_iconst (v := (nI 1)) B.hx B.hb dX1_nextStep_15 (by decide) ?_
    exact q_iret B hr hP hD hS (u := ()) rfl (by simp [stp, c1]) (Nat.le_of_ble_eq_true rfl) (Nat.le_of_ble_eq_true rfl) dX1_nextStep_16
  · replace c1 := mt (nI_eq0 (by omega)).mpr c1
    refine lv_aload_n B.hx B.hb dX1_nextStep_7 rfl (lv_at hl 0 rfl) ?_
    refine q_callV (As := []) (rest := []) B hP hD hS (c1_nextReviewer l D cI cZ cP a X Y n k hW) (cwV 0 B.hts gX1_nextStep_X1_nextReviewer rfl rfl rfl (by decide +kernel) ⟨(Nat.le_of_ble_eq_true rfl), (Nat.le_of_ble_eq_true rfl)⟩) 0 1 rfl rfl rfl rfl hl.1 rfl (Nat.le_of_ble_eq_true rfl) dX1_nextStep_8 ⟨(Nat.le_of_ble_eq_true rfl), (Nat.le_of_ble_eq_true rfl)⟩ (fun E ce q9 H locs hx => False.elim hx) (fun v u H locs hp hP hD hS => ?_)
    obtain rfl := hp
    have hP : va_P D vwCl (dw cI cZ a X Y) H := hP
    have hD : va_D A (dw cI cZ a X Y) := hD
    refine lv_iconst (v := (-1)) B.hx B.hb dX1_nextStep_11 (by decide) ?_
    refine lv_icmp_eq (tgt := 17) B.hx B.hb dX1_nextStep_12 (by decide) (fun c2 => ?_) (fun c2 => ?_)
    · refine lv_aload_n B.hx B.hb dX1_nextStep_17 rfl (lv_at hl 0 rfl) ?_
      refine q_callV (As := []) (rest := []) B hP hD hS (c1_openRemarks l D cI cZ cP a X Y k hm hm4) (cwV 0 B.hts gX1_nextStep_X1_openRemarks rfl rfl rfl (by decide +kernel) ⟨(Nat.le_of_ble_eq_true rfl), (Nat.le_of_ble_eq_true rfl)⟩) 0 1 rfl rfl rfl rfl hl.1 rfl (Nat.le_of_ble_eq_true rfl) dX1_nextStep_18 ⟨(Nat.le_of_ble_eq_true rfl), (Nat.le_of_ble_eq_true rfl)⟩ (fun E ce q9 H locs hx => False.elim hx) (fun v u H locs hp hP hD hS => ?_)
      obtain rfl := hp
      have hP : va_P D vwCl (dw cI cZ a X Y) H := hP
      have hD : va_D A (dw cI cZ a X Y) := hD
      refine lv_if_le (tgt := 26) B.hx B.hb dX1_nextStep_21 (by decide) (fun c3 => ?_) (fun c3 => ?_)
      · replace c3 := (nI_le0 (by omega)).mp c3
        refine lv_aload_n B.hx B.hb dX1_nextStep_26 rfl (lv_at hl 0 rfl) ?_
        refine q_get B hP (C := RX1) (ref := "PaperKeeper$Draft") (T := TX1) (N := 12) (ci := 1) hi1 rfl 0 rfl 10 (by decide) (by decide +kernel) rfl (v := .int (X 10)) rfl dX1_nextStep_27 ?_
        refine lv_if_ne (tgt := 35) B.hx B.hb dX1_nextStep_30 (by decide) (fun c4 => ?_) (fun c4 => ?_)
        · refine lv_aload_n B.hx B.hb dX1_nextStep_35 rfl (lv_at hl 0 rfl) ?_
          refine q_callV (As := []) (rest := []) B hP hD hS (c1_nextReader l D cI cZ cP a X Y) (cwV 0 B.hts gX1_nextStep_X1_nextReader rfl rfl rfl (by decide +kernel) ⟨(Nat.le_of_ble_eq_true rfl), (Nat.le_of_ble_eq_true rfl)⟩) 0 1 rfl rfl rfl rfl hl.1 rfl (Nat.le_of_ble_eq_true rfl) dX1_nextStep_36 ⟨(Nat.le_of_ble_eq_true rfl), (Nat.le_of_ble_eq_true rfl)⟩ (fun E ce q9 H locs hx => False.elim hx) (fun v u H locs hp hP hD hS => ?_)
          obtain rfl := hp
          have hP : va_P D vwCl (dw cI cZ a X Y) H := hP
          have hD : va_D A (dw cI cZ a X Y) := hD
          refine lv_iconst (v := (-1)) B.hx B.hb dX1_nextStep_39 (by decide) ?_
          refine lv_icmp_eq (tgt := 47) B.hx B.hb dX1_nextStep_40 (by decide) (fun c5 => ?_) (fun c5 => ?_)
          · refine lv_iconst (v := (nI 5)) B.hx B.hb dX1_nextStep_47 (by decide) ?_
            exact q_iret B hr hP hD hS (u := ()) rfl (by simp [stp, c1, c2, c3, c4, c5]) (Nat.le_of_ble_eq_true rfl) (Nat.le_of_ble_eq_true rfl) dX1_nextStep_48
          · refine lv_iconst (v := (nI 4)) B.hx B.hb dX1_nextStep_43 (by decide) ?_
            refine lv_goto (tgt := 48) B.hx B.hb dX1_nextStep_44 (by decide) ?_
            exact q_iret B hr hP hD hS (u := ()) rfl (by simp [stp, c1, c2, c3, c4, c5]) (Nat.le_of_ble_eq_true rfl) (Nat.le_of_ble_eq_true rfl) dX1_nextStep_48
        · refine lv_iconst (v := (nI 3)) B.hx B.hb dX1_nextStep_33 (by decide) ?_
          exact q_iret B hr hP hD hS (u := ()) rfl (by simp [stp, c1, c2, c3, c4]) (Nat.le_of_ble_eq_true rfl) (Nat.le_of_ble_eq_true rfl) dX1_nextStep_34
      · replace c3 := mt (nI_le0 (by omega)).mpr c3
        refine lv_iconst (v := (nI 2)) B.hx B.hb dX1_nextStep_24 (by decide) ?_
        exact q_iret B hr hP hD hS (u := ()) rfl (by simp [stp, c1, c2, c3]) (Nat.le_of_ble_eq_true rfl) (Nat.le_of_ble_eq_true rfl) dX1_nextStep_25
    · refine lv_iconst (v := (nI 1)) B.hx B.hb dX1_nextStep_15 (by decide) ?_
      exact q_iret B hr hP hD hS (u := ()) rfl (by simp [stp, c1, c2]) (Nat.le_of_ble_eq_true rfl) (Nat.le_of_ble_eq_true rfl) dX1_nextStep_16
set_option maxHeartbeats 4000000 in
set_option maxRecDepth 100000 in
theorem c1_beginRound (l : Launch) (D : va_G) (cI cZ cP : ClassId) (a : Nat → Nat) (X : Nat → Int32) (Y : Nat → Nat → Int32) : q_C l yX1_beginRound wsX1_beginRound ({ frames := 0, cells := 0, slots := 0, locals := 0 }) D cI cZ cP [.ref (a 2)] (dw cI cZ a X Y) (S := Unit) (fun v _ => v = none) (fun _ => dw cI cZ a (va_up (va_up (va_up X 7 ((X 7) + nI 1)) 9 (nI 0)) 10 (nI 0)) (va_up (va_up Y 2 (zf (Y 2) 6)) 5 (zf (Y 5) 6))) (fun _ => False) 0 0 := by
  refine q_of (cc := cX1_beginRound) (maxL := 2) (ret := none) (by decide +kernel) rfl (Nat.le_of_ble_eq_true rfl) ?_
  intro p e s m below meth c A ls B hr htb hmn hP hD hS hl
  have hl : lv_has ls 2 [(0, .ref (a 2))] := hl
  have hi1 : ∀ w ∈ u_ws RX1 TX1 12, w ∈ wsX1_beginRound := by decide +kernel
  refine lv_aload_n B.hx B.hb dX1_beginRound_0 rfl (lv_at hl 0 rfl) ?_
  refine lv_dup B.hx B.hb dX1_beginRound_1 rfl ?_
  refine q_get B hP (C := RX1) (ref := "PaperKeeper$Draft") (T := TX1) (N := 12) (ci := 1) hi1 rfl 0 rfl 7 (by decide) (by decide +kernel) rfl (v := .int (X 7)) rfl dX1_beginRound_2 ?_
  refine lv_iconst (v := (nI 1)) B.hx B.hb dX1_beginRound_5 (by decide) ?_
  refine lv_iadd B.hx B.hb dX1_beginRound_6 ?_
  refine q_put B hP hD hS (C := RX1) (ref := "PaperKeeper$Draft") (T := TX1) (N := 12) (ci := 1) hi1 rfl tyX1 tyX1_ok nmX1 0 rfl 7 (by decide) (by decide +kernel) rfl rfl rfl (by rfl) (Nat.le_of_ble_eq_true rfl) dX1_beginRound_7 (w' := dw cI cZ a (va_up X 7 ((X 7) + (nI 1))) Y) rfl (fun H locs hP hD hS => ?_)
  refine lv_aload_n B.hx B.hb dX1_beginRound_10 rfl (lv_at hl 0 rfl) ?_
  refine lv_iconst (v := (nI 0)) B.hx B.hb dX1_beginRound_11 (by decide) ?_
  refine q_put B hP hD hS (C := RX1) (ref := "PaperKeeper$Draft") (T := TX1) (N := 12) (ci := 1) hi1 rfl tyX1 tyX1_ok nmX1 0 rfl 9 (by decide) (by decide +kernel) rfl rfl rfl (by rfl) (Nat.le_of_ble_eq_true rfl) dX1_beginRound_12 (w' := dw cI cZ a (va_up (va_up X 7 ((X 7) + (nI 1))) 9 (nI 0)) Y) rfl (fun H locs hP hD hS => ?_)
  refine lv_aload_n B.hx B.hb dX1_beginRound_15 rfl (lv_at hl 0 rfl) ?_
  refine lv_iconst (v := (nI 0)) B.hx B.hb dX1_beginRound_16 (by decide) ?_
  refine q_put B hP hD hS (C := RX1) (ref := "PaperKeeper$Draft") (T := TX1) (N := 12) (ci := 1) hi1 rfl tyX1 tyX1_ok nmX1 0 rfl 10 (by decide) (by decide +kernel) rfl rfl (by decide) (by decide) (Nat.le_of_ble_eq_true rfl) dX1_beginRound_17 (w' := dw cI cZ a (va_up (va_up (va_up X 7 ((X 7) + (nI 1))) 9 (nI 0)) 10 (nI 0)) Y) rfl (fun H locs hP hD hS => ?_)
  refine lv_iconst (v := (nI 0)) B.hx B.hb dX1_beginRound_20 (by decide) ?_
  refine lv_istore_n (lv' := [(1, .int (nI 0)), (0, .ref (a 2))]) B.hx B.hb dX1_beginRound_21 rfl hl (by decide) rfl (fun ls hl => ?_)
  refine q_loopW (nL := 2) (fun i : Nat => i ≤ 6) (fun i : Nat => 6 - i) (fun i : Nat => [(1, .int (nI i)), (0, .ref (a 2))]) (fun i : Nat => dw cI cZ a (va_up (va_up (va_up X 7 ((X 7) + (nI 1))) 9 (nI 0)) 10 (nI 0)) (va_up (va_up Y 2 (zf (Y 2) i)) 5 (zf (Y 5) i))) (0) (Nat.zero_le _) (lv_sub hl [0, 1] rfl) (show va_P D vwCl (dw cI cZ a (va_up (va_up (va_up X 7 ((X 7) + (nI 1))) 9 (nI 0)) 10 (nI 0)) (va_up (va_up Y 2 (zf (Y 2) 0)) 5 (zf (Y 5) 0))) _ by rw [zf_0, zf_0]; exact hP) (show va_D A (dw cI cZ a (va_up (va_up (va_up X 7 ((X 7) + (nI 1))) 9 (nI 0)) 10 (nI 0)) (va_up (va_up Y 2 (zf (Y 2) 0)) 5 (zf (Y 5) 0))) by rw [zf_0, zf_0]; exact hD) hS ?_
  intro i1 hI2 ih3 ls H locs hl hP hD hS
  have hI2 : i1 ≤ 6 := hI2
  have hl : lv_has ls 2 [(1, .int (nI i1)), (0, .ref (a 2))] := hl
  have hP : va_P D vwCl (dw cI cZ a (va_up (va_up (va_up X 7 ((X 7) + (nI 1))) 9 (nI 0)) 10 (nI 0)) (va_up (va_up Y 2 (zf (Y 2) i1)) 5 (zf (Y 5) i1))) H := hP
  have hD : va_D A (dw cI cZ a (va_up (va_up (va_up X 7 ((X 7) + (nI 1))) 9 (nI 0)) 10 (nI 0)) (va_up (va_up Y 2 (zf (Y 2) i1)) 5 (zf (Y 5) i1))) := hD
  refine lv_iload_n B.hx B.hb dX1_beginRound_22 rfl (lv_at hl 0 rfl) ?_
  refine lv_bipush (v := (nI 6)) B.hx B.hb dX1_beginRound_23 (by decide) ?_
  refine lv_icmp_ge (tgt := 48) B.hx B.hb dX1_beginRound_25 (by decide) (fun c4 => ?_) (fun c4 => ?_)
  · replace c4 := (nI_leI (by omega) (by omega)).mp c4
    obtain rfl : i1 = 6 := by omega
    exact q_vret B hr hP hD hS (u := ()) rfl rfl (Nat.le_of_ble_eq_true rfl) (Nat.le_of_ble_eq_true rfl) dX1_beginRound_48
  · replace c4 := mt (nI_leI (by omega) (by omega)).mpr c4
    refine lv_aload_n B.hx B.hb dX1_beginRound_28 rfl (lv_at hl 1 rfl) ?_
    refine q_get B hP (C := RX1) (ref := "PaperKeeper$Draft") (T := TX1) (N := 12) (ci := 1) hi1 rfl 0 rfl 1 (by decide) (by decide +kernel) rfl (v := .ref (a 4)) rfl dX1_beginRound_29 ?_
    refine lv_iload_n B.hx B.hb dX1_beginRound_32 rfl (lv_at hl 0 rfl) ?_
    refine lv_iconst (v := (nI 0)) B.hx B.hb dX1_beginRound_33 (by decide) ?_
    refine q_zast B hP hD hS 2 rfl (j := i1) rfl (by omega) (by decide) (by decide) dX1_beginRound_34 (w' := dw cI cZ a (va_up (va_up (va_up X 7 ((X 7) + (nI 1))) 9 (nI 0)) 10 (nI 0)) (va_up (va_up Y 2 (upd (zf (Y 2) i1) i1 (nI 0))) 5 (zf (Y 5) i1))) rfl (fun H locs hP hD hS => ?_)
    refine lv_aload_n B.hx B.hb dX1_beginRound_35 rfl (lv_at hl 1 rfl) ?_
    refine q_get B hP (C := RX1) (ref := "PaperKeeper$Draft") (T := TX1) (N := 12) (ci := 1) hi1 rfl 0 rfl 4 (by decide) (by decide +kernel) rfl (v := .ref (a 7)) rfl dX1_beginRound_36 ?_
    refine lv_iload_n B.hx B.hb dX1_beginRound_39 rfl (lv_at hl 0 rfl) ?_
    refine lv_iconst (v := (nI 0)) B.hx B.hb dX1_beginRound_40 (by decide) ?_
    refine q_zast B hP hD hS 5 rfl (j := i1) rfl (by omega) (by decide) (by decide) dX1_beginRound_41 (w' := dw cI cZ a (va_up (va_up (va_up X 7 ((X 7) + (nI 1))) 9 (nI 0)) 10 (nI 0)) (va_up (va_up Y 2 (upd (zf (Y 2) i1) i1 (nI 0))) 5 (upd (zf (Y 5) i1) i1 (nI 0)))) rfl (fun H locs hP hD hS => ?_)
    refine lv_iinc (v := (nI ((i1 + 1)))) (lv' := [(1, .int (nI ((i1 + 1)))), (0, .ref (a 2))]) B.hx B.hb dX1_beginRound_42 hl (k := 0) rfl (nI_1 _) (by decide) rfl (fun ls hl => ?_)
    refine lv_goto (tgt := 22) B.hx B.hb dX1_beginRound_45 (by decide) ?_
    exact ih3 (i1 + 1) (by omega) (by omega) ls H locs (lv_sub hl [0, 1] rfl) (show va_P D vwCl (dw cI cZ a (va_up (va_up (va_up X 7 ((X 7) + (nI 1))) 9 (nI 0)) 10 (nI 0)) (va_up (va_up Y 2 (zf (Y 2) (i1 + 1))) 5 (zf (Y 5) (i1 + 1)))) H by rw [← zf_s, ← zf_s]; exact hP) (show va_D A (dw cI cZ a (va_up (va_up (va_up X 7 ((X 7) + (nI 1))) 9 (nI 0)) 10 (nI 0)) (va_up (va_up Y 2 (zf (Y 2) (i1 + 1))) 5 (zf (Y 5) (i1 + 1)))) by rw [← zf_s, ← zf_s]; exact hD) hS
set_option maxHeartbeats 4000000 in
set_option maxRecDepth 100000 in
theorem c1_begin (l : Launch) (D : va_G) (cI cZ cP : ClassId) (a : Nat → Nat) (X : Nat → Int32) (Y : Nat → Nat → Int32) (x y : Int32) : q_C l yX1_begin wsX1_begin ({ frames := 1, cells := 0, slots := 0, locals := 21 }) D cI cZ cP [.ref (a 2), .int x, .int y] (dw cI cZ a X Y) (S := Unit) (fun v _ => v = none) (fun _ => dw cI cZ a (va_up (va_up (va_up (va_up (va_up (va_up X 5 x) 6 y) 7 ((nI 0) + nI 1)) 8 (nI 0)) 9 (nI 0)) 10 (nI 0)) (va_up (va_up (va_up Y 2 (zf (Y 2) 6)) 4 (zf (Y 4) 6)) 5 (zf (Y 5) 6))) (fun _ => False) 0 0 := by
  refine q_of (cc := cX1_begin) (maxL := 4) (ret := none) (by decide +kernel) rfl (Nat.le_of_ble_eq_true rfl) ?_
  intro p e s m below meth c A ls B hr htb hmn hP hD hS hl
  have hl : lv_has ls 4 [(0, .ref (a 2)), (1, .int x), (2, .int y)] := hl
  have hi1 : ∀ w ∈ u_ws RX1 TX1 12, w ∈ wsX1_begin := by decide +kernel
  refine lv_aload_n B.hx B.hb dX1_begin_0 rfl (lv_at hl 0 rfl) ?_
  refine lv_iload_n B.hx B.hb dX1_begin_1 rfl (lv_at hl 1 rfl) ?_
  refine q_put B hP hD hS (C := RX1) (ref := "PaperKeeper$Draft") (T := TX1) (N := 12) (ci := 1) hi1 rfl tyX1 tyX1_ok nmX1 0 rfl 5 (by decide) (by decide +kernel) rfl rfl rfl (by rfl) (Nat.le_of_ble_eq_true rfl) dX1_begin_2 (w' := dw cI cZ a (va_up X 5 x) Y) rfl (fun H locs hP hD hS => ?_)
  refine lv_aload_n B.hx B.hb dX1_begin_5 rfl (lv_at hl 0 rfl) ?_
  refine lv_iload_n B.hx B.hb dX1_begin_6 rfl (lv_at hl 2 rfl) ?_
  refine q_put B hP hD hS (C := RX1) (ref := "PaperKeeper$Draft") (T := TX1) (N := 12) (ci := 1) hi1 rfl tyX1 tyX1_ok nmX1 0 rfl 6 (by decide) (by decide +kernel) rfl rfl rfl (by rfl) (Nat.le_of_ble_eq_true rfl) dX1_begin_7 (w' := dw cI cZ a (va_up (va_up X 5 x) 6 y) Y) rfl (fun H locs hP hD hS => ?_)
  refine lv_aload_n B.hx B.hb dX1_begin_10 rfl (lv_at hl 0 rfl) ?_
  refine lv_iconst (v := (nI 0)) B.hx B.hb dX1_begin_11 (by decide) ?_
  refine q_put B hP hD hS (C := RX1) (ref := "PaperKeeper$Draft") (T := TX1) (N := 12) (ci := 1) hi1 rfl tyX1 tyX1_ok nmX1 0 rfl 7 (by decide) (by decide +kernel) rfl rfl rfl (by rfl) (Nat.le_of_ble_eq_true rfl) dX1_begin_12 (w' := dw cI cZ a (va_up (va_up (va_up X 5 x) 6 y) 7 (nI 0)) Y) rfl (fun H locs hP hD hS => ?_)
  refine lv_aload_n B.hx B.hb dX1_begin_15 rfl (lv_at hl 0 rfl) ?_
  refine lv_iconst (v := (nI 0)) B.hx B.hb dX1_begin_16 (by decide) ?_
  refine q_put B hP hD hS (C := RX1) (ref := "PaperKeeper$Draft") (T := TX1) (N := 12) (ci := 1) hi1 rfl tyX1 tyX1_ok nmX1 0 rfl 8 (by decide) (by decide +kernel) rfl rfl rfl (by rfl) (Nat.le_of_ble_eq_true rfl) dX1_begin_17 (w' := dw cI cZ a (va_up (va_up (va_up (va_up X 5 x) 6 y) 7 (nI 0)) 8 (nI 0)) Y) rfl (fun H locs hP hD hS => ?_)
  refine lv_iconst (v := (nI 0)) B.hx B.hb dX1_begin_20 (by decide) ?_
  refine lv_istore_n (lv' := [(3, .int (nI 0)), (0, .ref (a 2)), (1, .int x), (2, .int y)]) B.hx B.hb dX1_begin_21 rfl hl (by decide) rfl (fun ls hl => ?_)
  refine q_loopW (nL := 4) (fun i : Nat => i ≤ 6) (fun i : Nat => 6 - i) (fun i : Nat => [(3, .int (nI i)), (0, .ref (a 2)), (1, .int x), (2, .int y)]) (fun i : Nat => dw cI cZ a (va_up (va_up (va_up (va_up X 5 x) 6 y) 7 (nI 0)) 8 (nI 0)) (va_up Y 4 (zf (Y 4) i))) (0) (Nat.zero_le _) (lv_sub hl [0, 1, 2, 3] rfl) (show va_P D vwCl (dw cI cZ a (va_up (va_up (va_up (va_up X 5 x) 6 y) 7 (nI 0)) 8 (nI 0)) (va_up Y 4 (zf (Y 4) 0))) _ by rw [zf_0]; exact hP) (show va_D A (dw cI cZ a (va_up (va_up (va_up (va_up X 5 x) 6 y) 7 (nI 0)) 8 (nI 0)) (va_up Y 4 (zf (Y 4) 0))) by rw [zf_0]; exact hD) hS ?_
  intro i1 hI2 ih3 ls H locs hl hP hD hS
  have hI2 : i1 ≤ 6 := hI2
  have hl : lv_has ls 4 [(3, .int (nI i1)), (0, .ref (a 2)), (1, .int x), (2, .int y)] := hl
  have hP : va_P D vwCl (dw cI cZ a (va_up (va_up (va_up (va_up X 5 x) 6 y) 7 (nI 0)) 8 (nI 0)) (va_up Y 4 (zf (Y 4) i1))) H := hP
  have hD : va_D A (dw cI cZ a (va_up (va_up (va_up (va_up X 5 x) 6 y) 7 (nI 0)) 8 (nI 0)) (va_up Y 4 (zf (Y 4) i1))) := hD
  refine lv_iload_n B.hx B.hb dX1_begin_22 rfl (lv_at hl 0 rfl) ?_
  refine lv_bipush (v := (nI 6)) B.hx B.hb dX1_begin_23 (by decide) ?_
  refine lv_icmp_ge (tgt := 41) B.hx B.hb dX1_begin_25 (by decide) (fun c4 => ?_) (fun c4 => ?_)
  · replace c4 := (nI_leI (by omega) (by omega)).mp c4
    obtain rfl : i1 = 6 := by omega
    refine lv_aload_n B.hx B.hb dX1_begin_41 rfl (lv_at hl 1 rfl) ?_
    refine q_callV (As := []) (rest := []) B hP hD hS (c1_beginRound l D cI cZ cP a (va_up (va_up (va_up (va_up X 5 x) 6 y) 7 (nI 0)) 8 (nI 0)) (va_up Y 4 (zf (Y 4) 6))) (cwV 0 B.hts gX1_begin_X1_beginRound rfl rfl rfl (by decide +kernel) ⟨(Nat.le_of_ble_eq_true rfl), (Nat.le_of_ble_eq_true rfl)⟩) 0 1 rfl rfl rfl rfl hl.1 rfl (Nat.le_of_ble_eq_true rfl) dX1_begin_42 ⟨(Nat.le_of_ble_eq_true rfl), (Nat.le_of_ble_eq_true rfl)⟩ (fun E ce q9 H locs hx => False.elim hx) (fun v u H locs hp hP hD hS => ?_)
    obtain rfl := hp
    have hP : va_P D vwCl (dw cI cZ a (va_up (va_up (va_up (va_up (va_up (va_up X 5 x) 6 y) 7 ((nI 0) + nI 1)) 8 (nI 0)) 9 (nI 0)) 10 (nI 0)) (va_up (va_up (va_up Y 2 (zf (Y 2) 6)) 4 (zf (Y 4) 6)) 5 (zf (Y 5) 6))) H := hP
    have hD : va_D A (dw cI cZ a (va_up (va_up (va_up (va_up (va_up (va_up X 5 x) 6 y) 7 ((nI 0) + nI 1)) 8 (nI 0)) 9 (nI 0)) 10 (nI 0)) (va_up (va_up (va_up Y 2 (zf (Y 2) 6)) 4 (zf (Y 4) 6)) 5 (zf (Y 5) 6))) := hD
    exact q_vret B hr hP hD hS (u := ()) rfl rfl (Nat.le_of_ble_eq_true rfl) (Nat.le_of_ble_eq_true rfl) dX1_begin_45
  · replace c4 := mt (nI_leI (by omega) (by omega)).mpr c4
    refine lv_aload_n B.hx B.hb dX1_begin_28 rfl (lv_at hl 1 rfl) ?_
    refine q_get B hP (C := RX1) (ref := "PaperKeeper$Draft") (T := TX1) (N := 12) (ci := 1) hi1 rfl 0 rfl 3 (by decide) (by decide +kernel) rfl (v := .ref (a 6)) rfl dX1_begin_29 ?_
    refine lv_iload_n B.hx B.hb dX1_begin_32 rfl (lv_at hl 0 rfl) ?_
    refine lv_iconst (v := (nI 0)) B.hx B.hb dX1_begin_33 (by decide) ?_
    refine q_zast B hP hD hS 4 rfl (j := i1) rfl (by omega) (by decide) (by decide) dX1_begin_34 (w' := dw cI cZ a (va_up (va_up (va_up (va_up X 5 x) 6 y) 7 (nI 0)) 8 (nI 0)) (va_up Y 4 (upd (zf (Y 4) i1) i1 (nI 0)))) rfl (fun H locs hP hD hS => ?_)
    refine lv_iinc (v := (nI ((i1 + 1)))) (lv' := [(3, .int (nI ((i1 + 1)))), (0, .ref (a 2)), (1, .int x), (2, .int y)]) B.hx B.hb dX1_begin_35 hl (k := 0) rfl (nI_1 _) (by decide) rfl (fun ls hl => ?_)
    refine lv_goto (tgt := 22) B.hx B.hb dX1_begin_38 (by decide) ?_
    exact ih3 (i1 + 1) (by omega) (by omega) ls H locs (lv_sub hl [0, 1, 2, 3] rfl) (show va_P D vwCl (dw cI cZ a (va_up (va_up (va_up (va_up X 5 x) 6 y) 7 (nI 0)) 8 (nI 0)) (va_up Y 4 (zf (Y 4) (i1 + 1)))) H by rw [← zf_s]; exact hP) (show va_D A (dw cI cZ a (va_up (va_up (va_up (va_up X 5 x) 6 y) 7 (nI 0)) 8 (nI 0)) (va_up Y 4 (zf (Y 4) (i1 + 1)))) by rw [← zf_s]; exact hD) hS
set_option maxHeartbeats 4000000 in
set_option maxRecDepth 100000 in
theorem c1_addRemark (l : Launch) (D : va_G) (cI cZ cP : ClassId) (a : Nat → Nat) (X : Nat → Int32) (Y : Nat → Nat → Int32) (k : Nat) (hm : X 9 = nI k) (hk : k < 4) : q_C l yX1_addRemark wsX1_addRemark ({ frames := 0, cells := 0, slots := 0, locals := 0 }) D cI cZ cP [.ref (a 2)] (dw cI cZ a X Y) (S := Unit) (fun v _ => v = some (.int (nI k))) (fun _ => dw cI cZ a (va_up X 9 (nI ((k + 1)))) (va_up Y 3 (upd (Y 3) k (nI 0)))) (fun _ => False) 0 0 := by
  refine q_of (cc := cX1_addRemark) (maxL := 2) (ret := (some .int)) (by decide +kernel) rfl (Nat.le_of_ble_eq_true rfl) ?_
  intro p e s m below meth c A ls B hr htb hmn hP hD hS hl
  have hl : lv_has ls 2 [(0, .ref (a 2))] := hl
  have hi1 : ∀ w ∈ u_ws RX1 TX1 12, w ∈ wsX1_addRemark := by decide +kernel
  refine lv_aload_n B.hx B.hb dX1_addRemark_0 rfl (lv_at hl 0 rfl) ?_
  refine q_get B hP (C := RX1) (ref := "PaperKeeper$Draft") (T := TX1) (N := 12) (ci := 1) hi1 rfl 0 rfl 9 (by decide) (by decide +kernel) rfl (v := .int (X 9)) rfl dX1_addRemark_1 ?_
  refine q_top (v2 := .int (nI k)) (congrArg Value.int hm) ?_
  refine lv_istore_n (lv' := [(1, .int (nI k)), (0, .ref (a 2))]) B.hx B.hb dX1_addRemark_4 rfl hl (by decide) rfl (fun ls hl => ?_)
  refine lv_iload_n B.hx B.hb dX1_addRemark_5 rfl (lv_at hl 0 rfl) ?_
  refine lv_iconst (v := (nI 4)) B.hx B.hb dX1_addRemark_6 (by decide) ?_
  refine lv_icmp_ge (tgt := 27) B.hx B.hb dX1_addRemark_7 (by decide) (fun c1 => absurd c1 (mt (nI_leI (by omega) (by omega)).mp (by omega))) (fun _ => ?_)
  refine lv_aload_n B.hx B.hb dX1_addRemark_10 rfl (lv_at hl 1 rfl) ?_
  refine q_get B hP (C := RX1) (ref := "PaperKeeper$Draft") (T := TX1) (N := 12) (ci := 1) hi1 rfl 0 rfl 2 (by decide) (by decide +kernel) rfl (v := .ref (a 5)) rfl dX1_addRemark_11 ?_
  refine lv_iload_n B.hx B.hb dX1_addRemark_14 rfl (lv_at hl 0 rfl) ?_
  refine lv_iconst (v := (nI 0)) B.hx B.hb dX1_addRemark_15 (by decide) ?_
  refine q_zast B hP hD hS 3 rfl (j := k) rfl (by omega) (by decide) (by decide) dX1_addRemark_16 (w' := dw cI cZ a X (va_up Y 3 (upd (Y 3) k (nI 0)))) rfl (fun H locs hP hD hS => ?_)
  refine lv_aload_n B.hx B.hb dX1_addRemark_17 rfl (lv_at hl 1 rfl) ?_
  refine lv_dup B.hx B.hb dX1_addRemark_18 rfl ?_
  refine q_get B hP (C := RX1) (ref := "PaperKeeper$Draft") (T := TX1) (N := 12) (ci := 1) hi1 rfl 0 rfl 9 (by decide) (by decide +kernel) rfl (v := .int (X 9)) rfl dX1_addRemark_19 ?_
  refine q_top (v2 := .int (nI k)) (congrArg Value.int hm) ?_
  refine lv_iconst (v := (nI 1)) B.hx B.hb dX1_addRemark_22 (by decide) ?_
  refine lv_iadd B.hx B.hb dX1_addRemark_23 ?_
  refine q_top (v2 := .int (nI ((k + 1)))) (congrArg Value.int (nI_add _ _)) ?_
  refine q_put B hP hD hS (C := RX1) (ref := "PaperKeeper$Draft") (T := TX1) (N := 12) (ci := 1) hi1 rfl tyX1 tyX1_ok nmX1 0 rfl 9 (by decide) (by decide +kernel) rfl rfl rfl (by rfl) (Nat.le_of_ble_eq_true rfl) dX1_addRemark_24 (w' := dw cI cZ a (va_up X 9 (nI ((k + 1)))) (va_up Y 3 (upd (Y 3) k (nI 0)))) rfl (fun H locs hP hD hS => ?_)
  refine lv_iload_n B.hx B.hb dX1_addRemark_27 rfl (lv_at hl 0 rfl) ?_
  exact q_iret B hr hP hD hS (u := ()) rfl rfl (Nat.le_of_ble_eq_true rfl) (Nat.le_of_ble_eq_true rfl) dX1_addRemark_28
set_option maxHeartbeats 4000000 in
set_option maxRecDepth 100000 in
theorem c1_isReady (l : Launch) (D : va_G) (cI cZ cP : ClassId) (a : Nat → Nat) (X : Nat → Int32) (Y : Nat → Nat → Int32) (n k : Nat) (hW : wd X Y n k) (t : Int32) : q_C l yX1_isReady wsX1_isReady ({ frames := 2, cells := 0, slots := 0, locals := 42 }) D cI cZ cP [.ref (a 2), .int t] (dw cI cZ a X Y) (S := Unit) (fun v _ => v = some (.int (if (stp n (dNR Y n) (dOR Y k) (X 10) (dNC Y)) = nI 5 ∧ ¬ t < X 11 then nI 1 else nI 0))) (fun _ => dw cI cZ a X Y) (fun _ => False) 0 0 := by
  refine q_of (cc := cX1_isReady) (maxL := 2) (ret := (some .boolean)) (by decide +kernel) rfl (Nat.le_of_ble_eq_true rfl) ?_
  intro p e s m below meth c A ls B hr htb hmn hP hD hS hl
  have hl : lv_has ls 2 [(0, .ref (a 2)), (1, .int t)] := hl
  have hi1 : ∀ w ∈ u_ws RX1 TX1 12, w ∈ wsX1_isReady := by decide +kernel
  obtain ⟨hn, hn4, hm, hm4, hv⟩ := id hW
  refine lv_aload_n B.hx B.hb dX1_isReady_0 rfl (lv_at hl 0 rfl) ?_
  refine q_callV (As := []) (rest := []) B hP hD hS (c1_nextStep l D cI cZ cP a X Y n k hW) (cwV 0 B.hts gX1_isReady_X1_nextStep rfl rfl rfl (by decide +kernel) ⟨(Nat.le_of_ble_eq_true rfl), (Nat.le_of_ble_eq_true rfl)⟩) 0 1 rfl rfl rfl rfl hl.1 rfl (Nat.le_of_ble_eq_true rfl) dX1_isReady_1 ⟨(Nat.le_of_ble_eq_true rfl), (Nat.le_of_ble_eq_true rfl)⟩ (fun E ce q9 H locs hx => False.elim hx) (fun v u H locs hp hP hD hS => ?_)
  obtain rfl := hp
  have hP : va_P D vwCl (dw cI cZ a X Y) H := hP
  have hD : va_D A (dw cI cZ a X Y) := hD
  refine lv_iconst (v := (nI 5)) B.hx B.hb dX1_isReady_4 (by decide) ?_
  refine lv_icmp_ne (tgt := 20) B.hx B.hb dX1_isReady_5 (by decide) (fun c1 => ?_) (fun c1 => ?_)
  · refine lv_iconst (v := (nI 0)) B.hx B.hb dX1_isReady_20 (by decide) ?_
    exact q_zret B hr hP hD hS (by decide) (u := ()) rfl (by simp [c1]) (Nat.le_of_ble_eq_true rfl) (Nat.le_of_ble_eq_true rfl) dX1_isReady_21
  · refine lv_aload_n B.hx B.hb dX1_isReady_8 rfl (lv_at hl 0 rfl) ?_
    refine q_get B hP (C := RX1) (ref := "PaperKeeper$Draft") (T := TX1) (N := 12) (ci := 1) hi1 rfl 0 rfl 11 (by decide) (by decide +kernel) rfl (v := .int (X 11)) rfl dX1_isReady_9 ?_
    refine lv_iload_n B.hx B.hb dX1_isReady_12 rfl (lv_at hl 1 rfl) ?_
    refine lv_icmp_gt (tgt := 20) B.hx B.hb dX1_isReady_13 (by decide) (fun c2 => ?_) (fun c2 => ?_)
    · refine lv_iconst (v := (nI 0)) B.hx B.hb dX1_isReady_20 (by decide) ?_
      exact q_zret B hr hP hD hS (by decide) (u := ()) rfl (by simp [c1, c2]) (Nat.le_of_ble_eq_true rfl) (Nat.le_of_ble_eq_true rfl) dX1_isReady_21
    · refine lv_iconst (v := (nI 1)) B.hx B.hb dX1_isReady_16 (by decide) ?_
      refine lv_goto (tgt := 21) B.hx B.hb dX1_isReady_17 (by decide) ?_
      exact q_zret B hr hP hD hS (by decide) (u := ()) rfl (by simp [c1, c2]) (Nat.le_of_ble_eq_true rfl) (Nat.le_of_ble_eq_true rfl) dX1_isReady_21
set_option maxHeartbeats 4000000 in
set_option maxRecDepth 100000 in
theorem c1_nextPerson (l : Launch) (D : va_G) (cI cZ cP : ClassId) (a : Nat → Nat) (X : Nat → Int32) (Y : Nat → Nat → Int32) (n k : Nat) (hW : wd X Y n k) : q_C l yX1_nextPerson wsX1_nextPerson ({ frames := 2, cells := 0, slots := 0, locals := 42 }) D cI cZ cP [.ref (a 2)] (dw cI cZ a X Y) (S := Unit) (fun v _ => v = some (.int (prs (stp n (dNR Y n) (dOR Y k) (X 10) (dNC Y)) (dNR Y n) (X 5) (dNC Y)))) (fun _ => dw cI cZ a X Y) (fun _ => False) 0 0 := by
  refine q_of (cc := cX1_nextPerson) (maxL := 1) (ret := (some .int)) (by decide +kernel) rfl (Nat.le_of_ble_eq_true rfl) ?_
  intro p e s m below meth c A ls B hr htb hmn hP hD hS hl
  have hl : lv_has ls 1 [(0, .ref (a 2))] := hl
  have hi1 : ∀ w ∈ u_ws RX1 TX1 12, w ∈ wsX1_nextPerson := by decide +kernel
  obtain ⟨hn, hn4, hm, hm4, hv⟩ := id hW
  refine lv_aload_n B.hx B.hb dX1_nextPerson_0 rfl (lv_at hl 0 rfl) ?_
  refine q_callV (As := []) (rest := []) B hP hD hS (c1_nextStep l D cI cZ cP a X Y n k hW) (cwV 0 B.hts gX1_nextPerson_X1_nextStep rfl rfl rfl (by decide +kernel) ⟨(Nat.le_of_ble_eq_true rfl), (Nat.le_of_ble_eq_true rfl)⟩) 0 1 rfl rfl rfl rfl hl.1 rfl (Nat.le_of_ble_eq_true rfl) dX1_nextPerson_1 ⟨(Nat.le_of_ble_eq_true rfl), (Nat.le_of_ble_eq_true rfl)⟩ (fun E ce q9 H locs hx => False.elim hx) (fun v u H locs hp hP hD hS => ?_)
  obtain rfl := hp
  have hP : va_P D vwCl (dw cI cZ a X Y) H := hP
  have hD : va_D A (dw cI cZ a X Y) := hD
  rcases stp_or n (dNR Y n) (dOR Y k) (X 10) (dNC Y) with h9 | h9 | h9 | h9 | h9
  · refine q_top (v2 := .int (nI 1)) (congrArg Value.int h9) ?_
    refine lv_tableIn (off := 32) (tgt := 36) B.hx B.hb dX1_nextPerson_4 (by decide) (by decide) rfl (by decide) ?_
    refine lv_aload_n B.hx B.hb dX1_nextPerson_36 rfl (lv_at hl 0 rfl) ?_
    refine q_callV (As := []) (rest := []) B hP hD hS (c1_nextReviewer l D cI cZ cP a X Y n k hW) (cwV 0 B.hts gX1_nextPerson_X1_nextReviewer rfl rfl rfl (by decide +kernel) ⟨(Nat.le_of_ble_eq_true rfl), (Nat.le_of_ble_eq_true rfl)⟩) 0 1 rfl rfl rfl rfl hl.1 rfl (Nat.le_of_ble_eq_true rfl) dX1_nextPerson_37 ⟨(Nat.le_of_ble_eq_true rfl), (Nat.le_of_ble_eq_true rfl)⟩ (fun E ce q9 H locs hx => False.elim hx) (fun v u H locs hp hP hD hS => ?_)
    obtain rfl := hp
    have hP : va_P D vwCl (dw cI cZ a X Y) H := hP
    have hD : va_D A (dw cI cZ a X Y) := hD
    exact q_iret B hr hP hD hS (u := ()) rfl (by rw [h9]; rfl) (Nat.le_of_ble_eq_true rfl) (Nat.le_of_ble_eq_true rfl) dX1_nextPerson_40
  · refine q_top (v2 := .int (nI 2)) (congrArg Value.int h9) ?_
    refine lv_tableIn (off := 37) (tgt := 41) B.hx B.hb dX1_nextPerson_4 (by decide) (by decide) rfl (by decide) ?_
    refine lv_aload_n B.hx B.hb dX1_nextPerson_41 rfl (lv_at hl 0 rfl) ?_
    refine q_get B hP (C := RX1) (ref := "PaperKeeper$Draft") (T := TX1) (N := 12) (ci := 1) hi1 rfl 0 rfl 5 (by decide) (by decide +kernel) rfl (v := .int (X 5)) rfl dX1_nextPerson_42 ?_
    exact q_iret B hr hP hD hS (u := ()) rfl (by rw [h9]; rfl) (Nat.le_of_ble_eq_true rfl) (Nat.le_of_ble_eq_true rfl) dX1_nextPerson_45
  · refine q_top (v2 := .int (nI 3)) (congrArg Value.int h9) ?_
    refine lv_tableIn (off := 47) (tgt := 51) B.hx B.hb dX1_nextPerson_4 (by decide) (by decide) rfl (by decide) ?_
    refine lv_iconst (v := (-1)) B.hx B.hb dX1_nextPerson_51 (by decide) ?_
    exact q_iret B hr hP hD hS (u := ()) rfl (by rw [h9]; rfl) (Nat.le_of_ble_eq_true rfl) (Nat.le_of_ble_eq_true rfl) dX1_nextPerson_52
  · refine q_top (v2 := .int (nI 4)) (congrArg Value.int h9) ?_
    refine lv_tableIn (off := 42) (tgt := 46) B.hx B.hb dX1_nextPerson_4 (by decide) (by decide) rfl (by decide) ?_
    refine lv_aload_n B.hx B.hb dX1_nextPerson_46 rfl (lv_at hl 0 rfl) ?_
    refine q_callV (As := []) (rest := []) B hP hD hS (c1_nextReader l D cI cZ cP a X Y) (cwV 0 B.hts gX1_nextPerson_X1_nextReader rfl rfl rfl (by decide +kernel) ⟨(Nat.le_of_ble_eq_true rfl), (Nat.le_of_ble_eq_true rfl)⟩) 0 1 rfl rfl rfl rfl hl.1 rfl (Nat.le_of_ble_eq_true rfl) dX1_nextPerson_47 ⟨(Nat.le_of_ble_eq_true rfl), (Nat.le_of_ble_eq_true rfl)⟩ (fun E ce q9 H locs hx => False.elim hx) (fun v u H locs hp hP hD hS => ?_)
    obtain rfl := hp
    have hP : va_P D vwCl (dw cI cZ a X Y) H := hP
    have hD : va_D A (dw cI cZ a X Y) := hD
    exact q_iret B hr hP hD hS (u := ()) rfl (by rw [h9]; rfl) (Nat.le_of_ble_eq_true rfl) (Nat.le_of_ble_eq_true rfl) dX1_nextPerson_50
  · refine q_top (v2 := .int (nI 5)) (congrArg Value.int h9) ?_
    refine lv_tableOut (tgt := 51) B.hx B.hb dX1_nextPerson_4 (by decide) (by decide) ?_
    refine lv_iconst (v := (-1)) B.hx B.hb dX1_nextPerson_51 (by decide) ?_
    exact q_iret B hr hP hD hS (u := ()) rfl (by rw [h9]; rfl) (Nat.le_of_ble_eq_true rfl) (Nat.le_of_ble_eq_true rfl) dX1_nextPerson_52
end
section
/-! The paper and the copies: their methods. -/
set_option maxHeartbeats 4000000 in
set_option maxRecDepth 100000 in
theorem c2_newest (l : Launch) (D : va_G) (cI cZ cP : ClassId) (a : Nat → Nat) (X : Nat → Int32) (Y : Nat → Nat → Int32) (w : Nat) (hw1 : X 1 = nI w) : q_C l yX2_newest wsX2_newest ({ frames := 0, cells := 0, slots := 0, locals := 0 }) D cI cZ cP [.ref (a 0)] (dw cI cZ a X Y ++ ppw cI cZ a X Y) (S := Unit) (fun v _ => v = some (.int (vn w))) (fun _ => dw cI cZ a X Y ++ ppw cI cZ a X Y) (fun _ => False) 0 0 := by
  refine q_of (cc := cX2_newest) (maxL := 1) (ret := (some .int)) (by decide +kernel) rfl (Nat.le_of_ble_eq_true rfl) ?_
  intro p e s m below meth c A ls B hr htb hmn hP hD hS hl
  have hl : lv_has ls 1 [(0, .ref (a 0))] := hl
  have hi2 : ∀ w ∈ u_ws RX2 TX2 9, w ∈ wsX2_newest := by decide +kernel
  refine lv_aload_n B.hx B.hb dX2_newest_0 rfl (lv_at hl 0 rfl) ?_
  refine q_get B hP (C := RX2) (ref := "PaperKeeper$Paper") (T := TX2) (N := 9) (ci := 2) hi2 rfl 6 rfl 5 (by decide) (by decide +kernel) rfl (v := .int (X 1)) rfl dX2_newest_1 ?_
  refine q_top (v2 := .int (nI w)) (congrArg Value.int hw1) ?_
  refine lv_iconst (v := (nI 1)) B.hx B.hb dX2_newest_4 (by decide) ?_
  refine lv_isub B.hx B.hb dX2_newest_5 ?_
  exact q_iret B hr hP hD hS (u := ()) rfl (by rw [vn_eq]) (Nat.le_of_ble_eq_true rfl) (Nat.le_of_ble_eq_true rfl) dX2_newest_6
set_option maxHeartbeats 4000000 in
set_option maxRecDepth 100000 in
theorem c2_versionOn (l : Launch) (D : va_G) (cI cZ cP : ClassId) (a : Nat → Nat) (X : Nat → Int32) (Y : Nat → Nat → Int32) (w : Nat) (hw1 : X 1 = nI w) (hw2 : w ≤ 128) (x : Int32) : q_C l yX2_versionOn wsX2_versionOn ({ frames := 0, cells := 0, slots := 0, locals := 0 }) D cI cZ cP [.ref (a 0), .int x] (dw cI cZ a X Y ++ ppw cI cZ a X Y) (S := Unit) (fun v _ => v = some (.int (pL (fun i => decide (¬ x < Y 7 i)) nI w))) (fun _ => dw cI cZ a X Y ++ ppw cI cZ a X Y) (fun _ => False) 0 0 := by
  refine q_of (cc := cX2_versionOn) (maxL := 3) (ret := (some .int)) (by decide +kernel) rfl (Nat.le_of_ble_eq_true rfl) ?_
  intro p e s m below meth c A ls B hr htb hmn hP hD hS hl
  have hl : lv_has ls 3 [(0, .ref (a 0)), (1, .int x)] := hl
  have hi2 : ∀ w ∈ u_ws RX2 TX2 9, w ∈ wsX2_versionOn := by decide +kernel
  refine lv_aload_n B.hx B.hb dX2_versionOn_0 rfl (lv_at hl 0 rfl) ?_
  refine q_get B hP (C := RX2) (ref := "PaperKeeper$Paper") (T := TX2) (N := 9) (ci := 2) hi2 rfl 6 rfl 5 (by decide) (by decide +kernel) rfl (v := .int (X 1)) rfl dX2_versionOn_1 ?_
  refine q_top (v2 := .int (nI w)) (congrArg Value.int hw1) ?_
  refine lv_iconst (v := (nI 1)) B.hx B.hb dX2_versionOn_4 (by decide) ?_
  refine lv_isub B.hx B.hb dX2_versionOn_5 ?_
  refine q_top (v2 := .int (vn w)) (congrArg Value.int (vn_eq w)) ?_
  refine lv_istore_n (lv' := [(2, .int (vn w)), (0, .ref (a 0)), (1, .int x)]) B.hx B.hb dX2_versionOn_6 rfl hl (by decide) rfl (fun ls hl => ?_)
  refine q_loop (nL := 3) (fun i : Nat => i ≤ w ∧ pL (fun i => decide (¬ x < Y 7 i)) nI w = pL (fun i => decide (¬ x < Y 7 i)) nI i) (fun i : Nat => i) (fun i : Nat => [(2, .int (vn i)), (0, .ref (a 0)), (1, .int x)]) (w) ⟨Nat.le_refl _, rfl⟩ (lv_sub hl [0, 1, 2] rfl) ?_
  intro i hI ih ls hl
  obtain ⟨hi, he⟩ : i ≤ w ∧ pL (fun i => decide (¬ x < Y 7 i)) nI w = pL (fun i => decide (¬ x < Y 7 i)) nI i := hI
  have hl : lv_has ls 3 [(2, .int (vn i)), (0, .ref (a 0)), (1, .int x)] := hl
  cases i with
  | zero =>
    have hl : lv_has ls 3 [(2, .int (-1)), (0, .ref (a 0)), (1, .int x)] := hl
    refine lv_iload_n B.hx B.hb dX2_versionOn_7 rfl (lv_at hl 0 rfl) ?_
    refine lv_if_lt (tgt := 29) B.hx B.hb dX2_versionOn_8 (by decide) (fun _ => ?_) (fun c1 => absurd c1 (by decide))
    refine lv_iconst (v := (-1)) B.hx B.hb dX2_versionOn_29 (by decide) ?_
    exact q_iret B hr hP hD hS (u := ()) rfl (by rw [he]; rfl) (Nat.le_of_ble_eq_true rfl) (Nat.le_of_ble_eq_true rfl) dX2_versionOn_30
  | succ k =>
    have hl : lv_has ls 3 [(2, .int (nI k)), (0, .ref (a 0)), (1, .int x)] := hl
    refine lv_iload_n B.hx B.hb dX2_versionOn_7 rfl (lv_at hl 0 rfl) ?_
    refine lv_if_lt (tgt := 29) B.hx B.hb dX2_versionOn_8 (by decide) (fun c2 => absurd c2 (nI_pos (by omega))) (fun _ => ?_)
    refine lv_aload_n B.hx B.hb dX2_versionOn_11 rfl (lv_at hl 1 rfl) ?_
    refine q_get B hP (C := RX2) (ref := "PaperKeeper$Paper") (T := TX2) (N := 9) (ci := 2) hi2 rfl 6 rfl 4 (by decide) (by decide +kernel) rfl (v := .ref (a 9)) rfl dX2_versionOn_12 ?_
    refine lv_iload_n B.hx B.hb dX2_versionOn_15 rfl (lv_at hl 0 rfl) ?_
    refine q_iald B hP 9 rfl (j := k) rfl (by omega) (by decide) dX2_versionOn_16 ?_
    refine lv_iload_n B.hx B.hb dX2_versionOn_17 rfl (lv_at hl 2 rfl) ?_
    refine lv_icmp_gt (tgt := 23) B.hx B.hb dX2_versionOn_18 (by decide) (fun c3 => ?_) (fun c3 => ?_)
    · refine lv_iinc (v := (vn k)) (lv' := [(2, .int (vn k)), (0, .ref (a 0)), (1, .int x)]) B.hx B.hb dX2_versionOn_23 hl (k := 0) rfl (vn_dec k) (by decide) rfl (fun ls hl => ?_)
      refine lv_goto (tgt := 7) B.hx B.hb dX2_versionOn_26 (by decide) ?_
      exact ih k ⟨by omega, by rw [he, pL_no (by rw [decide_eq_false_iff_not]; exact not_not_intro c3)]⟩ (by omega) ls (lv_sub hl [0, 1, 2] rfl)
    · refine lv_iload_n B.hx B.hb dX2_versionOn_21 rfl (lv_at hl 0 rfl) ?_
      exact q_iret B hr hP hD hS (u := ()) rfl (by rw [he, pL_yes (decide_eq_true c3)]) (Nat.le_of_ble_eq_true rfl) (Nat.le_of_ble_eq_true rfl) dX2_versionOn_22
set_option maxHeartbeats 4000000 in
set_option maxRecDepth 100000 in
theorem c2_needsLook (l : Launch) (D : va_G) (cI cZ cP : ClassId) (a : Nat → Nat) (X : Nat → Int32) (Y : Nat → Nat → Int32) (w : Nat) (hw1 : X 1 = nI w) (hw2 : w ≤ 128) (t iv : Int32) : q_C l yX2_needsLook wsX2_needsLook ({ frames := 0, cells := 0, slots := 0, locals := 0 }) D cI cZ cP [.ref (a 0), .int t, .int iv] (dw cI cZ a X Y ++ ppw cI cZ a X Y) (S := Unit) (fun v _ => v = some (.int (nl w (X 3) t (X 4) iv))) (fun _ => dw cI cZ a X Y ++ ppw cI cZ a X Y) (fun _ => False) 0 0 := by
  refine q_of (cc := cX2_needsLook) (maxL := 3) (ret := (some .boolean)) (by decide +kernel) rfl (Nat.le_of_ble_eq_true rfl) ?_
  intro p e s m below meth c A ls B hr htb hmn hP hD hS hl
  have hl : lv_has ls 3 [(0, .ref (a 0)), (1, .int t), (2, .int iv)] := hl
  have hi2 : ∀ w ∈ u_ws RX2 TX2 9, w ∈ wsX2_needsLook := by decide +kernel
  refine lv_aload_n B.hx B.hb dX2_needsLook_0 rfl (lv_at hl 0 rfl) ?_
  refine q_get B hP (C := RX2) (ref := "PaperKeeper$Paper") (T := TX2) (N := 9) (ci := 2) hi2 rfl 6 rfl 5 (by decide) (by decide +kernel) rfl (v := .int (X 1)) rfl dX2_needsLook_1 ?_
  refine q_top (v2 := .int (nI w)) (congrArg Value.int hw1) ?_
  refine lv_if_le (tgt := 28) B.hx B.hb dX2_needsLook_4 (by decide) (fun c1 => ?_) (fun c1 => ?_)
  · replace c1 := (nI_le0 (by omega)).mp c1
    refine lv_iconst (v := (nI 0)) B.hx B.hb dX2_needsLook_28 (by decide) ?_
    exact q_zret B hr hP hD hS (by decide) (u := ()) rfl (by simp [nl, c1]) (Nat.le_of_ble_eq_true rfl) (Nat.le_of_ble_eq_true rfl) dX2_needsLook_29
  · replace c1 := mt (nI_le0 (by omega)).mpr c1
    refine lv_aload_n B.hx B.hb dX2_needsLook_7 rfl (lv_at hl 0 rfl) ?_
    refine q_get B hP (C := RX2) (ref := "PaperKeeper$Paper") (T := TX2) (N := 9) (ci := 2) hi2 rfl 6 rfl 7 (by decide) (by decide +kernel) rfl (v := .int (X 3)) rfl dX2_needsLook_8 ?_
    refine lv_if_ne (tgt := 24) B.hx B.hb dX2_needsLook_11 (by decide) (fun c2 => ?_) (fun c2 => ?_)
    · refine lv_iconst (v := (nI 1)) B.hx B.hb dX2_needsLook_24 (by decide) ?_
      refine lv_goto (tgt := 29) B.hx B.hb dX2_needsLook_25 (by decide) ?_
      exact q_zret B hr hP hD hS (by decide) (u := ()) rfl (by simp [nl, c1, c2]) (Nat.le_of_ble_eq_true rfl) (Nat.le_of_ble_eq_true rfl) dX2_needsLook_29
    · refine lv_iload_n B.hx B.hb dX2_needsLook_14 rfl (lv_at hl 1 rfl) ?_
      refine lv_aload_n B.hx B.hb dX2_needsLook_15 rfl (lv_at hl 0 rfl) ?_
      refine q_get B hP (C := RX2) (ref := "PaperKeeper$Paper") (T := TX2) (N := 9) (ci := 2) hi2 rfl 6 rfl 8 (by decide) (by decide +kernel) rfl (v := .int (X 4)) rfl dX2_needsLook_16 ?_
      refine lv_isub B.hx B.hb dX2_needsLook_19 ?_
      refine lv_iload_n B.hx B.hb dX2_needsLook_20 rfl (lv_at hl 2 rfl) ?_
      refine lv_icmp_lt (tgt := 28) B.hx B.hb dX2_needsLook_21 (by decide) (fun c3 => ?_) (fun c3 => ?_)
      · refine lv_iconst (v := (nI 0)) B.hx B.hb dX2_needsLook_28 (by decide) ?_
        exact q_zret B hr hP hD hS (by decide) (u := ()) rfl (by simp [nl, c1, c2, c3]) (Nat.le_of_ble_eq_true rfl) (Nat.le_of_ble_eq_true rfl) dX2_needsLook_29
      · refine lv_iconst (v := (nI 1)) B.hx B.hb dX2_needsLook_24 (by decide) ?_
        refine lv_goto (tgt := 29) B.hx B.hb dX2_needsLook_25 (by decide) ?_
        exact q_zret B hr hP hD hS (by decide) (u := ()) rfl (by simp [nl, c1, c2, c3]) (Nat.le_of_ble_eq_true rfl) (Nat.le_of_ble_eq_true rfl) dX2_needsLook_29
set_option maxHeartbeats 4000000 in
set_option maxRecDepth 100000 in
theorem c2_restartInterval (l : Launch) (D : va_G) (cI cZ cP : ClassId) (a : Nat → Nat) (X : Nat → Int32) (Y : Nat → Nat → Int32) (t : Int32) : q_C l yX2_restartInterval wsX2_restartInterval ({ frames := 0, cells := 0, slots := 0, locals := 0 }) D cI cZ cP [.ref (a 0), .int t] (dw cI cZ a X Y ++ ppw cI cZ a X Y) (S := Unit) (fun v _ => v = none) (fun _ => dw cI cZ a (va_up (va_up X 3 (nI 0)) 4 t) Y ++ ppw cI cZ a (va_up (va_up X 3 (nI 0)) 4 t) Y) (fun _ => False) 0 0 := by
  refine q_of (cc := cX2_restartInterval) (maxL := 2) (ret := none) (by decide +kernel) rfl (Nat.le_of_ble_eq_true rfl) ?_
  intro p e s m below meth c A ls B hr htb hmn hP hD hS hl
  have hl : lv_has ls 2 [(0, .ref (a 0)), (1, .int t)] := hl
  have hi2 : ∀ w ∈ u_ws RX2 TX2 9, w ∈ wsX2_restartInterval := by decide +kernel
  refine lv_aload_n B.hx B.hb dX2_restartInterval_0 rfl (lv_at hl 0 rfl) ?_
  refine lv_iconst (v := (nI 0)) B.hx B.hb dX2_restartInterval_1 (by decide) ?_
  refine q_put B hP hD hS (C := RX2) (ref := "PaperKeeper$Paper") (T := TX2) (N := 9) (ci := 2) hi2 rfl tyX2 tyX2_ok nmX2 6 rfl 7 (by decide) (by decide +kernel) rfl rfl (by decide) (by decide) (Nat.le_of_ble_eq_true rfl) dX2_restartInterval_2 (w' := dw cI cZ a (va_up X 3 (nI 0)) Y ++ ppw cI cZ a (va_up X 3 (nI 0)) Y) rfl (fun H locs hP hD hS => ?_)
  refine lv_aload_n B.hx B.hb dX2_restartInterval_5 rfl (lv_at hl 0 rfl) ?_
  refine lv_iload_n B.hx B.hb dX2_restartInterval_6 rfl (lv_at hl 1 rfl) ?_
  refine q_put B hP hD hS (C := RX2) (ref := "PaperKeeper$Paper") (T := TX2) (N := 9) (ci := 2) hi2 rfl tyX2 tyX2_ok nmX2 6 rfl 8 (by decide) (by decide +kernel) rfl rfl rfl (by rfl) (Nat.le_of_ble_eq_true rfl) dX2_restartInterval_7 (w' := dw cI cZ a (va_up (va_up X 3 (nI 0)) 4 t) Y ++ ppw cI cZ a (va_up (va_up X 3 (nI 0)) 4 t) Y) rfl (fun H locs hP hD hS => ?_)
  exact q_vret B hr hP hD hS (u := ()) rfl rfl (Nat.le_of_ble_eq_true rfl) (Nat.le_of_ble_eq_true rfl) dX2_restartInterval_10
set_option maxHeartbeats 4000000 in
set_option maxRecDepth 100000 in
theorem c2_comeIntoForce (l : Launch) (D : va_G) (cI cZ cP : ClassId) (a : Nat → Nat) (X : Nat → Int32) (Y : Nat → Nat → Int32) (n k : Nat) (hW : wd X Y n k) (w : Nat) (hw1 : X 1 = nI w) (t : Int32) (hw2 : (¬ X 2 = 0 ∧ (stp n (dNR Y n) (dOR Y k) (X 10) (dNC Y)) = nI 5 ∧ ¬ t < X 11) → w < 128) : q_C l yX2_comeIntoForce wsX2_comeIntoForce ({ frames := 3, cells := 0, slots := 0, locals := 63 }) D cI cZ cP [.ref (a 0), .int t] (dw cI cZ a X Y ++ ppw cI cZ a X Y) (S := Bool) (fun v u => (v = some (.int (nI 1)) ∧ u = true ∧ (¬ X 2 = 0 ∧ (stp n (dNR Y n) (dOR Y k) (X 10) (dNC Y)) = nI 5 ∧ ¬ t < X 11)) ∨ (v = some (.int (nI 0)) ∧ u = false ∧ ¬ (¬ X 2 = 0 ∧ (stp n (dNR Y n) (dOR Y k) (X 10) (dNC Y)) = nI 5 ∧ ¬ t < X 11))) (fun u => dw cI cZ a (if u = true then (va_up (va_up (va_up (va_up X 1 (nI ((w + 1)))) 2 (nI 0)) 3 (nI 0)) 4 t) else X) (if u = true then (va_up (va_up Y 6 (upd (Y 6) w (X 6))) 7 (upd (Y 7) w t)) else Y) ++ ppw cI cZ a (if u = true then (va_up (va_up (va_up (va_up X 1 (nI ((w + 1)))) 2 (nI 0)) 3 (nI 0)) 4 t) else X) (if u = true then (va_up (va_up Y 6 (upd (Y 6) w (X 6))) 7 (upd (Y 7) w t)) else Y)) (fun _ => False) 0 0 := by
  refine q_of (cc := cX2_comeIntoForce) (maxL := 2) (ret := (some .boolean)) (by decide +kernel) rfl (Nat.le_of_ble_eq_true rfl) ?_
  intro p e s m below meth c A ls B hr htb hmn hP hD hS hl
  have hl : lv_has ls 2 [(0, .ref (a 0)), (1, .int t)] := hl
  have hi1 : ∀ w ∈ u_ws RX1 TX1 12, w ∈ wsX2_comeIntoForce := by decide +kernel
  have hi2 : ∀ w ∈ u_ws RX2 TX2 9, w ∈ wsX2_comeIntoForce := by decide +kernel
  obtain ⟨hn, hn4, hm, hm4, hv⟩ := id hW
  refine lv_aload_n B.hx B.hb dX2_comeIntoForce_0 rfl (lv_at hl 0 rfl) ?_
  refine q_get B hP (C := RX2) (ref := "PaperKeeper$Paper") (T := TX2) (N := 9) (ci := 2) hi2 rfl 6 rfl 6 (by decide) (by decide +kernel) rfl (v := .int (X 2)) rfl dX2_comeIntoForce_1 ?_
  refine lv_if_eq (tgt := 28) B.hx B.hb dX2_comeIntoForce_4 (by decide) (fun c1 => ?_) (fun c1 => ?_)
  · refine lv_iconst (v := (nI 0)) B.hx B.hb dX2_comeIntoForce_28 (by decide) ?_
    exact q_zret B hr hP hD hS (by decide) (u := false) rfl (Or.inr ⟨rfl, rfl, cf_no1 c1⟩) (Nat.le_of_ble_eq_true rfl) (Nat.le_of_ble_eq_true rfl) dX2_comeIntoForce_29
  · refine lv_aload_n B.hx B.hb dX2_comeIntoForce_7 rfl (lv_at hl 0 rfl) ?_
    refine q_get B hP (C := RX2) (ref := "PaperKeeper$Paper") (T := TX2) (N := 9) (ci := 2) hi2 rfl 6 rfl 2 (by decide) (by decide +kernel) rfl (v := .ref (a 2)) rfl dX2_comeIntoForce_8 ?_
    refine lv_iload_n B.hx B.hb dX2_comeIntoForce_11 rfl (lv_at hl 1 rfl) ?_
    refine q_callV (As := [.int t]) (rest := []) B hP hD hS ((c1_isReady l D cI cZ cP a X Y n k hW t).fr (ppw cI cZ a X Y)) (cwV 1 B.hts gX2_comeIntoForce_X1_isReady rfl rfl rfl (by decide +kernel) ⟨(Nat.le_of_ble_eq_true rfl), (Nat.le_of_ble_eq_true rfl)⟩) 0 1 rfl rfl rfl rfl hl.1 rfl (Nat.le_of_ble_eq_true rfl) dX2_comeIntoForce_12 ⟨(Nat.le_of_ble_eq_true rfl), (Nat.le_of_ble_eq_true rfl)⟩ (fun E ce q9 H locs hx => False.elim hx) (fun v u H locs hp hP hD hS => ?_)
    obtain rfl := hp
    have hP : va_P D vwCl (dw cI cZ a X Y ++ ppw cI cZ a X Y) H := hP
    have hD : va_D A (dw cI cZ a X Y ++ ppw cI cZ a X Y) := hD
    refine lv_if_eq (tgt := 28) B.hx B.hb dX2_comeIntoForce_15 (by decide) (fun c2 => ?_) (fun c2 => ?_)
    · refine lv_iconst (v := (nI 0)) B.hx B.hb dX2_comeIntoForce_28 (by decide) ?_
      exact q_zret B hr hP hD hS (by decide) (u := false) rfl (Or.inr ⟨rfl, rfl, cf_no2 c2⟩) (Nat.le_of_ble_eq_true rfl) (Nat.le_of_ble_eq_true rfl) dX2_comeIntoForce_29
    · have hw3 : w < 128 := hw2 (cf_yes c1 c2)
      refine lv_aload_n B.hx B.hb dX2_comeIntoForce_18 rfl (lv_at hl 0 rfl) ?_
      refine q_get B hP (C := RX2) (ref := "PaperKeeper$Paper") (T := TX2) (N := 9) (ci := 2) hi2 rfl 6 rfl 5 (by decide) (by decide +kernel) rfl (v := .int (X 1)) rfl dX2_comeIntoForce_19 ?_
      refine q_top (v2 := .int (nI w)) (congrArg Value.int hw1) ?_
      refine lv_sipush (v := (nI 128)) B.hx B.hb dX2_comeIntoForce_22 (by decide) ?_
      refine lv_icmp_lt (tgt := 30) B.hx B.hb dX2_comeIntoForce_25 (by decide) (fun _ => ?_) (fun c3 => absurd c3 (not_not_intro ((nI_ltI (by omega) (by omega)).mpr (by omega))))
      refine lv_aload_n B.hx B.hb dX2_comeIntoForce_30 rfl (lv_at hl 0 rfl) ?_
      refine q_get B hP (C := RX2) (ref := "PaperKeeper$Paper") (T := TX2) (N := 9) (ci := 2) hi2 rfl 6 rfl 3 (by decide) (by decide +kernel) rfl (v := .ref (a 8)) rfl dX2_comeIntoForce_31 ?_
      refine lv_aload_n B.hx B.hb dX2_comeIntoForce_34 rfl (lv_at hl 0 rfl) ?_
      refine q_get B hP (C := RX2) (ref := "PaperKeeper$Paper") (T := TX2) (N := 9) (ci := 2) hi2 rfl 6 rfl 5 (by decide) (by decide +kernel) rfl (v := .int (X 1)) rfl dX2_comeIntoForce_35 ?_
      refine q_top (v2 := .int (nI w)) (congrArg Value.int hw1) ?_
      refine lv_aload_n B.hx B.hb dX2_comeIntoForce_38 rfl (lv_at hl 0 rfl) ?_
      refine q_get B hP (C := RX2) (ref := "PaperKeeper$Paper") (T := TX2) (N := 9) (ci := 2) hi2 rfl 6 rfl 2 (by decide) (by decide +kernel) rfl (v := .ref (a 2)) rfl dX2_comeIntoForce_39 ?_
      refine q_get B hP (C := RX1) (ref := "PaperKeeper$Draft") (T := TX1) (N := 12) (ci := 1) hi1 rfl 0 rfl 6 (by decide) (by decide +kernel) rfl (v := .int (X 6)) rfl dX2_comeIntoForce_42 ?_
      refine q_iast B hP hD hS 8 rfl (j := w) rfl (by omega) (by decide) dX2_comeIntoForce_45 (w' := dw cI cZ a X (va_up Y 6 (upd (Y 6) w (X 6))) ++ ppw cI cZ a X (va_up Y 6 (upd (Y 6) w (X 6)))) rfl (fun H locs hP hD hS => ?_)
      refine lv_aload_n B.hx B.hb dX2_comeIntoForce_46 rfl (lv_at hl 0 rfl) ?_
      refine q_get B hP (C := RX2) (ref := "PaperKeeper$Paper") (T := TX2) (N := 9) (ci := 2) hi2 rfl 6 rfl 4 (by decide) (by decide +kernel) rfl (v := .ref (a 9)) rfl dX2_comeIntoForce_47 ?_
      refine lv_aload_n B.hx B.hb dX2_comeIntoForce_50 rfl (lv_at hl 0 rfl) ?_
      refine q_get B hP (C := RX2) (ref := "PaperKeeper$Paper") (T := TX2) (N := 9) (ci := 2) hi2 rfl 6 rfl 5 (by decide) (by decide +kernel) rfl (v := .int (X 1)) rfl dX2_comeIntoForce_51 ?_
      refine q_top (v2 := .int (nI w)) (congrArg Value.int hw1) ?_
      refine lv_iload_n B.hx B.hb dX2_comeIntoForce_54 rfl (lv_at hl 1 rfl) ?_
      refine q_iast B hP hD hS 9 rfl (j := w) rfl (by omega) (by decide) dX2_comeIntoForce_55 (w' := dw cI cZ a X (va_up (va_up Y 6 (upd (Y 6) w (X 6))) 7 (upd (Y 7) w t)) ++ ppw cI cZ a X (va_up (va_up Y 6 (upd (Y 6) w (X 6))) 7 (upd (Y 7) w t))) rfl (fun H locs hP hD hS => ?_)
      refine lv_aload_n B.hx B.hb dX2_comeIntoForce_56 rfl (lv_at hl 0 rfl) ?_
      refine lv_dup B.hx B.hb dX2_comeIntoForce_57 rfl ?_
      refine q_get B hP (C := RX2) (ref := "PaperKeeper$Paper") (T := TX2) (N := 9) (ci := 2) hi2 rfl 6 rfl 5 (by decide) (by decide +kernel) rfl (v := .int (X 1)) rfl dX2_comeIntoForce_58 ?_
      refine q_top (v2 := .int (nI w)) (congrArg Value.int hw1) ?_
      refine lv_iconst (v := (nI 1)) B.hx B.hb dX2_comeIntoForce_61 (by decide) ?_
      refine lv_iadd B.hx B.hb dX2_comeIntoForce_62 ?_
      refine q_top (v2 := .int (nI ((w + 1)))) (congrArg Value.int (nI_add _ _)) ?_
      refine q_put B hP hD hS (C := RX2) (ref := "PaperKeeper$Paper") (T := TX2) (N := 9) (ci := 2) hi2 rfl tyX2 tyX2_ok nmX2 6 rfl 5 (by decide) (by decide +kernel) rfl rfl rfl (by rfl) (Nat.le_of_ble_eq_true rfl) dX2_comeIntoForce_63 (w' := dw cI cZ a (va_up X 1 (nI ((w + 1)))) (va_up (va_up Y 6 (upd (Y 6) w (X 6))) 7 (upd (Y 7) w t)) ++ ppw cI cZ a (va_up X 1 (nI ((w + 1)))) (va_up (va_up Y 6 (upd (Y 6) w (X 6))) 7 (upd (Y 7) w t))) rfl (fun H locs hP hD hS => ?_)
      refine lv_aload_n B.hx B.hb dX2_comeIntoForce_66 rfl (lv_at hl 0 rfl) ?_
      refine lv_iconst (v := (nI 0)) B.hx B.hb dX2_comeIntoForce_67 (by decide) ?_
      refine q_put B hP hD hS (C := RX2) (ref := "PaperKeeper$Paper") (T := TX2) (N := 9) (ci := 2) hi2 rfl tyX2 tyX2_ok nmX2 6 rfl 6 (by decide) (by decide +kernel) rfl rfl (by decide) (by decide) (Nat.le_of_ble_eq_true rfl) dX2_comeIntoForce_68 (w' := dw cI cZ a (va_up (va_up X 1 (nI ((w + 1)))) 2 (nI 0)) (va_up (va_up Y 6 (upd (Y 6) w (X 6))) 7 (upd (Y 7) w t)) ++ ppw cI cZ a (va_up (va_up X 1 (nI ((w + 1)))) 2 (nI 0)) (va_up (va_up Y 6 (upd (Y 6) w (X 6))) 7 (upd (Y 7) w t))) rfl (fun H locs hP hD hS => ?_)
      refine lv_aload_n B.hx B.hb dX2_comeIntoForce_71 rfl (lv_at hl 0 rfl) ?_
      refine lv_iload_n B.hx B.hb dX2_comeIntoForce_72 rfl (lv_at hl 1 rfl) ?_
      refine q_callV (As := [.int t]) (rest := []) B hP hD hS (c2_restartInterval l D cI cZ cP a (va_up (va_up X 1 (nI ((w + 1)))) 2 (nI 0)) (va_up (va_up Y 6 (upd (Y 6) w (X 6))) 7 (upd (Y 7) w t)) t) (cwV 1 B.hts gX2_comeIntoForce_X2_restartInterval rfl rfl rfl (by decide +kernel) ⟨(Nat.le_of_ble_eq_true rfl), (Nat.le_of_ble_eq_true rfl)⟩) 6 2 rfl rfl rfl rfl hl.1 rfl (Nat.le_of_ble_eq_true rfl) dX2_comeIntoForce_73 ⟨(Nat.le_of_ble_eq_true rfl), (Nat.le_of_ble_eq_true rfl)⟩ (fun E ce q9 H locs hx => False.elim hx) (fun v u H locs hp hP hD hS => ?_)
      obtain rfl := hp
      have hP : va_P D vwCl (dw cI cZ a (va_up (va_up (va_up (va_up X 1 (nI ((w + 1)))) 2 (nI 0)) 3 (nI 0)) 4 t) (va_up (va_up Y 6 (upd (Y 6) w (X 6))) 7 (upd (Y 7) w t)) ++ ppw cI cZ a (va_up (va_up (va_up (va_up X 1 (nI ((w + 1)))) 2 (nI 0)) 3 (nI 0)) 4 t) (va_up (va_up Y 6 (upd (Y 6) w (X 6))) 7 (upd (Y 7) w t))) H := hP
      have hD : va_D A (dw cI cZ a (va_up (va_up (va_up (va_up X 1 (nI ((w + 1)))) 2 (nI 0)) 3 (nI 0)) 4 t) (va_up (va_up Y 6 (upd (Y 6) w (X 6))) 7 (upd (Y 7) w t)) ++ ppw cI cZ a (va_up (va_up (va_up (va_up X 1 (nI ((w + 1)))) 2 (nI 0)) 3 (nI 0)) 4 t) (va_up (va_up Y 6 (upd (Y 6) w (X 6))) 7 (upd (Y 7) w t))) := hD
      refine lv_iconst (v := (nI 1)) B.hx B.hb dX2_comeIntoForce_76 (by decide) ?_
      exact q_zret B hr hP hD hS (by decide) (u := true) rfl (Or.inl ⟨rfl, rfl, cf_yes c1 c2⟩) (Nat.le_of_ble_eq_true rfl) (Nat.le_of_ble_eq_true rfl) dX2_comeIntoForce_77
set_option maxHeartbeats 4000000 in
set_option maxRecDepth 100000 in
theorem c0_add (l : Launch) (D : va_G) (cI cZ cP : ClassId) (b : Nat → Nat) (I : Nat → Int32) (V : Nat → Nat → Int32) (q : Nat) (hq : I 3 = nI q) (hq2 : q < 30) (x y z : Int32) : q_C l yX0_add wsX0_add ({ frames := 0, cells := 0, slots := 0, locals := 0 }) D cI cZ cP [.ref (b 5), .int x, .int y, .int z] (cw cI b I V) (S := Unit) (fun v _ => v = some (.int (nI q))) (fun _ => cw cI b (va_up I 3 (nI ((q + 1)))) (va_up (va_up (va_up V 10 (upd (V 10) q x)) 11 (upd (V 11) q y)) 12 (upd (V 12) q z))) (fun _ => False) 0 0 := by
  refine q_of (cc := cX0_add) (maxL := 5) (ret := (some .int)) (by decide +kernel) rfl (Nat.le_of_ble_eq_true rfl) ?_
  intro p e s m below meth c A ls B hr htb hmn hP hD hS hl
  have hl : lv_has ls 5 [(0, .ref (b 5)), (1, .int x), (2, .int y), (3, .int z)] := hl
  have hi0 : ∀ w ∈ u_ws RX0 TX0 4, w ∈ wsX0_add := by decide +kernel
  refine lv_aload_n B.hx B.hb dX0_add_0 rfl (lv_at hl 0 rfl) ?_
  refine q_get B hP (C := RX0) (ref := "PaperKeeper$Copies") (T := TX0) (N := 4) (ci := 0) hi0 rfl 0 rfl 3 (by decide) (by decide +kernel) rfl (v := .int (I 3)) rfl dX0_add_1 ?_
  refine q_top (v2 := .int (nI q)) (congrArg Value.int hq) ?_
  refine lv_istore (lv' := [(4, .int (nI q)), (0, .ref (b 5)), (1, .int x), (2, .int y), (3, .int z)]) B.hx B.hb dX0_add_4 hl (by decide) rfl (fun ls hl => ?_)
  refine lv_iload B.hx B.hb dX0_add_6 (lv_at hl 0 rfl) ?_
  refine lv_bipush (v := (nI 30)) B.hx B.hb dX0_add_8 (by decide) ?_
  refine lv_icmp_ge (tgt := 47) B.hx B.hb dX0_add_10 (by decide) (fun c1 => absurd c1 (mt (nI_leI (by omega) (by omega)).mp (by omega))) (fun _ => ?_)
  refine lv_aload_n B.hx B.hb dX0_add_13 rfl (lv_at hl 1 rfl) ?_
  refine q_get B hP (C := RX0) (ref := "PaperKeeper$Copies") (T := TX0) (N := 4) (ci := 0) hi0 rfl 0 rfl 0 (by decide) (by decide +kernel) rfl (v := .ref (b 6)) rfl dX0_add_14 ?_
  refine lv_iload B.hx B.hb dX0_add_17 (lv_at hl 0 rfl) ?_
  refine lv_iload_n B.hx B.hb dX0_add_19 rfl (lv_at hl 2 rfl) ?_
  refine q_iast B hP hD hS 1 rfl (j := q) rfl (by omega) (by decide) dX0_add_20 (w' := cw cI b I (va_up V 10 (upd (V 10) q x))) rfl (fun H locs hP hD hS => ?_)
  refine lv_aload_n B.hx B.hb dX0_add_21 rfl (lv_at hl 1 rfl) ?_
  refine q_get B hP (C := RX0) (ref := "PaperKeeper$Copies") (T := TX0) (N := 4) (ci := 0) hi0 rfl 0 rfl 1 (by decide) (by decide +kernel) rfl (v := .ref (b 7)) rfl dX0_add_22 ?_
  refine lv_iload B.hx B.hb dX0_add_25 (lv_at hl 0 rfl) ?_
  refine lv_iload_n B.hx B.hb dX0_add_27 rfl (lv_at hl 3 rfl) ?_
  refine q_iast B hP hD hS 2 rfl (j := q) rfl (by omega) (by decide) dX0_add_28 (w' := cw cI b I (va_up (va_up V 10 (upd (V 10) q x)) 11 (upd (V 11) q y))) rfl (fun H locs hP hD hS => ?_)
  refine lv_aload_n B.hx B.hb dX0_add_29 rfl (lv_at hl 1 rfl) ?_
  refine q_get B hP (C := RX0) (ref := "PaperKeeper$Copies") (T := TX0) (N := 4) (ci := 0) hi0 rfl 0 rfl 2 (by decide) (by decide +kernel) rfl (v := .ref (b 8)) rfl dX0_add_30 ?_
  refine lv_iload B.hx B.hb dX0_add_33 (lv_at hl 0 rfl) ?_
  refine lv_iload_n B.hx B.hb dX0_add_35 rfl (lv_at hl 4 rfl) ?_
  refine q_iast B hP hD hS 3 rfl (j := q) rfl (by omega) (by decide) dX0_add_36 (w' := cw cI b I (va_up (va_up (va_up V 10 (upd (V 10) q x)) 11 (upd (V 11) q y)) 12 (upd (V 12) q z))) rfl (fun H locs hP hD hS => ?_)
  refine lv_aload_n B.hx B.hb dX0_add_37 rfl (lv_at hl 1 rfl) ?_
  refine lv_dup B.hx B.hb dX0_add_38 rfl ?_
  refine q_get B hP (C := RX0) (ref := "PaperKeeper$Copies") (T := TX0) (N := 4) (ci := 0) hi0 rfl 0 rfl 3 (by decide) (by decide +kernel) rfl (v := .int (I 3)) rfl dX0_add_39 ?_
  refine q_top (v2 := .int (nI q)) (congrArg Value.int hq) ?_
  refine lv_iconst (v := (nI 1)) B.hx B.hb dX0_add_42 (by decide) ?_
  refine lv_iadd B.hx B.hb dX0_add_43 ?_
  refine q_top (v2 := .int (nI ((q + 1)))) (congrArg Value.int (nI_add _ _)) ?_
  refine q_put B hP hD hS (C := RX0) (ref := "PaperKeeper$Copies") (T := TX0) (N := 4) (ci := 0) hi0 rfl tyX0 tyX0_ok nmX0 0 rfl 3 (by decide) (by decide +kernel) rfl rfl rfl (by rfl) (Nat.le_of_ble_eq_true rfl) dX0_add_44 (w' := cw cI b (va_up I 3 (nI ((q + 1)))) (va_up (va_up (va_up V 10 (upd (V 10) q x)) 11 (upd (V 11) q y)) 12 (upd (V 12) q z))) rfl (fun H locs hP hD hS => ?_)
  refine lv_iload B.hx B.hb dX0_add_47 (lv_at hl 0 rfl) ?_
  exact q_iret B hr hP hD hS (u := ()) rfl rfl (Nat.le_of_ble_eq_true rfl) (Nat.le_of_ble_eq_true rfl) dX0_add_49
set_option maxHeartbeats 4000000 in
set_option maxRecDepth 100000 in
theorem c0_countOld (l : Launch) (D : va_G) (cI cZ cP : ClassId) (b : Nat → Nat) (I : Nat → Int32) (V : Nat → Nat → Int32) (q : Nat) (hq : I 3 = nI q) (hq2 : q ≤ 30) (x y : Int32) : q_C l yX0_countOld wsX0_countOld ({ frames := 0, cells := 0, slots := 0, locals := 0 }) D cI cZ cP [.ref (b 5), .int x, .int y] (cw cI b I V) (S := Unit) (fun v _ => v = some (.int (nI (pN (fun i => decide (¬ (V 12) i = -1) && decide ((V 10) i = x) && decide (¬ (V 11) i = y)) q)))) (fun _ => cw cI b I V) (fun _ => False) 0 0 := by
  refine q_of (cc := cX0_countOld) (maxL := 5) (ret := (some .int)) (by decide +kernel) rfl (Nat.le_of_ble_eq_true rfl) ?_
  intro p e s m below meth c A ls B hr htb hmn hP hD hS hl
  have hl : lv_has ls 5 [(0, .ref (b 5)), (1, .int x), (2, .int y)] := hl
  have hi0 : ∀ w ∈ u_ws RX0 TX0 4, w ∈ wsX0_countOld := by decide +kernel
  refine lv_iconst (v := (nI 0)) B.hx B.hb dX0_countOld_0 (by decide) ?_
  refine lv_istore_n (lv' := [(3, .int (nI 0)), (0, .ref (b 5)), (1, .int x), (2, .int y)]) B.hx B.hb dX0_countOld_1 rfl hl (by decide) rfl (fun ls hl => ?_)
  refine lv_iconst (v := (nI 0)) B.hx B.hb dX0_countOld_2 (by decide) ?_
  refine lv_istore (lv' := [(4, .int (nI 0)), (3, .int (nI 0)), (0, .ref (b 5)), (1, .int x), (2, .int y)]) B.hx B.hb dX0_countOld_3 hl (by decide) rfl (fun ls hl => ?_)
  refine q_loop (nL := 5) (fun i : Nat => i ≤ q) (fun i : Nat => q - i) (fun i : Nat => [(4, .int (nI i)), (3, .int (nI (pN (fun i => decide (¬ (V 12) i = -1) && decide ((V 10) i = x) && decide (¬ (V 11) i = y)) i))), (0, .ref (b 5)), (1, .int x), (2, .int y)]) (0) (Nat.zero_le _) (lv_sub hl [0, 1, 2, 3, 4] rfl) ?_
  intro i1 hI2 ih3 ls hl
  have hI2 : i1 ≤ q := hI2
  have hl : lv_has ls 5 [(4, .int (nI i1)), (3, .int (nI (pN (fun i => decide (¬ (V 12) i = -1) && decide ((V 10) i = x) && decide (¬ (V 11) i = y)) i1))), (0, .ref (b 5)), (1, .int x), (2, .int y)] := hl
  refine lv_iload B.hx B.hb dX0_countOld_5 (lv_at hl 0 rfl) ?_
  refine lv_aload_n B.hx B.hb dX0_countOld_7 rfl (lv_at hl 2 rfl) ?_
  refine q_get B hP (C := RX0) (ref := "PaperKeeper$Copies") (T := TX0) (N := 4) (ci := 0) hi0 rfl 0 rfl 3 (by decide) (by decide +kernel) rfl (v := .int (I 3)) rfl dX0_countOld_8 ?_
  refine q_top (v2 := .int (nI q)) (congrArg Value.int hq) ?_
  refine lv_icmp_ge (tgt := 56) B.hx B.hb dX0_countOld_11 (by decide) (fun c4 => ?_) (fun c4 => ?_)
  · replace c4 := (nI_leI (by omega) (by omega)).mp c4
    refine lv_iload_n B.hx B.hb dX0_countOld_56 rfl (lv_at hl 1 rfl) ?_
    exact q_iret B hr hP hD hS (u := ()) rfl (by rw [show q = i1 by omega]) (Nat.le_of_ble_eq_true rfl) (Nat.le_of_ble_eq_true rfl) dX0_countOld_57
  · replace c4 := mt (nI_leI (by omega) (by omega)).mpr c4
    refine lv_aload_n B.hx B.hb dX0_countOld_14 rfl (lv_at hl 2 rfl) ?_
    refine q_get B hP (C := RX0) (ref := "PaperKeeper$Copies") (T := TX0) (N := 4) (ci := 0) hi0 rfl 0 rfl 2 (by decide) (by decide +kernel) rfl (v := .ref (b 8)) rfl dX0_countOld_15 ?_
    refine lv_iload B.hx B.hb dX0_countOld_18 (lv_at hl 0 rfl) ?_
    refine q_iald B hP 3 rfl (j := i1) rfl (by omega) (by decide) dX0_countOld_20 ?_
    refine lv_iconst (v := (-1)) B.hx B.hb dX0_countOld_21 (by decide) ?_
    refine lv_icmp_eq (tgt := 50) B.hx B.hb dX0_countOld_22 (by decide) (fun c5 => ?_) (fun c5 => ?_)
    · have hl : lv_has ls 5 [(4, .int (nI i1)), (3, .int (nI (pN (fun i => decide (¬ (V 12) i = -1) && decide ((V 10) i = x) && decide (¬ (V 11) i = y)) (i1 + 1)))), (0, .ref (b 5)), (1, .int x), (2, .int y)] := by rw [show pN (fun i => decide (¬ (V 12) i = -1) && decide ((V 10) i = x) && decide (¬ (V 11) i = y)) (i1 + 1) = pN (fun i => decide (¬ (V 12) i = -1) && decide ((V 10) i = x) && decide (¬ (V 11) i = y)) i1 from pN_no (by simp [c5])]; exact hl
      refine lv_iinc (v := (nI ((i1 + 1)))) (lv' := [(4, .int (nI ((i1 + 1)))), (3, .int (nI (pN (fun i => decide (¬ (V 12) i = -1) && decide ((V 10) i = x) && decide (¬ (V 11) i = y)) (i1 + 1)))), (0, .ref (b 5)), (1, .int x), (2, .int y)]) B.hx B.hb dX0_countOld_50 hl (k := 0) rfl (nI_1 _) (by decide) rfl (fun ls hl => ?_)
      refine lv_goto (tgt := 5) B.hx B.hb dX0_countOld_53 (by decide) ?_
      exact ih3 (i1 + 1) (by omega) (by omega) ls (lv_sub hl [0, 1, 2, 3, 4] rfl)
    · refine lv_aload_n B.hx B.hb dX0_countOld_25 rfl (lv_at hl 2 rfl) ?_
      refine q_get B hP (C := RX0) (ref := "PaperKeeper$Copies") (T := TX0) (N := 4) (ci := 0) hi0 rfl 0 rfl 0 (by decide) (by decide +kernel) rfl (v := .ref (b 6)) rfl dX0_countOld_26 ?_
      refine lv_iload B.hx B.hb dX0_countOld_29 (lv_at hl 0 rfl) ?_
      refine q_iald B hP 1 rfl (j := i1) rfl (by omega) (by decide) dX0_countOld_31 ?_
      refine lv_iload_n B.hx B.hb dX0_countOld_32 rfl (lv_at hl 3 rfl) ?_
      refine lv_icmp_ne (tgt := 50) B.hx B.hb dX0_countOld_33 (by decide) (fun c6 => ?_) (fun c6 => ?_)
      · have hl : lv_has ls 5 [(4, .int (nI i1)), (3, .int (nI (pN (fun i => decide (¬ (V 12) i = -1) && decide ((V 10) i = x) && decide (¬ (V 11) i = y)) (i1 + 1)))), (0, .ref (b 5)), (1, .int x), (2, .int y)] := by rw [show pN (fun i => decide (¬ (V 12) i = -1) && decide ((V 10) i = x) && decide (¬ (V 11) i = y)) (i1 + 1) = pN (fun i => decide (¬ (V 12) i = -1) && decide ((V 10) i = x) && decide (¬ (V 11) i = y)) i1 from pN_no (by simp [c5, c6])]; exact hl
        refine lv_iinc (v := (nI ((i1 + 1)))) (lv' := [(4, .int (nI ((i1 + 1)))), (3, .int (nI (pN (fun i => decide (¬ (V 12) i = -1) && decide ((V 10) i = x) && decide (¬ (V 11) i = y)) (i1 + 1)))), (0, .ref (b 5)), (1, .int x), (2, .int y)]) B.hx B.hb dX0_countOld_50 hl (k := 0) rfl (nI_1 _) (by decide) rfl (fun ls hl => ?_)
        refine lv_goto (tgt := 5) B.hx B.hb dX0_countOld_53 (by decide) ?_
        exact ih3 (i1 + 1) (by omega) (by omega) ls (lv_sub hl [0, 1, 2, 3, 4] rfl)
      · refine lv_aload_n B.hx B.hb dX0_countOld_36 rfl (lv_at hl 2 rfl) ?_
        refine q_get B hP (C := RX0) (ref := "PaperKeeper$Copies") (T := TX0) (N := 4) (ci := 0) hi0 rfl 0 rfl 1 (by decide) (by decide +kernel) rfl (v := .ref (b 7)) rfl dX0_countOld_37 ?_
        refine lv_iload B.hx B.hb dX0_countOld_40 (lv_at hl 0 rfl) ?_
        refine q_iald B hP 2 rfl (j := i1) rfl (by omega) (by decide) dX0_countOld_42 ?_
        refine lv_iload_n B.hx B.hb dX0_countOld_43 rfl (lv_at hl 4 rfl) ?_
        refine lv_icmp_eq (tgt := 50) B.hx B.hb dX0_countOld_44 (by decide) (fun c7 => ?_) (fun c7 => ?_)
        · have hl : lv_has ls 5 [(4, .int (nI i1)), (3, .int (nI (pN (fun i => decide (¬ (V 12) i = -1) && decide ((V 10) i = x) && decide (¬ (V 11) i = y)) (i1 + 1)))), (0, .ref (b 5)), (1, .int x), (2, .int y)] := by rw [show pN (fun i => decide (¬ (V 12) i = -1) && decide ((V 10) i = x) && decide (¬ (V 11) i = y)) (i1 + 1) = pN (fun i => decide (¬ (V 12) i = -1) && decide ((V 10) i = x) && decide (¬ (V 11) i = y)) i1 from pN_no (by simp [c5, c6, c7])]; exact hl
          refine lv_iinc (v := (nI ((i1 + 1)))) (lv' := [(4, .int (nI ((i1 + 1)))), (3, .int (nI (pN (fun i => decide (¬ (V 12) i = -1) && decide ((V 10) i = x) && decide (¬ (V 11) i = y)) (i1 + 1)))), (0, .ref (b 5)), (1, .int x), (2, .int y)]) B.hx B.hb dX0_countOld_50 hl (k := 0) rfl (nI_1 _) (by decide) rfl (fun ls hl => ?_)
          refine lv_goto (tgt := 5) B.hx B.hb dX0_countOld_53 (by decide) ?_
          exact ih3 (i1 + 1) (by omega) (by omega) ls (lv_sub hl [0, 1, 2, 3, 4] rfl)
        · refine lv_iinc (v := (nI (pN (fun i => decide (¬ (V 12) i = -1) && decide ((V 10) i = x) && decide (¬ (V 11) i = y)) (i1 + 1)))) (lv' := [(3, .int (nI (pN (fun i => decide (¬ (V 12) i = -1) && decide ((V 10) i = x) && decide (¬ (V 11) i = y)) (i1 + 1)))), (4, .int (nI i1)), (0, .ref (b 5)), (1, .int x), (2, .int y)]) B.hx B.hb dX0_countOld_47 hl (k := 1) rfl (by rw [pN_yes (ok := (fun i => decide (¬ (V 12) i = -1) && decide ((V 10) i = x) && decide (¬ (V 11) i = y))) (i := i1) (by simp [c5, c6, c7])]; exact nI_1 _) (by decide) rfl (fun ls hl => ?_)
          refine lv_iinc (v := (nI ((i1 + 1)))) (lv' := [(4, .int (nI ((i1 + 1)))), (3, .int (nI (pN (fun i => decide (¬ (V 12) i = -1) && decide ((V 10) i = x) && decide (¬ (V 11) i = y)) (i1 + 1)))), (0, .ref (b 5)), (1, .int x), (2, .int y)]) B.hx B.hb dX0_countOld_50 hl (k := 1) rfl (nI_1 _) (by decide) rfl (fun ls hl => ?_)
          refine lv_goto (tgt := 5) B.hx B.hb dX0_countOld_53 (by decide) ?_
          exact ih3 (i1 + 1) (by omega) (by omega) ls (lv_sub hl [0, 1, 2, 3, 4] rfl)
end
section
/-! CODES: which exception a call throws, by its place in the throws clause; 0: it answers. -/
/-- is it a place of the first n? -/
def inr (x : Int32) (n : Nat) : Bool := decide (¬ x < 0) && decide (x < nI n)
theorem inr_of {x : Int32} {n : Nat} (hn : n < 2 ^ 31) (h1 : ¬ x < 0) (h2 : x < nI n) : ∃ j : Nat, j < n ∧ x = nI j := by
  obtain ⟨j, hj, rfl⟩ := nI_of h1
  exact ⟨j, (nI_ltI hj hn).mp h2, rfl⟩
theorem inr_no {x : Int32} {n : Nat} (h : ¬ x < 0) (h2 : ¬ nI n ≤ x) : x < nI n := by
  rw [Int32.le_iff_toInt_le] at h2; rw [Int32.lt_iff_toInt_lt]; omega
theorem inr_nn {x : Int32} {n : Nat} (h2 : nI n ≤ x) : ¬ x < nI n := by
  rw [Int32.le_iff_toInt_le] at h2; rw [Int32.lt_iff_toInt_lt]; omega
theorem rg_le {x lo hi : Int32} (h1 : ¬ x < lo) (h2 : x ≤ hi) : rg x lo hi = true := rg_of h1 (by rw [Int32.le_iff_toInt_le] at h2; rw [Int32.lt_iff_toInt_lt]; omega)
theorem rg_nle {x lo hi : Int32} (h : ¬ x ≤ hi) : rg x lo hi = false := rg_hi (by rw [Int32.le_iff_toInt_le] at h; rw [Int32.lt_iff_toInt_lt]; omega)
theorem rg_j {x : Int32} {n : Nat} (hn : n < 2 ^ 31) (h : rg x (nI 0) (nI n) = true) : ∃ j : Nat, j < n + 1 ∧ x = nI j := by
  obtain ⟨j, hj, e⟩ := rg_nI hn h
  exact ⟨j, by omega, e⟩
theorem q_if2 {v : Option Value} {b : Bool} (h : v = some (.int (if b = true then nI 1 else nI 0))) : (v = some (.int (nI 1)) ∧ b = true) ∨ (v = some (.int (nI 0)) ∧ b = false) := by
  cases b
  · exact Or.inr ⟨h, rfl⟩
  · exact Or.inl ⟨h, rfl⟩
def kSetRoles (x : Int32) : Nat := if rg x (nI 0) (nI 5) = true then 0 else 1
def kSetDeputy (x y : Int32) : Nat := if rg x (nI 0) (nI 5) = true ∧ (y = -1 ∨ rg y (nI 0) (nI 5) = true) ∧ ¬ x = y then 0 else 1
def kOpen (n : Nat) : Nat := if n < 8 then 0 else 1
def kHang (x y : Int32) : Nat := if x = y then 2 else 0
def kSetInterval (x : Int32) : Nat := if rg x (nI 1) (nI 100) = true then 0 else 1
def kDraft (x y hd : Int32) : Nat := if rg x (nI 0) (nI 5) = false ∨ rg y (nI 0) (nI 9999) = false then 2 else if hd = 0 then 0 else 3
def kChange (y hd dt : Int32) : Nat := if rg y (nI 0) (nI 9999) = false then 2 else if hd = 0 ∨ dt = y then 3 else 0
def kDrop (hd : Int32) : Nat := if hd = 0 then 2 else 0
def kReviewer (x hd ap au mr : Int32) (nm : Bool) (n : Nat) : Nat := if rg x (nI 0) (nI 5) = false then 2 else if hd = 0 ∨ ¬ ap = 0 ∨ x = au ∨ mr = 0 ∨ nm = true ∨ ¬ n < 4 then 3 else 0
def kReader (x hd re : Int32) : Nat := if rg x (nI 0) (nI 5) = false then 2 else if hd = 0 ∨ ¬ re = 0 then 3 else 0
def kReview (x hd : Int32) (nm : Bool) (rd io nr : Int32) : Nat := if rg x (nI 0) (nI 5) = false then 2 else if hd = 0 ∨ nm = false ∨ ¬ rd = 0 ∨ (¬ io = 0 ∧ ¬ nr = x) then 3 else 0
def kAnswer (r hd : Int32) (k : Nat) (an : Int32) : Nat := if hd = 0 then 2 else if inr r k = false then 1 else if an = 0 then 0 else 2
def kApprove (x y td hd st au : Int32) (can : Bool) : Nat := if rg x (nI 0) (nI 5) = false ∨ rg y (td + nI 1) (nI 1000) = false then 2 else if hd = 0 ∨ ¬ st = nI 3 ∨ x = au ∨ can = false then 3 else 0
def kConfirm (x hd ap re cf : Int32) : Nat := if rg x (nI 0) (nI 5) = false then 2 else if hd = 0 ∨ ap = 0 ∨ re = 0 ∨ ¬ cf = 0 then 3 else 0
def kPass (x td : Int32) : Nat := if rg x (nI 1) (nI 50) = false then 1 else if td + x ≤ nI 1000 then 0 else 2
def kLook (w : Nat) : Nat := if w = 0 then 2 else 0
def kCopy (x : Int32) (w q : Nat) : Nat := if rg x (nI 0) (nI 9) = false then 2 else if w = 0 ∨ ¬ q < 30 then 3 else 0
def kTakeDown (x : Int32) (q : Nat) (wl : Int32) : Nat := if inr x q = true ∧ ¬ wl = -1 then 0 else 1
def kInForceOn (y td : Int32) : Nat := if rg y (nI 0) td = true then 0 else 2
def kSince (y : Int32) (w : Nat) : Nat := if inr y w = true then 0 else 1
/-- who may be asked: a paper that is there -/
def nop (P : Nat → Option Nat) (x : Int32) : Prop := ∀ j, j < 8 → x = nI j → P j = none
theorem nl_z (w : Nat) (a t s i : Int32) : narrow .boolean (.int (nl w a t s i)) = .int (nl w a t s i) := by
  unfold nl; split <;> rfl
theorem nar_b {r : Int32} (h : r = 0 ∨ r = 1) : vp_nar .boolean r = r := by
  rcases h with rfl | rfl <;> rfl
theorem rg_1j {x : Int32} {n : Nat} (hn : n < 2 ^ 31) (h : rg x (nI 1) (nI n) = true) : ∃ j : Nat, j < n + 1 ∧ x = nI j := by
  simp only [rg, Bool.and_eq_true, decide_eq_true_eq] at h
  have h1 := h.1
  rw [Int32.le_iff_toInt_le] at h1
  have e : (nI 1).toInt = 1 := by decide
  obtain ⟨j, hj, e⟩ := nI_of2 (M := nI n) (nI_toInt hn) (by rw [Int32.lt_iff_toInt_lt, Int32.toInt_zero]; omega) h.2
  exact ⟨j, by omega, e⟩
end
section
/-! The keeper: what its methods call. -/
set_option maxHeartbeats 4000000 in
set_option maxRecDepth 100000 in
theorem c3_countOf (l : Launch) (D : va_G) (cI cZ cP : ClassId) (w : va_W) (q0 a L : Nat) (f : Nat → Int32) (ha : w[q0]? = some (a, .inl (cZ, L, .inl f))) (hL : L < 2 ^ 30) : q_C l yX3_countOf wsX3_countOf ({ frames := 0, cells := 0, slots := 0, locals := 0 }) D cI cZ cP [.ref a] w (S := Unit) (fun v _ => v = some (.int (nI (pN (fun i => decide (¬ f i = 0)) L)))) (fun _ => w) (fun _ => False) 0 0 := by
  refine q_of (cc := cX3_countOf) (maxL := 3) (ret := (some .int)) (by decide +kernel) rfl (Nat.le_of_ble_eq_true rfl) ?_
  intro p e s m below meth c A ls B hr htb hmn hP hD hS hl
  have hl : lv_has ls 3 [(0, .ref a)] := hl
  refine lv_iconst (v := nI 0) B.hx B.hb dX3_countOf_0 (by decide) ?_
  refine lv_istore_n (lv' := [(1, .int (nI 0)), (0, .ref a)]) B.hx B.hb dX3_countOf_1 rfl hl (by decide) rfl (fun ls hl => ?_)
  refine lv_iconst (v := nI 0) B.hx B.hb dX3_countOf_2 (by decide) ?_
  refine lv_istore_n (lv' := [(2, .int (nI 0)), (1, .int (nI 0)), (0, .ref a)]) B.hx B.hb dX3_countOf_3 rfl hl (by decide) rfl (fun ls hl => ?_)
  refine q_loop (nL := 3) (fun i : Nat => i ≤ L) (fun i : Nat => L - i) (fun i : Nat => [(2, .int (nI i)), (1, .int (nI (pN (fun i => decide (¬ f i = 0)) i))), (0, .ref a)]) 0 (Nat.zero_le _) (lv_sub hl [0, 1, 2] rfl) ?_
  intro i hi ih ls hl
  have hi : i ≤ L := hi
  have hl : lv_has ls 3 [(2, .int (nI i)), (1, .int (nI (pN (fun i => decide (¬ f i = 0)) i))), (0, .ref a)] := hl
  refine lv_iload_n B.hx B.hb dX3_countOf_4 rfl (lv_at hl 0 rfl) ?_
  refine lv_aload_n B.hx B.hb dX3_countOf_5 rfl (lv_at hl 2 rfl) ?_
  refine va_alen B.hx B.hb B.hK hP q0 1 ha rfl (v := nI L) rfl dX3_countOf_6 ?_
  refine lv_icmp_ge (tgt := 25) B.hx B.hb dX3_countOf_7 (by decide) (fun c1 => ?_) (fun c1 => ?_)
  · replace c1 := (nI_leI (by omega) (by omega)).mp c1
    refine lv_iload_n B.hx B.hb dX3_countOf_25 rfl (lv_at hl 1 rfl) ?_
    exact q_iret B hr hP hD hS (u := ()) rfl (by rw [show L = i by omega]) (Nat.le_of_ble_eq_true rfl) (Nat.le_of_ble_eq_true rfl) dX3_countOf_26
  · replace c1 := mt (nI_leI (by omega) (by omega)).mpr c1
    refine lv_aload_n B.hx B.hb dX3_countOf_10 rfl (lv_at hl 2 rfl) ?_
    refine lv_iload_n B.hx B.hb dX3_countOf_11 rfl (lv_at hl 0 rfl) ?_
    refine q_zald B hP q0 ha (j := i) rfl (by omega) (by omega) dX3_countOf_12 ?_
    refine lv_if_eq (tgt := 19) B.hx B.hb dX3_countOf_13 (by decide) (fun c2 => ?_) (fun c2 => ?_)
    · have hl : lv_has ls 3 [(2, .int (nI i)), (1, .int (nI (pN (fun i => decide (¬ f i = 0)) (i + 1)))), (0, .ref a)] := by rw [pN_no (ok := fun i => decide (¬ f i = 0)) (i := i) (by simp [c2])]; exact hl
      refine lv_iinc (v := nI (i + 1)) (lv' := [(2, .int (nI (i + 1))), (1, .int (nI (pN (fun i => decide (¬ f i = 0)) (i + 1)))), (0, .ref a)]) B.hx B.hb dX3_countOf_19 hl (k := 0) rfl (nI_1 _) (by decide) rfl (fun ls hl => ?_)
      refine lv_goto (tgt := 4) B.hx B.hb dX3_countOf_22 (by decide) ?_
      exact ih (i + 1) (by omega) (by omega) ls (lv_sub hl [0, 1, 2] rfl)
    · refine lv_iinc (v := nI (pN (fun i => decide (¬ f i = 0)) (i + 1))) (lv' := [(1, .int (nI (pN (fun i => decide (¬ f i = 0)) (i + 1)))), (2, .int (nI i)), (0, .ref a)]) B.hx B.hb dX3_countOf_16 hl (k := 1) rfl (by rw [pN_yes (ok := fun i => decide (¬ f i = 0)) (i := i) (by simp [c2])]; exact nI_1 _) (by decide) rfl (fun ls hl => ?_)
      refine lv_iinc (v := nI (i + 1)) (lv' := [(2, .int (nI (i + 1))), (1, .int (nI (pN (fun i => decide (¬ f i = 0)) (i + 1)))), (0, .ref a)]) B.hx B.hb dX3_countOf_19 hl (k := 1) rfl (nI_1 _) (by decide) rfl (fun ls hl => ?_)
      refine lv_goto (tgt := 4) B.hx B.hb dX3_countOf_22 (by decide) ?_
      exact ih (i + 1) (by omega) (by omega) ls (lv_sub hl [0, 1, 2] rfl)
set_option maxHeartbeats 4000000 in
set_option maxRecDepth 100000 in
theorem c3_checkRange (l : Launch) (hfl : l.stackTraces = false) (D : va_G) (cI cZ cP : ClassId) (x lo hi : Int32) : q_C l yX3_checkRange wsX3_checkRange ({ frames := 6, cells := 1, slots := 6, locals := 82 }) D cI cZ cP [.int x, .int lo, .int hi] (([] : va_W)) (S := Unit) (fun v _ => v = none ∧ rg x lo hi = true) (fun _ => ([] : va_W)) (fun E => E = q_IAE ∧ rg x lo hi = false) 1 6 := by
  refine q_of (cc := cX3_checkRange) (maxL := 3) (ret := none) (by decide +kernel) rfl (Nat.le_of_ble_eq_true rfl) ?_
  intro p e s m below meth c A ls B hr htb hmn hP hD hS hl
  have hl : lv_has ls 3 [(0, .int x), (1, .int lo), (2, .int hi)] := hl
  refine lv_iload_n B.hx B.hb dX3_checkRange_0 rfl (lv_at hl 0 rfl) ?_
  refine lv_iload_n B.hx B.hb dX3_checkRange_1 rfl (lv_at hl 1 rfl) ?_
  refine lv_icmp_lt (tgt := 10) B.hx B.hb dX3_checkRange_2 (by decide) (fun c1 => ?_) (fun c1 => ?_)
  · exact q_throw B hfl htb hP hS q_E_IAE (goodIn_app (goodIn_of [_, _] (by decide +kernel)) (goodIn_sub (fun w h => List.mem_cons_of_mem _ (List.mem_append_right _ h)) q_allg_IAE)) (List.mem_of_getElem? (i := 21) rfl) hl.1 dX3_checkRange_10 dX3_checkRange_13 dX3_checkRange_14 dX3_checkRange_16 dX3_checkRange_19 ⟨(Nat.le_of_ble_eq_true rfl), (Nat.le_of_ble_eq_true rfl), (Nat.le_of_ble_eq_true rfl), (Nat.le_of_ble_eq_true rfl)⟩ ⟨rfl, rg_lo c1⟩ (Nat.le_of_ble_eq_true rfl) (Nat.le_of_ble_eq_true rfl)
  · refine lv_iload_n B.hx B.hb dX3_checkRange_5 rfl (lv_at hl 0 rfl) ?_
    refine lv_iload_n B.hx B.hb dX3_checkRange_6 rfl (lv_at hl 2 rfl) ?_
    refine lv_icmp_le (tgt := 20) B.hx B.hb dX3_checkRange_7 (by decide) (fun c2 => ?_) (fun c2 => ?_)
    · exact q_vret B hr hP hD hS (u := ()) rfl ⟨rfl, rg_le c1 c2⟩ (Nat.le_of_ble_eq_true rfl) (Nat.le_of_ble_eq_true rfl) dX3_checkRange_20
    · exact q_throw B hfl htb hP hS q_E_IAE (goodIn_app (goodIn_of [_, _] (by decide +kernel)) (goodIn_sub (fun w h => List.mem_cons_of_mem _ (List.mem_append_right _ h)) q_allg_IAE)) (List.mem_of_getElem? (i := 21) rfl) hl.1 dX3_checkRange_10 dX3_checkRange_13 dX3_checkRange_14 dX3_checkRange_16 dX3_checkRange_19 ⟨(Nat.le_of_ble_eq_true rfl), (Nat.le_of_ble_eq_true rfl), (Nat.le_of_ble_eq_true rfl), (Nat.le_of_ble_eq_true rfl)⟩ ⟨rfl, rg_nle c2⟩ (Nat.le_of_ble_eq_true rfl) (Nat.le_of_ble_eq_true rfl)
set_option maxHeartbeats 4000000 in
set_option maxRecDepth 100000 in
theorem c3_checkPerson (l : Launch) (hfl : l.stackTraces = false) (D : va_G) (cI cZ cP : ClassId) (x : Int32) : q_C l yX3_checkPerson wsX3_checkPerson ({ frames := 7, cells := 1, slots := 6, locals := 104 }) D cI cZ cP [.int x] (([] : va_W)) (S := Unit) (fun v _ => v = none ∧ rg x (nI 0) (nI 5) = true) (fun _ => ([] : va_W)) (fun E => E = q_IAE ∧ rg x (nI 0) (nI 5) = false) 1 6 := by
  refine q_of (cc := cX3_checkPerson) (maxL := 1) (ret := none) (by decide +kernel) rfl (Nat.le_of_ble_eq_true rfl) ?_
  intro p e s m below meth c A ls B hr htb hmn hP hD hS hl
  have hl : lv_has ls 1 [(0, .int x)] := hl
  refine lv_iload_n B.hx B.hb dX3_checkPerson_0 rfl (lv_at hl 0 rfl) ?_
  refine lv_iconst (v := (nI 0)) B.hx B.hb dX3_checkPerson_1 (by decide) ?_
  refine lv_iconst (v := (nI 5)) B.hx B.hb dX3_checkPerson_2 (by decide) ?_
  refine q_callS (As := [.int x, .int (nI 0), .int (nI 5)]) (rest := []) B hP hD hS ((c3_checkRange l hfl D cI cZ cP x (nI 0) (nI 5)).fr0 (([] : va_W))) (cwS 3 B.hts gX3_checkPerson_X3_checkRange rfl rfl rfl (by decide +kernel) ⟨(Nat.le_of_ble_eq_true rfl), (Nat.le_of_ble_eq_true rfl)⟩) rfl hl.1 rfl (Nat.le_of_ble_eq_true rfl) dX3_checkPerson_3 ⟨(Nat.le_of_ble_eq_true rfl), (Nat.le_of_ble_eq_true rfl)⟩ (fun E ce q9 H locs hx hP hS hce hcv hcl => ?_) (fun v u H locs hp hP hD hS => ?_)
  · exact q_xout B htb hP hS hce hcv hcl hx (Nat.le_of_ble_eq_true rfl) (Nat.le_of_ble_eq_true rfl)
  · obtain ⟨rfl, hrg0⟩ := hp
    have hP : va_P D vwCl (([] : va_W)) H := hP
    have hD : va_D A (([] : va_W)) := hD
    exact q_vret B hr hP hD hS (u := ()) rfl ⟨rfl, hrg0⟩ (Nat.le_of_ble_eq_true rfl) (Nat.le_of_ble_eq_true rfl) dX3_checkPerson_6
set_option maxHeartbeats 4000000 in
set_option maxRecDepth 100000 in
theorem c3_checkInForce (l : Launch) (hfl : l.stackTraces = false) (D : va_G) (cI cZ cP : ClassId) (a : Nat → Nat) (X : Nat → Int32) (Y : Nat → Nat → Int32) (w : Nat) (hw1 : X 1 = nI w) (hw2 : w ≤ 128) : q_C l yX3_checkInForce wsX3_checkInForce ({ frames := 6, cells := 1, slots := 6, locals := 82 }) D cI cZ cP [.ref (a 0)] (dw cI cZ a X Y ++ ppw cI cZ a X Y) (S := Unit) (fun v _ => v = none ∧ ¬ w = 0) (fun _ => dw cI cZ a X Y ++ ppw cI cZ a X Y) (fun E => E = q_ISE ∧ w = 0) 1 6 := by
  refine q_of (cc := cX3_checkInForce) (maxL := 1) (ret := none) (by decide +kernel) rfl (Nat.le_of_ble_eq_true rfl) ?_
  intro p e s m below meth c A ls B hr htb hmn hP hD hS hl
  have hl : lv_has ls 1 [(0, .ref (a 0))] := hl
  refine lv_aload_n B.hx B.hb dX3_checkInForce_0 rfl (lv_at hl 0 rfl) ?_
  refine q_callV (As := []) (rest := []) B hP hD hS (c2_newest l D cI cZ cP a X Y w hw1) (cwV 0 B.hts gX3_checkInForce_X2_newest rfl rfl rfl (by decide +kernel) ⟨(Nat.le_of_ble_eq_true rfl), (Nat.le_of_ble_eq_true rfl)⟩) 6 2 rfl rfl rfl rfl hl.1 rfl (Nat.le_of_ble_eq_true rfl) dX3_checkInForce_1 ⟨(Nat.le_of_ble_eq_true rfl), (Nat.le_of_ble_eq_true rfl)⟩ (fun E ce q9 H locs hx => False.elim hx) (fun v u H locs hp hP hD hS => ?_)
  obtain rfl := hp
  have hP : va_P D vwCl (dw cI cZ a X Y ++ ppw cI cZ a X Y) H := hP
  have hD : va_D A (dw cI cZ a X Y ++ ppw cI cZ a X Y) := hD
  refine lv_iconst (v := (-1)) B.hx B.hb dX3_checkInForce_4 (by decide) ?_
  refine lv_icmp_ne (tgt := 18) B.hx B.hb dX3_checkInForce_5 (by decide) (fun c1 => ?_) (fun c1 => ?_)
  · exact q_vret B hr hP hD hS (u := ()) rfl ⟨rfl, mt (vn_m1 (by omega)).mpr c1⟩ (Nat.le_of_ble_eq_true rfl) (Nat.le_of_ble_eq_true rfl) dX3_checkInForce_18
  · exact q_throw B hfl htb hP hS q_E_ISE (goodIn_app (goodIn_of [_, _] (by decide +kernel)) (goodIn_sub (fun w h => List.mem_cons_of_mem _ (List.mem_append_right _ h)) q_allg_ISE)) (List.mem_of_getElem? (i := 22) rfl) hl.1 dX3_checkInForce_8 dX3_checkInForce_11 dX3_checkInForce_12 dX3_checkInForce_14 dX3_checkInForce_17 ⟨(Nat.le_of_ble_eq_true rfl), (Nat.le_of_ble_eq_true rfl), (Nat.le_of_ble_eq_true rfl), (Nat.le_of_ble_eq_true rfl)⟩ ⟨rfl, (vn_m1 (by omega)).mp c1⟩ (Nat.le_of_ble_eq_true rfl) (Nat.le_of_ble_eq_true rfl)
set_option maxHeartbeats 4000000 in
set_option maxRecDepth 100000 in
theorem c3_draftOf (l : Launch) (hfl : l.stackTraces = false) (D : va_G) (cI cZ cP : ClassId) (a : Nat → Nat) (X : Nat → Int32) (Y : Nat → Nat → Int32) : q_C l yX3_draftOf wsX3_draftOf ({ frames := 6, cells := 1, slots := 6, locals := 82 }) D cI cZ cP [.ref (a 0)] (dw cI cZ a X Y ++ ppw cI cZ a X Y) (S := Unit) (fun v _ => v = some (.ref (a 2)) ∧ ¬ X 2 = 0) (fun _ => dw cI cZ a X Y ++ ppw cI cZ a X Y) (fun E => E = q_ISE ∧ X 2 = 0) 1 6 := by
  refine q_of (cc := cX3_draftOf) (maxL := 1) (ret := (some (.object "PaperKeeper$Draft"))) (by decide +kernel) rfl (Nat.le_of_ble_eq_true rfl) ?_
  intro p e s m below meth c A ls B hr htb hmn hP hD hS hl
  have hl : lv_has ls 1 [(0, .ref (a 0))] := hl
  have hi2 : ∀ w ∈ u_ws RX2 TX2 9, w ∈ wsX3_draftOf := by decide +kernel
  refine lv_aload_n B.hx B.hb dX3_draftOf_0 rfl (lv_at hl 0 rfl) ?_
  refine q_get B hP (C := RX2) (ref := "PaperKeeper$Paper") (T := TX2) (N := 9) (ci := 2) hi2 rfl 6 rfl 6 (by decide) (by decide +kernel) rfl (v := .int (X 2)) rfl dX3_draftOf_1 ?_
  refine lv_if_ne (tgt := 17) B.hx B.hb dX3_draftOf_4 (by decide) (fun c1 => ?_) (fun c1 => ?_)
  · refine lv_aload_n B.hx B.hb dX3_draftOf_17 rfl (lv_at hl 0 rfl) ?_
    refine q_get B hP (C := RX2) (ref := "PaperKeeper$Paper") (T := TX2) (N := 9) (ci := 2) hi2 rfl 6 rfl 2 (by decide) (by decide +kernel) rfl (v := .ref (a 2)) rfl dX3_draftOf_18 ?_
    exact q_aret B hr hP hD hS (u := ()) rfl ⟨rfl, c1⟩ (Nat.le_of_ble_eq_true rfl) (Nat.le_of_ble_eq_true rfl) dX3_draftOf_21
  · exact q_throw B hfl htb hP hS q_E_ISE (goodIn_app (goodIn_of [_, _] (by decide +kernel)) (goodIn_sub (fun w h => List.mem_cons_of_mem _ (List.mem_append_right _ h)) q_allg_ISE)) (List.mem_of_getElem? (i := 24) rfl) hl.1 dX3_draftOf_7 dX3_draftOf_10 dX3_draftOf_11 dX3_draftOf_13 dX3_draftOf_16 ⟨(Nat.le_of_ble_eq_true rfl), (Nat.le_of_ble_eq_true rfl), (Nat.le_of_ble_eq_true rfl), (Nat.le_of_ble_eq_true rfl)⟩ ⟨rfl, c1⟩ (Nat.le_of_ble_eq_true rfl) (Nat.le_of_ble_eq_true rfl)
set_option maxHeartbeats 4000000 in
set_option maxRecDepth 100000 in
theorem c3_paperAt (l : Launch) (D : va_G) (cI cZ cP : ClassId) (b : Nat → Nat) (I : Nat → Int32) (V : Nat → Nat → Int32) (P : Nat → Option Nat) (j r : Nat) (hj : j < 8) (hpj : P j = some r) : q_C l yX3_paperAt wsX3_paperAt ({ frames := 0, cells := 0, slots := 0, locals := 0 }) D cI cZ cP [.ref (b 0), .int (nI j)] (kq cI cZ cP b I V P ++ cw cI b I V) (S := Unit) (fun v _ => v = some (.ref r)) (fun _ => kq cI cZ cP b I V P ++ cw cI b I V) (fun _ => False) 0 0 := by
  refine q_of (cc := cX3_paperAt) (maxL := 3) (ret := (some (.object "PaperKeeper$Paper"))) (by decide +kernel) rfl (Nat.le_of_ble_eq_true rfl) ?_
  intro p e s m below meth c A ls B hr htb hmn hP hD hS hl
  have hl : lv_has ls 3 [(0, .ref (b 0)), (1, .int (nI j))] := hl
  have hi3 : ∀ w ∈ u_ws RX3 TX3 8, w ∈ wsX3_paperAt := by decide +kernel
  refine lv_iload_n B.hx B.hb dX3_paperAt_0 rfl (lv_at hl 1 rfl) ?_
  refine lv_if_lt (tgt := 19) B.hx B.hb dX3_paperAt_1 (by decide) (fun c1 => absurd c1 (nI_pos (by omega))) (fun _ => ?_)
  refine lv_iload_n B.hx B.hb dX3_paperAt_4 rfl (lv_at hl 1 rfl) ?_
  refine lv_bipush (v := (nI 8)) B.hx B.hb dX3_paperAt_5 (by decide) ?_
  refine lv_icmp_ge (tgt := 19) B.hx B.hb dX3_paperAt_7 (by decide) (fun c2 => absurd c2 (mt (nI_leI (by omega) (by omega)).mp (by omega))) (fun _ => ?_)
  refine lv_aload_n B.hx B.hb dX3_paperAt_10 rfl (lv_at hl 0 rfl) ?_
  refine q_get B hP (C := RX3) (ref := "PaperKeeper") (T := TX3) (N := 8) (ci := 3) hi3 rfl 0 rfl 3 (by decide) (by decide +kernel) rfl (v := .ref (b 4)) rfl dX3_paperAt_11 ?_
  refine lv_iload_n B.hx B.hb dX3_paperAt_14 rfl (lv_at hl 1 rfl) ?_
  refine q_aald B hP 4 rfl (j := j) rfl (by omega) (by decide) dX3_paperAt_15 ?_
  refine q_top (v2 := .ref (r)) (by rw [hpj]; rfl) ?_
  refine lv_goto (tgt := 20) B.hx B.hb dX3_paperAt_16 (by decide) ?_
  refine lv_astore_n (lv' := [(2, .ref (r)), (0, .ref (b 0)), (1, .int (nI j))]) B.hx B.hb dX3_paperAt_20 rfl hl (by decide) rfl (fun ls hl => ?_)
  refine lv_aload_n B.hx B.hb dX3_paperAt_21 rfl (lv_at hl 0 rfl) ?_
  refine lv_ifnonnull (tgt := 35) B.hx B.hb dX3_paperAt_22 (by decide) ?_
  refine lv_aload_n B.hx B.hb dX3_paperAt_35 rfl (lv_at hl 0 rfl) ?_
  exact q_aret B hr hP hD hS (u := ()) rfl rfl (Nat.le_of_ble_eq_true rfl) (Nat.le_of_ble_eq_true rfl) dX3_paperAt_36
set_option maxHeartbeats 4000000 in
set_option maxRecDepth 100000 in
theorem c3_paperAt_no (l : Launch) (hfl : l.stackTraces = false) (D : va_G) (cI cZ cP : ClassId) (b : Nat → Nat) (I : Nat → Int32) (V : Nat → Nat → Int32) (P : Nat → Option Nat) (x : Int32) (hno : nop P x) : q_C l yX3_paperAt wsX3_paperAt ({ frames := 6, cells := 1, slots := 6, locals := 82 }) D cI cZ cP [.ref (b 0), .int x] (kq cI cZ cP b I V P ++ cw cI b I V) (S := Unit) (fun _ _ => False) (fun _ => kq cI cZ cP b I V P ++ cw cI b I V) (fun E => E = q_IOB) 1 6 := by
  refine q_of (cc := cX3_paperAt) (maxL := 3) (ret := (some (.object "PaperKeeper$Paper"))) (by decide +kernel) rfl (Nat.le_of_ble_eq_true rfl) ?_
  intro p e s m below meth c A ls B hr htb hmn hP hD hS hl
  have hl : lv_has ls 3 [(0, .ref (b 0)), (1, .int x)] := hl
  have hi3 : ∀ w ∈ u_ws RX3 TX3 8, w ∈ wsX3_paperAt := by decide +kernel
  refine lv_iload_n B.hx B.hb dX3_paperAt_0 rfl (lv_at hl 1 rfl) ?_
  refine lv_if_lt (tgt := 19) B.hx B.hb dX3_paperAt_1 (by decide) (fun c1 => ?_) (fun c1 => ?_)
  · refine lv_null B.hx B.hb dX3_paperAt_19 ?_
    refine lv_astore_nN (lv' := [(2, .null), (0, .ref (b 0)), (1, .int x)]) B.hx B.hb dX3_paperAt_20 rfl hl (by decide) rfl (fun ls hl => ?_)
    refine lv_aload_nN B.hx B.hb dX3_paperAt_21 rfl (lv_at hl 0 rfl) ?_
    refine lv_ifnonnullN B.hx B.hb dX3_paperAt_22 ?_
    exact q_throw B hfl htb hP hS q_E_IOB (goodIn_app (goodIn_of [_, _] (by decide +kernel)) (goodIn_sub (fun w h => List.mem_cons_of_mem _ (List.mem_append_right _ h)) q_allg_IOB)) (List.mem_of_getElem? (i := 23) rfl) hl.1 dX3_paperAt_25 dX3_paperAt_28 dX3_paperAt_29 dX3_paperAt_31 dX3_paperAt_34 ⟨(Nat.le_of_ble_eq_true rfl), (Nat.le_of_ble_eq_true rfl), (Nat.le_of_ble_eq_true rfl), (Nat.le_of_ble_eq_true rfl)⟩ rfl (Nat.le_of_ble_eq_true rfl) (Nat.le_of_ble_eq_true rfl)
  · refine lv_iload_n B.hx B.hb dX3_paperAt_4 rfl (lv_at hl 1 rfl) ?_
    refine lv_bipush (v := (nI 8)) B.hx B.hb dX3_paperAt_5 (by decide) ?_
    refine lv_icmp_ge (tgt := 19) B.hx B.hb dX3_paperAt_7 (by decide) (fun c2 => ?_) (fun c2 => ?_)
    · refine lv_null B.hx B.hb dX3_paperAt_19 ?_
      refine lv_astore_nN (lv' := [(2, .null), (0, .ref (b 0)), (1, .int x)]) B.hx B.hb dX3_paperAt_20 rfl hl (by decide) rfl (fun ls hl => ?_)
      refine lv_aload_nN B.hx B.hb dX3_paperAt_21 rfl (lv_at hl 0 rfl) ?_
      refine lv_ifnonnullN B.hx B.hb dX3_paperAt_22 ?_
      exact q_throw B hfl htb hP hS q_E_IOB (goodIn_app (goodIn_of [_, _] (by decide +kernel)) (goodIn_sub (fun w h => List.mem_cons_of_mem _ (List.mem_append_right _ h)) q_allg_IOB)) (List.mem_of_getElem? (i := 23) rfl) hl.1 dX3_paperAt_25 dX3_paperAt_28 dX3_paperAt_29 dX3_paperAt_31 dX3_paperAt_34 ⟨(Nat.le_of_ble_eq_true rfl), (Nat.le_of_ble_eq_true rfl), (Nat.le_of_ble_eq_true rfl), (Nat.le_of_ble_eq_true rfl)⟩ rfl (Nat.le_of_ble_eq_true rfl) (Nat.le_of_ble_eq_true rfl)
    · obtain ⟨j, hj, rfl⟩ := inr_of (n := 8) (by decide) c1 (inr_no c1 c2)
      refine lv_aload_n B.hx B.hb dX3_paperAt_10 rfl (lv_at hl 0 rfl) ?_
      refine q_get B hP (C := RX3) (ref := "PaperKeeper") (T := TX3) (N := 8) (ci := 3) hi3 rfl 0 rfl 3 (by decide) (by decide +kernel) rfl (v := .ref (b 4)) rfl dX3_paperAt_11 ?_
      refine lv_iload_n B.hx B.hb dX3_paperAt_14 rfl (lv_at hl 1 rfl) ?_
      refine q_aald B hP 4 rfl (j := j) rfl (by omega) (by decide) dX3_paperAt_15 ?_
      refine q_top (v2 := .null) (by rw [hno j hj rfl]; rfl) ?_
      refine lv_goto (tgt := 20) B.hx B.hb dX3_paperAt_16 (by decide) ?_
      refine lv_astore_nN (lv' := [(2, .null), (0, .ref (b 0)), (1, .int (nI j))]) B.hx B.hb dX3_paperAt_20 rfl hl (by decide) rfl (fun ls hl => ?_)
      refine lv_aload_nN B.hx B.hb dX3_paperAt_21 rfl (lv_at hl 0 rfl) ?_
      refine lv_ifnonnullN B.hx B.hb dX3_paperAt_22 ?_
      exact q_throw B hfl htb hP hS q_E_IOB (goodIn_app (goodIn_of [_, _] (by decide +kernel)) (goodIn_sub (fun w h => List.mem_cons_of_mem _ (List.mem_append_right _ h)) q_allg_IOB)) (List.mem_of_getElem? (i := 23) rfl) hl.1 dX3_paperAt_25 dX3_paperAt_28 dX3_paperAt_29 dX3_paperAt_31 dX3_paperAt_34 ⟨(Nat.le_of_ble_eq_true rfl), (Nat.le_of_ble_eq_true rfl), (Nat.le_of_ble_eq_true rfl), (Nat.le_of_ble_eq_true rfl)⟩ rfl (Nat.le_of_ble_eq_true rfl) (Nat.le_of_ble_eq_true rfl)
set_option maxHeartbeats 4000000 in
set_option maxRecDepth 100000 in
theorem c3_canApprove (l : Launch) (D : va_G) (cI cZ cP : ClassId) (b : Nat → Nat) (I : Nat → Int32) (V : Nat → Nat → Int32) (P : Nat → Option Nat) (j : Nat) (hj : j < 6) (hb : ∀ i, i < 6 → V 1 i = 0 ∨ V 1 i = 1) : q_C l yX3_canApprove wsX3_canApprove ({ frames := 0, cells := 0, slots := 0, locals := 0 }) D cI cZ cP [.ref (b 0), .int (nI j)] (kq cI cZ cP b I V P ++ cw cI b I V) (S := Unit) (fun v _ => v = some (.int (bI (ca (V 1) (V 2) j 6)))) (fun _ => kq cI cZ cP b I V P ++ cw cI b I V) (fun _ => False) 0 0 := by
  refine q_of (cc := cX3_canApprove) (maxL := 4) (ret := (some .boolean)) (by decide +kernel) rfl (Nat.le_of_ble_eq_true rfl) ?_
  intro p e s m below meth c A ls B hr htb hmn hP hD hS hl
  have hl : lv_has ls 4 [(0, .ref (b 0)), (1, .int (nI j))] := hl
  have hi3 : ∀ w ∈ u_ws RX3 TX3 8, w ∈ wsX3_canApprove := by decide +kernel
  refine lv_aload_n B.hx B.hb dX3_canApprove_0 rfl (lv_at hl 0 rfl) ?_
  refine q_get B hP (C := RX3) (ref := "PaperKeeper") (T := TX3) (N := 8) (ci := 3) hi3 rfl 0 rfl 1 (by decide) (by decide +kernel) rfl (v := .ref (b 2)) rfl dX3_canApprove_1 ?_
  refine lv_iload_n B.hx B.hb dX3_canApprove_4 rfl (lv_at hl 1 rfl) ?_
  refine q_zald B hP 2 rfl (j := j) rfl (by omega) (by decide) dX3_canApprove_5 ?_
  refine q_top (v2 := .int (bI (ca (V 1) (V 2) j 0))) (congrArg Value.int (ca_0 (hb j hj))) ?_
  refine lv_istore_n (lv' := [(2, .int (bI (ca (V 1) (V 2) j 0))), (0, .ref (b 0)), (1, .int (nI j))]) B.hx B.hb dX3_canApprove_6 rfl hl (by decide) rfl (fun ls hl => ?_)
  refine lv_iconst (v := (nI 0)) B.hx B.hb dX3_canApprove_7 (by decide) ?_
  refine lv_istore_n (lv' := [(3, .int (nI 0)), (2, .int (bI (ca (V 1) (V 2) j 0))), (0, .ref (b 0)), (1, .int (nI j))]) B.hx B.hb dX3_canApprove_8 rfl hl (by decide) rfl (fun ls hl => ?_)
  refine q_loop (nL := 4) (fun i : Nat => i ≤ 6) (fun i : Nat => 6 - i) (fun i : Nat => [(3, .int (nI i)), (2, .int (bI (ca (V 1) (V 2) j i))), (0, .ref (b 0)), (1, .int (nI j))]) (0) (Nat.zero_le _) (lv_sub hl [0, 1, 2, 3] rfl) ?_
  intro i1 hI2 ih3 ls hl
  have hI2 : i1 ≤ 6 := hI2
  have hl : lv_has ls 4 [(3, .int (nI i1)), (2, .int (bI (ca (V 1) (V 2) j i1))), (0, .ref (b 0)), (1, .int (nI j))] := hl
  refine lv_iload_n B.hx B.hb dX3_canApprove_9 rfl (lv_at hl 0 rfl) ?_
  refine lv_bipush (v := (nI 6)) B.hx B.hb dX3_canApprove_10 (by decide) ?_
  refine lv_icmp_ge (tgt := 50) B.hx B.hb dX3_canApprove_12 (by decide) (fun c4 => ?_) (fun c4 => ?_)
  · replace c4 := (nI_leI (by omega) (by omega)).mp c4
    refine lv_iload_n B.hx B.hb dX3_canApprove_50 rfl (lv_at hl 1 rfl) ?_
    exact q_zret B hr hP hD hS (by generalize ca (V 1) (V 2) j _ = z; cases z <;> rfl) (u := ()) rfl (by rw [show i1 = 6 by omega]) (Nat.le_of_ble_eq_true rfl) (Nat.le_of_ble_eq_true rfl) dX3_canApprove_51
  · replace c4 := mt (nI_leI (by omega) (by omega)).mpr c4
    refine lv_iload_n B.hx B.hb dX3_canApprove_15 rfl (lv_at hl 1 rfl) ?_
    refine lv_if_ne (tgt := 38) B.hx B.hb dX3_canApprove_16 (by decide) (fun c5 => ?_) (fun c5 => ?_)
    · replace c5 := Bool.not_eq_false _ ▸ (mt bI_0.mpr c5)
      refine lv_iconst (v := (nI 1)) B.hx B.hb dX3_canApprove_38 (by decide) ?_
      refine lv_goto (tgt := 43) B.hx B.hb dX3_canApprove_39 (by decide) ?_
      refine q_top (v2 := .int (bI (ca (V 1) (V 2) j (i1 + 1)))) (congrArg Value.int (bI_t (by rw [ca_s]; simp [c5]))) ?_
      refine lv_istore_n (lv' := [(2, .int (bI (ca (V 1) (V 2) j (i1 + 1)))), (3, .int (nI i1)), (0, .ref (b 0)), (1, .int (nI j))]) B.hx B.hb dX3_canApprove_43 rfl hl (by decide) rfl (fun ls hl => ?_)
      refine lv_iinc (v := (nI ((i1 + 1)))) (lv' := [(3, .int (nI ((i1 + 1)))), (2, .int (bI (ca (V 1) (V 2) j (i1 + 1)))), (0, .ref (b 0)), (1, .int (nI j))]) B.hx B.hb dX3_canApprove_44 hl (k := 1) rfl (nI_1 _) (by decide) rfl (fun ls hl => ?_)
      refine lv_goto (tgt := 9) B.hx B.hb dX3_canApprove_47 (by decide) ?_
      exact ih3 (i1 + 1) (by omega) (by omega) ls (lv_sub hl [0, 1, 2, 3] rfl)
    · replace c5 := bI_0.mp c5
      refine lv_aload_n B.hx B.hb dX3_canApprove_19 rfl (lv_at hl 2 rfl) ?_
      refine q_get B hP (C := RX3) (ref := "PaperKeeper") (T := TX3) (N := 8) (ci := 3) hi3 rfl 0 rfl 1 (by decide) (by decide +kernel) rfl (v := .ref (b 2)) rfl dX3_canApprove_20 ?_
      refine lv_iload_n B.hx B.hb dX3_canApprove_23 rfl (lv_at hl 0 rfl) ?_
      refine q_zald B hP 2 rfl (j := i1) rfl (by omega) (by decide) dX3_canApprove_24 ?_
      refine lv_if_eq (tgt := 42) B.hx B.hb dX3_canApprove_25 (by decide) (fun c6 => ?_) (fun c6 => ?_)
      · refine lv_iconst (v := (nI 0)) B.hx B.hb dX3_canApprove_42 (by decide) ?_
        refine q_top (v2 := .int (bI (ca (V 1) (V 2) j (i1 + 1)))) (congrArg Value.int (bI_f (by rw [ca_s]; simp [c5, c6]))) ?_
        refine lv_istore_n (lv' := [(2, .int (bI (ca (V 1) (V 2) j (i1 + 1)))), (3, .int (nI i1)), (0, .ref (b 0)), (1, .int (nI j))]) B.hx B.hb dX3_canApprove_43 rfl hl (by decide) rfl (fun ls hl => ?_)
        refine lv_iinc (v := (nI ((i1 + 1)))) (lv' := [(3, .int (nI ((i1 + 1)))), (2, .int (bI (ca (V 1) (V 2) j (i1 + 1)))), (0, .ref (b 0)), (1, .int (nI j))]) B.hx B.hb dX3_canApprove_44 hl (k := 1) rfl (nI_1 _) (by decide) rfl (fun ls hl => ?_)
        refine lv_goto (tgt := 9) B.hx B.hb dX3_canApprove_47 (by decide) ?_
        exact ih3 (i1 + 1) (by omega) (by omega) ls (lv_sub hl [0, 1, 2, 3] rfl)
      · refine lv_aload_n B.hx B.hb dX3_canApprove_28 rfl (lv_at hl 2 rfl) ?_
        refine q_get B hP (C := RX3) (ref := "PaperKeeper") (T := TX3) (N := 8) (ci := 3) hi3 rfl 0 rfl 2 (by decide) (by decide +kernel) rfl (v := .ref (b 3)) rfl dX3_canApprove_29 ?_
        refine lv_iload_n B.hx B.hb dX3_canApprove_32 rfl (lv_at hl 0 rfl) ?_
        refine q_iald B hP 3 rfl (j := i1) rfl (by omega) (by decide) dX3_canApprove_33 ?_
        refine lv_iload_n B.hx B.hb dX3_canApprove_34 rfl (lv_at hl 3 rfl) ?_
        refine lv_icmp_ne (tgt := 42) B.hx B.hb dX3_canApprove_35 (by decide) (fun c7 => ?_) (fun c7 => ?_)
        · refine lv_iconst (v := (nI 0)) B.hx B.hb dX3_canApprove_42 (by decide) ?_
          refine q_top (v2 := .int (bI (ca (V 1) (V 2) j (i1 + 1)))) (congrArg Value.int (bI_f (by rw [ca_s]; simp [c5, c6, c7]))) ?_
          refine lv_istore_n (lv' := [(2, .int (bI (ca (V 1) (V 2) j (i1 + 1)))), (3, .int (nI i1)), (0, .ref (b 0)), (1, .int (nI j))]) B.hx B.hb dX3_canApprove_43 rfl hl (by decide) rfl (fun ls hl => ?_)
          refine lv_iinc (v := (nI ((i1 + 1)))) (lv' := [(3, .int (nI ((i1 + 1)))), (2, .int (bI (ca (V 1) (V 2) j (i1 + 1)))), (0, .ref (b 0)), (1, .int (nI j))]) B.hx B.hb dX3_canApprove_44 hl (k := 1) rfl (nI_1 _) (by decide) rfl (fun ls hl => ?_)
          refine lv_goto (tgt := 9) B.hx B.hb dX3_canApprove_47 (by decide) ?_
          exact ih3 (i1 + 1) (by omega) (by omega) ls (lv_sub hl [0, 1, 2, 3] rfl)
        · refine lv_iconst (v := (nI 1)) B.hx B.hb dX3_canApprove_38 (by decide) ?_
          refine lv_goto (tgt := 43) B.hx B.hb dX3_canApprove_39 (by decide) ?_
          refine q_top (v2 := .int (bI (ca (V 1) (V 2) j (i1 + 1)))) (congrArg Value.int (bI_t (by rw [ca_s]; simp [c5, c6, c7]))) ?_
          refine lv_istore_n (lv' := [(2, .int (bI (ca (V 1) (V 2) j (i1 + 1)))), (3, .int (nI i1)), (0, .ref (b 0)), (1, .int (nI j))]) B.hx B.hb dX3_canApprove_43 rfl hl (by decide) rfl (fun ls hl => ?_)
          refine lv_iinc (v := (nI ((i1 + 1)))) (lv' := [(3, .int (nI ((i1 + 1)))), (2, .int (bI (ca (V 1) (V 2) j (i1 + 1)))), (0, .ref (b 0)), (1, .int (nI j))]) B.hx B.hb dX3_canApprove_44 hl (k := 1) rfl (nI_1 _) (by decide) rfl (fun ls hl => ?_)
          refine lv_goto (tgt := 9) B.hx B.hb dX3_canApprove_47 (by decide) ?_
          exact ih3 (i1 + 1) (by omega) (by omega) ls (lv_sub hl [0, 1, 2, 3] rfl)
end
section
/-! The keeper: its calls. -/
set_option maxHeartbeats 4000000 in
set_option maxRecDepth 100000 in
theorem c3_setRoles (l : Launch) (hfl : l.stackTraces = false) (D : va_G) (cI cZ cP : ClassId) (b : Nat → Nat) (I : Nat → Int32) (V : Nat → Nat → Int32) (P : Nat → Option Nat) (x r1 r2 : Int32) (hr1 : r1 = 0 ∨ r1 = 1) (hr2 : r2 = 0 ∨ r2 = 1) : q_C l yX3_setRoles wsX3_setRoles ({ frames := 8, cells := 1, slots := 6, locals := 124 }) D cI cZ cP [.ref (b 0), .int x, .int r1, .int r2] (kq cI cZ cP b I V P ++ cw cI b I V) (S := Unit) (fun v _ => v = none ∧ kSetRoles x = 0) (fun _ => kq cI cZ cP b I (va_up (va_up V 0 (upd (V 0) (ix x) r1)) 1 (upd (V 1) (ix x) r2)) P ++ cw cI b I (va_up (va_up V 0 (upd (V 0) (ix x) r1)) 1 (upd (V 1) (ix x) r2))) (fun E => E = q_IAE ∧ kSetRoles x = 1) 1 6 := by
  refine q_of (cc := cX3_setRoles) (maxL := 4) (ret := none) (by decide +kernel) rfl (Nat.le_of_ble_eq_true rfl) ?_
  intro p e s m below meth c A ls B hr htb hmn hP hD hS hl
  have hl : lv_has ls 4 [(0, .ref (b 0)), (1, .int x), (2, .int r1), (3, .int r2)] := hl
  have hi3 : ∀ w ∈ u_ws RX3 TX3 8, w ∈ wsX3_setRoles := by decide +kernel
  refine lv_iload_n B.hx B.hb dX3_setRoles_0 rfl (lv_at hl 1 rfl) ?_
  refine q_callS (As := [.int x]) (rest := []) B hP hD hS ((c3_checkPerson l hfl D cI cZ cP x).fr0 (kq cI cZ cP b I V P ++ cw cI b I V)) (cwS 1 B.hts gX3_setRoles_X3_checkPerson rfl rfl rfl (by decide +kernel) ⟨(Nat.le_of_ble_eq_true rfl), (Nat.le_of_ble_eq_true rfl)⟩) rfl hl.1 rfl (Nat.le_of_ble_eq_true rfl) dX3_setRoles_1 ⟨(Nat.le_of_ble_eq_true rfl), (Nat.le_of_ble_eq_true rfl)⟩ (fun E ce q9 H locs hx hP hS hce hcv hcl => ?_) (fun v u H locs hp hP hD hS => ?_)
  · exact q_xout B htb hP hS hce hcv hcl ⟨hx.1, by simp [kSetRoles, hx.2]⟩ (Nat.le_of_ble_eq_true rfl) (Nat.le_of_ble_eq_true rfl)
  · obtain ⟨rfl, hrg0⟩ := hp
    have hP : va_P D vwCl (kq cI cZ cP b I V P ++ cw cI b I V) H := hP
    have hD : va_D A (kq cI cZ cP b I V P ++ cw cI b I V) := hD
    obtain ⟨j2, hjj2, rfl⟩ := rg_j (by decide) hrg0
    have hixj2 : ix (nI j2) = j2 := ix_nI (by omega)
    have hnmj2 : ¬ nI j2 = -1 := nI_nm1 (by omega)
    refine lv_aload_n B.hx B.hb dX3_setRoles_4 rfl (lv_at hl 0 rfl) ?_
    refine q_get B hP (C := RX3) (ref := "PaperKeeper") (T := TX3) (N := 8) (ci := 3) hi3 rfl 0 rfl 0 (by decide) (by decide +kernel) rfl (v := .ref (b 1)) rfl dX3_setRoles_5 ?_
    refine lv_iload_n B.hx B.hb dX3_setRoles_8 rfl (lv_at hl 1 rfl) ?_
    refine lv_iload_n B.hx B.hb dX3_setRoles_9 rfl (lv_at hl 2 rfl) ?_
    refine q_zast B hP hD hS 1 rfl (j := j2) rfl (by omega) (by decide) (nar_b hr1) dX3_setRoles_10 (w' := kq cI cZ cP b I (va_up V 0 (upd (V 0) j2 r1)) P ++ cw cI b I (va_up V 0 (upd (V 0) j2 r1))) rfl (fun H locs hP hD hS => ?_)
    refine lv_aload_n B.hx B.hb dX3_setRoles_11 rfl (lv_at hl 0 rfl) ?_
    refine q_get B hP (C := RX3) (ref := "PaperKeeper") (T := TX3) (N := 8) (ci := 3) hi3 rfl 0 rfl 1 (by decide) (by decide +kernel) rfl (v := .ref (b 2)) rfl dX3_setRoles_12 ?_
    refine lv_iload_n B.hx B.hb dX3_setRoles_15 rfl (lv_at hl 1 rfl) ?_
    refine lv_iload_n B.hx B.hb dX3_setRoles_16 rfl (lv_at hl 3 rfl) ?_
    refine q_zast B hP hD hS 2 rfl (j := j2) rfl (by omega) (by decide) (nar_b hr2) dX3_setRoles_17 (w' := kq cI cZ cP b I (va_up (va_up V 0 (upd (V 0) j2 r1)) 1 (upd (V 1) j2 r2)) P ++ cw cI b I (va_up (va_up V 0 (upd (V 0) j2 r1)) 1 (upd (V 1) j2 r2))) rfl (fun H locs hP hD hS => ?_)
    exact q_vret B hr hP hD hS (u := ()) (by simp only [hixj2]) ⟨rfl, by simp [kSetRoles, hrg0, hixj2, hnmj2]⟩ (Nat.le_of_ble_eq_true rfl) (Nat.le_of_ble_eq_true rfl) dX3_setRoles_18
set_option maxHeartbeats 4000000 in
set_option maxRecDepth 100000 in
theorem c3_setDeputy (l : Launch) (hfl : l.stackTraces = false) (D : va_G) (cI cZ cP : ClassId) (b : Nat → Nat) (I : Nat → Int32) (V : Nat → Nat → Int32) (P : Nat → Option Nat) (x y : Int32) : q_C l yX3_setDeputy wsX3_setDeputy ({ frames := 8, cells := 3, slots := 18, locals := 124 }) D cI cZ cP [.ref (b 0), .int x, .int y] (kq cI cZ cP b I V P ++ cw cI b I V) (S := Unit) (fun v _ => v = some (.int (V 2 (ix x))) ∧ kSetDeputy x y = 0) (fun _ => kq cI cZ cP b I (va_up V 2 (upd (V 2) (ix x) y)) P ++ cw cI b I (va_up V 2 (upd (V 2) (ix x) y))) (fun E => E = q_IAE ∧ kSetDeputy x y = 1) 3 18 := by
  refine q_of (cc := cX3_setDeputy) (maxL := 4) (ret := (some .int)) (by decide +kernel) rfl (Nat.le_of_ble_eq_true rfl) ?_
  intro p e s m below meth c A ls B hr htb hmn hP hD hS hl
  have hl : lv_has ls 4 [(0, .ref (b 0)), (1, .int x), (2, .int y)] := hl
  have hi3 : ∀ w ∈ u_ws RX3 TX3 8, w ∈ wsX3_setDeputy := by decide +kernel
  refine lv_iload_n B.hx B.hb dX3_setDeputy_0 rfl (lv_at hl 1 rfl) ?_
  refine q_callS (As := [.int x]) (rest := []) B hP hD hS ((c3_checkPerson l hfl D cI cZ cP x).fr0 (kq cI cZ cP b I V P ++ cw cI b I V)) (cwS 1 B.hts gX3_setDeputy_X3_checkPerson rfl rfl rfl (by decide +kernel) ⟨(Nat.le_of_ble_eq_true rfl), (Nat.le_of_ble_eq_true rfl)⟩) rfl hl.1 rfl (Nat.le_of_ble_eq_true rfl) dX3_setDeputy_1 ⟨(Nat.le_of_ble_eq_true rfl), (Nat.le_of_ble_eq_true rfl)⟩ (fun E ce q9 H locs hx hP hS hce hcv hcl => ?_) (fun v u H locs hp hP hD hS => ?_)
  · exact q_xout B htb hP hS hce hcv hcl ⟨hx.1, by simp [kSetDeputy, hx.2]⟩ (Nat.le_of_ble_eq_true rfl) (Nat.le_of_ble_eq_true rfl)
  · obtain ⟨rfl, hrg0⟩ := hp
    have hP : va_P D vwCl (kq cI cZ cP b I V P ++ cw cI b I V) H := hP
    have hD : va_D A (kq cI cZ cP b I V P ++ cw cI b I V) := hD
    obtain ⟨j2, hjj2, rfl⟩ := rg_j (by decide) hrg0
    have hixj2 : ix (nI j2) = j2 := ix_nI (by omega)
    have hnmj2 : ¬ nI j2 = -1 := nI_nm1 (by omega)
    refine lv_iload_n B.hx B.hb dX3_setDeputy_4 rfl (lv_at hl 2 rfl) ?_
    refine lv_iconst (v := (-1)) B.hx B.hb dX3_setDeputy_5 (by decide) ?_
    refine lv_icmp_eq (tgt := 13) B.hx B.hb dX3_setDeputy_6 (by decide) (fun c1 => ?_) (fun c1 => ?_)
    · refine lv_iload_n B.hx B.hb dX3_setDeputy_13 rfl (lv_at hl 1 rfl) ?_
      refine lv_iload_n B.hx B.hb dX3_setDeputy_14 rfl (lv_at hl 2 rfl) ?_
      refine lv_icmp_ne (tgt := 28) B.hx B.hb dX3_setDeputy_15 (by decide) (fun c2 => ?_) (fun c2 => ?_)
      · refine lv_aload_n B.hx B.hb dX3_setDeputy_28 rfl (lv_at hl 0 rfl) ?_
        refine q_get B hP (C := RX3) (ref := "PaperKeeper") (T := TX3) (N := 8) (ci := 3) hi3 rfl 0 rfl 2 (by decide) (by decide +kernel) rfl (v := .ref (b 3)) rfl dX3_setDeputy_29 ?_
        refine lv_iload_n B.hx B.hb dX3_setDeputy_32 rfl (lv_at hl 1 rfl) ?_
        refine q_iald B hP 3 rfl (j := j2) rfl (by omega) (by decide) dX3_setDeputy_33 ?_
        refine lv_istore_n (lv' := [(3, .int ((V 2) j2)), (0, .ref (b 0)), (1, .int (nI j2)), (2, .int y)]) B.hx B.hb dX3_setDeputy_34 rfl hl (by decide) rfl (fun ls hl => ?_)
        refine lv_aload_n B.hx B.hb dX3_setDeputy_35 rfl (lv_at hl 1 rfl) ?_
        refine q_get B hP (C := RX3) (ref := "PaperKeeper") (T := TX3) (N := 8) (ci := 3) hi3 rfl 0 rfl 2 (by decide) (by decide +kernel) rfl (v := .ref (b 3)) rfl dX3_setDeputy_36 ?_
        refine lv_iload_n B.hx B.hb dX3_setDeputy_39 rfl (lv_at hl 2 rfl) ?_
        refine lv_iload_n B.hx B.hb dX3_setDeputy_40 rfl (lv_at hl 3 rfl) ?_
        refine q_iast B hP hD hS 3 rfl (j := j2) rfl (by omega) (by decide) dX3_setDeputy_41 (w' := kq cI cZ cP b I (va_up V 2 (upd (V 2) j2 y)) P ++ cw cI b I (va_up V 2 (upd (V 2) j2 y))) rfl (fun H locs hP hD hS => ?_)
        refine lv_iload_n B.hx B.hb dX3_setDeputy_42 rfl (lv_at hl 0 rfl) ?_
        exact q_iret B hr hP hD hS (u := ()) (by simp only [hixj2]) ⟨by rw [hixj2], by simp [kSetDeputy, hrg0, c1, c2, hixj2, hnmj2]⟩ (Nat.le_of_ble_eq_true rfl) (Nat.le_of_ble_eq_true rfl) dX3_setDeputy_43
      · exact q_throw B hfl htb hP hS q_E_IAE (goodIn_app (goodIn_of [_, _] (by decide +kernel)) (goodIn_sub (fun w h => List.mem_cons_of_mem _ (List.mem_append_right _ h)) q_allg_IAE)) (List.mem_of_getElem? (i := 0) rfl) hl.1 dX3_setDeputy_18 dX3_setDeputy_21 dX3_setDeputy_22 dX3_setDeputy_24 dX3_setDeputy_27 ⟨(Nat.le_of_ble_eq_true rfl), (Nat.le_of_ble_eq_true rfl), (Nat.le_of_ble_eq_true rfl), (Nat.le_of_ble_eq_true rfl)⟩ ⟨rfl, by simp [kSetDeputy, hrg0, c1, c2, hixj2, hnmj2]⟩ (Nat.le_of_ble_eq_true rfl) (Nat.le_of_ble_eq_true rfl)
    · refine lv_iload_n B.hx B.hb dX3_setDeputy_9 rfl (lv_at hl 2 rfl) ?_
      refine q_callS (As := [.int y]) (rest := []) B hP hD hS ((c3_checkPerson l hfl D cI cZ cP y).fr0 (kq cI cZ cP b I V P ++ cw cI b I V)) (cwS 1 B.hts gX3_setDeputy_X3_checkPerson rfl rfl rfl (by decide +kernel) ⟨(Nat.le_of_ble_eq_true rfl), (Nat.le_of_ble_eq_true rfl)⟩) rfl hl.1 rfl (Nat.le_of_ble_eq_true rfl) dX3_setDeputy_10 ⟨(Nat.le_of_ble_eq_true rfl), (Nat.le_of_ble_eq_true rfl)⟩ (fun E ce q9 H locs hx hP hS hce hcv hcl => ?_) (fun v u H locs hp hP hD hS => ?_)
      · exact q_xout B htb hP hS hce hcv hcl ⟨hx.1, by simp [kSetDeputy, hx.2, hrg0, c1, hixj2, hnmj2]⟩ (Nat.le_of_ble_eq_true rfl) (Nat.le_of_ble_eq_true rfl)
      · obtain ⟨rfl, hrg2⟩ := hp
        have hP : va_P D vwCl (kq cI cZ cP b I V P ++ cw cI b I V) H := hP
        have hD : va_D A (kq cI cZ cP b I V P ++ cw cI b I V) := hD
        refine lv_iload_n B.hx B.hb dX3_setDeputy_13 rfl (lv_at hl 1 rfl) ?_
        refine lv_iload_n B.hx B.hb dX3_setDeputy_14 rfl (lv_at hl 2 rfl) ?_
        refine lv_icmp_ne (tgt := 28) B.hx B.hb dX3_setDeputy_15 (by decide) (fun c3 => ?_) (fun c3 => ?_)
        · refine lv_aload_n B.hx B.hb dX3_setDeputy_28 rfl (lv_at hl 0 rfl) ?_
          refine q_get B hP (C := RX3) (ref := "PaperKeeper") (T := TX3) (N := 8) (ci := 3) hi3 rfl 0 rfl 2 (by decide) (by decide +kernel) rfl (v := .ref (b 3)) rfl dX3_setDeputy_29 ?_
          refine lv_iload_n B.hx B.hb dX3_setDeputy_32 rfl (lv_at hl 1 rfl) ?_
          refine q_iald B hP 3 rfl (j := j2) rfl (by omega) (by decide) dX3_setDeputy_33 ?_
          refine lv_istore_n (lv' := [(3, .int ((V 2) j2)), (0, .ref (b 0)), (1, .int (nI j2)), (2, .int y)]) B.hx B.hb dX3_setDeputy_34 rfl hl (by decide) rfl (fun ls hl => ?_)
          refine lv_aload_n B.hx B.hb dX3_setDeputy_35 rfl (lv_at hl 1 rfl) ?_
          refine q_get B hP (C := RX3) (ref := "PaperKeeper") (T := TX3) (N := 8) (ci := 3) hi3 rfl 0 rfl 2 (by decide) (by decide +kernel) rfl (v := .ref (b 3)) rfl dX3_setDeputy_36 ?_
          refine lv_iload_n B.hx B.hb dX3_setDeputy_39 rfl (lv_at hl 2 rfl) ?_
          refine lv_iload_n B.hx B.hb dX3_setDeputy_40 rfl (lv_at hl 3 rfl) ?_
          refine q_iast B hP hD hS 3 rfl (j := j2) rfl (by omega) (by decide) dX3_setDeputy_41 (w' := kq cI cZ cP b I (va_up V 2 (upd (V 2) j2 y)) P ++ cw cI b I (va_up V 2 (upd (V 2) j2 y))) rfl (fun H locs hP hD hS => ?_)
          refine lv_iload_n B.hx B.hb dX3_setDeputy_42 rfl (lv_at hl 0 rfl) ?_
          exact q_iret B hr hP hD hS (u := ()) (by simp only [hixj2]) ⟨by rw [hixj2], by simp [kSetDeputy, hrg0, c1, hrg2, c3, hixj2, hnmj2]⟩ (Nat.le_of_ble_eq_true rfl) (Nat.le_of_ble_eq_true rfl) dX3_setDeputy_43
        · exact q_throw B hfl htb hP hS q_E_IAE (goodIn_app (goodIn_of [_, _] (by decide +kernel)) (goodIn_sub (fun w h => List.mem_cons_of_mem _ (List.mem_append_right _ h)) q_allg_IAE)) (List.mem_of_getElem? (i := 0) rfl) hl.1 dX3_setDeputy_18 dX3_setDeputy_21 dX3_setDeputy_22 dX3_setDeputy_24 dX3_setDeputy_27 ⟨(Nat.le_of_ble_eq_true rfl), (Nat.le_of_ble_eq_true rfl), (Nat.le_of_ble_eq_true rfl), (Nat.le_of_ble_eq_true rfl)⟩ ⟨rfl, by simp [kSetDeputy, hrg0, c1, hrg2, c3, hixj2, hnmj2]⟩ (Nat.le_of_ble_eq_true rfl) (Nat.le_of_ble_eq_true rfl)
set_option maxHeartbeats 4000000 in
set_option maxRecDepth 100000 in
theorem c3_setInterval (l : Launch) (hfl : l.stackTraces = false) (D : va_G) (cI cZ cP : ClassId) (b : Nat → Nat) (I : Nat → Int32) (V : Nat → Nat → Int32) (P : Nat → Option Nat) (x : Int32) : q_C l yX3_setInterval wsX3_setInterval ({ frames := 7, cells := 1, slots := 6, locals := 104 }) D cI cZ cP [.ref (b 0), .int x] (kq cI cZ cP b I V P ++ cw cI b I V) (S := Unit) (fun v _ => v = some (.int (I 6)) ∧ kSetInterval x = 0) (fun _ => kq cI cZ cP b (va_up I 6 x) V P ++ cw cI b (va_up I 6 x) V) (fun E => E = q_IAE ∧ kSetInterval x = 1) 1 6 := by
  refine q_of (cc := cX3_setInterval) (maxL := 3) (ret := (some .int)) (by decide +kernel) rfl (Nat.le_of_ble_eq_true rfl) ?_
  intro p e s m below meth c A ls B hr htb hmn hP hD hS hl
  have hl : lv_has ls 3 [(0, .ref (b 0)), (1, .int x)] := hl
  have hi3 : ∀ w ∈ u_ws RX3 TX3 8, w ∈ wsX3_setInterval := by decide +kernel
  refine lv_iload_n B.hx B.hb dX3_setInterval_0 rfl (lv_at hl 1 rfl) ?_
  refine lv_iconst (v := (nI 1)) B.hx B.hb dX3_setInterval_1 (by decide) ?_
  refine lv_bipush (v := (nI 100)) B.hx B.hb dX3_setInterval_2 (by decide) ?_
  refine q_callS (As := [.int x, .int (nI 1), .int (nI 100)]) (rest := []) B hP hD hS ((c3_checkRange l hfl D cI cZ cP x (nI 1) (nI 100)).fr0 (kq cI cZ cP b I V P ++ cw cI b I V)) (cwS 3 B.hts gX3_setInterval_X3_checkRange rfl rfl rfl (by decide +kernel) ⟨(Nat.le_of_ble_eq_true rfl), (Nat.le_of_ble_eq_true rfl)⟩) rfl hl.1 rfl (Nat.le_of_ble_eq_true rfl) dX3_setInterval_4 ⟨(Nat.le_of_ble_eq_true rfl), (Nat.le_of_ble_eq_true rfl)⟩ (fun E ce q9 H locs hx hP hS hce hcv hcl => ?_) (fun v u H locs hp hP hD hS => ?_)
  · exact q_xout B htb hP hS hce hcv hcl ⟨hx.1, by simp [kSetInterval, hx.2]⟩ (Nat.le_of_ble_eq_true rfl) (Nat.le_of_ble_eq_true rfl)
  · obtain ⟨rfl, hrg0⟩ := hp
    have hP : va_P D vwCl (kq cI cZ cP b I V P ++ cw cI b I V) H := hP
    have hD : va_D A (kq cI cZ cP b I V P ++ cw cI b I V) := hD
    refine lv_aload_n B.hx B.hb dX3_setInterval_7 rfl (lv_at hl 0 rfl) ?_
    refine q_get B hP (C := RX3) (ref := "PaperKeeper") (T := TX3) (N := 8) (ci := 3) hi3 rfl 0 rfl 6 (by decide) (by decide +kernel) rfl (v := .int (I 6)) rfl dX3_setInterval_8 ?_
    refine lv_istore_n (lv' := [(2, .int (I 6)), (0, .ref (b 0)), (1, .int x)]) B.hx B.hb dX3_setInterval_11 rfl hl (by decide) rfl (fun ls hl => ?_)
    refine lv_aload_n B.hx B.hb dX3_setInterval_12 rfl (lv_at hl 1 rfl) ?_
    refine lv_iload_n B.hx B.hb dX3_setInterval_13 rfl (lv_at hl 2 rfl) ?_
    refine q_put B hP hD hS (C := RX3) (ref := "PaperKeeper") (T := TX3) (N := 8) (ci := 3) hi3 rfl tyX3 tyX3_ok nmX3 0 rfl 6 (by decide) (by decide +kernel) rfl rfl rfl (by rfl) (Nat.le_of_ble_eq_true rfl) dX3_setInterval_14 (w' := kq cI cZ cP b (va_up I 6 x) V P ++ cw cI b (va_up I 6 x) V) rfl (fun H locs hP hD hS => ?_)
    refine lv_iload_n B.hx B.hb dX3_setInterval_17 rfl (lv_at hl 0 rfl) ?_
    exact q_iret B hr hP hD hS (u := ()) rfl ⟨rfl, by simp [kSetInterval, hrg0]⟩ (Nat.le_of_ble_eq_true rfl) (Nat.le_of_ble_eq_true rfl) dX3_setInterval_18
set_option maxHeartbeats 4000000 in
set_option maxRecDepth 100000 in
theorem c3_draft (l : Launch) (hfl : l.stackTraces = false) (D : va_G) (cI cZ cP : ClassId) (b : Nat → Nat) (I : Nat → Int32) (V : Nat → Nat → Int32) (P : Nat → Option Nat) (a : Nat → Nat) (X : Nat → Int32) (Y : Nat → Nat → Int32) (j : Nat) (hj : j < 8) (hpj : P j = some (a 0)) (x y : Int32) : q_C l yX3_draft wsX3_draft ({ frames := 8, cells := 3, slots := 18, locals := 124 }) D cI cZ cP [.ref (b 0), .int (nI j), .int x, .int y] (dw cI cZ a X Y ++ (ppw cI cZ a X Y ++ (kq cI cZ cP b I V P ++ cw cI b I V))) (S := Unit) (fun v _ => v = none ∧ kDraft x y (X 2) = 0) (fun _ => dw cI cZ a (va_up (va_up (va_up (va_up (va_up (va_up (va_up X 2 (nI 1)) 5 x) 6 y) 7 ((nI 0) + nI 1)) 8 (nI 0)) 9 (nI 0)) 10 (nI 0)) (va_up (va_up (va_up Y 2 (zf (Y 2) 6)) 4 (zf (Y 4) 6)) 5 (zf (Y 5) 6)) ++ (ppw cI cZ a (va_up (va_up (va_up (va_up (va_up (va_up (va_up X 2 (nI 1)) 5 x) 6 y) 7 ((nI 0) + nI 1)) 8 (nI 0)) 9 (nI 0)) 10 (nI 0)) (va_up (va_up (va_up Y 2 (zf (Y 2) 6)) 4 (zf (Y 4) 6)) 5 (zf (Y 5) 6)) ++ (kq cI cZ cP b I V P ++ cw cI b I V))) (fun E => (E = q_IAE ∧ kDraft x y (X 2) = 2) ∨ (E = q_ISE ∧ kDraft x y (X 2) = 3)) 3 18 := by
  refine q_of (cc := cX3_draft) (maxL := 5) (ret := none) (by decide +kernel) rfl (Nat.le_of_ble_eq_true rfl) ?_
  intro p e s m below meth c A ls B hr htb hmn hP hD hS hl
  have hl : lv_has ls 5 [(0, .ref (b 0)), (1, .int (nI j)), (2, .int x), (3, .int y)] := hl
  have hi2 : ∀ w ∈ u_ws RX2 TX2 9, w ∈ wsX3_draft := by decide +kernel
  refine lv_aload_n B.hx B.hb dX3_draft_0 rfl (lv_at hl 0 rfl) ?_
  refine lv_iload_n B.hx B.hb dX3_draft_1 rfl (lv_at hl 1 rfl) ?_
  refine q_callV (As := [.int (nI j)]) (rest := []) B hP hD hS ((c3_paperAt l D cI cZ cP b I V P j (a 0) hj hpj).fl2 (dw cI cZ a X Y) (ppw cI cZ a X Y)) (cwV 1 B.hts gX3_draft_X3_paperAt rfl rfl rfl (by decide +kernel) ⟨(Nat.le_of_ble_eq_true rfl), (Nat.le_of_ble_eq_true rfl)⟩) 10 3 rfl rfl rfl rfl hl.1 rfl (Nat.le_of_ble_eq_true rfl) dX3_draft_2 ⟨(Nat.le_of_ble_eq_true rfl), (Nat.le_of_ble_eq_true rfl)⟩ (fun E ce q9 H locs hx => False.elim hx) (fun v u H locs hp hP hD hS => ?_)
  obtain rfl := hp
  have hP : va_P D vwCl (dw cI cZ a X Y ++ (ppw cI cZ a X Y ++ (kq cI cZ cP b I V P ++ cw cI b I V))) H := hP
  have hD : va_D A (dw cI cZ a X Y ++ (ppw cI cZ a X Y ++ (kq cI cZ cP b I V P ++ cw cI b I V))) := hD
  refine lv_astore (lv' := [(4, .ref (a 0)), (0, .ref (b 0)), (1, .int (nI j)), (2, .int x), (3, .int y)]) B.hx B.hb dX3_draft_5 hl (by decide) rfl (fun ls hl => ?_)
  refine lv_iload_n B.hx B.hb dX3_draft_7 rfl (lv_at hl 3 rfl) ?_
  refine q_callS (As := [.int x]) (rest := []) B hP hD hS ((c3_checkPerson l hfl D cI cZ cP x).fr0 (dw cI cZ a X Y ++ (ppw cI cZ a X Y ++ (kq cI cZ cP b I V P ++ cw cI b I V)))) (cwS 1 B.hts gX3_draft_X3_checkPerson rfl rfl rfl (by decide +kernel) ⟨(Nat.le_of_ble_eq_true rfl), (Nat.le_of_ble_eq_true rfl)⟩) rfl hl.1 rfl (Nat.le_of_ble_eq_true rfl) dX3_draft_8 ⟨(Nat.le_of_ble_eq_true rfl), (Nat.le_of_ble_eq_true rfl)⟩ (fun E ce q9 H locs hx hP hS hce hcv hcl => ?_) (fun v u H locs hp hP hD hS => ?_)
  · exact q_xout B htb hP hS hce hcv hcl (Or.inl ⟨hx.1, by simp [kDraft, hx.2]⟩) (Nat.le_of_ble_eq_true rfl) (Nat.le_of_ble_eq_true rfl)
  · obtain ⟨rfl, hrg0⟩ := hp
    have hP : va_P D vwCl (dw cI cZ a X Y ++ (ppw cI cZ a X Y ++ (kq cI cZ cP b I V P ++ cw cI b I V))) H := hP
    have hD : va_D A (dw cI cZ a X Y ++ (ppw cI cZ a X Y ++ (kq cI cZ cP b I V P ++ cw cI b I V))) := hD
    refine lv_iload_n B.hx B.hb dX3_draft_11 rfl (lv_at hl 4 rfl) ?_
    refine lv_iconst (v := (nI 0)) B.hx B.hb dX3_draft_12 (by decide) ?_
    refine lv_sipush (v := (nI 9999)) B.hx B.hb dX3_draft_13 (by decide) ?_
    refine q_callS (As := [.int y, .int (nI 0), .int (nI 9999)]) (rest := []) B hP hD hS ((c3_checkRange l hfl D cI cZ cP y (nI 0) (nI 9999)).fr0 (dw cI cZ a X Y ++ (ppw cI cZ a X Y ++ (kq cI cZ cP b I V P ++ cw cI b I V)))) (cwS 3 B.hts gX3_draft_X3_checkRange rfl rfl rfl (by decide +kernel) ⟨(Nat.le_of_ble_eq_true rfl), (Nat.le_of_ble_eq_true rfl)⟩) rfl hl.1 rfl (Nat.le_of_ble_eq_true rfl) dX3_draft_16 ⟨(Nat.le_of_ble_eq_true rfl), (Nat.le_of_ble_eq_true rfl)⟩ (fun E ce q9 H locs hx hP hS hce hcv hcl => ?_) (fun v u H locs hp hP hD hS => ?_)
    · exact q_xout B htb hP hS hce hcv hcl (Or.inl ⟨hx.1, by simp [kDraft, hx.2, hrg0]⟩) (Nat.le_of_ble_eq_true rfl) (Nat.le_of_ble_eq_true rfl)
    · obtain ⟨rfl, hrg1⟩ := hp
      have hP : va_P D vwCl (dw cI cZ a X Y ++ (ppw cI cZ a X Y ++ (kq cI cZ cP b I V P ++ cw cI b I V))) H := hP
      have hD : va_D A (dw cI cZ a X Y ++ (ppw cI cZ a X Y ++ (kq cI cZ cP b I V P ++ cw cI b I V))) := hD
      refine lv_aload B.hx B.hb dX3_draft_19 (lv_at hl 0 rfl) ?_
      refine q_get B hP (C := RX2) (ref := "PaperKeeper$Paper") (T := TX2) (N := 9) (ci := 2) hi2 rfl 6 rfl 6 (by decide) (by decide +kernel) rfl (v := .int (X 2)) rfl dX3_draft_21 ?_
      refine lv_if_eq (tgt := 37) B.hx B.hb dX3_draft_24 (by decide) (fun c1 => ?_) (fun c1 => ?_)
      · refine lv_aload B.hx B.hb dX3_draft_37 (lv_at hl 0 rfl) ?_
        refine lv_iconst (v := (nI 1)) B.hx B.hb dX3_draft_39 (by decide) ?_
        refine q_put B hP hD hS (C := RX2) (ref := "PaperKeeper$Paper") (T := TX2) (N := 9) (ci := 2) hi2 rfl tyX2 tyX2_ok nmX2 6 rfl 6 (by decide) (by decide +kernel) rfl rfl (by decide) (by decide) (Nat.le_of_ble_eq_true rfl) dX3_draft_40 (w' := dw cI cZ a (va_up X 2 (nI 1)) Y ++ (ppw cI cZ a (va_up X 2 (nI 1)) Y ++ (kq cI cZ cP b I V P ++ cw cI b I V))) rfl (fun H locs hP hD hS => ?_)
        refine lv_aload B.hx B.hb dX3_draft_43 (lv_at hl 0 rfl) ?_
        refine q_get B hP (C := RX2) (ref := "PaperKeeper$Paper") (T := TX2) (N := 9) (ci := 2) hi2 rfl 6 rfl 2 (by decide) (by decide +kernel) rfl (v := .ref (a 2)) rfl dX3_draft_45 ?_
        refine lv_iload_n B.hx B.hb dX3_draft_48 rfl (lv_at hl 3 rfl) ?_
        refine lv_iload_n B.hx B.hb dX3_draft_49 rfl (lv_at hl 4 rfl) ?_
        refine q_callV (As := [.int x, .int y]) (rest := []) B hP hD hS ((c1_begin l D cI cZ cP a (va_up X 2 (nI 1)) Y x y).fr (ppw cI cZ a (va_up X 2 (nI 1)) Y ++ (kq cI cZ cP b I V P ++ cw cI b I V))) (cwV 2 B.hts gX3_draft_X1_begin rfl rfl rfl (by decide +kernel) ⟨(Nat.le_of_ble_eq_true rfl), (Nat.le_of_ble_eq_true rfl)⟩) 0 1 rfl rfl rfl rfl hl.1 rfl (Nat.le_of_ble_eq_true rfl) dX3_draft_50 ⟨(Nat.le_of_ble_eq_true rfl), (Nat.le_of_ble_eq_true rfl)⟩ (fun E ce q9 H locs hx => False.elim hx) (fun v u H locs hp hP hD hS => ?_)
        obtain rfl := hp
        have hP : va_P D vwCl (dw cI cZ a (va_up (va_up (va_up (va_up (va_up (va_up (va_up X 2 (nI 1)) 5 x) 6 y) 7 ((nI 0) + nI 1)) 8 (nI 0)) 9 (nI 0)) 10 (nI 0)) (va_up (va_up (va_up Y 2 (zf (Y 2) 6)) 4 (zf (Y 4) 6)) 5 (zf (Y 5) 6)) ++ (ppw cI cZ a (va_up (va_up (va_up (va_up (va_up (va_up (va_up X 2 (nI 1)) 5 x) 6 y) 7 ((nI 0) + nI 1)) 8 (nI 0)) 9 (nI 0)) 10 (nI 0)) (va_up (va_up (va_up Y 2 (zf (Y 2) 6)) 4 (zf (Y 4) 6)) 5 (zf (Y 5) 6)) ++ (kq cI cZ cP b I V P ++ cw cI b I V))) H := hP
        have hD : va_D A (dw cI cZ a (va_up (va_up (va_up (va_up (va_up (va_up (va_up X 2 (nI 1)) 5 x) 6 y) 7 ((nI 0) + nI 1)) 8 (nI 0)) 9 (nI 0)) 10 (nI 0)) (va_up (va_up (va_up Y 2 (zf (Y 2) 6)) 4 (zf (Y 4) 6)) 5 (zf (Y 5) 6)) ++ (ppw cI cZ a (va_up (va_up (va_up (va_up (va_up (va_up (va_up X 2 (nI 1)) 5 x) 6 y) 7 ((nI 0) + nI 1)) 8 (nI 0)) 9 (nI 0)) 10 (nI 0)) (va_up (va_up (va_up Y 2 (zf (Y 2) 6)) 4 (zf (Y 4) 6)) 5 (zf (Y 5) 6)) ++ (kq cI cZ cP b I V P ++ cw cI b I V))) := hD
        exact q_vret B hr hP hD hS (u := ()) rfl ⟨rfl, by simp [kDraft, hrg0, hrg1, c1]⟩ (Nat.le_of_ble_eq_true rfl) (Nat.le_of_ble_eq_true rfl) dX3_draft_53
      · exact q_throw B hfl htb hP hS q_E_ISE (goodIn_app (goodIn_of [_, _] (by decide +kernel)) (goodIn_sub (fun w h => List.mem_cons_of_mem _ (List.mem_append_left _ (List.mem_append_left _ (List.mem_append_right _ h)))) q_allg_ISE)) (List.mem_of_getElem? (i := 3) rfl) hl.1 dX3_draft_27 dX3_draft_30 dX3_draft_31 dX3_draft_33 dX3_draft_36 ⟨(Nat.le_of_ble_eq_true rfl), (Nat.le_of_ble_eq_true rfl), (Nat.le_of_ble_eq_true rfl), (Nat.le_of_ble_eq_true rfl)⟩ (Or.inr ⟨rfl, by simp [kDraft, hrg0, hrg1, c1]⟩) (Nat.le_of_ble_eq_true rfl) (Nat.le_of_ble_eq_true rfl)
set_option maxHeartbeats 4000000 in
set_option maxRecDepth 100000 in
theorem c3_change (l : Launch) (hfl : l.stackTraces = false) (D : va_G) (cI cZ cP : ClassId) (b : Nat → Nat) (I : Nat → Int32) (V : Nat → Nat → Int32) (P : Nat → Option Nat) (a : Nat → Nat) (X : Nat → Int32) (Y : Nat → Nat → Int32) (j : Nat) (hj : j < 8) (hpj : P j = some (a 0)) (y : Int32) : q_C l yX3_change wsX3_change ({ frames := 7, cells := 3, slots := 18, locals := 104 }) D cI cZ cP [.ref (b 0), .int (nI j), .int y] (dw cI cZ a X Y ++ (ppw cI cZ a X Y ++ (kq cI cZ cP b I V P ++ cw cI b I V))) (S := Unit) (fun v _ => v = some (.int (X 7 + nI 1)) ∧ kChange y (X 2) (X 6) = 0) (fun _ => dw cI cZ a (va_up (va_up (va_up (va_up X 6 y) 7 ((X 7) + nI 1)) 9 (nI 0)) 10 (nI 0)) (va_up (va_up Y 2 (zf (Y 2) 6)) 5 (zf (Y 5) 6)) ++ (ppw cI cZ a (va_up (va_up (va_up (va_up X 6 y) 7 ((X 7) + nI 1)) 9 (nI 0)) 10 (nI 0)) (va_up (va_up Y 2 (zf (Y 2) 6)) 5 (zf (Y 5) 6)) ++ (kq cI cZ cP b I V P ++ cw cI b I V))) (fun E => (E = q_IAE ∧ kChange y (X 2) (X 6) = 2) ∨ (E = q_ISE ∧ kChange y (X 2) (X 6) = 3)) 3 18 := by
  refine q_of (cc := cX3_change) (maxL := 5) (ret := (some .int)) (by decide +kernel) rfl (Nat.le_of_ble_eq_true rfl) ?_
  intro p e s m below meth c A ls B hr htb hmn hP hD hS hl
  have hl : lv_has ls 5 [(0, .ref (b 0)), (1, .int (nI j)), (2, .int y)] := hl
  have hi1 : ∀ w ∈ u_ws RX1 TX1 12, w ∈ wsX3_change := by decide +kernel
  refine lv_aload_n B.hx B.hb dX3_change_0 rfl (lv_at hl 0 rfl) ?_
  refine lv_iload_n B.hx B.hb dX3_change_1 rfl (lv_at hl 1 rfl) ?_
  refine q_callV (As := [.int (nI j)]) (rest := []) B hP hD hS ((c3_paperAt l D cI cZ cP b I V P j (a 0) hj hpj).fl2 (dw cI cZ a X Y) (ppw cI cZ a X Y)) (cwV 1 B.hts gX3_change_X3_paperAt rfl rfl rfl (by decide +kernel) ⟨(Nat.le_of_ble_eq_true rfl), (Nat.le_of_ble_eq_true rfl)⟩) 10 3 rfl rfl rfl rfl hl.1 rfl (Nat.le_of_ble_eq_true rfl) dX3_change_2 ⟨(Nat.le_of_ble_eq_true rfl), (Nat.le_of_ble_eq_true rfl)⟩ (fun E ce q9 H locs hx => False.elim hx) (fun v u H locs hp hP hD hS => ?_)
  obtain rfl := hp
  have hP : va_P D vwCl (dw cI cZ a X Y ++ (ppw cI cZ a X Y ++ (kq cI cZ cP b I V P ++ cw cI b I V))) H := hP
  have hD : va_D A (dw cI cZ a X Y ++ (ppw cI cZ a X Y ++ (kq cI cZ cP b I V P ++ cw cI b I V))) := hD
  refine lv_astore_n (lv' := [(3, .ref (a 0)), (0, .ref (b 0)), (1, .int (nI j)), (2, .int y)]) B.hx B.hb dX3_change_5 rfl hl (by decide) rfl (fun ls hl => ?_)
  refine lv_iload_n B.hx B.hb dX3_change_6 rfl (lv_at hl 3 rfl) ?_
  refine lv_iconst (v := (nI 0)) B.hx B.hb dX3_change_7 (by decide) ?_
  refine lv_sipush (v := (nI 9999)) B.hx B.hb dX3_change_8 (by decide) ?_
  refine q_callS (As := [.int y, .int (nI 0), .int (nI 9999)]) (rest := []) B hP hD hS ((c3_checkRange l hfl D cI cZ cP y (nI 0) (nI 9999)).fr0 (dw cI cZ a X Y ++ (ppw cI cZ a X Y ++ (kq cI cZ cP b I V P ++ cw cI b I V)))) (cwS 3 B.hts gX3_change_X3_checkRange rfl rfl rfl (by decide +kernel) ⟨(Nat.le_of_ble_eq_true rfl), (Nat.le_of_ble_eq_true rfl)⟩) rfl hl.1 rfl (Nat.le_of_ble_eq_true rfl) dX3_change_11 ⟨(Nat.le_of_ble_eq_true rfl), (Nat.le_of_ble_eq_true rfl)⟩ (fun E ce q9 H locs hx hP hS hce hcv hcl => ?_) (fun v u H locs hp hP hD hS => ?_)
  · exact q_xout B htb hP hS hce hcv hcl (Or.inl ⟨hx.1, by simp [kChange, hx.2]⟩) (Nat.le_of_ble_eq_true rfl) (Nat.le_of_ble_eq_true rfl)
  · obtain ⟨rfl, hrg0⟩ := hp
    have hP : va_P D vwCl (dw cI cZ a X Y ++ (ppw cI cZ a X Y ++ (kq cI cZ cP b I V P ++ cw cI b I V))) H := hP
    have hD : va_D A (dw cI cZ a X Y ++ (ppw cI cZ a X Y ++ (kq cI cZ cP b I V P ++ cw cI b I V))) := hD
    refine lv_aload_n B.hx B.hb dX3_change_14 rfl (lv_at hl 0 rfl) ?_
    refine q_callS (As := [.ref (a 0)]) (rest := []) B hP hD hS ((c3_draftOf l hfl D cI cZ cP a X Y).fr2 (kq cI cZ cP b I V P ++ cw cI b I V)) (cwS 1 B.hts gX3_change_X3_draftOf rfl rfl rfl (by decide +kernel) ⟨(Nat.le_of_ble_eq_true rfl), (Nat.le_of_ble_eq_true rfl)⟩) rfl hl.1 rfl (Nat.le_of_ble_eq_true rfl) dX3_change_15 ⟨(Nat.le_of_ble_eq_true rfl), (Nat.le_of_ble_eq_true rfl)⟩ (fun E ce q9 H locs hx hP hS hce hcv hcl => ?_) (fun v u H locs hp hP hD hS => ?_)
    · exact q_xout B htb hP hS hce hcv hcl (Or.inr ⟨hx.1, by simp [kChange, hx.2, hrg0]⟩) (Nat.le_of_ble_eq_true rfl) (Nat.le_of_ble_eq_true rfl)
    · obtain ⟨rfl, hhd⟩ := hp
      have hP : va_P D vwCl (dw cI cZ a X Y ++ (ppw cI cZ a X Y ++ (kq cI cZ cP b I V P ++ cw cI b I V))) H := hP
      have hD : va_D A (dw cI cZ a X Y ++ (ppw cI cZ a X Y ++ (kq cI cZ cP b I V P ++ cw cI b I V))) := hD
      refine lv_astore (lv' := [(4, .ref (a 2)), (3, .ref (a 0)), (0, .ref (b 0)), (1, .int (nI j)), (2, .int y)]) B.hx B.hb dX3_change_18 hl (by decide) rfl (fun ls hl => ?_)
      refine lv_aload B.hx B.hb dX3_change_20 (lv_at hl 0 rfl) ?_
      refine q_get B hP (C := RX1) (ref := "PaperKeeper$Draft") (T := TX1) (N := 12) (ci := 1) hi1 rfl 0 rfl 6 (by decide) (by decide +kernel) rfl (v := .int (X 6)) rfl dX3_change_22 ?_
      refine lv_iload_n B.hx B.hb dX3_change_25 rfl (lv_at hl 4 rfl) ?_
      refine lv_icmp_ne (tgt := 39) B.hx B.hb dX3_change_26 (by decide) (fun c1 => ?_) (fun c1 => ?_)
      · refine lv_aload B.hx B.hb dX3_change_39 (lv_at hl 0 rfl) ?_
        refine lv_iload_n B.hx B.hb dX3_change_41 rfl (lv_at hl 4 rfl) ?_
        refine q_put B hP hD hS (C := RX1) (ref := "PaperKeeper$Draft") (T := TX1) (N := 12) (ci := 1) hi1 rfl tyX1 tyX1_ok nmX1 0 rfl 6 (by decide) (by decide +kernel) rfl rfl rfl (by rfl) (Nat.le_of_ble_eq_true rfl) dX3_change_42 (w' := dw cI cZ a (va_up X 6 y) Y ++ (ppw cI cZ a (va_up X 6 y) Y ++ (kq cI cZ cP b I V P ++ cw cI b I V))) rfl (fun H locs hP hD hS => ?_)
        refine lv_aload B.hx B.hb dX3_change_45 (lv_at hl 0 rfl) ?_
        refine q_callV (As := []) (rest := []) B hP hD hS ((c1_beginRound l D cI cZ cP a (va_up X 6 y) Y).fr (ppw cI cZ a (va_up X 6 y) Y ++ (kq cI cZ cP b I V P ++ cw cI b I V))) (cwV 0 B.hts gX3_change_X1_beginRound rfl rfl rfl (by decide +kernel) ⟨(Nat.le_of_ble_eq_true rfl), (Nat.le_of_ble_eq_true rfl)⟩) 0 1 rfl rfl rfl rfl hl.1 rfl (Nat.le_of_ble_eq_true rfl) dX3_change_47 ⟨(Nat.le_of_ble_eq_true rfl), (Nat.le_of_ble_eq_true rfl)⟩ (fun E ce q9 H locs hx => False.elim hx) (fun v u H locs hp hP hD hS => ?_)
        obtain rfl := hp
        have hP : va_P D vwCl (dw cI cZ a (va_up (va_up (va_up (va_up X 6 y) 7 ((X 7) + nI 1)) 9 (nI 0)) 10 (nI 0)) (va_up (va_up Y 2 (zf (Y 2) 6)) 5 (zf (Y 5) 6)) ++ (ppw cI cZ a (va_up (va_up (va_up (va_up X 6 y) 7 ((X 7) + nI 1)) 9 (nI 0)) 10 (nI 0)) (va_up (va_up Y 2 (zf (Y 2) 6)) 5 (zf (Y 5) 6)) ++ (kq cI cZ cP b I V P ++ cw cI b I V))) H := hP
        have hD : va_D A (dw cI cZ a (va_up (va_up (va_up (va_up X 6 y) 7 ((X 7) + nI 1)) 9 (nI 0)) 10 (nI 0)) (va_up (va_up Y 2 (zf (Y 2) 6)) 5 (zf (Y 5) 6)) ++ (ppw cI cZ a (va_up (va_up (va_up (va_up X 6 y) 7 ((X 7) + nI 1)) 9 (nI 0)) 10 (nI 0)) (va_up (va_up Y 2 (zf (Y 2) 6)) 5 (zf (Y 5) 6)) ++ (kq cI cZ cP b I V P ++ cw cI b I V))) := hD
        refine lv_aload B.hx B.hb dX3_change_50 (lv_at hl 0 rfl) ?_
        refine q_get B hP (C := RX1) (ref := "PaperKeeper$Draft") (T := TX1) (N := 12) (ci := 1) hi1 rfl 0 rfl 7 (by decide) (by decide +kernel) rfl (v := .int ((X 7) + nI 1)) rfl dX3_change_52 ?_
        exact q_iret B hr hP hD hS (u := ()) rfl ⟨rfl, by simp [kChange, hrg0, hhd, c1]⟩ (Nat.le_of_ble_eq_true rfl) (Nat.le_of_ble_eq_true rfl) dX3_change_55
      · exact q_throw B hfl htb hP hS q_E_ISE (goodIn_app (goodIn_of [_, _] (by decide +kernel)) (goodIn_sub (fun w h => List.mem_cons_of_mem _ (List.mem_append_left _ (List.mem_append_left _ (List.mem_append_right _ h)))) q_allg_ISE)) (List.mem_of_getElem? (i := 4) rfl) hl.1 dX3_change_29 dX3_change_32 dX3_change_33 dX3_change_35 dX3_change_38 ⟨(Nat.le_of_ble_eq_true rfl), (Nat.le_of_ble_eq_true rfl), (Nat.le_of_ble_eq_true rfl), (Nat.le_of_ble_eq_true rfl)⟩ (Or.inr ⟨rfl, by simp [kChange, hrg0, hhd, c1]⟩) (Nat.le_of_ble_eq_true rfl) (Nat.le_of_ble_eq_true rfl)
set_option maxHeartbeats 4000000 in
set_option maxRecDepth 100000 in
theorem c3_drop (l : Launch) (hfl : l.stackTraces = false) (D : va_G) (cI cZ cP : ClassId) (b : Nat → Nat) (I : Nat → Int32) (V : Nat → Nat → Int32) (P : Nat → Option Nat) (a : Nat → Nat) (X : Nat → Int32) (Y : Nat → Nat → Int32) (j : Nat) (hj : j < 8) (hpj : P j = some (a 0)) : q_C l yX3_drop wsX3_drop ({ frames := 7, cells := 1, slots := 6, locals := 102 }) D cI cZ cP [.ref (b 0), .int (nI j)] (dw cI cZ a X Y ++ (ppw cI cZ a X Y ++ (kq cI cZ cP b I V P ++ cw cI b I V))) (S := Unit) (fun v _ => v = some (.int (X 6)) ∧ kDrop (X 2) = 0) (fun _ => dw cI cZ a (va_up X 2 (nI 0)) Y ++ (ppw cI cZ a (va_up X 2 (nI 0)) Y ++ (kq cI cZ cP b I V P ++ cw cI b I V))) (fun E => E = q_ISE ∧ kDrop (X 2) = 2) 1 6 := by
  refine q_of (cc := cX3_drop) (maxL := 4) (ret := (some .int)) (by decide +kernel) rfl (Nat.le_of_ble_eq_true rfl) ?_
  intro p e s m below meth c A ls B hr htb hmn hP hD hS hl
  have hl : lv_has ls 4 [(0, .ref (b 0)), (1, .int (nI j))] := hl
  have hi1 : ∀ w ∈ u_ws RX1 TX1 12, w ∈ wsX3_drop := by decide +kernel
  have hi2 : ∀ w ∈ u_ws RX2 TX2 9, w ∈ wsX3_drop := by decide +kernel
  refine lv_aload_n B.hx B.hb dX3_drop_0 rfl (lv_at hl 0 rfl) ?_
  refine lv_iload_n B.hx B.hb dX3_drop_1 rfl (lv_at hl 1 rfl) ?_
  refine q_callV (As := [.int (nI j)]) (rest := []) B hP hD hS ((c3_paperAt l D cI cZ cP b I V P j (a 0) hj hpj).fl2 (dw cI cZ a X Y) (ppw cI cZ a X Y)) (cwV 1 B.hts gX3_drop_X3_paperAt rfl rfl rfl (by decide +kernel) ⟨(Nat.le_of_ble_eq_true rfl), (Nat.le_of_ble_eq_true rfl)⟩) 10 3 rfl rfl rfl rfl hl.1 rfl (Nat.le_of_ble_eq_true rfl) dX3_drop_2 ⟨(Nat.le_of_ble_eq_true rfl), (Nat.le_of_ble_eq_true rfl)⟩ (fun E ce q9 H locs hx => False.elim hx) (fun v u H locs hp hP hD hS => ?_)
  obtain rfl := hp
  have hP : va_P D vwCl (dw cI cZ a X Y ++ (ppw cI cZ a X Y ++ (kq cI cZ cP b I V P ++ cw cI b I V))) H := hP
  have hD : va_D A (dw cI cZ a X Y ++ (ppw cI cZ a X Y ++ (kq cI cZ cP b I V P ++ cw cI b I V))) := hD
  refine lv_astore_n (lv' := [(2, .ref (a 0)), (0, .ref (b 0)), (1, .int (nI j))]) B.hx B.hb dX3_drop_5 rfl hl (by decide) rfl (fun ls hl => ?_)
  refine lv_aload_n B.hx B.hb dX3_drop_6 rfl (lv_at hl 0 rfl) ?_
  refine q_callS (As := [.ref (a 0)]) (rest := []) B hP hD hS ((c3_draftOf l hfl D cI cZ cP a X Y).fr2 (kq cI cZ cP b I V P ++ cw cI b I V)) (cwS 1 B.hts gX3_drop_X3_draftOf rfl rfl rfl (by decide +kernel) ⟨(Nat.le_of_ble_eq_true rfl), (Nat.le_of_ble_eq_true rfl)⟩) rfl hl.1 rfl (Nat.le_of_ble_eq_true rfl) dX3_drop_7 ⟨(Nat.le_of_ble_eq_true rfl), (Nat.le_of_ble_eq_true rfl)⟩ (fun E ce q9 H locs hx hP hS hce hcv hcl => ?_) (fun v u H locs hp hP hD hS => ?_)
  · exact q_xout B htb hP hS hce hcv hcl ⟨hx.1, by simp [kDrop, hx.2]⟩ (Nat.le_of_ble_eq_true rfl) (Nat.le_of_ble_eq_true rfl)
  · obtain ⟨rfl, hhd⟩ := hp
    have hP : va_P D vwCl (dw cI cZ a X Y ++ (ppw cI cZ a X Y ++ (kq cI cZ cP b I V P ++ cw cI b I V))) H := hP
    have hD : va_D A (dw cI cZ a X Y ++ (ppw cI cZ a X Y ++ (kq cI cZ cP b I V P ++ cw cI b I V))) := hD
    refine lv_astore_n (lv' := [(3, .ref (a 2)), (2, .ref (a 0)), (0, .ref (b 0)), (1, .int (nI j))]) B.hx B.hb dX3_drop_10 rfl hl (by decide) rfl (fun ls hl => ?_)
    refine lv_aload_n B.hx B.hb dX3_drop_11 rfl (lv_at hl 1 rfl) ?_
    refine lv_iconst (v := (nI 0)) B.hx B.hb dX3_drop_12 (by decide) ?_
    refine q_put B hP hD hS (C := RX2) (ref := "PaperKeeper$Paper") (T := TX2) (N := 9) (ci := 2) hi2 rfl tyX2 tyX2_ok nmX2 6 rfl 6 (by decide) (by decide +kernel) rfl rfl (by decide) (by decide) (Nat.le_of_ble_eq_true rfl) dX3_drop_13 (w' := dw cI cZ a (va_up X 2 (nI 0)) Y ++ (ppw cI cZ a (va_up X 2 (nI 0)) Y ++ (kq cI cZ cP b I V P ++ cw cI b I V))) rfl (fun H locs hP hD hS => ?_)
    refine lv_aload_n B.hx B.hb dX3_drop_16 rfl (lv_at hl 0 rfl) ?_
    refine q_get B hP (C := RX1) (ref := "PaperKeeper$Draft") (T := TX1) (N := 12) (ci := 1) hi1 rfl 0 rfl 6 (by decide) (by decide +kernel) rfl (v := .int (X 6)) rfl dX3_drop_17 ?_
    exact q_iret B hr hP hD hS (u := ()) rfl ⟨rfl, by simp [kDrop, hhd]⟩ (Nat.le_of_ble_eq_true rfl) (Nat.le_of_ble_eq_true rfl) dX3_drop_20
set_option maxHeartbeats 4000000 in
set_option maxRecDepth 100000 in
theorem c3_reviewer (l : Launch) (hfl : l.stackTraces = false) (D : va_G) (cI cZ cP : ClassId) (b : Nat → Nat) (I : Nat → Int32) (V : Nat → Nat → Int32) (P : Nat → Option Nat) (a : Nat → Nat) (X : Nat → Int32) (Y : Nat → Nat → Int32) (j : Nat) (hj : j < 8) (hpj : P j = some (a 0)) (n k : Nat) (hW : wd X Y n k) (x : Int32) : q_C l yX3_reviewer wsX3_reviewer ({ frames := 8, cells := 3, slots := 18, locals := 124 }) D cI cZ cP [.ref (b 0), .int (nI j), .int x] (dw cI cZ a X Y ++ (ppw cI cZ a X Y ++ (kq cI cZ cP b I V P ++ cw cI b I V))) (S := Unit) (fun v _ => v = some (.int (nI (n + 1))) ∧ kReviewer x (X 2) (X 10) (X 5) (V 0 (ix x)) (pX (fun i => decide (Y 1 i = x)) n 0) n = 0) (fun _ => dw cI cZ a (va_up X 8 (nI ((n + 1)))) (va_up Y 1 (upd (Y 1) n x)) ++ (ppw cI cZ a (va_up X 8 (nI ((n + 1)))) (va_up Y 1 (upd (Y 1) n x)) ++ (kq cI cZ cP b I V P ++ cw cI b I V))) (fun E => (E = q_IAE ∧ kReviewer x (X 2) (X 10) (X 5) (V 0 (ix x)) (pX (fun i => decide (Y 1 i = x)) n 0) n = 2) ∨ (E = q_ISE ∧ kReviewer x (X 2) (X 10) (X 5) (V 0 (ix x)) (pX (fun i => decide (Y 1 i = x)) n 0) n = 3)) 3 18 := by
  refine q_of (cc := cX3_reviewer) (maxL := 5) (ret := (some .int)) (by decide +kernel) rfl (Nat.le_of_ble_eq_true rfl) ?_
  intro p e s m below meth c A ls B hr htb hmn hP hD hS hl
  have hl : lv_has ls 5 [(0, .ref (b 0)), (1, .int (nI j)), (2, .int x)] := hl
  have hi1 : ∀ w ∈ u_ws RX1 TX1 12, w ∈ wsX3_reviewer := by decide +kernel
  have hi3 : ∀ w ∈ u_ws RX3 TX3 8, w ∈ wsX3_reviewer := by decide +kernel
  obtain ⟨hn, hn4, hm, hm4, hv⟩ := id hW
  refine lv_aload_n B.hx B.hb dX3_reviewer_0 rfl (lv_at hl 0 rfl) ?_
  refine lv_iload_n B.hx B.hb dX3_reviewer_1 rfl (lv_at hl 1 rfl) ?_
  refine q_callV (As := [.int (nI j)]) (rest := []) B hP hD hS ((c3_paperAt l D cI cZ cP b I V P j (a 0) hj hpj).fl2 (dw cI cZ a X Y) (ppw cI cZ a X Y)) (cwV 1 B.hts gX3_reviewer_X3_paperAt rfl rfl rfl (by decide +kernel) ⟨(Nat.le_of_ble_eq_true rfl), (Nat.le_of_ble_eq_true rfl)⟩) 10 3 rfl rfl rfl rfl hl.1 rfl (Nat.le_of_ble_eq_true rfl) dX3_reviewer_2 ⟨(Nat.le_of_ble_eq_true rfl), (Nat.le_of_ble_eq_true rfl)⟩ (fun E ce q9 H locs hx => False.elim hx) (fun v u H locs hp hP hD hS => ?_)
  obtain rfl := hp
  have hP : va_P D vwCl (dw cI cZ a X Y ++ (ppw cI cZ a X Y ++ (kq cI cZ cP b I V P ++ cw cI b I V))) H := hP
  have hD : va_D A (dw cI cZ a X Y ++ (ppw cI cZ a X Y ++ (kq cI cZ cP b I V P ++ cw cI b I V))) := hD
  refine lv_astore_n (lv' := [(3, .ref (a 0)), (0, .ref (b 0)), (1, .int (nI j)), (2, .int x)]) B.hx B.hb dX3_reviewer_5 rfl hl (by decide) rfl (fun ls hl => ?_)
  refine lv_iload_n B.hx B.hb dX3_reviewer_6 rfl (lv_at hl 3 rfl) ?_
  refine q_callS (As := [.int x]) (rest := []) B hP hD hS ((c3_checkPerson l hfl D cI cZ cP x).fr0 (dw cI cZ a X Y ++ (ppw cI cZ a X Y ++ (kq cI cZ cP b I V P ++ cw cI b I V)))) (cwS 1 B.hts gX3_reviewer_X3_checkPerson rfl rfl rfl (by decide +kernel) ⟨(Nat.le_of_ble_eq_true rfl), (Nat.le_of_ble_eq_true rfl)⟩) rfl hl.1 rfl (Nat.le_of_ble_eq_true rfl) dX3_reviewer_7 ⟨(Nat.le_of_ble_eq_true rfl), (Nat.le_of_ble_eq_true rfl)⟩ (fun E ce q9 H locs hx hP hS hce hcv hcl => ?_) (fun v u H locs hp hP hD hS => ?_)
  · exact q_xout B htb hP hS hce hcv hcl (Or.inl ⟨hx.1, by simp [kReviewer, hx.2]⟩) (Nat.le_of_ble_eq_true rfl) (Nat.le_of_ble_eq_true rfl)
  · obtain ⟨rfl, hrg0⟩ := hp
    have hP : va_P D vwCl (dw cI cZ a X Y ++ (ppw cI cZ a X Y ++ (kq cI cZ cP b I V P ++ cw cI b I V))) H := hP
    have hD : va_D A (dw cI cZ a X Y ++ (ppw cI cZ a X Y ++ (kq cI cZ cP b I V P ++ cw cI b I V))) := hD
    obtain ⟨j2, hjj2, rfl⟩ := rg_j (by decide) hrg0
    have hixj2 : ix (nI j2) = j2 := ix_nI (by omega)
    have hnmj2 : ¬ nI j2 = -1 := nI_nm1 (by omega)
    refine lv_aload_n B.hx B.hb dX3_reviewer_10 rfl (lv_at hl 0 rfl) ?_
    refine q_callS (As := [.ref (a 0)]) (rest := []) B hP hD hS ((c3_draftOf l hfl D cI cZ cP a X Y).fr2 (kq cI cZ cP b I V P ++ cw cI b I V)) (cwS 1 B.hts gX3_reviewer_X3_draftOf rfl rfl rfl (by decide +kernel) ⟨(Nat.le_of_ble_eq_true rfl), (Nat.le_of_ble_eq_true rfl)⟩) rfl hl.1 rfl (Nat.le_of_ble_eq_true rfl) dX3_reviewer_11 ⟨(Nat.le_of_ble_eq_true rfl), (Nat.le_of_ble_eq_true rfl)⟩ (fun E ce q9 H locs hx hP hS hce hcv hcl => ?_) (fun v u H locs hp hP hD hS => ?_)
    · exact q_xout B htb hP hS hce hcv hcl (Or.inr ⟨hx.1, by simp [kReviewer, hx.2, hrg0, hixj2, hnmj2]⟩) (Nat.le_of_ble_eq_true rfl) (Nat.le_of_ble_eq_true rfl)
    · obtain ⟨rfl, hhd⟩ := hp
      have hP : va_P D vwCl (dw cI cZ a X Y ++ (ppw cI cZ a X Y ++ (kq cI cZ cP b I V P ++ cw cI b I V))) H := hP
      have hD : va_D A (dw cI cZ a X Y ++ (ppw cI cZ a X Y ++ (kq cI cZ cP b I V P ++ cw cI b I V))) := hD
      refine lv_astore (lv' := [(4, .ref (a 2)), (3, .ref (a 0)), (0, .ref (b 0)), (1, .int (nI j)), (2, .int (nI j2))]) B.hx B.hb dX3_reviewer_14 hl (by decide) rfl (fun ls hl => ?_)
      refine lv_aload B.hx B.hb dX3_reviewer_16 (lv_at hl 0 rfl) ?_
      refine q_get B hP (C := RX1) (ref := "PaperKeeper$Draft") (T := TX1) (N := 12) (ci := 1) hi1 rfl 0 rfl 10 (by decide) (by decide +kernel) rfl (v := .int (X 10)) rfl dX3_reviewer_18 ?_
      refine lv_if_eq (tgt := 34) B.hx B.hb dX3_reviewer_21 (by decide) (fun c1 => ?_) (fun c1 => ?_)
      · refine lv_iload_n B.hx B.hb dX3_reviewer_34 rfl (lv_at hl 4 rfl) ?_
        refine lv_aload B.hx B.hb dX3_reviewer_35 (lv_at hl 0 rfl) ?_
        refine q_get B hP (C := RX1) (ref := "PaperKeeper$Draft") (T := TX1) (N := 12) (ci := 1) hi1 rfl 0 rfl 5 (by decide) (by decide +kernel) rfl (v := .int (X 5)) rfl dX3_reviewer_37 ?_
        refine lv_icmp_eq (tgt := 52) B.hx B.hb dX3_reviewer_40 (by decide) (fun c2 => ?_) (fun c2 => ?_)
        · replace c2 := c2.symm
          exact q_throw B hfl htb hP hS q_E_ISE (goodIn_app (goodIn_of [_, _] (by decide +kernel)) (goodIn_sub (fun w h => List.mem_cons_of_mem _ (List.mem_append_left _ (List.mem_append_left _ (List.mem_append_right _ h)))) q_allg_ISE)) (List.mem_of_getElem? (i := 6) rfl) hl.1 dX3_reviewer_52 dX3_reviewer_55 dX3_reviewer_56 dX3_reviewer_58 dX3_reviewer_61 ⟨(Nat.le_of_ble_eq_true rfl), (Nat.le_of_ble_eq_true rfl), (Nat.le_of_ble_eq_true rfl), (Nat.le_of_ble_eq_true rfl)⟩ (Or.inr ⟨rfl, by simp [kReviewer, hrg0, hhd, c1, c2, hixj2, hnmj2]⟩) (Nat.le_of_ble_eq_true rfl) (Nat.le_of_ble_eq_true rfl)
        · refine lv_aload_n B.hx B.hb dX3_reviewer_43 rfl (lv_at hl 2 rfl) ?_
          refine q_get B hP (C := RX3) (ref := "PaperKeeper") (T := TX3) (N := 8) (ci := 3) hi3 rfl 10 rfl 0 (by decide) (by decide +kernel) rfl (v := .ref (b 1)) rfl dX3_reviewer_44 ?_
          refine lv_iload_n B.hx B.hb dX3_reviewer_47 rfl (lv_at hl 4 rfl) ?_
          refine q_zald B hP 11 rfl (j := j2) rfl (by omega) (by decide) dX3_reviewer_48 ?_
          refine lv_if_ne (tgt := 62) B.hx B.hb dX3_reviewer_49 (by decide) (fun c3 => ?_) (fun c3 => ?_)
          · refine lv_aload B.hx B.hb dX3_reviewer_62 (lv_at hl 0 rfl) ?_
            refine lv_iload_n B.hx B.hb dX3_reviewer_64 rfl (lv_at hl 4 rfl) ?_
            refine q_callV (As := [.int (nI j2)]) (rest := []) B hP hD hS ((c1_hasReviewer l D cI cZ cP a X Y (nI j2) n hn hn4).fr (ppw cI cZ a X Y ++ (kq cI cZ cP b I V P ++ cw cI b I V))) (cwV 1 B.hts gX3_reviewer_X1_hasReviewer rfl rfl rfl (by decide +kernel) ⟨(Nat.le_of_ble_eq_true rfl), (Nat.le_of_ble_eq_true rfl)⟩) 0 1 rfl rfl rfl rfl hl.1 rfl (Nat.le_of_ble_eq_true rfl) dX3_reviewer_65 ⟨(Nat.le_of_ble_eq_true rfl), (Nat.le_of_ble_eq_true rfl)⟩ (fun E ce q9 H locs hx => False.elim hx) (fun v u H locs hp hP hD hS => ?_)
            replace hp := q_if2 hp
            rcases hp with ⟨rfl, hnm⟩ | ⟨rfl, hnm⟩
            · have hP : va_P D vwCl (dw cI cZ a X Y ++ (ppw cI cZ a X Y ++ (kq cI cZ cP b I V P ++ cw cI b I V))) H := hP
              have hD : va_D A (dw cI cZ a X Y ++ (ppw cI cZ a X Y ++ (kq cI cZ cP b I V P ++ cw cI b I V))) := hD
              refine lv_if_ne (tgt := 80) B.hx B.hb dX3_reviewer_68 (by decide) (fun _ => ?_) (fun c4 => absurd c4 (by decide))
              exact q_throw B hfl htb hP hS q_E_ISE (goodIn_app (goodIn_of [_, _] (by decide +kernel)) (goodIn_sub (fun w h => List.mem_cons_of_mem _ (List.mem_append_left _ (List.mem_append_left _ (List.mem_append_right _ h)))) q_allg_ISE)) (List.mem_of_getElem? (i := 7) rfl) hl.1 dX3_reviewer_80 dX3_reviewer_83 dX3_reviewer_84 dX3_reviewer_86 dX3_reviewer_89 ⟨(Nat.le_of_ble_eq_true rfl), (Nat.le_of_ble_eq_true rfl), (Nat.le_of_ble_eq_true rfl), (Nat.le_of_ble_eq_true rfl)⟩ (Or.inr ⟨rfl, by simp [kReviewer, hrg0, hhd, c1, c2, c3, hnm, hixj2, hnmj2]⟩) (Nat.le_of_ble_eq_true rfl) (Nat.le_of_ble_eq_true rfl)
            · have hP : va_P D vwCl (dw cI cZ a X Y ++ (ppw cI cZ a X Y ++ (kq cI cZ cP b I V P ++ cw cI b I V))) H := hP
              have hD : va_D A (dw cI cZ a X Y ++ (ppw cI cZ a X Y ++ (kq cI cZ cP b I V P ++ cw cI b I V))) := hD
              refine lv_if_ne (tgt := 80) B.hx B.hb dX3_reviewer_68 (by decide) (fun c5 => absurd c5 (by decide)) (fun _ => ?_)
              refine lv_aload B.hx B.hb dX3_reviewer_71 (lv_at hl 0 rfl) ?_
              refine q_get B hP (C := RX1) (ref := "PaperKeeper$Draft") (T := TX1) (N := 12) (ci := 1) hi1 rfl 0 rfl 8 (by decide) (by decide +kernel) rfl (v := .int (X 8)) rfl dX3_reviewer_73 ?_
              refine q_top (v2 := .int (nI n)) (congrArg Value.int hn) ?_
              refine lv_iconst (v := (nI 4)) B.hx B.hb dX3_reviewer_76 (by decide) ?_
              refine lv_icmp_lt (tgt := 90) B.hx B.hb dX3_reviewer_77 (by decide) (fun c6 => ?_) (fun c6 => ?_)
              · replace c6 := (nI_ltI (by omega) (by omega)).mp c6
                refine lv_aload B.hx B.hb dX3_reviewer_90 (lv_at hl 0 rfl) ?_
                refine q_get B hP (C := RX1) (ref := "PaperKeeper$Draft") (T := TX1) (N := 12) (ci := 1) hi1 rfl 0 rfl 0 (by decide) (by decide +kernel) rfl (v := .ref (a 3)) rfl dX3_reviewer_92 ?_
                refine lv_aload B.hx B.hb dX3_reviewer_95 (lv_at hl 0 rfl) ?_
                refine q_get B hP (C := RX1) (ref := "PaperKeeper$Draft") (T := TX1) (N := 12) (ci := 1) hi1 rfl 0 rfl 8 (by decide) (by decide +kernel) rfl (v := .int (X 8)) rfl dX3_reviewer_97 ?_
                refine q_top (v2 := .int (nI n)) (congrArg Value.int hn) ?_
                refine lv_iload_n B.hx B.hb dX3_reviewer_100 rfl (lv_at hl 4 rfl) ?_
                refine q_iast B hP hD hS 1 rfl (j := n) rfl (by omega) (by decide) dX3_reviewer_101 (w' := dw cI cZ a X (va_up Y 1 (upd (Y 1) n (nI j2))) ++ (ppw cI cZ a X (va_up Y 1 (upd (Y 1) n (nI j2))) ++ (kq cI cZ cP b I V P ++ cw cI b I V))) rfl (fun H locs hP hD hS => ?_)
                refine lv_aload B.hx B.hb dX3_reviewer_102 (lv_at hl 0 rfl) ?_
                refine lv_dup B.hx B.hb dX3_reviewer_104 rfl ?_
                refine q_get B hP (C := RX1) (ref := "PaperKeeper$Draft") (T := TX1) (N := 12) (ci := 1) hi1 rfl 0 rfl 8 (by decide) (by decide +kernel) rfl (v := .int (X 8)) rfl dX3_reviewer_105 ?_
                refine q_top (v2 := .int (nI n)) (congrArg Value.int hn) ?_
                refine lv_iconst (v := (nI 1)) B.hx B.hb dX3_reviewer_108 (by decide) ?_
                refine lv_iadd B.hx B.hb dX3_reviewer_109 ?_
                refine q_top (v2 := .int (nI ((n + 1)))) (congrArg Value.int (nI_add _ _)) ?_
                refine q_put B hP hD hS (C := RX1) (ref := "PaperKeeper$Draft") (T := TX1) (N := 12) (ci := 1) hi1 rfl tyX1 tyX1_ok nmX1 0 rfl 8 (by decide) (by decide +kernel) rfl rfl rfl (by rfl) (Nat.le_of_ble_eq_true rfl) dX3_reviewer_110 (w' := dw cI cZ a (va_up X 8 (nI ((n + 1)))) (va_up Y 1 (upd (Y 1) n (nI j2))) ++ (ppw cI cZ a (va_up X 8 (nI ((n + 1)))) (va_up Y 1 (upd (Y 1) n (nI j2))) ++ (kq cI cZ cP b I V P ++ cw cI b I V))) rfl (fun H locs hP hD hS => ?_)
                refine lv_aload B.hx B.hb dX3_reviewer_113 (lv_at hl 0 rfl) ?_
                refine q_get B hP (C := RX1) (ref := "PaperKeeper$Draft") (T := TX1) (N := 12) (ci := 1) hi1 rfl 0 rfl 8 (by decide) (by decide +kernel) rfl (v := .int (nI ((n + 1)))) rfl dX3_reviewer_115 ?_
                exact q_iret B hr hP hD hS (u := ()) rfl ⟨rfl, by simp [kReviewer, hrg0, hhd, c1, c2, c3, hnm, c6, hixj2, hnmj2]⟩ (Nat.le_of_ble_eq_true rfl) (Nat.le_of_ble_eq_true rfl) dX3_reviewer_118
              · replace c6 := mt (nI_ltI (by omega) (by omega)).mpr c6
                exact q_throw B hfl htb hP hS q_E_ISE (goodIn_app (goodIn_of [_, _] (by decide +kernel)) (goodIn_sub (fun w h => List.mem_cons_of_mem _ (List.mem_append_left _ (List.mem_append_left _ (List.mem_append_right _ h)))) q_allg_ISE)) (List.mem_of_getElem? (i := 7) rfl) hl.1 dX3_reviewer_80 dX3_reviewer_83 dX3_reviewer_84 dX3_reviewer_86 dX3_reviewer_89 ⟨(Nat.le_of_ble_eq_true rfl), (Nat.le_of_ble_eq_true rfl), (Nat.le_of_ble_eq_true rfl), (Nat.le_of_ble_eq_true rfl)⟩ (Or.inr ⟨rfl, by simp [kReviewer, hrg0, hhd, c1, c2, c3, hnm, c6, hixj2, hnmj2]⟩) (Nat.le_of_ble_eq_true rfl) (Nat.le_of_ble_eq_true rfl)
          · exact q_throw B hfl htb hP hS q_E_ISE (goodIn_app (goodIn_of [_, _] (by decide +kernel)) (goodIn_sub (fun w h => List.mem_cons_of_mem _ (List.mem_append_left _ (List.mem_append_left _ (List.mem_append_right _ h)))) q_allg_ISE)) (List.mem_of_getElem? (i := 6) rfl) hl.1 dX3_reviewer_52 dX3_reviewer_55 dX3_reviewer_56 dX3_reviewer_58 dX3_reviewer_61 ⟨(Nat.le_of_ble_eq_true rfl), (Nat.le_of_ble_eq_true rfl), (Nat.le_of_ble_eq_true rfl), (Nat.le_of_ble_eq_true rfl)⟩ (Or.inr ⟨rfl, by simp [kReviewer, hrg0, hhd, c1, c2, c3, hixj2, hnmj2]⟩) (Nat.le_of_ble_eq_true rfl) (Nat.le_of_ble_eq_true rfl)
      · exact q_throw B hfl htb hP hS q_E_ISE (goodIn_app (goodIn_of [_, _] (by decide +kernel)) (goodIn_sub (fun w h => List.mem_cons_of_mem _ (List.mem_append_left _ (List.mem_append_left _ (List.mem_append_right _ h)))) q_allg_ISE)) (List.mem_of_getElem? (i := 5) rfl) hl.1 dX3_reviewer_24 dX3_reviewer_27 dX3_reviewer_28 dX3_reviewer_30 dX3_reviewer_33 ⟨(Nat.le_of_ble_eq_true rfl), (Nat.le_of_ble_eq_true rfl), (Nat.le_of_ble_eq_true rfl), (Nat.le_of_ble_eq_true rfl)⟩ (Or.inr ⟨rfl, by simp [kReviewer, hrg0, hhd, c1, hixj2, hnmj2]⟩) (Nat.le_of_ble_eq_true rfl) (Nat.le_of_ble_eq_true rfl)
set_option maxHeartbeats 4000000 in
set_option maxRecDepth 100000 in
theorem c3_reader (l : Launch) (hfl : l.stackTraces = false) (D : va_G) (cI cZ cP : ClassId) (b : Nat → Nat) (I : Nat → Int32) (V : Nat → Nat → Int32) (P : Nat → Option Nat) (a : Nat → Nat) (X : Nat → Int32) (Y : Nat → Nat → Int32) (j : Nat) (hj : j < 8) (hpj : P j = some (a 0)) (x : Int32) : q_C l yX3_reader wsX3_reader ({ frames := 8, cells := 3, slots := 18, locals := 124 }) D cI cZ cP [.ref (b 0), .int (nI j), .int x] (dw cI cZ a X Y ++ (ppw cI cZ a X Y ++ (kq cI cZ cP b I V P ++ cw cI b I V))) (S := Unit) (fun v _ => v = some (.int (nI (pN (fun i => decide (¬ (upd (Y 4) (ix x) (nI 1)) i = 0)) 6))) ∧ kReader x (X 2) (Y 4 (ix x)) = 0) (fun _ => dw cI cZ a X (va_up Y 4 (upd (Y 4) (ix x) (nI 1))) ++ (ppw cI cZ a X (va_up Y 4 (upd (Y 4) (ix x) (nI 1))) ++ (kq cI cZ cP b I V P ++ cw cI b I V))) (fun E => (E = q_IAE ∧ kReader x (X 2) (Y 4 (ix x)) = 2) ∨ (E = q_ISE ∧ kReader x (X 2) (Y 4 (ix x)) = 3)) 3 18 := by
  refine q_of (cc := cX3_reader) (maxL := 5) (ret := (some .int)) (by decide +kernel) rfl (Nat.le_of_ble_eq_true rfl) ?_
  intro p e s m below meth c A ls B hr htb hmn hP hD hS hl
  have hl : lv_has ls 5 [(0, .ref (b 0)), (1, .int (nI j)), (2, .int x)] := hl
  have hi1 : ∀ w ∈ u_ws RX1 TX1 12, w ∈ wsX3_reader := by decide +kernel
  refine lv_aload_n B.hx B.hb dX3_reader_0 rfl (lv_at hl 0 rfl) ?_
  refine lv_iload_n B.hx B.hb dX3_reader_1 rfl (lv_at hl 1 rfl) ?_
  refine q_callV (As := [.int (nI j)]) (rest := []) B hP hD hS ((c3_paperAt l D cI cZ cP b I V P j (a 0) hj hpj).fl2 (dw cI cZ a X Y) (ppw cI cZ a X Y)) (cwV 1 B.hts gX3_reader_X3_paperAt rfl rfl rfl (by decide +kernel) ⟨(Nat.le_of_ble_eq_true rfl), (Nat.le_of_ble_eq_true rfl)⟩) 10 3 rfl rfl rfl rfl hl.1 rfl (Nat.le_of_ble_eq_true rfl) dX3_reader_2 ⟨(Nat.le_of_ble_eq_true rfl), (Nat.le_of_ble_eq_true rfl)⟩ (fun E ce q9 H locs hx => False.elim hx) (fun v u H locs hp hP hD hS => ?_)
  obtain rfl := hp
  have hP : va_P D vwCl (dw cI cZ a X Y ++ (ppw cI cZ a X Y ++ (kq cI cZ cP b I V P ++ cw cI b I V))) H := hP
  have hD : va_D A (dw cI cZ a X Y ++ (ppw cI cZ a X Y ++ (kq cI cZ cP b I V P ++ cw cI b I V))) := hD
  refine lv_astore_n (lv' := [(3, .ref (a 0)), (0, .ref (b 0)), (1, .int (nI j)), (2, .int x)]) B.hx B.hb dX3_reader_5 rfl hl (by decide) rfl (fun ls hl => ?_)
  refine lv_iload_n B.hx B.hb dX3_reader_6 rfl (lv_at hl 3 rfl) ?_
  refine q_callS (As := [.int x]) (rest := []) B hP hD hS ((c3_checkPerson l hfl D cI cZ cP x).fr0 (dw cI cZ a X Y ++ (ppw cI cZ a X Y ++ (kq cI cZ cP b I V P ++ cw cI b I V)))) (cwS 1 B.hts gX3_reader_X3_checkPerson rfl rfl rfl (by decide +kernel) ⟨(Nat.le_of_ble_eq_true rfl), (Nat.le_of_ble_eq_true rfl)⟩) rfl hl.1 rfl (Nat.le_of_ble_eq_true rfl) dX3_reader_7 ⟨(Nat.le_of_ble_eq_true rfl), (Nat.le_of_ble_eq_true rfl)⟩ (fun E ce q9 H locs hx hP hS hce hcv hcl => ?_) (fun v u H locs hp hP hD hS => ?_)
  · exact q_xout B htb hP hS hce hcv hcl (Or.inl ⟨hx.1, by simp [kReader, hx.2]⟩) (Nat.le_of_ble_eq_true rfl) (Nat.le_of_ble_eq_true rfl)
  · obtain ⟨rfl, hrg0⟩ := hp
    have hP : va_P D vwCl (dw cI cZ a X Y ++ (ppw cI cZ a X Y ++ (kq cI cZ cP b I V P ++ cw cI b I V))) H := hP
    have hD : va_D A (dw cI cZ a X Y ++ (ppw cI cZ a X Y ++ (kq cI cZ cP b I V P ++ cw cI b I V))) := hD
    obtain ⟨j2, hjj2, rfl⟩ := rg_j (by decide) hrg0
    have hixj2 : ix (nI j2) = j2 := ix_nI (by omega)
    have hnmj2 : ¬ nI j2 = -1 := nI_nm1 (by omega)
    refine lv_aload_n B.hx B.hb dX3_reader_10 rfl (lv_at hl 0 rfl) ?_
    refine q_callS (As := [.ref (a 0)]) (rest := []) B hP hD hS ((c3_draftOf l hfl D cI cZ cP a X Y).fr2 (kq cI cZ cP b I V P ++ cw cI b I V)) (cwS 1 B.hts gX3_reader_X3_draftOf rfl rfl rfl (by decide +kernel) ⟨(Nat.le_of_ble_eq_true rfl), (Nat.le_of_ble_eq_true rfl)⟩) rfl hl.1 rfl (Nat.le_of_ble_eq_true rfl) dX3_reader_11 ⟨(Nat.le_of_ble_eq_true rfl), (Nat.le_of_ble_eq_true rfl)⟩ (fun E ce q9 H locs hx hP hS hce hcv hcl => ?_) (fun v u H locs hp hP hD hS => ?_)
    · exact q_xout B htb hP hS hce hcv hcl (Or.inr ⟨hx.1, by simp [kReader, hx.2, hrg0, hixj2, hnmj2]⟩) (Nat.le_of_ble_eq_true rfl) (Nat.le_of_ble_eq_true rfl)
    · obtain ⟨rfl, hhd⟩ := hp
      have hP : va_P D vwCl (dw cI cZ a X Y ++ (ppw cI cZ a X Y ++ (kq cI cZ cP b I V P ++ cw cI b I V))) H := hP
      have hD : va_D A (dw cI cZ a X Y ++ (ppw cI cZ a X Y ++ (kq cI cZ cP b I V P ++ cw cI b I V))) := hD
      refine lv_astore (lv' := [(4, .ref (a 2)), (3, .ref (a 0)), (0, .ref (b 0)), (1, .int (nI j)), (2, .int (nI j2))]) B.hx B.hb dX3_reader_14 hl (by decide) rfl (fun ls hl => ?_)
      refine lv_aload B.hx B.hb dX3_reader_16 (lv_at hl 0 rfl) ?_
      refine q_get B hP (C := RX1) (ref := "PaperKeeper$Draft") (T := TX1) (N := 12) (ci := 1) hi1 rfl 0 rfl 3 (by decide) (by decide +kernel) rfl (v := .ref (a 6)) rfl dX3_reader_18 ?_
      refine lv_iload_n B.hx B.hb dX3_reader_21 rfl (lv_at hl 4 rfl) ?_
      refine q_zald B hP 4 rfl (j := j2) rfl (by omega) (by decide) dX3_reader_22 ?_
      refine lv_if_eq (tgt := 36) B.hx B.hb dX3_reader_23 (by decide) (fun c1 => ?_) (fun c1 => ?_)
      · refine lv_aload B.hx B.hb dX3_reader_36 (lv_at hl 0 rfl) ?_
        refine q_get B hP (C := RX1) (ref := "PaperKeeper$Draft") (T := TX1) (N := 12) (ci := 1) hi1 rfl 0 rfl 3 (by decide) (by decide +kernel) rfl (v := .ref (a 6)) rfl dX3_reader_38 ?_
        refine lv_iload_n B.hx B.hb dX3_reader_41 rfl (lv_at hl 4 rfl) ?_
        refine lv_iconst (v := (nI 1)) B.hx B.hb dX3_reader_42 (by decide) ?_
        refine q_zast B hP hD hS 4 rfl (j := j2) rfl (by omega) (by decide) (by decide) dX3_reader_43 (w' := dw cI cZ a X (va_up Y 4 (upd (Y 4) j2 (nI 1))) ++ (ppw cI cZ a X (va_up Y 4 (upd (Y 4) j2 (nI 1))) ++ (kq cI cZ cP b I V P ++ cw cI b I V))) rfl (fun H locs hP hD hS => ?_)
        refine lv_aload B.hx B.hb dX3_reader_44 (lv_at hl 0 rfl) ?_
        refine q_get B hP (C := RX1) (ref := "PaperKeeper$Draft") (T := TX1) (N := 12) (ci := 1) hi1 rfl 0 rfl 3 (by decide) (by decide +kernel) rfl (v := .ref (a 6)) rfl dX3_reader_46 ?_
        refine q_callS (As := [.ref (a 6)]) (rest := []) B hP hD hS (c3_countOf l D cI cZ cP (dw cI cZ a X (va_up Y 4 (upd (Y 4) j2 (nI 1))) ++ (ppw cI cZ a X (va_up Y 4 (upd (Y 4) j2 (nI 1))) ++ (kq cI cZ cP b I V P ++ cw cI b I V))) 4 (a 6) 6 (upd (Y 4) j2 (nI 1)) rfl (by decide)) (cwS 1 B.hts gX3_reader_X3_countOf rfl rfl rfl (by decide +kernel) ⟨(Nat.le_of_ble_eq_true rfl), (Nat.le_of_ble_eq_true rfl)⟩) rfl hl.1 rfl (Nat.le_of_ble_eq_true rfl) dX3_reader_49 ⟨(Nat.le_of_ble_eq_true rfl), (Nat.le_of_ble_eq_true rfl)⟩ (fun E ce q9 H locs hx => False.elim hx) (fun v u H locs hp hP hD hS => ?_)
        obtain rfl := hp
        have hP : va_P D vwCl (dw cI cZ a X (va_up Y 4 (upd (Y 4) j2 (nI 1))) ++ (ppw cI cZ a X (va_up Y 4 (upd (Y 4) j2 (nI 1))) ++ (kq cI cZ cP b I V P ++ cw cI b I V))) H := hP
        have hD : va_D A (dw cI cZ a X (va_up Y 4 (upd (Y 4) j2 (nI 1))) ++ (ppw cI cZ a X (va_up Y 4 (upd (Y 4) j2 (nI 1))) ++ (kq cI cZ cP b I V P ++ cw cI b I V))) := hD
        exact q_iret B hr hP hD hS (u := ()) (by simp only [hixj2]) ⟨by rw [hixj2], by simp [kReader, hrg0, hhd, c1, hixj2, hnmj2]⟩ (Nat.le_of_ble_eq_true rfl) (Nat.le_of_ble_eq_true rfl) dX3_reader_52
      · exact q_throw B hfl htb hP hS q_E_ISE (goodIn_app (goodIn_of [_, _] (by decide +kernel)) (goodIn_sub (fun w h => List.mem_cons_of_mem _ (List.mem_append_left _ (List.mem_append_left _ (List.mem_append_right _ h)))) q_allg_ISE)) (List.mem_of_getElem? (i := 8) rfl) hl.1 dX3_reader_26 dX3_reader_29 dX3_reader_30 dX3_reader_32 dX3_reader_35 ⟨(Nat.le_of_ble_eq_true rfl), (Nat.le_of_ble_eq_true rfl), (Nat.le_of_ble_eq_true rfl), (Nat.le_of_ble_eq_true rfl)⟩ (Or.inr ⟨rfl, by simp [kReader, hrg0, hhd, c1, hixj2, hnmj2]⟩) (Nat.le_of_ble_eq_true rfl) (Nat.le_of_ble_eq_true rfl)
set_option maxHeartbeats 4000000 in
set_option maxRecDepth 100000 in
theorem c3_review (l : Launch) (hfl : l.stackTraces = false) (D : va_G) (cI cZ cP : ClassId) (b : Nat → Nat) (I : Nat → Int32) (V : Nat → Nat → Int32) (P : Nat → Option Nat) (a : Nat → Nat) (X : Nat → Int32) (Y : Nat → Nat → Int32) (j : Nat) (hj : j < 8) (hpj : P j = some (a 0)) (n k : Nat) (hW : wd X Y n k) (x r : Int32) (hk : ¬ r = 0 → kReview x (X 2) (pX (fun i => decide (Y 1 i = x)) n 0) (Y 2 (ix x)) (X 0) (dNR Y n) = 0 → k < 4) : q_C l yX3_review wsX3_review ({ frames := 8, cells := 4, slots := 24, locals := 124 }) D cI cZ cP [.ref (b 0), .int (nI j), .int x, .int r] (dw cI cZ a X Y ++ (ppw cI cZ a X Y ++ (kq cI cZ cP b I V P ++ cw cI b I V))) (S := Unit) (fun v _ => v = some (.int (if r = 0 then -1 else nI k)) ∧ kReview x (X 2) (pX (fun i => decide (Y 1 i = x)) n 0) (Y 2 (ix x)) (X 0) (dNR Y n) = 0) (fun _ => dw cI cZ a (if r = 0 then X else va_up X 9 (nI (k + 1))) (if r = 0 then va_up Y 2 (upd (Y 2) (ix x) (nI 1)) else va_up (va_up Y 2 (upd (Y 2) (ix x) (nI 1))) 3 (upd (Y 3) k (nI 0))) ++ (ppw cI cZ a (if r = 0 then X else va_up X 9 (nI (k + 1))) (if r = 0 then va_up Y 2 (upd (Y 2) (ix x) (nI 1)) else va_up (va_up Y 2 (upd (Y 2) (ix x) (nI 1))) 3 (upd (Y 3) k (nI 0))) ++ (kq cI cZ cP b I V P ++ cw cI b I V))) (fun E => (E = q_IAE ∧ kReview x (X 2) (pX (fun i => decide (Y 1 i = x)) n 0) (Y 2 (ix x)) (X 0) (dNR Y n) = 2) ∨ (E = q_ISE ∧ kReview x (X 2) (pX (fun i => decide (Y 1 i = x)) n 0) (Y 2 (ix x)) (X 0) (dNR Y n) = 3)) 4 24 := by
  refine q_of (cc := cX3_review) (maxL := 6) (ret := (some .int)) (by decide +kernel) rfl (Nat.le_of_ble_eq_true rfl) ?_
  intro p e s m below meth c A ls B hr htb hmn hP hD hS hl
  have hl : lv_has ls 6 [(0, .ref (b 0)), (1, .int (nI j)), (2, .int x), (3, .int r)] := hl
  have hi1 : ∀ w ∈ u_ws RX1 TX1 12, w ∈ wsX3_review := by decide +kernel
  have hi2 : ∀ w ∈ u_ws RX2 TX2 9, w ∈ wsX3_review := by decide +kernel
  obtain ⟨hn, hn4, hm, hm4, hv⟩ := id hW
  refine lv_aload_n B.hx B.hb dX3_review_0 rfl (lv_at hl 0 rfl) ?_
  refine lv_iload_n B.hx B.hb dX3_review_1 rfl (lv_at hl 1 rfl) ?_
  refine q_callV (As := [.int (nI j)]) (rest := []) B hP hD hS ((c3_paperAt l D cI cZ cP b I V P j (a 0) hj hpj).fl2 (dw cI cZ a X Y) (ppw cI cZ a X Y)) (cwV 1 B.hts gX3_review_X3_paperAt rfl rfl rfl (by decide +kernel) ⟨(Nat.le_of_ble_eq_true rfl), (Nat.le_of_ble_eq_true rfl)⟩) 10 3 rfl rfl rfl rfl hl.1 rfl (Nat.le_of_ble_eq_true rfl) dX3_review_2 ⟨(Nat.le_of_ble_eq_true rfl), (Nat.le_of_ble_eq_true rfl)⟩ (fun E ce q9 H locs hx => False.elim hx) (fun v u H locs hp hP hD hS => ?_)
  obtain rfl := hp
  have hP : va_P D vwCl (dw cI cZ a X Y ++ (ppw cI cZ a X Y ++ (kq cI cZ cP b I V P ++ cw cI b I V))) H := hP
  have hD : va_D A (dw cI cZ a X Y ++ (ppw cI cZ a X Y ++ (kq cI cZ cP b I V P ++ cw cI b I V))) := hD
  refine lv_astore (lv' := [(4, .ref (a 0)), (0, .ref (b 0)), (1, .int (nI j)), (2, .int x), (3, .int r)]) B.hx B.hb dX3_review_5 hl (by decide) rfl (fun ls hl => ?_)
  refine lv_iload_n B.hx B.hb dX3_review_7 rfl (lv_at hl 3 rfl) ?_
  refine q_callS (As := [.int x]) (rest := []) B hP hD hS ((c3_checkPerson l hfl D cI cZ cP x).fr0 (dw cI cZ a X Y ++ (ppw cI cZ a X Y ++ (kq cI cZ cP b I V P ++ cw cI b I V)))) (cwS 1 B.hts gX3_review_X3_checkPerson rfl rfl rfl (by decide +kernel) ⟨(Nat.le_of_ble_eq_true rfl), (Nat.le_of_ble_eq_true rfl)⟩) rfl hl.1 rfl (Nat.le_of_ble_eq_true rfl) dX3_review_8 ⟨(Nat.le_of_ble_eq_true rfl), (Nat.le_of_ble_eq_true rfl)⟩ (fun E ce q9 H locs hx hP hS hce hcv hcl => ?_) (fun v u H locs hp hP hD hS => ?_)
  · exact q_xout B htb hP hS hce hcv hcl (Or.inl ⟨hx.1, by simp [kReview, hx.2]⟩) (Nat.le_of_ble_eq_true rfl) (Nat.le_of_ble_eq_true rfl)
  · obtain ⟨rfl, hrg0⟩ := hp
    have hP : va_P D vwCl (dw cI cZ a X Y ++ (ppw cI cZ a X Y ++ (kq cI cZ cP b I V P ++ cw cI b I V))) H := hP
    have hD : va_D A (dw cI cZ a X Y ++ (ppw cI cZ a X Y ++ (kq cI cZ cP b I V P ++ cw cI b I V))) := hD
    obtain ⟨j2, hjj2, rfl⟩ := rg_j (by decide) hrg0
    have hixj2 : ix (nI j2) = j2 := ix_nI (by omega)
    have hnmj2 : ¬ nI j2 = -1 := nI_nm1 (by omega)
    refine lv_aload B.hx B.hb dX3_review_11 (lv_at hl 0 rfl) ?_
    refine q_callS (As := [.ref (a 0)]) (rest := []) B hP hD hS ((c3_draftOf l hfl D cI cZ cP a X Y).fr2 (kq cI cZ cP b I V P ++ cw cI b I V)) (cwS 1 B.hts gX3_review_X3_draftOf rfl rfl rfl (by decide +kernel) ⟨(Nat.le_of_ble_eq_true rfl), (Nat.le_of_ble_eq_true rfl)⟩) rfl hl.1 rfl (Nat.le_of_ble_eq_true rfl) dX3_review_13 ⟨(Nat.le_of_ble_eq_true rfl), (Nat.le_of_ble_eq_true rfl)⟩ (fun E ce q9 H locs hx hP hS hce hcv hcl => ?_) (fun v u H locs hp hP hD hS => ?_)
    · exact q_xout B htb hP hS hce hcv hcl (Or.inr ⟨hx.1, by simp [kReview, hx.2, hrg0, hixj2, hnmj2]⟩) (Nat.le_of_ble_eq_true rfl) (Nat.le_of_ble_eq_true rfl)
    · obtain ⟨rfl, hhd⟩ := hp
      have hP : va_P D vwCl (dw cI cZ a X Y ++ (ppw cI cZ a X Y ++ (kq cI cZ cP b I V P ++ cw cI b I V))) H := hP
      have hD : va_D A (dw cI cZ a X Y ++ (ppw cI cZ a X Y ++ (kq cI cZ cP b I V P ++ cw cI b I V))) := hD
      refine lv_astore (lv' := [(5, .ref (a 2)), (4, .ref (a 0)), (0, .ref (b 0)), (1, .int (nI j)), (2, .int (nI j2)), (3, .int r)]) B.hx B.hb dX3_review_16 hl (by decide) rfl (fun ls hl => ?_)
      refine lv_aload B.hx B.hb dX3_review_18 (lv_at hl 0 rfl) ?_
      refine lv_iload_n B.hx B.hb dX3_review_20 rfl (lv_at hl 4 rfl) ?_
      refine q_callV (As := [.int (nI j2)]) (rest := []) B hP hD hS ((c1_hasReviewer l D cI cZ cP a X Y (nI j2) n hn hn4).fr (ppw cI cZ a X Y ++ (kq cI cZ cP b I V P ++ cw cI b I V))) (cwV 1 B.hts gX3_review_X1_hasReviewer rfl rfl rfl (by decide +kernel) ⟨(Nat.le_of_ble_eq_true rfl), (Nat.le_of_ble_eq_true rfl)⟩) 0 1 rfl rfl rfl rfl hl.1 rfl (Nat.le_of_ble_eq_true rfl) dX3_review_21 ⟨(Nat.le_of_ble_eq_true rfl), (Nat.le_of_ble_eq_true rfl)⟩ (fun E ce q9 H locs hx => False.elim hx) (fun v u H locs hp hP hD hS => ?_)
      replace hp := q_if2 hp
      rcases hp with ⟨rfl, hnm⟩ | ⟨rfl, hnm⟩
      · have hP : va_P D vwCl (dw cI cZ a X Y ++ (ppw cI cZ a X Y ++ (kq cI cZ cP b I V P ++ cw cI b I V))) H := hP
        have hD : va_D A (dw cI cZ a X Y ++ (ppw cI cZ a X Y ++ (kq cI cZ cP b I V P ++ cw cI b I V))) := hD
        refine lv_if_eq (tgt := 37) B.hx B.hb dX3_review_24 (by decide) (fun c1 => absurd c1 (by decide)) (fun _ => ?_)
        refine lv_aload B.hx B.hb dX3_review_27 (lv_at hl 0 rfl) ?_
        refine q_get B hP (C := RX1) (ref := "PaperKeeper$Draft") (T := TX1) (N := 12) (ci := 1) hi1 rfl 0 rfl 1 (by decide) (by decide +kernel) rfl (v := .ref (a 4)) rfl dX3_review_29 ?_
        refine lv_iload_n B.hx B.hb dX3_review_32 rfl (lv_at hl 4 rfl) ?_
        refine q_zald B hP 2 rfl (j := j2) rfl (by omega) (by decide) dX3_review_33 ?_
        refine lv_if_eq (tgt := 47) B.hx B.hb dX3_review_34 (by decide) (fun c2 => ?_) (fun c2 => ?_)
        · refine lv_aload B.hx B.hb dX3_review_47 (lv_at hl 1 rfl) ?_
          refine q_get B hP (C := RX2) (ref := "PaperKeeper$Paper") (T := TX2) (N := 9) (ci := 2) hi2 rfl 6 rfl 0 (by decide) (by decide +kernel) rfl (v := .int (X 0)) rfl dX3_review_49 ?_
          refine lv_if_eq (tgt := 74) B.hx B.hb dX3_review_52 (by decide) (fun c3 => ?_) (fun c3 => ?_)
          · refine lv_aload B.hx B.hb dX3_review_74 (lv_at hl 0 rfl) ?_
            refine q_get B hP (C := RX1) (ref := "PaperKeeper$Draft") (T := TX1) (N := 12) (ci := 1) hi1 rfl 0 rfl 1 (by decide) (by decide +kernel) rfl (v := .ref (a 4)) rfl dX3_review_76 ?_
            refine lv_iload_n B.hx B.hb dX3_review_79 rfl (lv_at hl 4 rfl) ?_
            refine lv_iconst (v := (nI 1)) B.hx B.hb dX3_review_80 (by decide) ?_
            refine q_zast B hP hD hS 2 rfl (j := j2) rfl (by omega) (by decide) (by decide) dX3_review_81 (w' := dw cI cZ a X (va_up Y 2 (upd (Y 2) j2 (nI 1))) ++ (ppw cI cZ a X (va_up Y 2 (upd (Y 2) j2 (nI 1))) ++ (kq cI cZ cP b I V P ++ cw cI b I V))) rfl (fun H locs hP hD hS => ?_)
            refine lv_iload_n B.hx B.hb dX3_review_82 rfl (lv_at hl 5 rfl) ?_
            refine lv_if_eq (tgt := 94) B.hx B.hb dX3_review_83 (by decide) (fun c4 => ?_) (fun c4 => ?_)
            · refine lv_iconst (v := (-1)) B.hx B.hb dX3_review_94 (by decide) ?_
              exact q_iret B hr hP hD hS (u := ()) (by simp only [if_pos c4, hixj2]) ⟨by rw [if_pos c4], by simp [kReview, hrg0, hhd, hnm, c2, c3, c4, hixj2, hnmj2]⟩ (Nat.le_of_ble_eq_true rfl) (Nat.le_of_ble_eq_true rfl) dX3_review_95
            · refine lv_aload B.hx B.hb dX3_review_86 (lv_at hl 0 rfl) ?_
              refine q_callV (As := []) (rest := []) B hP hD hS ((c1_addRemark l D cI cZ cP a X (va_up Y 2 (upd (Y 2) j2 (nI 1))) k hm (hk c4 (by simp [kReview, hrg0, hhd, hnm, c2, c3, c4, hixj2, hnmj2]))).fr (ppw cI cZ a X (va_up Y 2 (upd (Y 2) j2 (nI 1))) ++ (kq cI cZ cP b I V P ++ cw cI b I V))) (cwV 0 B.hts gX3_review_X1_addRemark rfl rfl rfl (by decide +kernel) ⟨(Nat.le_of_ble_eq_true rfl), (Nat.le_of_ble_eq_true rfl)⟩) 0 1 rfl rfl rfl rfl hl.1 rfl (Nat.le_of_ble_eq_true rfl) dX3_review_88 ⟨(Nat.le_of_ble_eq_true rfl), (Nat.le_of_ble_eq_true rfl)⟩ (fun E ce q9 H locs hx => False.elim hx) (fun v u H locs hp hP hD hS => ?_)
              obtain rfl := hp
              have hP : va_P D vwCl (dw cI cZ a (va_up X 9 (nI ((k + 1)))) (va_up (va_up Y 2 (upd (Y 2) j2 (nI 1))) 3 (upd (Y 3) k (nI 0))) ++ (ppw cI cZ a (va_up X 9 (nI ((k + 1)))) (va_up (va_up Y 2 (upd (Y 2) j2 (nI 1))) 3 (upd (Y 3) k (nI 0))) ++ (kq cI cZ cP b I V P ++ cw cI b I V))) H := hP
              have hD : va_D A (dw cI cZ a (va_up X 9 (nI ((k + 1)))) (va_up (va_up Y 2 (upd (Y 2) j2 (nI 1))) 3 (upd (Y 3) k (nI 0))) ++ (ppw cI cZ a (va_up X 9 (nI ((k + 1)))) (va_up (va_up Y 2 (upd (Y 2) j2 (nI 1))) 3 (upd (Y 3) k (nI 0))) ++ (kq cI cZ cP b I V P ++ cw cI b I V))) := hD
              refine lv_goto (tgt := 95) B.hx B.hb dX3_review_91 (by decide) ?_
              exact q_iret B hr hP hD hS (u := ()) (by simp only [if_neg c4, hixj2]) ⟨by rw [if_neg c4], by simp [kReview, hrg0, hhd, hnm, c2, c3, c4, hixj2, hnmj2]⟩ (Nat.le_of_ble_eq_true rfl) (Nat.le_of_ble_eq_true rfl) dX3_review_95
          · refine lv_aload B.hx B.hb dX3_review_55 (lv_at hl 0 rfl) ?_
            refine q_callV (As := []) (rest := []) B hP hD hS ((c1_nextReviewer l D cI cZ cP a X Y n k hW).fr (ppw cI cZ a X Y ++ (kq cI cZ cP b I V P ++ cw cI b I V))) (cwV 0 B.hts gX3_review_X1_nextReviewer rfl rfl rfl (by decide +kernel) ⟨(Nat.le_of_ble_eq_true rfl), (Nat.le_of_ble_eq_true rfl)⟩) 0 1 rfl rfl rfl rfl hl.1 rfl (Nat.le_of_ble_eq_true rfl) dX3_review_57 ⟨(Nat.le_of_ble_eq_true rfl), (Nat.le_of_ble_eq_true rfl)⟩ (fun E ce q9 H locs hx => False.elim hx) (fun v u H locs hp hP hD hS => ?_)
            obtain rfl := hp
            have hP : va_P D vwCl (dw cI cZ a X Y ++ (ppw cI cZ a X Y ++ (kq cI cZ cP b I V P ++ cw cI b I V))) H := hP
            have hD : va_D A (dw cI cZ a X Y ++ (ppw cI cZ a X Y ++ (kq cI cZ cP b I V P ++ cw cI b I V))) := hD
            refine lv_iload_n B.hx B.hb dX3_review_60 rfl (lv_at hl 4 rfl) ?_
            refine lv_icmp_eq (tgt := 74) B.hx B.hb dX3_review_61 (by decide) (fun c5 => ?_) (fun c5 => ?_)
            · refine lv_aload B.hx B.hb dX3_review_74 (lv_at hl 0 rfl) ?_
              refine q_get B hP (C := RX1) (ref := "PaperKeeper$Draft") (T := TX1) (N := 12) (ci := 1) hi1 rfl 0 rfl 1 (by decide) (by decide +kernel) rfl (v := .ref (a 4)) rfl dX3_review_76 ?_
              refine lv_iload_n B.hx B.hb dX3_review_79 rfl (lv_at hl 4 rfl) ?_
              refine lv_iconst (v := (nI 1)) B.hx B.hb dX3_review_80 (by decide) ?_
              refine q_zast B hP hD hS 2 rfl (j := j2) rfl (by omega) (by decide) (by decide) dX3_review_81 (w' := dw cI cZ a X (va_up Y 2 (upd (Y 2) j2 (nI 1))) ++ (ppw cI cZ a X (va_up Y 2 (upd (Y 2) j2 (nI 1))) ++ (kq cI cZ cP b I V P ++ cw cI b I V))) rfl (fun H locs hP hD hS => ?_)
              refine lv_iload_n B.hx B.hb dX3_review_82 rfl (lv_at hl 5 rfl) ?_
              refine lv_if_eq (tgt := 94) B.hx B.hb dX3_review_83 (by decide) (fun c6 => ?_) (fun c6 => ?_)
              · refine lv_iconst (v := (-1)) B.hx B.hb dX3_review_94 (by decide) ?_
                exact q_iret B hr hP hD hS (u := ()) (by simp only [if_pos c6, hixj2]) ⟨by rw [if_pos c6], by simp [kReview, hrg0, hhd, hnm, c2, c3, c5, c6, hixj2, hnmj2]⟩ (Nat.le_of_ble_eq_true rfl) (Nat.le_of_ble_eq_true rfl) dX3_review_95
              · refine lv_aload B.hx B.hb dX3_review_86 (lv_at hl 0 rfl) ?_
                refine q_callV (As := []) (rest := []) B hP hD hS ((c1_addRemark l D cI cZ cP a X (va_up Y 2 (upd (Y 2) j2 (nI 1))) k hm (hk c6 (by simp [kReview, hrg0, hhd, hnm, c2, c3, c5, c6, hixj2, hnmj2]))).fr (ppw cI cZ a X (va_up Y 2 (upd (Y 2) j2 (nI 1))) ++ (kq cI cZ cP b I V P ++ cw cI b I V))) (cwV 0 B.hts gX3_review_X1_addRemark rfl rfl rfl (by decide +kernel) ⟨(Nat.le_of_ble_eq_true rfl), (Nat.le_of_ble_eq_true rfl)⟩) 0 1 rfl rfl rfl rfl hl.1 rfl (Nat.le_of_ble_eq_true rfl) dX3_review_88 ⟨(Nat.le_of_ble_eq_true rfl), (Nat.le_of_ble_eq_true rfl)⟩ (fun E ce q9 H locs hx => False.elim hx) (fun v u H locs hp hP hD hS => ?_)
                obtain rfl := hp
                have hP : va_P D vwCl (dw cI cZ a (va_up X 9 (nI ((k + 1)))) (va_up (va_up Y 2 (upd (Y 2) j2 (nI 1))) 3 (upd (Y 3) k (nI 0))) ++ (ppw cI cZ a (va_up X 9 (nI ((k + 1)))) (va_up (va_up Y 2 (upd (Y 2) j2 (nI 1))) 3 (upd (Y 3) k (nI 0))) ++ (kq cI cZ cP b I V P ++ cw cI b I V))) H := hP
                have hD : va_D A (dw cI cZ a (va_up X 9 (nI ((k + 1)))) (va_up (va_up Y 2 (upd (Y 2) j2 (nI 1))) 3 (upd (Y 3) k (nI 0))) ++ (ppw cI cZ a (va_up X 9 (nI ((k + 1)))) (va_up (va_up Y 2 (upd (Y 2) j2 (nI 1))) 3 (upd (Y 3) k (nI 0))) ++ (kq cI cZ cP b I V P ++ cw cI b I V))) := hD
                refine lv_goto (tgt := 95) B.hx B.hb dX3_review_91 (by decide) ?_
                exact q_iret B hr hP hD hS (u := ()) (by simp only [if_neg c6, hixj2]) ⟨by rw [if_neg c6], by simp [kReview, hrg0, hhd, hnm, c2, c3, c5, c6, hixj2, hnmj2]⟩ (Nat.le_of_ble_eq_true rfl) (Nat.le_of_ble_eq_true rfl) dX3_review_95
            · exact q_throw B hfl htb hP hS q_E_ISE (goodIn_app (goodIn_of [_, _] (by decide +kernel)) (goodIn_sub (fun w h => List.mem_cons_of_mem _ (List.mem_append_left _ (List.mem_append_left _ (List.mem_append_right _ h)))) q_allg_ISE)) (List.mem_of_getElem? (i := 10) rfl) hl.1 dX3_review_64 dX3_review_67 dX3_review_68 dX3_review_70 dX3_review_73 ⟨(Nat.le_of_ble_eq_true rfl), (Nat.le_of_ble_eq_true rfl), (Nat.le_of_ble_eq_true rfl), (Nat.le_of_ble_eq_true rfl)⟩ (Or.inr ⟨rfl, by simp [kReview, hrg0, hhd, hnm, c2, c3, c5, hixj2, hnmj2]⟩) (Nat.le_of_ble_eq_true rfl) (Nat.le_of_ble_eq_true rfl)
        · exact q_throw B hfl htb hP hS q_E_ISE (goodIn_app (goodIn_of [_, _] (by decide +kernel)) (goodIn_sub (fun w h => List.mem_cons_of_mem _ (List.mem_append_left _ (List.mem_append_left _ (List.mem_append_right _ h)))) q_allg_ISE)) (List.mem_of_getElem? (i := 9) rfl) hl.1 dX3_review_37 dX3_review_40 dX3_review_41 dX3_review_43 dX3_review_46 ⟨(Nat.le_of_ble_eq_true rfl), (Nat.le_of_ble_eq_true rfl), (Nat.le_of_ble_eq_true rfl), (Nat.le_of_ble_eq_true rfl)⟩ (Or.inr ⟨rfl, by simp [kReview, hrg0, hhd, hnm, c2, hixj2, hnmj2]⟩) (Nat.le_of_ble_eq_true rfl) (Nat.le_of_ble_eq_true rfl)
      · have hP : va_P D vwCl (dw cI cZ a X Y ++ (ppw cI cZ a X Y ++ (kq cI cZ cP b I V P ++ cw cI b I V))) H := hP
        have hD : va_D A (dw cI cZ a X Y ++ (ppw cI cZ a X Y ++ (kq cI cZ cP b I V P ++ cw cI b I V))) := hD
        refine lv_if_eq (tgt := 37) B.hx B.hb dX3_review_24 (by decide) (fun _ => ?_) (fun c7 => absurd c7 (by decide))
        exact q_throw B hfl htb hP hS q_E_ISE (goodIn_app (goodIn_of [_, _] (by decide +kernel)) (goodIn_sub (fun w h => List.mem_cons_of_mem _ (List.mem_append_left _ (List.mem_append_left _ (List.mem_append_right _ h)))) q_allg_ISE)) (List.mem_of_getElem? (i := 9) rfl) hl.1 dX3_review_37 dX3_review_40 dX3_review_41 dX3_review_43 dX3_review_46 ⟨(Nat.le_of_ble_eq_true rfl), (Nat.le_of_ble_eq_true rfl), (Nat.le_of_ble_eq_true rfl), (Nat.le_of_ble_eq_true rfl)⟩ (Or.inr ⟨rfl, by simp [kReview, hrg0, hhd, hnm, hixj2, hnmj2]⟩) (Nat.le_of_ble_eq_true rfl) (Nat.le_of_ble_eq_true rfl)
set_option maxHeartbeats 4000000 in
set_option maxRecDepth 100000 in
theorem c3_answer (l : Launch) (hfl : l.stackTraces = false) (D : va_G) (cI cZ cP : ClassId) (b : Nat → Nat) (I : Nat → Int32) (V : Nat → Nat → Int32) (P : Nat → Option Nat) (a : Nat → Nat) (X : Nat → Int32) (Y : Nat → Nat → Int32) (j : Nat) (hj : j < 8) (hpj : P j = some (a 0)) (n k : Nat) (hW : wd X Y n k) (r : Int32) : q_C l yX3_answer wsX3_answer ({ frames := 7, cells := 3, slots := 18, locals := 102 }) D cI cZ cP [.ref (b 0), .int (nI j), .int r] (dw cI cZ a X Y ++ (ppw cI cZ a X Y ++ (kq cI cZ cP b I V P ++ cw cI b I V))) (S := Unit) (fun v _ => v = some (.int (nI (pN (fun i => decide ((upd (Y 3) (ix r) (nI 1)) i = 0)) k))) ∧ kAnswer r (X 2) k (Y 3 (ix r)) = 0) (fun _ => dw cI cZ a X (va_up Y 3 (upd (Y 3) (ix r) (nI 1))) ++ (ppw cI cZ a X (va_up Y 3 (upd (Y 3) (ix r) (nI 1))) ++ (kq cI cZ cP b I V P ++ cw cI b I V))) (fun E => (E = q_IOB ∧ kAnswer r (X 2) k (Y 3 (ix r)) = 1) ∨ (E = q_ISE ∧ kAnswer r (X 2) k (Y 3 (ix r)) = 2)) 3 18 := by
  refine q_of (cc := cX3_answer) (maxL := 5) (ret := (some .int)) (by decide +kernel) rfl (Nat.le_of_ble_eq_true rfl) ?_
  intro p e s m below meth c A ls B hr htb hmn hP hD hS hl
  have hl : lv_has ls 5 [(0, .ref (b 0)), (1, .int (nI j)), (2, .int r)] := hl
  have hi1 : ∀ w ∈ u_ws RX1 TX1 12, w ∈ wsX3_answer := by decide +kernel
  obtain ⟨hn, hn4, hm, hm4, hv⟩ := id hW
  refine lv_aload_n B.hx B.hb dX3_answer_0 rfl (lv_at hl 0 rfl) ?_
  refine lv_iload_n B.hx B.hb dX3_answer_1 rfl (lv_at hl 1 rfl) ?_
  refine q_callV (As := [.int (nI j)]) (rest := []) B hP hD hS ((c3_paperAt l D cI cZ cP b I V P j (a 0) hj hpj).fl2 (dw cI cZ a X Y) (ppw cI cZ a X Y)) (cwV 1 B.hts gX3_answer_X3_paperAt rfl rfl rfl (by decide +kernel) ⟨(Nat.le_of_ble_eq_true rfl), (Nat.le_of_ble_eq_true rfl)⟩) 10 3 rfl rfl rfl rfl hl.1 rfl (Nat.le_of_ble_eq_true rfl) dX3_answer_2 ⟨(Nat.le_of_ble_eq_true rfl), (Nat.le_of_ble_eq_true rfl)⟩ (fun E ce q9 H locs hx => False.elim hx) (fun v u H locs hp hP hD hS => ?_)
  obtain rfl := hp
  have hP : va_P D vwCl (dw cI cZ a X Y ++ (ppw cI cZ a X Y ++ (kq cI cZ cP b I V P ++ cw cI b I V))) H := hP
  have hD : va_D A (dw cI cZ a X Y ++ (ppw cI cZ a X Y ++ (kq cI cZ cP b I V P ++ cw cI b I V))) := hD
  refine lv_astore_n (lv' := [(3, .ref (a 0)), (0, .ref (b 0)), (1, .int (nI j)), (2, .int r)]) B.hx B.hb dX3_answer_5 rfl hl (by decide) rfl (fun ls hl => ?_)
  refine lv_aload_n B.hx B.hb dX3_answer_6 rfl (lv_at hl 0 rfl) ?_
  refine q_callS (As := [.ref (a 0)]) (rest := []) B hP hD hS ((c3_draftOf l hfl D cI cZ cP a X Y).fr2 (kq cI cZ cP b I V P ++ cw cI b I V)) (cwS 1 B.hts gX3_answer_X3_draftOf rfl rfl rfl (by decide +kernel) ⟨(Nat.le_of_ble_eq_true rfl), (Nat.le_of_ble_eq_true rfl)⟩) rfl hl.1 rfl (Nat.le_of_ble_eq_true rfl) dX3_answer_7 ⟨(Nat.le_of_ble_eq_true rfl), (Nat.le_of_ble_eq_true rfl)⟩ (fun E ce q9 H locs hx hP hS hce hcv hcl => ?_) (fun v u H locs hp hP hD hS => ?_)
  · exact q_xout B htb hP hS hce hcv hcl (Or.inr ⟨hx.1, by simp [kAnswer, inr, hx.2]⟩) (Nat.le_of_ble_eq_true rfl) (Nat.le_of_ble_eq_true rfl)
  · obtain ⟨rfl, hhd⟩ := hp
    have hP : va_P D vwCl (dw cI cZ a X Y ++ (ppw cI cZ a X Y ++ (kq cI cZ cP b I V P ++ cw cI b I V))) H := hP
    have hD : va_D A (dw cI cZ a X Y ++ (ppw cI cZ a X Y ++ (kq cI cZ cP b I V P ++ cw cI b I V))) := hD
    refine lv_astore (lv' := [(4, .ref (a 2)), (3, .ref (a 0)), (0, .ref (b 0)), (1, .int (nI j)), (2, .int r)]) B.hx B.hb dX3_answer_10 hl (by decide) rfl (fun ls hl => ?_)
    refine lv_iload_n B.hx B.hb dX3_answer_12 rfl (lv_at hl 4 rfl) ?_
    refine lv_if_lt (tgt := 25) B.hx B.hb dX3_answer_13 (by decide) (fun c1 => ?_) (fun c1 => ?_)
    · exact q_throw B hfl htb hP hS q_E_IOB (goodIn_app (goodIn_of [_, _] (by decide +kernel)) (goodIn_sub (fun w h => List.mem_cons_of_mem _ (List.mem_append_left _ (List.mem_append_right _ h))) q_allg_IOB)) (List.mem_of_getElem? (i := 11) rfl) hl.1 dX3_answer_25 dX3_answer_28 dX3_answer_29 dX3_answer_31 dX3_answer_34 ⟨(Nat.le_of_ble_eq_true rfl), (Nat.le_of_ble_eq_true rfl), (Nat.le_of_ble_eq_true rfl), (Nat.le_of_ble_eq_true rfl)⟩ (Or.inl ⟨rfl, by simp [kAnswer, inr, hhd, c1]⟩) (Nat.le_of_ble_eq_true rfl) (Nat.le_of_ble_eq_true rfl)
    · refine lv_iload_n B.hx B.hb dX3_answer_16 rfl (lv_at hl 4 rfl) ?_
      refine lv_aload B.hx B.hb dX3_answer_17 (lv_at hl 0 rfl) ?_
      refine q_get B hP (C := RX1) (ref := "PaperKeeper$Draft") (T := TX1) (N := 12) (ci := 1) hi1 rfl 0 rfl 9 (by decide) (by decide +kernel) rfl (v := .int (X 9)) rfl dX3_answer_19 ?_
      refine q_top (v2 := .int (nI k)) (congrArg Value.int hm) ?_
      refine lv_icmp_lt (tgt := 35) B.hx B.hb dX3_answer_22 (by decide) (fun c2 => ?_) (fun c2 => ?_)
      · obtain ⟨jr, hjjr, rfl⟩ := inr_of (n := k) (by omega) c1 c2
        have hixjr : ix (nI jr) = jr := ix_nI (by omega)
        refine lv_aload B.hx B.hb dX3_answer_35 (lv_at hl 0 rfl) ?_
        refine q_get B hP (C := RX1) (ref := "PaperKeeper$Draft") (T := TX1) (N := 12) (ci := 1) hi1 rfl 0 rfl 2 (by decide) (by decide +kernel) rfl (v := .ref (a 5)) rfl dX3_answer_37 ?_
        refine lv_iload_n B.hx B.hb dX3_answer_40 rfl (lv_at hl 4 rfl) ?_
        refine q_zald B hP 3 rfl (j := jr) rfl (by omega) (by decide) dX3_answer_41 ?_
        refine lv_if_eq (tgt := 55) B.hx B.hb dX3_answer_42 (by decide) (fun c3 => ?_) (fun c3 => ?_)
        · refine lv_aload B.hx B.hb dX3_answer_55 (lv_at hl 0 rfl) ?_
          refine q_get B hP (C := RX1) (ref := "PaperKeeper$Draft") (T := TX1) (N := 12) (ci := 1) hi1 rfl 0 rfl 2 (by decide) (by decide +kernel) rfl (v := .ref (a 5)) rfl dX3_answer_57 ?_
          refine lv_iload_n B.hx B.hb dX3_answer_60 rfl (lv_at hl 4 rfl) ?_
          refine lv_iconst (v := (nI 1)) B.hx B.hb dX3_answer_61 (by decide) ?_
          refine q_zast B hP hD hS 3 rfl (j := jr) rfl (by omega) (by decide) (by decide) dX3_answer_62 (w' := dw cI cZ a X (va_up Y 3 (upd (Y 3) jr (nI 1))) ++ (ppw cI cZ a X (va_up Y 3 (upd (Y 3) jr (nI 1))) ++ (kq cI cZ cP b I V P ++ cw cI b I V))) rfl (fun H locs hP hD hS => ?_)
          refine lv_aload B.hx B.hb dX3_answer_63 (lv_at hl 0 rfl) ?_
          refine q_callV (As := []) (rest := []) B hP hD hS ((c1_openRemarks l D cI cZ cP a X (va_up Y 3 (upd (Y 3) jr (nI 1))) k hm hm4).fr (ppw cI cZ a X (va_up Y 3 (upd (Y 3) jr (nI 1))) ++ (kq cI cZ cP b I V P ++ cw cI b I V))) (cwV 0 B.hts gX3_answer_X1_openRemarks rfl rfl rfl (by decide +kernel) ⟨(Nat.le_of_ble_eq_true rfl), (Nat.le_of_ble_eq_true rfl)⟩) 0 1 rfl rfl rfl rfl hl.1 rfl (Nat.le_of_ble_eq_true rfl) dX3_answer_65 ⟨(Nat.le_of_ble_eq_true rfl), (Nat.le_of_ble_eq_true rfl)⟩ (fun E ce q9 H locs hx => False.elim hx) (fun v u H locs hp hP hD hS => ?_)
          obtain rfl := hp
          have hP : va_P D vwCl (dw cI cZ a X (va_up Y 3 (upd (Y 3) jr (nI 1))) ++ (ppw cI cZ a X (va_up Y 3 (upd (Y 3) jr (nI 1))) ++ (kq cI cZ cP b I V P ++ cw cI b I V))) H := hP
          have hD : va_D A (dw cI cZ a X (va_up Y 3 (upd (Y 3) jr (nI 1))) ++ (ppw cI cZ a X (va_up Y 3 (upd (Y 3) jr (nI 1))) ++ (kq cI cZ cP b I V P ++ cw cI b I V))) := hD
          exact q_iret B hr hP hD hS (u := ()) (by simp only [hixjr]) ⟨by rw [hixjr]; rfl, by simp [kAnswer, inr, hhd, c1, c2, c3, hixjr]⟩ (Nat.le_of_ble_eq_true rfl) (Nat.le_of_ble_eq_true rfl) dX3_answer_68
        · exact q_throw B hfl htb hP hS q_E_ISE (goodIn_app (goodIn_of [_, _] (by decide +kernel)) (goodIn_sub (fun w h => List.mem_cons_of_mem _ (List.mem_append_right _ h)) q_allg_ISE)) (List.mem_of_getElem? (i := 12) rfl) hl.1 dX3_answer_45 dX3_answer_48 dX3_answer_49 dX3_answer_51 dX3_answer_54 ⟨(Nat.le_of_ble_eq_true rfl), (Nat.le_of_ble_eq_true rfl), (Nat.le_of_ble_eq_true rfl), (Nat.le_of_ble_eq_true rfl)⟩ (Or.inr ⟨rfl, by simp [kAnswer, inr, hhd, c1, c2, c3, hixjr]⟩) (Nat.le_of_ble_eq_true rfl) (Nat.le_of_ble_eq_true rfl)
      · exact q_throw B hfl htb hP hS q_E_IOB (goodIn_app (goodIn_of [_, _] (by decide +kernel)) (goodIn_sub (fun w h => List.mem_cons_of_mem _ (List.mem_append_left _ (List.mem_append_right _ h))) q_allg_IOB)) (List.mem_of_getElem? (i := 11) rfl) hl.1 dX3_answer_25 dX3_answer_28 dX3_answer_29 dX3_answer_31 dX3_answer_34 ⟨(Nat.le_of_ble_eq_true rfl), (Nat.le_of_ble_eq_true rfl), (Nat.le_of_ble_eq_true rfl), (Nat.le_of_ble_eq_true rfl)⟩ (Or.inl ⟨rfl, by simp [kAnswer, inr, hhd, c1, c2]⟩) (Nat.le_of_ble_eq_true rfl) (Nat.le_of_ble_eq_true rfl)
set_option maxHeartbeats 4000000 in
set_option maxRecDepth 100000 in
theorem c3_approve (l : Launch) (hfl : l.stackTraces = false) (D : va_G) (cI cZ cP : ClassId) (b : Nat → Nat) (I : Nat → Int32) (V : Nat → Nat → Int32) (P : Nat → Option Nat) (a : Nat → Nat) (X : Nat → Int32) (Y : Nat → Nat → Int32) (j : Nat) (hj : j < 8) (hpj : P j = some (a 0)) (n k : Nat) (hW : wd X Y n k) (hb : ∀ i, i < 6 → V 1 i = 0 ∨ V 1 i = 1) (x y : Int32) : q_C l yX3_approve wsX3_approve ({ frames := 8, cells := 4, slots := 24, locals := 124 }) D cI cZ cP [.ref (b 0), .int (nI j), .int x, .int y] (dw cI cZ a X Y ++ (ppw cI cZ a X Y ++ (kq cI cZ cP b I V P ++ cw cI b I V))) (S := Unit) (fun v _ => v = none ∧ kApprove x y (I 7) (X 2) (stp n (dNR Y n) (dOR Y k) (X 10) (dNC Y)) (X 5) (ca (V 1) (V 2) (ix x) 6) = 0) (fun _ => dw cI cZ a (va_up (va_up X 10 (nI 1)) 11 y) Y ++ (ppw cI cZ a (va_up (va_up X 10 (nI 1)) 11 y) Y ++ (kq cI cZ cP b I V P ++ cw cI b I V))) (fun E => (E = q_IAE ∧ kApprove x y (I 7) (X 2) (stp n (dNR Y n) (dOR Y k) (X 10) (dNC Y)) (X 5) (ca (V 1) (V 2) (ix x) 6) = 2) ∨ (E = q_ISE ∧ kApprove x y (I 7) (X 2) (stp n (dNR Y n) (dOR Y k) (X 10) (dNC Y)) (X 5) (ca (V 1) (V 2) (ix x) 6) = 3)) 4 24 := by
  refine q_of (cc := cX3_approve) (maxL := 6) (ret := none) (by decide +kernel) rfl (Nat.le_of_ble_eq_true rfl) ?_
  intro p e s m below meth c A ls B hr htb hmn hP hD hS hl
  have hl : lv_has ls 6 [(0, .ref (b 0)), (1, .int (nI j)), (2, .int x), (3, .int y)] := hl
  have hi1 : ∀ w ∈ u_ws RX1 TX1 12, w ∈ wsX3_approve := by decide +kernel
  have hi3 : ∀ w ∈ u_ws RX3 TX3 8, w ∈ wsX3_approve := by decide +kernel
  obtain ⟨hn, hn4, hm, hm4, hv⟩ := id hW
  refine lv_aload_n B.hx B.hb dX3_approve_0 rfl (lv_at hl 0 rfl) ?_
  refine lv_iload_n B.hx B.hb dX3_approve_1 rfl (lv_at hl 1 rfl) ?_
  refine q_callV (As := [.int (nI j)]) (rest := []) B hP hD hS ((c3_paperAt l D cI cZ cP b I V P j (a 0) hj hpj).fl2 (dw cI cZ a X Y) (ppw cI cZ a X Y)) (cwV 1 B.hts gX3_approve_X3_paperAt rfl rfl rfl (by decide +kernel) ⟨(Nat.le_of_ble_eq_true rfl), (Nat.le_of_ble_eq_true rfl)⟩) 10 3 rfl rfl rfl rfl hl.1 rfl (Nat.le_of_ble_eq_true rfl) dX3_approve_2 ⟨(Nat.le_of_ble_eq_true rfl), (Nat.le_of_ble_eq_true rfl)⟩ (fun E ce q9 H locs hx => False.elim hx) (fun v u H locs hp hP hD hS => ?_)
  obtain rfl := hp
  have hP : va_P D vwCl (dw cI cZ a X Y ++ (ppw cI cZ a X Y ++ (kq cI cZ cP b I V P ++ cw cI b I V))) H := hP
  have hD : va_D A (dw cI cZ a X Y ++ (ppw cI cZ a X Y ++ (kq cI cZ cP b I V P ++ cw cI b I V))) := hD
  refine lv_astore (lv' := [(4, .ref (a 0)), (0, .ref (b 0)), (1, .int (nI j)), (2, .int x), (3, .int y)]) B.hx B.hb dX3_approve_5 hl (by decide) rfl (fun ls hl => ?_)
  refine lv_iload_n B.hx B.hb dX3_approve_7 rfl (lv_at hl 3 rfl) ?_
  refine q_callS (As := [.int x]) (rest := []) B hP hD hS ((c3_checkPerson l hfl D cI cZ cP x).fr0 (dw cI cZ a X Y ++ (ppw cI cZ a X Y ++ (kq cI cZ cP b I V P ++ cw cI b I V)))) (cwS 1 B.hts gX3_approve_X3_checkPerson rfl rfl rfl (by decide +kernel) ⟨(Nat.le_of_ble_eq_true rfl), (Nat.le_of_ble_eq_true rfl)⟩) rfl hl.1 rfl (Nat.le_of_ble_eq_true rfl) dX3_approve_8 ⟨(Nat.le_of_ble_eq_true rfl), (Nat.le_of_ble_eq_true rfl)⟩ (fun E ce q9 H locs hx hP hS hce hcv hcl => ?_) (fun v u H locs hp hP hD hS => ?_)
  · exact q_xout B htb hP hS hce hcv hcl (Or.inl ⟨hx.1, by simp [kApprove, hx.2]⟩) (Nat.le_of_ble_eq_true rfl) (Nat.le_of_ble_eq_true rfl)
  · obtain ⟨rfl, hrg0⟩ := hp
    have hP : va_P D vwCl (dw cI cZ a X Y ++ (ppw cI cZ a X Y ++ (kq cI cZ cP b I V P ++ cw cI b I V))) H := hP
    have hD : va_D A (dw cI cZ a X Y ++ (ppw cI cZ a X Y ++ (kq cI cZ cP b I V P ++ cw cI b I V))) := hD
    obtain ⟨j2, hjj2, rfl⟩ := rg_j (by decide) hrg0
    have hixj2 : ix (nI j2) = j2 := ix_nI (by omega)
    have hnmj2 : ¬ nI j2 = -1 := nI_nm1 (by omega)
    refine lv_iload_n B.hx B.hb dX3_approve_11 rfl (lv_at hl 4 rfl) ?_
    refine lv_aload_n B.hx B.hb dX3_approve_12 rfl (lv_at hl 1 rfl) ?_
    refine q_get B hP (C := RX3) (ref := "PaperKeeper") (T := TX3) (N := 8) (ci := 3) hi3 rfl 10 rfl 7 (by decide) (by decide +kernel) rfl (v := .int (I 7)) rfl dX3_approve_13 ?_
    refine lv_iconst (v := (nI 1)) B.hx B.hb dX3_approve_16 (by decide) ?_
    refine lv_iadd B.hx B.hb dX3_approve_17 ?_
    refine lv_sipush (v := (nI 1000)) B.hx B.hb dX3_approve_18 (by decide) ?_
    refine q_callS (As := [.int y, .int ((I 7) + (nI 1)), .int (nI 1000)]) (rest := []) B hP hD hS ((c3_checkRange l hfl D cI cZ cP y ((I 7) + (nI 1)) (nI 1000)).fr0 (dw cI cZ a X Y ++ (ppw cI cZ a X Y ++ (kq cI cZ cP b I V P ++ cw cI b I V)))) (cwS 3 B.hts gX3_approve_X3_checkRange rfl rfl rfl (by decide +kernel) ⟨(Nat.le_of_ble_eq_true rfl), (Nat.le_of_ble_eq_true rfl)⟩) rfl hl.1 rfl (Nat.le_of_ble_eq_true rfl) dX3_approve_21 ⟨(Nat.le_of_ble_eq_true rfl), (Nat.le_of_ble_eq_true rfl)⟩ (fun E ce q9 H locs hx hP hS hce hcv hcl => ?_) (fun v u H locs hp hP hD hS => ?_)
    · exact q_xout B htb hP hS hce hcv hcl (Or.inl ⟨hx.1, by simp [kApprove, hx.2, hrg0, hixj2, hnmj2]⟩) (Nat.le_of_ble_eq_true rfl) (Nat.le_of_ble_eq_true rfl)
    · obtain ⟨rfl, hrg1⟩ := hp
      have hP : va_P D vwCl (dw cI cZ a X Y ++ (ppw cI cZ a X Y ++ (kq cI cZ cP b I V P ++ cw cI b I V))) H := hP
      have hD : va_D A (dw cI cZ a X Y ++ (ppw cI cZ a X Y ++ (kq cI cZ cP b I V P ++ cw cI b I V))) := hD
      refine lv_aload B.hx B.hb dX3_approve_24 (lv_at hl 0 rfl) ?_
      refine q_callS (As := [.ref (a 0)]) (rest := []) B hP hD hS ((c3_draftOf l hfl D cI cZ cP a X Y).fr2 (kq cI cZ cP b I V P ++ cw cI b I V)) (cwS 1 B.hts gX3_approve_X3_draftOf rfl rfl rfl (by decide +kernel) ⟨(Nat.le_of_ble_eq_true rfl), (Nat.le_of_ble_eq_true rfl)⟩) rfl hl.1 rfl (Nat.le_of_ble_eq_true rfl) dX3_approve_26 ⟨(Nat.le_of_ble_eq_true rfl), (Nat.le_of_ble_eq_true rfl)⟩ (fun E ce q9 H locs hx hP hS hce hcv hcl => ?_) (fun v u H locs hp hP hD hS => ?_)
      · exact q_xout B htb hP hS hce hcv hcl (Or.inr ⟨hx.1, by simp [kApprove, hx.2, hrg0, hrg1, hixj2, hnmj2]⟩) (Nat.le_of_ble_eq_true rfl) (Nat.le_of_ble_eq_true rfl)
      · obtain ⟨rfl, hhd⟩ := hp
        have hP : va_P D vwCl (dw cI cZ a X Y ++ (ppw cI cZ a X Y ++ (kq cI cZ cP b I V P ++ cw cI b I V))) H := hP
        have hD : va_D A (dw cI cZ a X Y ++ (ppw cI cZ a X Y ++ (kq cI cZ cP b I V P ++ cw cI b I V))) := hD
        refine lv_astore (lv' := [(5, .ref (a 2)), (4, .ref (a 0)), (0, .ref (b 0)), (1, .int (nI j)), (2, .int (nI j2)), (3, .int y)]) B.hx B.hb dX3_approve_29 hl (by decide) rfl (fun ls hl => ?_)
        refine lv_aload B.hx B.hb dX3_approve_31 (lv_at hl 0 rfl) ?_
        refine q_callV (As := []) (rest := []) B hP hD hS ((c1_nextStep l D cI cZ cP a X Y n k hW).fr (ppw cI cZ a X Y ++ (kq cI cZ cP b I V P ++ cw cI b I V))) (cwV 0 B.hts gX3_approve_X1_nextStep rfl rfl rfl (by decide +kernel) ⟨(Nat.le_of_ble_eq_true rfl), (Nat.le_of_ble_eq_true rfl)⟩) 0 1 rfl rfl rfl rfl hl.1 rfl (Nat.le_of_ble_eq_true rfl) dX3_approve_33 ⟨(Nat.le_of_ble_eq_true rfl), (Nat.le_of_ble_eq_true rfl)⟩ (fun E ce q9 H locs hx => False.elim hx) (fun v u H locs hp hP hD hS => ?_)
        obtain rfl := hp
        have hP : va_P D vwCl (dw cI cZ a X Y ++ (ppw cI cZ a X Y ++ (kq cI cZ cP b I V P ++ cw cI b I V))) H := hP
        have hD : va_D A (dw cI cZ a X Y ++ (ppw cI cZ a X Y ++ (kq cI cZ cP b I V P ++ cw cI b I V))) := hD
        refine lv_iconst (v := (nI 3)) B.hx B.hb dX3_approve_36 (by decide) ?_
        refine lv_icmp_eq (tgt := 50) B.hx B.hb dX3_approve_37 (by decide) (fun c1 => ?_) (fun c1 => ?_)
        · refine lv_iload_n B.hx B.hb dX3_approve_50 rfl (lv_at hl 4 rfl) ?_
          refine lv_aload B.hx B.hb dX3_approve_51 (lv_at hl 0 rfl) ?_
          refine q_get B hP (C := RX1) (ref := "PaperKeeper$Draft") (T := TX1) (N := 12) (ci := 1) hi1 rfl 0 rfl 5 (by decide) (by decide +kernel) rfl (v := .int (X 5)) rfl dX3_approve_53 ?_
          refine lv_icmp_eq (tgt := 67) B.hx B.hb dX3_approve_56 (by decide) (fun c2 => ?_) (fun c2 => ?_)
          · replace c2 := c2.symm
            exact q_throw B hfl htb hP hS q_E_ISE (goodIn_app (goodIn_of [_, _] (by decide +kernel)) (goodIn_sub (fun w h => List.mem_cons_of_mem _ (List.mem_append_left _ (List.mem_append_left _ (List.mem_append_right _ h)))) q_allg_ISE)) (List.mem_of_getElem? (i := 14) rfl) hl.1 dX3_approve_67 dX3_approve_70 dX3_approve_71 dX3_approve_73 dX3_approve_76 ⟨(Nat.le_of_ble_eq_true rfl), (Nat.le_of_ble_eq_true rfl), (Nat.le_of_ble_eq_true rfl), (Nat.le_of_ble_eq_true rfl)⟩ (Or.inr ⟨rfl, by simp [kApprove, hrg0, hrg1, hhd, c1, c2, hixj2, hnmj2]⟩) (Nat.le_of_ble_eq_true rfl) (Nat.le_of_ble_eq_true rfl)
          · refine lv_aload_n B.hx B.hb dX3_approve_59 rfl (lv_at hl 2 rfl) ?_
            refine lv_iload_n B.hx B.hb dX3_approve_60 rfl (lv_at hl 4 rfl) ?_
            refine q_callV (As := [.int (nI j2)]) (rest := []) B hP hD hS ((c3_canApprove l D cI cZ cP b I V P j2 hjj2 hb).fl2 (dw cI cZ a X Y) (ppw cI cZ a X Y)) (cwV 1 B.hts gX3_approve_X3_canApprove rfl rfl rfl (by decide +kernel) ⟨(Nat.le_of_ble_eq_true rfl), (Nat.le_of_ble_eq_true rfl)⟩) 10 3 rfl rfl rfl rfl hl.1 rfl (Nat.le_of_ble_eq_true rfl) dX3_approve_61 ⟨(Nat.le_of_ble_eq_true rfl), (Nat.le_of_ble_eq_true rfl)⟩ (fun E ce q9 H locs hx => False.elim hx) (fun v u H locs hp hP hD hS => ?_)
            replace hp := q_if2 hp
            rcases hp with ⟨rfl, hca⟩ | ⟨rfl, hca⟩
            · have hP : va_P D vwCl (dw cI cZ a X Y ++ (ppw cI cZ a X Y ++ (kq cI cZ cP b I V P ++ cw cI b I V))) H := hP
              have hD : va_D A (dw cI cZ a X Y ++ (ppw cI cZ a X Y ++ (kq cI cZ cP b I V P ++ cw cI b I V))) := hD
              refine lv_if_ne (tgt := 77) B.hx B.hb dX3_approve_64 (by decide) (fun _ => ?_) (fun c3 => absurd c3 (by decide))
              refine lv_aload B.hx B.hb dX3_approve_77 (lv_at hl 0 rfl) ?_
              refine lv_iconst (v := (nI 1)) B.hx B.hb dX3_approve_79 (by decide) ?_
              refine q_put B hP hD hS (C := RX1) (ref := "PaperKeeper$Draft") (T := TX1) (N := 12) (ci := 1) hi1 rfl tyX1 tyX1_ok nmX1 0 rfl 10 (by decide) (by decide +kernel) rfl rfl (by decide) (by decide) (Nat.le_of_ble_eq_true rfl) dX3_approve_80 (w' := dw cI cZ a (va_up X 10 (nI 1)) Y ++ (ppw cI cZ a (va_up X 10 (nI 1)) Y ++ (kq cI cZ cP b I V P ++ cw cI b I V))) rfl (fun H locs hP hD hS => ?_)
              refine lv_aload B.hx B.hb dX3_approve_83 (lv_at hl 0 rfl) ?_
              refine lv_iload_n B.hx B.hb dX3_approve_85 rfl (lv_at hl 5 rfl) ?_
              refine q_put B hP hD hS (C := RX1) (ref := "PaperKeeper$Draft") (T := TX1) (N := 12) (ci := 1) hi1 rfl tyX1 tyX1_ok nmX1 0 rfl 11 (by decide) (by decide +kernel) rfl rfl rfl (by rfl) (Nat.le_of_ble_eq_true rfl) dX3_approve_86 (w' := dw cI cZ a (va_up (va_up X 10 (nI 1)) 11 y) Y ++ (ppw cI cZ a (va_up (va_up X 10 (nI 1)) 11 y) Y ++ (kq cI cZ cP b I V P ++ cw cI b I V))) rfl (fun H locs hP hD hS => ?_)
              exact q_vret B hr hP hD hS (u := ()) rfl ⟨rfl, by simp [kApprove, hrg0, hrg1, hhd, c1, c2, hca, hixj2, hnmj2]⟩ (Nat.le_of_ble_eq_true rfl) (Nat.le_of_ble_eq_true rfl) dX3_approve_89
            · have hP : va_P D vwCl (dw cI cZ a X Y ++ (ppw cI cZ a X Y ++ (kq cI cZ cP b I V P ++ cw cI b I V))) H := hP
              have hD : va_D A (dw cI cZ a X Y ++ (ppw cI cZ a X Y ++ (kq cI cZ cP b I V P ++ cw cI b I V))) := hD
              refine lv_if_ne (tgt := 77) B.hx B.hb dX3_approve_64 (by decide) (fun c4 => absurd c4 (by decide)) (fun _ => ?_)
              exact q_throw B hfl htb hP hS q_E_ISE (goodIn_app (goodIn_of [_, _] (by decide +kernel)) (goodIn_sub (fun w h => List.mem_cons_of_mem _ (List.mem_append_left _ (List.mem_append_left _ (List.mem_append_right _ h)))) q_allg_ISE)) (List.mem_of_getElem? (i := 14) rfl) hl.1 dX3_approve_67 dX3_approve_70 dX3_approve_71 dX3_approve_73 dX3_approve_76 ⟨(Nat.le_of_ble_eq_true rfl), (Nat.le_of_ble_eq_true rfl), (Nat.le_of_ble_eq_true rfl), (Nat.le_of_ble_eq_true rfl)⟩ (Or.inr ⟨rfl, by simp [kApprove, hrg0, hrg1, hhd, c1, c2, hca, hixj2, hnmj2]⟩) (Nat.le_of_ble_eq_true rfl) (Nat.le_of_ble_eq_true rfl)
        · exact q_throw B hfl htb hP hS q_E_ISE (goodIn_app (goodIn_of [_, _] (by decide +kernel)) (goodIn_sub (fun w h => List.mem_cons_of_mem _ (List.mem_append_left _ (List.mem_append_left _ (List.mem_append_right _ h)))) q_allg_ISE)) (List.mem_of_getElem? (i := 13) rfl) hl.1 dX3_approve_40 dX3_approve_43 dX3_approve_44 dX3_approve_46 dX3_approve_49 ⟨(Nat.le_of_ble_eq_true rfl), (Nat.le_of_ble_eq_true rfl), (Nat.le_of_ble_eq_true rfl), (Nat.le_of_ble_eq_true rfl)⟩ (Or.inr ⟨rfl, by simp [kApprove, hrg0, hrg1, hhd, c1, hixj2, hnmj2]⟩) (Nat.le_of_ble_eq_true rfl) (Nat.le_of_ble_eq_true rfl)
set_option maxHeartbeats 4000000 in
set_option maxRecDepth 100000 in
theorem c3_confirm (l : Launch) (hfl : l.stackTraces = false) (D : va_G) (cI cZ cP : ClassId) (b : Nat → Nat) (I : Nat → Int32) (V : Nat → Nat → Int32) (P : Nat → Option Nat) (a : Nat → Nat) (X : Nat → Int32) (Y : Nat → Nat → Int32) (j : Nat) (hj : j < 8) (hpj : P j = some (a 0)) (x : Int32) : q_C l yX3_confirm wsX3_confirm ({ frames := 8, cells := 3, slots := 18, locals := 124 }) D cI cZ cP [.ref (b 0), .int (nI j), .int x] (dw cI cZ a X Y ++ (ppw cI cZ a X Y ++ (kq cI cZ cP b I V P ++ cw cI b I V))) (S := Unit) (fun v _ => v = some (.int (nI (pN (fun i => decide (¬ Y 4 i = 0)) 6) - nI (pN (fun i => decide (¬ (upd (Y 5) (ix x) (nI 1)) i = 0)) 6))) ∧ kConfirm x (X 2) (X 10) (Y 4 (ix x)) (Y 5 (ix x)) = 0) (fun _ => dw cI cZ a X (va_up Y 5 (upd (Y 5) (ix x) (nI 1))) ++ (ppw cI cZ a X (va_up Y 5 (upd (Y 5) (ix x) (nI 1))) ++ (kq cI cZ cP b I V P ++ cw cI b I V))) (fun E => (E = q_IAE ∧ kConfirm x (X 2) (X 10) (Y 4 (ix x)) (Y 5 (ix x)) = 2) ∨ (E = q_ISE ∧ kConfirm x (X 2) (X 10) (Y 4 (ix x)) (Y 5 (ix x)) = 3)) 3 18 := by
  refine q_of (cc := cX3_confirm) (maxL := 5) (ret := (some .int)) (by decide +kernel) rfl (Nat.le_of_ble_eq_true rfl) ?_
  intro p e s m below meth c A ls B hr htb hmn hP hD hS hl
  have hl : lv_has ls 5 [(0, .ref (b 0)), (1, .int (nI j)), (2, .int x)] := hl
  have hi1 : ∀ w ∈ u_ws RX1 TX1 12, w ∈ wsX3_confirm := by decide +kernel
  refine lv_aload_n B.hx B.hb dX3_confirm_0 rfl (lv_at hl 0 rfl) ?_
  refine lv_iload_n B.hx B.hb dX3_confirm_1 rfl (lv_at hl 1 rfl) ?_
  refine q_callV (As := [.int (nI j)]) (rest := []) B hP hD hS ((c3_paperAt l D cI cZ cP b I V P j (a 0) hj hpj).fl2 (dw cI cZ a X Y) (ppw cI cZ a X Y)) (cwV 1 B.hts gX3_confirm_X3_paperAt rfl rfl rfl (by decide +kernel) ⟨(Nat.le_of_ble_eq_true rfl), (Nat.le_of_ble_eq_true rfl)⟩) 10 3 rfl rfl rfl rfl hl.1 rfl (Nat.le_of_ble_eq_true rfl) dX3_confirm_2 ⟨(Nat.le_of_ble_eq_true rfl), (Nat.le_of_ble_eq_true rfl)⟩ (fun E ce q9 H locs hx => False.elim hx) (fun v u H locs hp hP hD hS => ?_)
  obtain rfl := hp
  have hP : va_P D vwCl (dw cI cZ a X Y ++ (ppw cI cZ a X Y ++ (kq cI cZ cP b I V P ++ cw cI b I V))) H := hP
  have hD : va_D A (dw cI cZ a X Y ++ (ppw cI cZ a X Y ++ (kq cI cZ cP b I V P ++ cw cI b I V))) := hD
  refine lv_astore_n (lv' := [(3, .ref (a 0)), (0, .ref (b 0)), (1, .int (nI j)), (2, .int x)]) B.hx B.hb dX3_confirm_5 rfl hl (by decide) rfl (fun ls hl => ?_)
  refine lv_iload_n B.hx B.hb dX3_confirm_6 rfl (lv_at hl 3 rfl) ?_
  refine q_callS (As := [.int x]) (rest := []) B hP hD hS ((c3_checkPerson l hfl D cI cZ cP x).fr0 (dw cI cZ a X Y ++ (ppw cI cZ a X Y ++ (kq cI cZ cP b I V P ++ cw cI b I V)))) (cwS 1 B.hts gX3_confirm_X3_checkPerson rfl rfl rfl (by decide +kernel) ⟨(Nat.le_of_ble_eq_true rfl), (Nat.le_of_ble_eq_true rfl)⟩) rfl hl.1 rfl (Nat.le_of_ble_eq_true rfl) dX3_confirm_7 ⟨(Nat.le_of_ble_eq_true rfl), (Nat.le_of_ble_eq_true rfl)⟩ (fun E ce q9 H locs hx hP hS hce hcv hcl => ?_) (fun v u H locs hp hP hD hS => ?_)
  · exact q_xout B htb hP hS hce hcv hcl (Or.inl ⟨hx.1, by simp [kConfirm, hx.2]⟩) (Nat.le_of_ble_eq_true rfl) (Nat.le_of_ble_eq_true rfl)
  · obtain ⟨rfl, hrg0⟩ := hp
    have hP : va_P D vwCl (dw cI cZ a X Y ++ (ppw cI cZ a X Y ++ (kq cI cZ cP b I V P ++ cw cI b I V))) H := hP
    have hD : va_D A (dw cI cZ a X Y ++ (ppw cI cZ a X Y ++ (kq cI cZ cP b I V P ++ cw cI b I V))) := hD
    obtain ⟨j2, hjj2, rfl⟩ := rg_j (by decide) hrg0
    have hixj2 : ix (nI j2) = j2 := ix_nI (by omega)
    have hnmj2 : ¬ nI j2 = -1 := nI_nm1 (by omega)
    refine lv_aload_n B.hx B.hb dX3_confirm_10 rfl (lv_at hl 0 rfl) ?_
    refine q_callS (As := [.ref (a 0)]) (rest := []) B hP hD hS ((c3_draftOf l hfl D cI cZ cP a X Y).fr2 (kq cI cZ cP b I V P ++ cw cI b I V)) (cwS 1 B.hts gX3_confirm_X3_draftOf rfl rfl rfl (by decide +kernel) ⟨(Nat.le_of_ble_eq_true rfl), (Nat.le_of_ble_eq_true rfl)⟩) rfl hl.1 rfl (Nat.le_of_ble_eq_true rfl) dX3_confirm_11 ⟨(Nat.le_of_ble_eq_true rfl), (Nat.le_of_ble_eq_true rfl)⟩ (fun E ce q9 H locs hx hP hS hce hcv hcl => ?_) (fun v u H locs hp hP hD hS => ?_)
    · exact q_xout B htb hP hS hce hcv hcl (Or.inr ⟨hx.1, by simp [kConfirm, hx.2, hrg0, hixj2, hnmj2]⟩) (Nat.le_of_ble_eq_true rfl) (Nat.le_of_ble_eq_true rfl)
    · obtain ⟨rfl, hhd⟩ := hp
      have hP : va_P D vwCl (dw cI cZ a X Y ++ (ppw cI cZ a X Y ++ (kq cI cZ cP b I V P ++ cw cI b I V))) H := hP
      have hD : va_D A (dw cI cZ a X Y ++ (ppw cI cZ a X Y ++ (kq cI cZ cP b I V P ++ cw cI b I V))) := hD
      refine lv_astore (lv' := [(4, .ref (a 2)), (3, .ref (a 0)), (0, .ref (b 0)), (1, .int (nI j)), (2, .int (nI j2))]) B.hx B.hb dX3_confirm_14 hl (by decide) rfl (fun ls hl => ?_)
      refine lv_aload B.hx B.hb dX3_confirm_16 (lv_at hl 0 rfl) ?_
      refine q_get B hP (C := RX1) (ref := "PaperKeeper$Draft") (T := TX1) (N := 12) (ci := 1) hi1 rfl 0 rfl 10 (by decide) (by decide +kernel) rfl (v := .int (X 10)) rfl dX3_confirm_18 ?_
      refine lv_if_ne (tgt := 34) B.hx B.hb dX3_confirm_21 (by decide) (fun c1 => ?_) (fun c1 => ?_)
      · refine lv_aload B.hx B.hb dX3_confirm_34 (lv_at hl 0 rfl) ?_
        refine q_get B hP (C := RX1) (ref := "PaperKeeper$Draft") (T := TX1) (N := 12) (ci := 1) hi1 rfl 0 rfl 3 (by decide) (by decide +kernel) rfl (v := .ref (a 6)) rfl dX3_confirm_36 ?_
        refine lv_iload_n B.hx B.hb dX3_confirm_39 rfl (lv_at hl 4 rfl) ?_
        refine q_zald B hP 4 rfl (j := j2) rfl (by omega) (by decide) dX3_confirm_40 ?_
        refine lv_if_eq (tgt := 54) B.hx B.hb dX3_confirm_41 (by decide) (fun c2 => ?_) (fun c2 => ?_)
        · exact q_throw B hfl htb hP hS q_E_ISE (goodIn_app (goodIn_of [_, _] (by decide +kernel)) (goodIn_sub (fun w h => List.mem_cons_of_mem _ (List.mem_append_left _ (List.mem_append_left _ (List.mem_append_right _ h)))) q_allg_ISE)) (List.mem_of_getElem? (i := 16) rfl) hl.1 dX3_confirm_54 dX3_confirm_57 dX3_confirm_58 dX3_confirm_60 dX3_confirm_63 ⟨(Nat.le_of_ble_eq_true rfl), (Nat.le_of_ble_eq_true rfl), (Nat.le_of_ble_eq_true rfl), (Nat.le_of_ble_eq_true rfl)⟩ (Or.inr ⟨rfl, by simp [kConfirm, hrg0, hhd, c1, c2, hixj2, hnmj2]⟩) (Nat.le_of_ble_eq_true rfl) (Nat.le_of_ble_eq_true rfl)
        · refine lv_aload B.hx B.hb dX3_confirm_44 (lv_at hl 0 rfl) ?_
          refine q_get B hP (C := RX1) (ref := "PaperKeeper$Draft") (T := TX1) (N := 12) (ci := 1) hi1 rfl 0 rfl 4 (by decide) (by decide +kernel) rfl (v := .ref (a 7)) rfl dX3_confirm_46 ?_
          refine lv_iload_n B.hx B.hb dX3_confirm_49 rfl (lv_at hl 4 rfl) ?_
          refine q_zald B hP 5 rfl (j := j2) rfl (by omega) (by decide) dX3_confirm_50 ?_
          refine lv_if_eq (tgt := 64) B.hx B.hb dX3_confirm_51 (by decide) (fun c3 => ?_) (fun c3 => ?_)
          · refine lv_aload B.hx B.hb dX3_confirm_64 (lv_at hl 0 rfl) ?_
            refine q_get B hP (C := RX1) (ref := "PaperKeeper$Draft") (T := TX1) (N := 12) (ci := 1) hi1 rfl 0 rfl 4 (by decide) (by decide +kernel) rfl (v := .ref (a 7)) rfl dX3_confirm_66 ?_
            refine lv_iload_n B.hx B.hb dX3_confirm_69 rfl (lv_at hl 4 rfl) ?_
            refine lv_iconst (v := (nI 1)) B.hx B.hb dX3_confirm_70 (by decide) ?_
            refine q_zast B hP hD hS 5 rfl (j := j2) rfl (by omega) (by decide) (by decide) dX3_confirm_71 (w' := dw cI cZ a X (va_up Y 5 (upd (Y 5) j2 (nI 1))) ++ (ppw cI cZ a X (va_up Y 5 (upd (Y 5) j2 (nI 1))) ++ (kq cI cZ cP b I V P ++ cw cI b I V))) rfl (fun H locs hP hD hS => ?_)
            refine lv_aload B.hx B.hb dX3_confirm_72 (lv_at hl 0 rfl) ?_
            refine q_get B hP (C := RX1) (ref := "PaperKeeper$Draft") (T := TX1) (N := 12) (ci := 1) hi1 rfl 0 rfl 3 (by decide) (by decide +kernel) rfl (v := .ref (a 6)) rfl dX3_confirm_74 ?_
            refine q_callS (As := [.ref (a 6)]) (rest := []) B hP hD hS (c3_countOf l D cI cZ cP (dw cI cZ a X (va_up Y 5 (upd (Y 5) j2 (nI 1))) ++ (ppw cI cZ a X (va_up Y 5 (upd (Y 5) j2 (nI 1))) ++ (kq cI cZ cP b I V P ++ cw cI b I V))) 4 (a 6) 6 (Y 4) rfl (by decide)) (cwS 1 B.hts gX3_confirm_X3_countOf rfl rfl rfl (by decide +kernel) ⟨(Nat.le_of_ble_eq_true rfl), (Nat.le_of_ble_eq_true rfl)⟩) rfl hl.1 rfl (Nat.le_of_ble_eq_true rfl) dX3_confirm_77 ⟨(Nat.le_of_ble_eq_true rfl), (Nat.le_of_ble_eq_true rfl)⟩ (fun E ce q9 H locs hx => False.elim hx) (fun v u H locs hp hP hD hS => ?_)
            obtain rfl := hp
            have hP : va_P D vwCl (dw cI cZ a X (va_up Y 5 (upd (Y 5) j2 (nI 1))) ++ (ppw cI cZ a X (va_up Y 5 (upd (Y 5) j2 (nI 1))) ++ (kq cI cZ cP b I V P ++ cw cI b I V))) H := hP
            have hD : va_D A (dw cI cZ a X (va_up Y 5 (upd (Y 5) j2 (nI 1))) ++ (ppw cI cZ a X (va_up Y 5 (upd (Y 5) j2 (nI 1))) ++ (kq cI cZ cP b I V P ++ cw cI b I V))) := hD
            refine lv_aload B.hx B.hb dX3_confirm_80 (lv_at hl 0 rfl) ?_
            refine q_get B hP (C := RX1) (ref := "PaperKeeper$Draft") (T := TX1) (N := 12) (ci := 1) hi1 rfl 0 rfl 4 (by decide) (by decide +kernel) rfl (v := .ref (a 7)) rfl dX3_confirm_82 ?_
            refine q_callS (As := [.ref (a 7)]) (rest := [.int (nI ((pN (fun i => decide (¬ (Y 4) i = 0)) 6)))]) B hP hD hS (c3_countOf l D cI cZ cP (dw cI cZ a X (va_up Y 5 (upd (Y 5) j2 (nI 1))) ++ (ppw cI cZ a X (va_up Y 5 (upd (Y 5) j2 (nI 1))) ++ (kq cI cZ cP b I V P ++ cw cI b I V))) 5 (a 7) 6 (upd (Y 5) j2 (nI 1)) rfl (by decide)) (cwS 1 B.hts gX3_confirm_X3_countOf rfl rfl rfl (by decide +kernel) ⟨(Nat.le_of_ble_eq_true rfl), (Nat.le_of_ble_eq_true rfl)⟩) rfl hl.1 rfl (Nat.le_of_ble_eq_true rfl) dX3_confirm_85 ⟨(Nat.le_of_ble_eq_true rfl), (Nat.le_of_ble_eq_true rfl)⟩ (fun E ce q9 H locs hx => False.elim hx) (fun v u H locs hp hP hD hS => ?_)
            obtain rfl := hp
            have hP : va_P D vwCl (dw cI cZ a X (va_up Y 5 (upd (Y 5) j2 (nI 1))) ++ (ppw cI cZ a X (va_up Y 5 (upd (Y 5) j2 (nI 1))) ++ (kq cI cZ cP b I V P ++ cw cI b I V))) H := hP
            have hD : va_D A (dw cI cZ a X (va_up Y 5 (upd (Y 5) j2 (nI 1))) ++ (ppw cI cZ a X (va_up Y 5 (upd (Y 5) j2 (nI 1))) ++ (kq cI cZ cP b I V P ++ cw cI b I V))) := hD
            refine lv_isub B.hx B.hb dX3_confirm_88 ?_
            exact q_iret B hr hP hD hS (u := ()) (by simp only [hixj2]) ⟨by rw [hixj2], by simp [kConfirm, hrg0, hhd, c1, c2, c3, hixj2, hnmj2]⟩ (Nat.le_of_ble_eq_true rfl) (Nat.le_of_ble_eq_true rfl) dX3_confirm_89
          · exact q_throw B hfl htb hP hS q_E_ISE (goodIn_app (goodIn_of [_, _] (by decide +kernel)) (goodIn_sub (fun w h => List.mem_cons_of_mem _ (List.mem_append_left _ (List.mem_append_left _ (List.mem_append_right _ h)))) q_allg_ISE)) (List.mem_of_getElem? (i := 16) rfl) hl.1 dX3_confirm_54 dX3_confirm_57 dX3_confirm_58 dX3_confirm_60 dX3_confirm_63 ⟨(Nat.le_of_ble_eq_true rfl), (Nat.le_of_ble_eq_true rfl), (Nat.le_of_ble_eq_true rfl), (Nat.le_of_ble_eq_true rfl)⟩ (Or.inr ⟨rfl, by simp [kConfirm, hrg0, hhd, c1, c2, c3, hixj2, hnmj2]⟩) (Nat.le_of_ble_eq_true rfl) (Nat.le_of_ble_eq_true rfl)
      · exact q_throw B hfl htb hP hS q_E_ISE (goodIn_app (goodIn_of [_, _] (by decide +kernel)) (goodIn_sub (fun w h => List.mem_cons_of_mem _ (List.mem_append_left _ (List.mem_append_left _ (List.mem_append_right _ h)))) q_allg_ISE)) (List.mem_of_getElem? (i := 15) rfl) hl.1 dX3_confirm_24 dX3_confirm_27 dX3_confirm_28 dX3_confirm_30 dX3_confirm_33 ⟨(Nat.le_of_ble_eq_true rfl), (Nat.le_of_ble_eq_true rfl), (Nat.le_of_ble_eq_true rfl), (Nat.le_of_ble_eq_true rfl)⟩ (Or.inr ⟨rfl, by simp [kConfirm, hrg0, hhd, c1, hixj2, hnmj2]⟩) (Nat.le_of_ble_eq_true rfl) (Nat.le_of_ble_eq_true rfl)
set_option maxHeartbeats 4000000 in
set_option maxRecDepth 100000 in
theorem c3_look (l : Launch) (hfl : l.stackTraces = false) (D : va_G) (cI cZ cP : ClassId) (b : Nat → Nat) (I : Nat → Int32) (V : Nat → Nat → Int32) (P : Nat → Option Nat) (a : Nat → Nat) (X : Nat → Int32) (Y : Nat → Nat → Int32) (j : Nat) (hj : j < 8) (hpj : P j = some (a 0)) (w : Nat) (hw1 : X 1 = nI w) (hw2 : w ≤ 128) : q_C l yX3_look wsX3_look ({ frames := 7, cells := 1, slots := 6, locals := 102 }) D cI cZ cP [.ref (b 0), .int (nI j)] (dw cI cZ a X Y ++ (ppw cI cZ a X Y ++ (kq cI cZ cP b I V P ++ cw cI b I V))) (S := Unit) (fun v _ => v = some (.int (nl w (X 3) (I 7) (X 4) (I 6))) ∧ kLook w = 0) (fun _ => dw cI cZ a (va_up (va_up X 3 (nI 0)) 4 (I 7)) Y ++ (ppw cI cZ a (va_up (va_up X 3 (nI 0)) 4 (I 7)) Y ++ (kq cI cZ cP b I V P ++ cw cI b I V))) (fun E => E = q_ISE ∧ kLook w = 2) 1 6 := by
  refine q_of (cc := cX3_look) (maxL := 4) (ret := (some .boolean)) (by decide +kernel) rfl (Nat.le_of_ble_eq_true rfl) ?_
  intro p e s m below meth c A ls B hr htb hmn hP hD hS hl
  have hl : lv_has ls 4 [(0, .ref (b 0)), (1, .int (nI j))] := hl
  have hi3 : ∀ w ∈ u_ws RX3 TX3 8, w ∈ wsX3_look := by decide +kernel
  refine lv_aload_n B.hx B.hb dX3_look_0 rfl (lv_at hl 0 rfl) ?_
  refine lv_iload_n B.hx B.hb dX3_look_1 rfl (lv_at hl 1 rfl) ?_
  refine q_callV (As := [.int (nI j)]) (rest := []) B hP hD hS ((c3_paperAt l D cI cZ cP b I V P j (a 0) hj hpj).fl2 (dw cI cZ a X Y) (ppw cI cZ a X Y)) (cwV 1 B.hts gX3_look_X3_paperAt rfl rfl rfl (by decide +kernel) ⟨(Nat.le_of_ble_eq_true rfl), (Nat.le_of_ble_eq_true rfl)⟩) 10 3 rfl rfl rfl rfl hl.1 rfl (Nat.le_of_ble_eq_true rfl) dX3_look_2 ⟨(Nat.le_of_ble_eq_true rfl), (Nat.le_of_ble_eq_true rfl)⟩ (fun E ce q9 H locs hx => False.elim hx) (fun v u H locs hp hP hD hS => ?_)
  obtain rfl := hp
  have hP : va_P D vwCl (dw cI cZ a X Y ++ (ppw cI cZ a X Y ++ (kq cI cZ cP b I V P ++ cw cI b I V))) H := hP
  have hD : va_D A (dw cI cZ a X Y ++ (ppw cI cZ a X Y ++ (kq cI cZ cP b I V P ++ cw cI b I V))) := hD
  refine lv_astore_n (lv' := [(2, .ref (a 0)), (0, .ref (b 0)), (1, .int (nI j))]) B.hx B.hb dX3_look_5 rfl hl (by decide) rfl (fun ls hl => ?_)
  refine lv_aload_n B.hx B.hb dX3_look_6 rfl (lv_at hl 0 rfl) ?_
  refine q_callS (As := [.ref (a 0)]) (rest := []) B hP hD hS ((c3_checkInForce l hfl D cI cZ cP a X Y w hw1 hw2).fr2 (kq cI cZ cP b I V P ++ cw cI b I V)) (cwS 1 B.hts gX3_look_X3_checkInForce rfl rfl rfl (by decide +kernel) ⟨(Nat.le_of_ble_eq_true rfl), (Nat.le_of_ble_eq_true rfl)⟩) rfl hl.1 rfl (Nat.le_of_ble_eq_true rfl) dX3_look_7 ⟨(Nat.le_of_ble_eq_true rfl), (Nat.le_of_ble_eq_true rfl)⟩ (fun E ce q9 H locs hx hP hS hce hcv hcl => ?_) (fun v u H locs hp hP hD hS => ?_)
  · exact q_xout B htb hP hS hce hcv hcl ⟨hx.1, by simp [kLook, hx.2]⟩ (Nat.le_of_ble_eq_true rfl) (Nat.le_of_ble_eq_true rfl)
  · obtain ⟨rfl, hw0⟩ := hp
    have hP : va_P D vwCl (dw cI cZ a X Y ++ (ppw cI cZ a X Y ++ (kq cI cZ cP b I V P ++ cw cI b I V))) H := hP
    have hD : va_D A (dw cI cZ a X Y ++ (ppw cI cZ a X Y ++ (kq cI cZ cP b I V P ++ cw cI b I V))) := hD
    refine lv_aload_n B.hx B.hb dX3_look_10 rfl (lv_at hl 0 rfl) ?_
    refine lv_aload_n B.hx B.hb dX3_look_11 rfl (lv_at hl 1 rfl) ?_
    refine q_get B hP (C := RX3) (ref := "PaperKeeper") (T := TX3) (N := 8) (ci := 3) hi3 rfl 10 rfl 7 (by decide) (by decide +kernel) rfl (v := .int (I 7)) rfl dX3_look_12 ?_
    refine lv_aload_n B.hx B.hb dX3_look_15 rfl (lv_at hl 1 rfl) ?_
    refine q_get B hP (C := RX3) (ref := "PaperKeeper") (T := TX3) (N := 8) (ci := 3) hi3 rfl 10 rfl 6 (by decide) (by decide +kernel) rfl (v := .int (I 6)) rfl dX3_look_16 ?_
    refine q_callV (As := [.int (I 7), .int (I 6)]) (rest := []) B hP hD hS ((c2_needsLook l D cI cZ cP a X Y w hw1 hw2 (I 7) (I 6)).fr2 (kq cI cZ cP b I V P ++ cw cI b I V)) (cwV 2 B.hts gX3_look_X2_needsLook rfl rfl rfl (by decide +kernel) ⟨(Nat.le_of_ble_eq_true rfl), (Nat.le_of_ble_eq_true rfl)⟩) 6 2 rfl rfl rfl rfl hl.1 rfl (Nat.le_of_ble_eq_true rfl) dX3_look_19 ⟨(Nat.le_of_ble_eq_true rfl), (Nat.le_of_ble_eq_true rfl)⟩ (fun E ce q9 H locs hx => False.elim hx) (fun v u H locs hp hP hD hS => ?_)
    obtain rfl := hp
    have hP : va_P D vwCl (dw cI cZ a X Y ++ (ppw cI cZ a X Y ++ (kq cI cZ cP b I V P ++ cw cI b I V))) H := hP
    have hD : va_D A (dw cI cZ a X Y ++ (ppw cI cZ a X Y ++ (kq cI cZ cP b I V P ++ cw cI b I V))) := hD
    refine lv_istore_n (lv' := [(3, .int (nl w (X 3) (I 7) (X 4) (I 6))), (2, .ref (a 0)), (0, .ref (b 0)), (1, .int (nI j))]) B.hx B.hb dX3_look_22 rfl hl (by decide) rfl (fun ls hl => ?_)
    refine lv_aload_n B.hx B.hb dX3_look_23 rfl (lv_at hl 1 rfl) ?_
    refine lv_aload_n B.hx B.hb dX3_look_24 rfl (lv_at hl 2 rfl) ?_
    refine q_get B hP (C := RX3) (ref := "PaperKeeper") (T := TX3) (N := 8) (ci := 3) hi3 rfl 10 rfl 7 (by decide) (by decide +kernel) rfl (v := .int (I 7)) rfl dX3_look_25 ?_
    refine q_callV (As := [.int (I 7)]) (rest := []) B hP hD hS ((c2_restartInterval l D cI cZ cP a X Y (I 7)).fr2 (kq cI cZ cP b I V P ++ cw cI b I V)) (cwV 1 B.hts gX3_look_X2_restartInterval rfl rfl rfl (by decide +kernel) ⟨(Nat.le_of_ble_eq_true rfl), (Nat.le_of_ble_eq_true rfl)⟩) 6 2 rfl rfl rfl rfl hl.1 rfl (Nat.le_of_ble_eq_true rfl) dX3_look_28 ⟨(Nat.le_of_ble_eq_true rfl), (Nat.le_of_ble_eq_true rfl)⟩ (fun E ce q9 H locs hx => False.elim hx) (fun v u H locs hp hP hD hS => ?_)
    obtain rfl := hp
    have hP : va_P D vwCl (dw cI cZ a (va_up (va_up X 3 (nI 0)) 4 (I 7)) Y ++ (ppw cI cZ a (va_up (va_up X 3 (nI 0)) 4 (I 7)) Y ++ (kq cI cZ cP b I V P ++ cw cI b I V))) H := hP
    have hD : va_D A (dw cI cZ a (va_up (va_up X 3 (nI 0)) 4 (I 7)) Y ++ (ppw cI cZ a (va_up (va_up X 3 (nI 0)) 4 (I 7)) Y ++ (kq cI cZ cP b I V P ++ cw cI b I V))) := hD
    refine lv_iload_n B.hx B.hb dX3_look_31 rfl (lv_at hl 0 rfl) ?_
    exact q_zret B hr hP hD hS (nl_z _ _ _ _ _) (u := ()) rfl ⟨rfl, by simp [kLook, hw0]⟩ (Nat.le_of_ble_eq_true rfl) (Nat.le_of_ble_eq_true rfl) dX3_look_32
set_option maxHeartbeats 4000000 in
set_option maxRecDepth 100000 in
theorem c3_isDue (l : Launch) (D : va_G) (cI cZ cP : ClassId) (b : Nat → Nat) (I : Nat → Int32) (V : Nat → Nat → Int32) (P : Nat → Option Nat) (a : Nat → Nat) (X : Nat → Int32) (Y : Nat → Nat → Int32) (j : Nat) (hj : j < 8) (hpj : P j = some (a 0)) (w : Nat) (hw1 : X 1 = nI w) (hw2 : w ≤ 128) : q_C l yX3_isDue wsX3_isDue ({ frames := 1, cells := 0, slots := 0, locals := 22 }) D cI cZ cP [.ref (b 0), .int (nI j)] (dw cI cZ a X Y ++ (ppw cI cZ a X Y ++ (kq cI cZ cP b I V P ++ cw cI b I V))) (S := Unit) (fun v _ => v = some (.int (nl w (X 3) (I 7) (X 4) (I 6)))) (fun _ => dw cI cZ a X Y ++ (ppw cI cZ a X Y ++ (kq cI cZ cP b I V P ++ cw cI b I V))) (fun _ => False) 0 0 := by
  refine q_of (cc := cX3_isDue) (maxL := 2) (ret := (some .boolean)) (by decide +kernel) rfl (Nat.le_of_ble_eq_true rfl) ?_
  intro p e s m below meth c A ls B hr htb hmn hP hD hS hl
  have hl : lv_has ls 2 [(0, .ref (b 0)), (1, .int (nI j))] := hl
  have hi3 : ∀ w ∈ u_ws RX3 TX3 8, w ∈ wsX3_isDue := by decide +kernel
  refine lv_aload_n B.hx B.hb dX3_isDue_0 rfl (lv_at hl 0 rfl) ?_
  refine lv_iload_n B.hx B.hb dX3_isDue_1 rfl (lv_at hl 1 rfl) ?_
  refine q_callV (As := [.int (nI j)]) (rest := []) B hP hD hS ((c3_paperAt l D cI cZ cP b I V P j (a 0) hj hpj).fl2 (dw cI cZ a X Y) (ppw cI cZ a X Y)) (cwV 1 B.hts gX3_isDue_X3_paperAt rfl rfl rfl (by decide +kernel) ⟨(Nat.le_of_ble_eq_true rfl), (Nat.le_of_ble_eq_true rfl)⟩) 10 3 rfl rfl rfl rfl hl.1 rfl (Nat.le_of_ble_eq_true rfl) dX3_isDue_2 ⟨(Nat.le_of_ble_eq_true rfl), (Nat.le_of_ble_eq_true rfl)⟩ (fun E ce q9 H locs hx => False.elim hx) (fun v u H locs hp hP hD hS => ?_)
  obtain rfl := hp
  have hP : va_P D vwCl (dw cI cZ a X Y ++ (ppw cI cZ a X Y ++ (kq cI cZ cP b I V P ++ cw cI b I V))) H := hP
  have hD : va_D A (dw cI cZ a X Y ++ (ppw cI cZ a X Y ++ (kq cI cZ cP b I V P ++ cw cI b I V))) := hD
  refine lv_aload_n B.hx B.hb dX3_isDue_5 rfl (lv_at hl 0 rfl) ?_
  refine q_get B hP (C := RX3) (ref := "PaperKeeper") (T := TX3) (N := 8) (ci := 3) hi3 rfl 10 rfl 7 (by decide) (by decide +kernel) rfl (v := .int (I 7)) rfl dX3_isDue_6 ?_
  refine lv_aload_n B.hx B.hb dX3_isDue_9 rfl (lv_at hl 0 rfl) ?_
  refine q_get B hP (C := RX3) (ref := "PaperKeeper") (T := TX3) (N := 8) (ci := 3) hi3 rfl 10 rfl 6 (by decide) (by decide +kernel) rfl (v := .int (I 6)) rfl dX3_isDue_10 ?_
  refine q_callV (As := [.int (I 7), .int (I 6)]) (rest := []) B hP hD hS ((c2_needsLook l D cI cZ cP a X Y w hw1 hw2 (I 7) (I 6)).fr2 (kq cI cZ cP b I V P ++ cw cI b I V)) (cwV 2 B.hts gX3_isDue_X2_needsLook rfl rfl rfl (by decide +kernel) ⟨(Nat.le_of_ble_eq_true rfl), (Nat.le_of_ble_eq_true rfl)⟩) 6 2 rfl rfl rfl rfl hl.1 rfl (Nat.le_of_ble_eq_true rfl) dX3_isDue_13 ⟨(Nat.le_of_ble_eq_true rfl), (Nat.le_of_ble_eq_true rfl)⟩ (fun E ce q9 H locs hx => False.elim hx) (fun v u H locs hp hP hD hS => ?_)
  obtain rfl := hp
  have hP : va_P D vwCl (dw cI cZ a X Y ++ (ppw cI cZ a X Y ++ (kq cI cZ cP b I V P ++ cw cI b I V))) H := hP
  have hD : va_D A (dw cI cZ a X Y ++ (ppw cI cZ a X Y ++ (kq cI cZ cP b I V P ++ cw cI b I V))) := hD
  exact q_zret B hr hP hD hS (nl_z _ _ _ _ _) (u := ()) rfl rfl (Nat.le_of_ble_eq_true rfl) (Nat.le_of_ble_eq_true rfl) dX3_isDue_16
set_option maxHeartbeats 4000000 in
set_option maxRecDepth 100000 in
theorem c3_copy (l : Launch) (hfl : l.stackTraces = false) (D : va_G) (cI cZ cP : ClassId) (b : Nat → Nat) (I : Nat → Int32) (V : Nat → Nat → Int32) (P : Nat → Option Nat) (a : Nat → Nat) (X : Nat → Int32) (Y : Nat → Nat → Int32) (j : Nat) (hj : j < 8) (hpj : P j = some (a 0)) (w : Nat) (hw1 : X 1 = nI w) (hw2 : w ≤ 128) (q : Nat) (hq : I 3 = nI q) (hq2 : q ≤ 30) (x : Int32) : q_C l yX3_copy wsX3_copy ({ frames := 7, cells := 3, slots := 18, locals := 104 }) D cI cZ cP [.ref (b 0), .int (nI j), .int x] (dw cI cZ a X Y ++ (ppw cI cZ a X Y ++ (kq cI cZ cP b I V P ++ cw cI b I V))) (S := Unit) (fun v _ => v = some (.int (nI q)) ∧ kCopy x w q = 0) (fun _ => dw cI cZ a X Y ++ (ppw cI cZ a X Y ++ (kq cI cZ cP b (va_up I 3 (nI ((q + 1)))) (va_up (va_up (va_up V 10 (upd (V 10) q (nI j))) 11 (upd (V 11) q (vn w))) 12 (upd (V 12) q x)) P ++ cw cI b (va_up I 3 (nI ((q + 1)))) (va_up (va_up (va_up V 10 (upd (V 10) q (nI j))) 11 (upd (V 11) q (vn w))) 12 (upd (V 12) q x))))) (fun E => (E = q_IAE ∧ kCopy x w q = 2) ∨ (E = q_ISE ∧ kCopy x w q = 3)) 3 18 := by
  refine q_of (cc := cX3_copy) (maxL := 4) (ret := (some .int)) (by decide +kernel) rfl (Nat.le_of_ble_eq_true rfl) ?_
  intro p e s m below meth c A ls B hr htb hmn hP hD hS hl
  have hl : lv_has ls 4 [(0, .ref (b 0)), (1, .int (nI j)), (2, .int x)] := hl
  have hi0 : ∀ w ∈ u_ws RX0 TX0 4, w ∈ wsX3_copy := by decide +kernel
  have hi3 : ∀ w ∈ u_ws RX3 TX3 8, w ∈ wsX3_copy := by decide +kernel
  refine lv_aload_n B.hx B.hb dX3_copy_0 rfl (lv_at hl 0 rfl) ?_
  refine lv_iload_n B.hx B.hb dX3_copy_1 rfl (lv_at hl 1 rfl) ?_
  refine q_callV (As := [.int (nI j)]) (rest := []) B hP hD hS ((c3_paperAt l D cI cZ cP b I V P j (a 0) hj hpj).fl2 (dw cI cZ a X Y) (ppw cI cZ a X Y)) (cwV 1 B.hts gX3_copy_X3_paperAt rfl rfl rfl (by decide +kernel) ⟨(Nat.le_of_ble_eq_true rfl), (Nat.le_of_ble_eq_true rfl)⟩) 10 3 rfl rfl rfl rfl hl.1 rfl (Nat.le_of_ble_eq_true rfl) dX3_copy_2 ⟨(Nat.le_of_ble_eq_true rfl), (Nat.le_of_ble_eq_true rfl)⟩ (fun E ce q9 H locs hx => False.elim hx) (fun v u H locs hp hP hD hS => ?_)
  obtain rfl := hp
  have hP : va_P D vwCl (dw cI cZ a X Y ++ (ppw cI cZ a X Y ++ (kq cI cZ cP b I V P ++ cw cI b I V))) H := hP
  have hD : va_D A (dw cI cZ a X Y ++ (ppw cI cZ a X Y ++ (kq cI cZ cP b I V P ++ cw cI b I V))) := hD
  refine lv_astore_n (lv' := [(3, .ref (a 0)), (0, .ref (b 0)), (1, .int (nI j)), (2, .int x)]) B.hx B.hb dX3_copy_5 rfl hl (by decide) rfl (fun ls hl => ?_)
  refine lv_iload_n B.hx B.hb dX3_copy_6 rfl (lv_at hl 3 rfl) ?_
  refine lv_iconst (v := (nI 0)) B.hx B.hb dX3_copy_7 (by decide) ?_
  refine lv_bipush (v := (nI 9)) B.hx B.hb dX3_copy_8 (by decide) ?_
  refine q_callS (As := [.int x, .int (nI 0), .int (nI 9)]) (rest := []) B hP hD hS ((c3_checkRange l hfl D cI cZ cP x (nI 0) (nI 9)).fr0 (dw cI cZ a X Y ++ (ppw cI cZ a X Y ++ (kq cI cZ cP b I V P ++ cw cI b I V)))) (cwS 3 B.hts gX3_copy_X3_checkRange rfl rfl rfl (by decide +kernel) ⟨(Nat.le_of_ble_eq_true rfl), (Nat.le_of_ble_eq_true rfl)⟩) rfl hl.1 rfl (Nat.le_of_ble_eq_true rfl) dX3_copy_10 ⟨(Nat.le_of_ble_eq_true rfl), (Nat.le_of_ble_eq_true rfl)⟩ (fun E ce q9 H locs hx hP hS hce hcv hcl => ?_) (fun v u H locs hp hP hD hS => ?_)
  · exact q_xout B htb hP hS hce hcv hcl (Or.inl ⟨hx.1, by simp [kCopy, hx.2]⟩) (Nat.le_of_ble_eq_true rfl) (Nat.le_of_ble_eq_true rfl)
  · obtain ⟨rfl, hrg0⟩ := hp
    have hP : va_P D vwCl (dw cI cZ a X Y ++ (ppw cI cZ a X Y ++ (kq cI cZ cP b I V P ++ cw cI b I V))) H := hP
    have hD : va_D A (dw cI cZ a X Y ++ (ppw cI cZ a X Y ++ (kq cI cZ cP b I V P ++ cw cI b I V))) := hD
    refine lv_aload_n B.hx B.hb dX3_copy_13 rfl (lv_at hl 0 rfl) ?_
    refine q_callS (As := [.ref (a 0)]) (rest := []) B hP hD hS ((c3_checkInForce l hfl D cI cZ cP a X Y w hw1 hw2).fr2 (kq cI cZ cP b I V P ++ cw cI b I V)) (cwS 1 B.hts gX3_copy_X3_checkInForce rfl rfl rfl (by decide +kernel) ⟨(Nat.le_of_ble_eq_true rfl), (Nat.le_of_ble_eq_true rfl)⟩) rfl hl.1 rfl (Nat.le_of_ble_eq_true rfl) dX3_copy_14 ⟨(Nat.le_of_ble_eq_true rfl), (Nat.le_of_ble_eq_true rfl)⟩ (fun E ce q9 H locs hx hP hS hce hcv hcl => ?_) (fun v u H locs hp hP hD hS => ?_)
    · exact q_xout B htb hP hS hce hcv hcl (Or.inr ⟨hx.1, by simp [kCopy, hx.2, hrg0]⟩) (Nat.le_of_ble_eq_true rfl) (Nat.le_of_ble_eq_true rfl)
    · obtain ⟨rfl, hw0⟩ := hp
      have hP : va_P D vwCl (dw cI cZ a X Y ++ (ppw cI cZ a X Y ++ (kq cI cZ cP b I V P ++ cw cI b I V))) H := hP
      have hD : va_D A (dw cI cZ a X Y ++ (ppw cI cZ a X Y ++ (kq cI cZ cP b I V P ++ cw cI b I V))) := hD
      refine lv_aload_n B.hx B.hb dX3_copy_17 rfl (lv_at hl 1 rfl) ?_
      refine q_get B hP (C := RX3) (ref := "PaperKeeper") (T := TX3) (N := 8) (ci := 3) hi3 rfl 10 rfl 4 (by decide) (by decide +kernel) rfl (v := .ref (b 5)) rfl dX3_copy_18 ?_
      refine q_get B hP (C := RX0) (ref := "PaperKeeper$Copies") (T := TX0) (N := 4) (ci := 0) hi0 rfl 15 rfl 3 (by decide) (by decide +kernel) rfl (v := .int (I 3)) rfl dX3_copy_21 ?_
      refine q_top (v2 := .int (nI q)) (congrArg Value.int hq) ?_
      refine lv_bipush (v := (nI 30)) B.hx B.hb dX3_copy_24 (by decide) ?_
      refine lv_icmp_lt (tgt := 39) B.hx B.hb dX3_copy_26 (by decide) (fun c1 => ?_) (fun c1 => ?_)
      · replace c1 := (nI_ltI (by omega) (by omega)).mp c1
        refine lv_aload_n B.hx B.hb dX3_copy_39 rfl (lv_at hl 1 rfl) ?_
        refine q_get B hP (C := RX3) (ref := "PaperKeeper") (T := TX3) (N := 8) (ci := 3) hi3 rfl 10 rfl 4 (by decide) (by decide +kernel) rfl (v := .ref (b 5)) rfl dX3_copy_40 ?_
        refine lv_iload_n B.hx B.hb dX3_copy_43 rfl (lv_at hl 2 rfl) ?_
        refine lv_aload_n B.hx B.hb dX3_copy_44 rfl (lv_at hl 0 rfl) ?_
        refine q_callV (As := []) (rest := [.int (nI j), .ref (b 5)]) B hP hD hS ((c2_newest l D cI cZ cP a X Y w hw1).fr2 (kq cI cZ cP b I V P ++ cw cI b I V)) (cwV 0 B.hts gX3_copy_X2_newest rfl rfl rfl (by decide +kernel) ⟨(Nat.le_of_ble_eq_true rfl), (Nat.le_of_ble_eq_true rfl)⟩) 6 2 rfl rfl rfl rfl hl.1 rfl (Nat.le_of_ble_eq_true rfl) dX3_copy_45 ⟨(Nat.le_of_ble_eq_true rfl), (Nat.le_of_ble_eq_true rfl)⟩ (fun E ce q9 H locs hx => False.elim hx) (fun v u H locs hp hP hD hS => ?_)
        obtain rfl := hp
        have hP : va_P D vwCl (dw cI cZ a X Y ++ (ppw cI cZ a X Y ++ (kq cI cZ cP b I V P ++ cw cI b I V))) H := hP
        have hD : va_D A (dw cI cZ a X Y ++ (ppw cI cZ a X Y ++ (kq cI cZ cP b I V P ++ cw cI b I V))) := hD
        refine lv_iload_n B.hx B.hb dX3_copy_48 rfl (lv_at hl 3 rfl) ?_
        refine q_callV (As := [.int (nI j), .int (vn w), .int x]) (rest := []) B hP hD hS ((c0_add l D cI cZ cP b I V q hq (by omega) (nI j) (vn w) x).fl3 (dw cI cZ a X Y) (ppw cI cZ a X Y) (kq cI cZ cP b I V P)) (cwV 3 B.hts gX3_copy_X0_add rfl rfl rfl (by decide +kernel) ⟨(Nat.le_of_ble_eq_true rfl), (Nat.le_of_ble_eq_true rfl)⟩) 15 0 rfl rfl rfl rfl hl.1 rfl (Nat.le_of_ble_eq_true rfl) dX3_copy_49 ⟨(Nat.le_of_ble_eq_true rfl), (Nat.le_of_ble_eq_true rfl)⟩ (fun E ce q9 H locs hx => False.elim hx) (fun v u H locs hp hP hD hS => ?_)
        obtain rfl := hp
        have hP : va_P D vwCl (dw cI cZ a X Y ++ (ppw cI cZ a X Y ++ (kq cI cZ cP b (va_up I 3 (nI ((q + 1)))) (va_up (va_up (va_up V 10 (upd (V 10) q (nI j))) 11 (upd (V 11) q (vn w))) 12 (upd (V 12) q x)) P ++ cw cI b (va_up I 3 (nI ((q + 1)))) (va_up (va_up (va_up V 10 (upd (V 10) q (nI j))) 11 (upd (V 11) q (vn w))) 12 (upd (V 12) q x))))) H := hP
        have hD : va_D A (dw cI cZ a X Y ++ (ppw cI cZ a X Y ++ (kq cI cZ cP b (va_up I 3 (nI ((q + 1)))) (va_up (va_up (va_up V 10 (upd (V 10) q (nI j))) 11 (upd (V 11) q (vn w))) 12 (upd (V 12) q x)) P ++ cw cI b (va_up I 3 (nI ((q + 1)))) (va_up (va_up (va_up V 10 (upd (V 10) q (nI j))) 11 (upd (V 11) q (vn w))) 12 (upd (V 12) q x))))) := hD
        exact q_iret B hr hP hD hS (u := ()) rfl ⟨rfl, by simp [kCopy, hrg0, hw0, c1]⟩ (Nat.le_of_ble_eq_true rfl) (Nat.le_of_ble_eq_true rfl) dX3_copy_52
      · replace c1 := mt (nI_ltI (by omega) (by omega)).mpr c1
        exact q_throw B hfl htb hP hS q_E_ISE (goodIn_app (goodIn_of [_, _] (by decide +kernel)) (goodIn_sub (fun w h => List.mem_cons_of_mem _ (List.mem_append_left _ (List.mem_append_left _ (List.mem_append_right _ h)))) q_allg_ISE)) (List.mem_of_getElem? (i := 18) rfl) hl.1 dX3_copy_29 dX3_copy_32 dX3_copy_33 dX3_copy_35 dX3_copy_38 ⟨(Nat.le_of_ble_eq_true rfl), (Nat.le_of_ble_eq_true rfl), (Nat.le_of_ble_eq_true rfl), (Nat.le_of_ble_eq_true rfl)⟩ (Or.inr ⟨rfl, by simp [kCopy, hrg0, hw0, c1]⟩) (Nat.le_of_ble_eq_true rfl) (Nat.le_of_ble_eq_true rfl)
set_option maxHeartbeats 4000000 in
set_option maxRecDepth 100000 in
theorem c3_takeDown (l : Launch) (hfl : l.stackTraces = false) (D : va_G) (cI cZ cP : ClassId) (b : Nat → Nat) (I : Nat → Int32) (V : Nat → Nat → Int32) (P : Nat → Option Nat) (q : Nat) (hq : I 3 = nI q) (hq2 : q ≤ 30) (x : Int32) : q_C l yX3_takeDown wsX3_takeDown ({ frames := 6, cells := 1, slots := 6, locals := 82 }) D cI cZ cP [.ref (b 0), .int x] (kq cI cZ cP b I V P ++ cw cI b I V) (S := Unit) (fun v _ => v = some (.int (V 12 (ix x))) ∧ kTakeDown x q (V 12 (ix x)) = 0) (fun _ => kq cI cZ cP b I (va_up V 12 (upd (V 12) (ix x) (-1))) P ++ cw cI b I (va_up V 12 (upd (V 12) (ix x) (-1)))) (fun E => E = q_IOB ∧ kTakeDown x q (V 12 (ix x)) = 1) 1 6 := by
  refine q_of (cc := cX3_takeDown) (maxL := 3) (ret := (some .int)) (by decide +kernel) rfl (Nat.le_of_ble_eq_true rfl) ?_
  intro p e s m below meth c A ls B hr htb hmn hP hD hS hl
  have hl : lv_has ls 3 [(0, .ref (b 0)), (1, .int x)] := hl
  have hi0 : ∀ w ∈ u_ws RX0 TX0 4, w ∈ wsX3_takeDown := by decide +kernel
  have hi3 : ∀ w ∈ u_ws RX3 TX3 8, w ∈ wsX3_takeDown := by decide +kernel
  refine lv_iload_n B.hx B.hb dX3_takeDown_0 rfl (lv_at hl 1 rfl) ?_
  refine lv_if_lt (tgt := 28) B.hx B.hb dX3_takeDown_1 (by decide) (fun c1 => ?_) (fun c1 => ?_)
  · exact q_throw B hfl htb hP hS q_E_IOB (goodIn_app (goodIn_of [_, _] (by decide +kernel)) (goodIn_sub (fun w h => List.mem_cons_of_mem _ (List.mem_append_right _ h)) q_allg_IOB)) (List.mem_of_getElem? (i := 19) rfl) hl.1 dX3_takeDown_28 dX3_takeDown_31 dX3_takeDown_32 dX3_takeDown_34 dX3_takeDown_37 ⟨(Nat.le_of_ble_eq_true rfl), (Nat.le_of_ble_eq_true rfl), (Nat.le_of_ble_eq_true rfl), (Nat.le_of_ble_eq_true rfl)⟩ ⟨rfl, by simp [kTakeDown, inr, c1]⟩ (Nat.le_of_ble_eq_true rfl) (Nat.le_of_ble_eq_true rfl)
  · refine lv_iload_n B.hx B.hb dX3_takeDown_4 rfl (lv_at hl 1 rfl) ?_
    refine lv_aload_n B.hx B.hb dX3_takeDown_5 rfl (lv_at hl 0 rfl) ?_
    refine q_get B hP (C := RX3) (ref := "PaperKeeper") (T := TX3) (N := 8) (ci := 3) hi3 rfl 0 rfl 4 (by decide) (by decide +kernel) rfl (v := .ref (b 5)) rfl dX3_takeDown_6 ?_
    refine q_get B hP (C := RX0) (ref := "PaperKeeper$Copies") (T := TX0) (N := 4) (ci := 0) hi0 rfl 5 rfl 3 (by decide) (by decide +kernel) rfl (v := .int (I 3)) rfl dX3_takeDown_9 ?_
    refine q_top (v2 := .int (nI q)) (congrArg Value.int hq) ?_
    refine lv_icmp_ge (tgt := 28) B.hx B.hb dX3_takeDown_12 (by decide) (fun c2 => ?_) (fun c2 => ?_)
    · replace c2 := inr_nn c2
      exact q_throw B hfl htb hP hS q_E_IOB (goodIn_app (goodIn_of [_, _] (by decide +kernel)) (goodIn_sub (fun w h => List.mem_cons_of_mem _ (List.mem_append_right _ h)) q_allg_IOB)) (List.mem_of_getElem? (i := 19) rfl) hl.1 dX3_takeDown_28 dX3_takeDown_31 dX3_takeDown_32 dX3_takeDown_34 dX3_takeDown_37 ⟨(Nat.le_of_ble_eq_true rfl), (Nat.le_of_ble_eq_true rfl), (Nat.le_of_ble_eq_true rfl), (Nat.le_of_ble_eq_true rfl)⟩ ⟨rfl, by simp [kTakeDown, inr, c1, c2]⟩ (Nat.le_of_ble_eq_true rfl) (Nat.le_of_ble_eq_true rfl)
    · obtain ⟨jx, hjjx, rfl⟩ := inr_of (n := q) (by omega) c1 (inr_no c1 c2)
      have hixjx : ix (nI jx) = jx := ix_nI (by omega)
      refine lv_aload_n B.hx B.hb dX3_takeDown_15 rfl (lv_at hl 0 rfl) ?_
      refine q_get B hP (C := RX3) (ref := "PaperKeeper") (T := TX3) (N := 8) (ci := 3) hi3 rfl 0 rfl 4 (by decide) (by decide +kernel) rfl (v := .ref (b 5)) rfl dX3_takeDown_16 ?_
      refine q_get B hP (C := RX0) (ref := "PaperKeeper$Copies") (T := TX0) (N := 4) (ci := 0) hi0 rfl 5 rfl 2 (by decide) (by decide +kernel) rfl (v := .ref (b 8)) rfl dX3_takeDown_19 ?_
      refine lv_iload_n B.hx B.hb dX3_takeDown_22 rfl (lv_at hl 1 rfl) ?_
      refine q_iald B hP 8 rfl (j := jx) rfl (by omega) (by decide) dX3_takeDown_23 ?_
      refine lv_iconst (v := (-1)) B.hx B.hb dX3_takeDown_24 (by decide) ?_
      refine lv_icmp_ne (tgt := 38) B.hx B.hb dX3_takeDown_25 (by decide) (fun c3 => ?_) (fun c3 => ?_)
      · refine lv_aload_n B.hx B.hb dX3_takeDown_38 rfl (lv_at hl 0 rfl) ?_
        refine q_get B hP (C := RX3) (ref := "PaperKeeper") (T := TX3) (N := 8) (ci := 3) hi3 rfl 0 rfl 4 (by decide) (by decide +kernel) rfl (v := .ref (b 5)) rfl dX3_takeDown_39 ?_
        refine q_get B hP (C := RX0) (ref := "PaperKeeper$Copies") (T := TX0) (N := 4) (ci := 0) hi0 rfl 5 rfl 2 (by decide) (by decide +kernel) rfl (v := .ref (b 8)) rfl dX3_takeDown_42 ?_
        refine lv_iload_n B.hx B.hb dX3_takeDown_45 rfl (lv_at hl 1 rfl) ?_
        refine q_iald B hP 8 rfl (j := jx) rfl (by omega) (by decide) dX3_takeDown_46 ?_
        refine lv_istore_n (lv' := [(2, .int ((V 12) jx)), (0, .ref (b 0)), (1, .int (nI jx))]) B.hx B.hb dX3_takeDown_47 rfl hl (by decide) rfl (fun ls hl => ?_)
        refine lv_aload_n B.hx B.hb dX3_takeDown_48 rfl (lv_at hl 1 rfl) ?_
        refine q_get B hP (C := RX3) (ref := "PaperKeeper") (T := TX3) (N := 8) (ci := 3) hi3 rfl 0 rfl 4 (by decide) (by decide +kernel) rfl (v := .ref (b 5)) rfl dX3_takeDown_49 ?_
        refine q_get B hP (C := RX0) (ref := "PaperKeeper$Copies") (T := TX0) (N := 4) (ci := 0) hi0 rfl 5 rfl 2 (by decide) (by decide +kernel) rfl (v := .ref (b 8)) rfl dX3_takeDown_52 ?_
        refine lv_iload_n B.hx B.hb dX3_takeDown_55 rfl (lv_at hl 2 rfl) ?_
        refine lv_iconst (v := (-1)) B.hx B.hb dX3_takeDown_56 (by decide) ?_
        refine q_iast B hP hD hS 8 rfl (j := jx) rfl (by omega) (by decide) dX3_takeDown_57 (w' := kq cI cZ cP b I (va_up V 12 (upd (V 12) jx (-1))) P ++ cw cI b I (va_up V 12 (upd (V 12) jx (-1)))) rfl (fun H locs hP hD hS => ?_)
        refine lv_iload_n B.hx B.hb dX3_takeDown_58 rfl (lv_at hl 0 rfl) ?_
        exact q_iret B hr hP hD hS (u := ()) (by simp only [hixjx]) ⟨by rw [hixjx], by simp [kTakeDown, inr, c1, c2, c3, hixjx]⟩ (Nat.le_of_ble_eq_true rfl) (Nat.le_of_ble_eq_true rfl) dX3_takeDown_59
      · exact q_throw B hfl htb hP hS q_E_IOB (goodIn_app (goodIn_of [_, _] (by decide +kernel)) (goodIn_sub (fun w h => List.mem_cons_of_mem _ (List.mem_append_right _ h)) q_allg_IOB)) (List.mem_of_getElem? (i := 19) rfl) hl.1 dX3_takeDown_28 dX3_takeDown_31 dX3_takeDown_32 dX3_takeDown_34 dX3_takeDown_37 ⟨(Nat.le_of_ble_eq_true rfl), (Nat.le_of_ble_eq_true rfl), (Nat.le_of_ble_eq_true rfl), (Nat.le_of_ble_eq_true rfl)⟩ ⟨rfl, by simp [kTakeDown, inr, c1, c2, c3, hixjx]⟩ (Nat.le_of_ble_eq_true rfl) (Nat.le_of_ble_eq_true rfl)
set_option maxHeartbeats 4000000 in
set_option maxRecDepth 100000 in
theorem c3_outOfDate (l : Launch) (D : va_G) (cI cZ cP : ClassId) (b : Nat → Nat) (I : Nat → Int32) (V : Nat → Nat → Int32) (P : Nat → Option Nat) (a : Nat → Nat) (X : Nat → Int32) (Y : Nat → Nat → Int32) (j : Nat) (hj : j < 8) (hpj : P j = some (a 0)) (w : Nat) (hw1 : X 1 = nI w) (hw2 : w ≤ 128) (q : Nat) (hq : I 3 = nI q) (hq2 : q ≤ 30) : q_C l yX3_outOfDate wsX3_outOfDate ({ frames := 1, cells := 0, slots := 0, locals := 24 }) D cI cZ cP [.ref (b 0), .int (nI j)] (dw cI cZ a X Y ++ (ppw cI cZ a X Y ++ (kq cI cZ cP b I V P ++ cw cI b I V))) (S := Unit) (fun v _ => v = some (.int (nI (pN (fun i => decide (¬ (V 12) i = -1) && decide ((V 10) i = (nI j)) && decide (¬ (V 11) i = (vn w))) q)))) (fun _ => dw cI cZ a X Y ++ (ppw cI cZ a X Y ++ (kq cI cZ cP b I V P ++ cw cI b I V))) (fun _ => False) 0 0 := by
  refine q_of (cc := cX3_outOfDate) (maxL := 2) (ret := (some .int)) (by decide +kernel) rfl (Nat.le_of_ble_eq_true rfl) ?_
  intro p e s m below meth c A ls B hr htb hmn hP hD hS hl
  have hl : lv_has ls 2 [(0, .ref (b 0)), (1, .int (nI j))] := hl
  have hi3 : ∀ w ∈ u_ws RX3 TX3 8, w ∈ wsX3_outOfDate := by decide +kernel
  refine lv_aload_n B.hx B.hb dX3_outOfDate_0 rfl (lv_at hl 0 rfl) ?_
  refine q_get B hP (C := RX3) (ref := "PaperKeeper") (T := TX3) (N := 8) (ci := 3) hi3 rfl 10 rfl 4 (by decide) (by decide +kernel) rfl (v := .ref (b 5)) rfl dX3_outOfDate_1 ?_
  refine lv_iload_n B.hx B.hb dX3_outOfDate_4 rfl (lv_at hl 1 rfl) ?_
  refine lv_aload_n B.hx B.hb dX3_outOfDate_5 rfl (lv_at hl 0 rfl) ?_
  refine lv_iload_n B.hx B.hb dX3_outOfDate_6 rfl (lv_at hl 1 rfl) ?_
  refine q_callV (As := [.int (nI j)]) (rest := [.int (nI j), .ref (b 5)]) B hP hD hS ((c3_paperAt l D cI cZ cP b I V P j (a 0) hj hpj).fl2 (dw cI cZ a X Y) (ppw cI cZ a X Y)) (cwV 1 B.hts gX3_outOfDate_X3_paperAt rfl rfl rfl (by decide +kernel) ⟨(Nat.le_of_ble_eq_true rfl), (Nat.le_of_ble_eq_true rfl)⟩) 10 3 rfl rfl rfl rfl hl.1 rfl (Nat.le_of_ble_eq_true rfl) dX3_outOfDate_7 ⟨(Nat.le_of_ble_eq_true rfl), (Nat.le_of_ble_eq_true rfl)⟩ (fun E ce q9 H locs hx => False.elim hx) (fun v u H locs hp hP hD hS => ?_)
  obtain rfl := hp
  have hP : va_P D vwCl (dw cI cZ a X Y ++ (ppw cI cZ a X Y ++ (kq cI cZ cP b I V P ++ cw cI b I V))) H := hP
  have hD : va_D A (dw cI cZ a X Y ++ (ppw cI cZ a X Y ++ (kq cI cZ cP b I V P ++ cw cI b I V))) := hD
  refine q_callV (As := []) (rest := [.int (nI j), .ref (b 5)]) B hP hD hS ((c2_newest l D cI cZ cP a X Y w hw1).fr2 (kq cI cZ cP b I V P ++ cw cI b I V)) (cwV 0 B.hts gX3_outOfDate_X2_newest rfl rfl rfl (by decide +kernel) ⟨(Nat.le_of_ble_eq_true rfl), (Nat.le_of_ble_eq_true rfl)⟩) 6 2 rfl rfl rfl rfl hl.1 rfl (Nat.le_of_ble_eq_true rfl) dX3_outOfDate_10 ⟨(Nat.le_of_ble_eq_true rfl), (Nat.le_of_ble_eq_true rfl)⟩ (fun E ce q9 H locs hx => False.elim hx) (fun v u H locs hp hP hD hS => ?_)
  obtain rfl := hp
  have hP : va_P D vwCl (dw cI cZ a X Y ++ (ppw cI cZ a X Y ++ (kq cI cZ cP b I V P ++ cw cI b I V))) H := hP
  have hD : va_D A (dw cI cZ a X Y ++ (ppw cI cZ a X Y ++ (kq cI cZ cP b I V P ++ cw cI b I V))) := hD
  refine q_callV (As := [.int (nI j), .int (vn w)]) (rest := []) B hP hD hS ((c0_countOld l D cI cZ cP b I V q hq hq2 (nI j) (vn w)).fl3 (dw cI cZ a X Y) (ppw cI cZ a X Y) (kq cI cZ cP b I V P)) (cwV 2 B.hts gX3_outOfDate_X0_countOld rfl rfl rfl (by decide +kernel) ⟨(Nat.le_of_ble_eq_true rfl), (Nat.le_of_ble_eq_true rfl)⟩) 15 0 rfl rfl rfl rfl hl.1 rfl (Nat.le_of_ble_eq_true rfl) dX3_outOfDate_13 ⟨(Nat.le_of_ble_eq_true rfl), (Nat.le_of_ble_eq_true rfl)⟩ (fun E ce q9 H locs hx => False.elim hx) (fun v u H locs hp hP hD hS => ?_)
  obtain rfl := hp
  have hP : va_P D vwCl (dw cI cZ a X Y ++ (ppw cI cZ a X Y ++ (kq cI cZ cP b I V P ++ cw cI b I V))) H := hP
  have hD : va_D A (dw cI cZ a X Y ++ (ppw cI cZ a X Y ++ (kq cI cZ cP b I V P ++ cw cI b I V))) := hD
  exact q_iret B hr hP hD hS (u := ()) rfl rfl (Nat.le_of_ble_eq_true rfl) (Nat.le_of_ble_eq_true rfl) dX3_outOfDate_16
set_option maxHeartbeats 4000000 in
set_option maxRecDepth 100000 in
theorem c3_day (l : Launch) (D : va_G) (cI cZ cP : ClassId) (b : Nat → Nat) (I : Nat → Int32) (V : Nat → Nat → Int32) (P : Nat → Option Nat) : q_C l yX3_day wsX3_day ({ frames := 0, cells := 0, slots := 0, locals := 0 }) D cI cZ cP [.ref (b 0)] (kq cI cZ cP b I V P ++ cw cI b I V) (S := Unit) (fun v _ => v = some (.int (I 7))) (fun _ => kq cI cZ cP b I V P ++ cw cI b I V) (fun _ => False) 0 0 := by
  refine q_of (cc := cX3_day) (maxL := 1) (ret := (some .int)) (by decide +kernel) rfl (Nat.le_of_ble_eq_true rfl) ?_
  intro p e s m below meth c A ls B hr htb hmn hP hD hS hl
  have hl : lv_has ls 1 [(0, .ref (b 0))] := hl
  have hi3 : ∀ w ∈ u_ws RX3 TX3 8, w ∈ wsX3_day := by decide +kernel
  refine lv_aload_n B.hx B.hb dX3_day_0 rfl (lv_at hl 0 rfl) ?_
  refine q_get B hP (C := RX3) (ref := "PaperKeeper") (T := TX3) (N := 8) (ci := 3) hi3 rfl 0 rfl 7 (by decide) (by decide +kernel) rfl (v := .int (I 7)) rfl dX3_day_1 ?_
  exact q_iret B hr hP hD hS (u := ()) rfl rfl (Nat.le_of_ble_eq_true rfl) (Nat.le_of_ble_eq_true rfl) dX3_day_4
set_option maxHeartbeats 4000000 in
set_option maxRecDepth 100000 in
theorem c3_step (l : Launch) (D : va_G) (cI cZ cP : ClassId) (b : Nat → Nat) (I : Nat → Int32) (V : Nat → Nat → Int32) (P : Nat → Option Nat) (a : Nat → Nat) (X : Nat → Int32) (Y : Nat → Nat → Int32) (j : Nat) (hj : j < 8) (hpj : P j = some (a 0)) (n k : Nat) (hW : wd X Y n k) : q_C l yX3_step wsX3_step ({ frames := 2, cells := 0, slots := 0, locals := 42 }) D cI cZ cP [.ref (b 0), .int (nI j)] (dw cI cZ a X Y ++ (ppw cI cZ a X Y ++ (kq cI cZ cP b I V P ++ cw cI b I V))) (S := Unit) (fun v _ => v = some (.int (if X 2 = 0 then nI 0 else (stp n (dNR Y n) (dOR Y k) (X 10) (dNC Y))))) (fun _ => dw cI cZ a X Y ++ (ppw cI cZ a X Y ++ (kq cI cZ cP b I V P ++ cw cI b I V))) (fun _ => False) 0 0 := by
  refine q_of (cc := cX3_step) (maxL := 3) (ret := (some .int)) (by decide +kernel) rfl (Nat.le_of_ble_eq_true rfl) ?_
  intro p e s m below meth c A ls B hr htb hmn hP hD hS hl
  have hl : lv_has ls 3 [(0, .ref (b 0)), (1, .int (nI j))] := hl
  have hi2 : ∀ w ∈ u_ws RX2 TX2 9, w ∈ wsX3_step := by decide +kernel
  obtain ⟨hn, hn4, hm, hm4, hv⟩ := id hW
  refine lv_aload_n B.hx B.hb dX3_step_0 rfl (lv_at hl 0 rfl) ?_
  refine lv_iload_n B.hx B.hb dX3_step_1 rfl (lv_at hl 1 rfl) ?_
  refine q_callV (As := [.int (nI j)]) (rest := []) B hP hD hS ((c3_paperAt l D cI cZ cP b I V P j (a 0) hj hpj).fl2 (dw cI cZ a X Y) (ppw cI cZ a X Y)) (cwV 1 B.hts gX3_step_X3_paperAt rfl rfl rfl (by decide +kernel) ⟨(Nat.le_of_ble_eq_true rfl), (Nat.le_of_ble_eq_true rfl)⟩) 10 3 rfl rfl rfl rfl hl.1 rfl (Nat.le_of_ble_eq_true rfl) dX3_step_2 ⟨(Nat.le_of_ble_eq_true rfl), (Nat.le_of_ble_eq_true rfl)⟩ (fun E ce q9 H locs hx => False.elim hx) (fun v u H locs hp hP hD hS => ?_)
  obtain rfl := hp
  have hP : va_P D vwCl (dw cI cZ a X Y ++ (ppw cI cZ a X Y ++ (kq cI cZ cP b I V P ++ cw cI b I V))) H := hP
  have hD : va_D A (dw cI cZ a X Y ++ (ppw cI cZ a X Y ++ (kq cI cZ cP b I V P ++ cw cI b I V))) := hD
  refine lv_astore_n (lv' := [(2, .ref (a 0)), (0, .ref (b 0)), (1, .int (nI j))]) B.hx B.hb dX3_step_5 rfl hl (by decide) rfl (fun ls hl => ?_)
  refine lv_aload_n B.hx B.hb dX3_step_6 rfl (lv_at hl 0 rfl) ?_
  refine q_get B hP (C := RX2) (ref := "PaperKeeper$Paper") (T := TX2) (N := 9) (ci := 2) hi2 rfl 6 rfl 6 (by decide) (by decide +kernel) rfl (v := .int (X 2)) rfl dX3_step_7 ?_
  refine lv_if_eq (tgt := 23) B.hx B.hb dX3_step_10 (by decide) (fun c1 => ?_) (fun c1 => ?_)
  · refine lv_iconst (v := (nI 0)) B.hx B.hb dX3_step_23 (by decide) ?_
    exact q_iret B hr hP hD hS (u := ()) rfl (by rw [if_pos c1]) (Nat.le_of_ble_eq_true rfl) (Nat.le_of_ble_eq_true rfl) dX3_step_24
  · refine lv_aload_n B.hx B.hb dX3_step_13 rfl (lv_at hl 0 rfl) ?_
    refine q_get B hP (C := RX2) (ref := "PaperKeeper$Paper") (T := TX2) (N := 9) (ci := 2) hi2 rfl 6 rfl 2 (by decide) (by decide +kernel) rfl (v := .ref (a 2)) rfl dX3_step_14 ?_
    refine q_callV (As := []) (rest := []) B hP hD hS ((c1_nextStep l D cI cZ cP a X Y n k hW).fr (ppw cI cZ a X Y ++ (kq cI cZ cP b I V P ++ cw cI b I V))) (cwV 0 B.hts gX3_step_X1_nextStep rfl rfl rfl (by decide +kernel) ⟨(Nat.le_of_ble_eq_true rfl), (Nat.le_of_ble_eq_true rfl)⟩) 0 1 rfl rfl rfl rfl hl.1 rfl (Nat.le_of_ble_eq_true rfl) dX3_step_17 ⟨(Nat.le_of_ble_eq_true rfl), (Nat.le_of_ble_eq_true rfl)⟩ (fun E ce q9 H locs hx => False.elim hx) (fun v u H locs hp hP hD hS => ?_)
    obtain rfl := hp
    have hP : va_P D vwCl (dw cI cZ a X Y ++ (ppw cI cZ a X Y ++ (kq cI cZ cP b I V P ++ cw cI b I V))) H := hP
    have hD : va_D A (dw cI cZ a X Y ++ (ppw cI cZ a X Y ++ (kq cI cZ cP b I V P ++ cw cI b I V))) := hD
    refine lv_goto (tgt := 24) B.hx B.hb dX3_step_20 (by decide) ?_
    exact q_iret B hr hP hD hS (u := ()) rfl (by rw [if_neg c1]) (Nat.le_of_ble_eq_true rfl) (Nat.le_of_ble_eq_true rfl) dX3_step_24
set_option maxHeartbeats 4000000 in
set_option maxRecDepth 100000 in
theorem c3_waitsFor (l : Launch) (D : va_G) (cI cZ cP : ClassId) (b : Nat → Nat) (I : Nat → Int32) (V : Nat → Nat → Int32) (P : Nat → Option Nat) (a : Nat → Nat) (X : Nat → Int32) (Y : Nat → Nat → Int32) (j : Nat) (hj : j < 8) (hpj : P j = some (a 0)) (n k : Nat) (hW : wd X Y n k) : q_C l yX3_waitsFor wsX3_waitsFor ({ frames := 3, cells := 0, slots := 0, locals := 62 }) D cI cZ cP [.ref (b 0), .int (nI j)] (dw cI cZ a X Y ++ (ppw cI cZ a X Y ++ (kq cI cZ cP b I V P ++ cw cI b I V))) (S := Unit) (fun v _ => v = some (.int (if X 2 = 0 then -1 else prs (stp n (dNR Y n) (dOR Y k) (X 10) (dNC Y)) (dNR Y n) (X 5) (dNC Y)))) (fun _ => dw cI cZ a X Y ++ (ppw cI cZ a X Y ++ (kq cI cZ cP b I V P ++ cw cI b I V))) (fun _ => False) 0 0 := by
  refine q_of (cc := cX3_waitsFor) (maxL := 3) (ret := (some .int)) (by decide +kernel) rfl (Nat.le_of_ble_eq_true rfl) ?_
  intro p e s m below meth c A ls B hr htb hmn hP hD hS hl
  have hl : lv_has ls 3 [(0, .ref (b 0)), (1, .int (nI j))] := hl
  have hi2 : ∀ w ∈ u_ws RX2 TX2 9, w ∈ wsX3_waitsFor := by decide +kernel
  obtain ⟨hn, hn4, hm, hm4, hv⟩ := id hW
  refine lv_aload_n B.hx B.hb dX3_waitsFor_0 rfl (lv_at hl 0 rfl) ?_
  refine lv_iload_n B.hx B.hb dX3_waitsFor_1 rfl (lv_at hl 1 rfl) ?_
  refine q_callV (As := [.int (nI j)]) (rest := []) B hP hD hS ((c3_paperAt l D cI cZ cP b I V P j (a 0) hj hpj).fl2 (dw cI cZ a X Y) (ppw cI cZ a X Y)) (cwV 1 B.hts gX3_waitsFor_X3_paperAt rfl rfl rfl (by decide +kernel) ⟨(Nat.le_of_ble_eq_true rfl), (Nat.le_of_ble_eq_true rfl)⟩) 10 3 rfl rfl rfl rfl hl.1 rfl (Nat.le_of_ble_eq_true rfl) dX3_waitsFor_2 ⟨(Nat.le_of_ble_eq_true rfl), (Nat.le_of_ble_eq_true rfl)⟩ (fun E ce q9 H locs hx => False.elim hx) (fun v u H locs hp hP hD hS => ?_)
  obtain rfl := hp
  have hP : va_P D vwCl (dw cI cZ a X Y ++ (ppw cI cZ a X Y ++ (kq cI cZ cP b I V P ++ cw cI b I V))) H := hP
  have hD : va_D A (dw cI cZ a X Y ++ (ppw cI cZ a X Y ++ (kq cI cZ cP b I V P ++ cw cI b I V))) := hD
  refine lv_astore_n (lv' := [(2, .ref (a 0)), (0, .ref (b 0)), (1, .int (nI j))]) B.hx B.hb dX3_waitsFor_5 rfl hl (by decide) rfl (fun ls hl => ?_)
  refine lv_aload_n B.hx B.hb dX3_waitsFor_6 rfl (lv_at hl 0 rfl) ?_
  refine q_get B hP (C := RX2) (ref := "PaperKeeper$Paper") (T := TX2) (N := 9) (ci := 2) hi2 rfl 6 rfl 6 (by decide) (by decide +kernel) rfl (v := .int (X 2)) rfl dX3_waitsFor_7 ?_
  refine lv_if_eq (tgt := 23) B.hx B.hb dX3_waitsFor_10 (by decide) (fun c1 => ?_) (fun c1 => ?_)
  · refine lv_iconst (v := (-1)) B.hx B.hb dX3_waitsFor_23 (by decide) ?_
    exact q_iret B hr hP hD hS (u := ()) rfl (by rw [if_pos c1]) (Nat.le_of_ble_eq_true rfl) (Nat.le_of_ble_eq_true rfl) dX3_waitsFor_24
  · refine lv_aload_n B.hx B.hb dX3_waitsFor_13 rfl (lv_at hl 0 rfl) ?_
    refine q_get B hP (C := RX2) (ref := "PaperKeeper$Paper") (T := TX2) (N := 9) (ci := 2) hi2 rfl 6 rfl 2 (by decide) (by decide +kernel) rfl (v := .ref (a 2)) rfl dX3_waitsFor_14 ?_
    refine q_callV (As := []) (rest := []) B hP hD hS ((c1_nextPerson l D cI cZ cP a X Y n k hW).fr (ppw cI cZ a X Y ++ (kq cI cZ cP b I V P ++ cw cI b I V))) (cwV 0 B.hts gX3_waitsFor_X1_nextPerson rfl rfl rfl (by decide +kernel) ⟨(Nat.le_of_ble_eq_true rfl), (Nat.le_of_ble_eq_true rfl)⟩) 0 1 rfl rfl rfl rfl hl.1 rfl (Nat.le_of_ble_eq_true rfl) dX3_waitsFor_17 ⟨(Nat.le_of_ble_eq_true rfl), (Nat.le_of_ble_eq_true rfl)⟩ (fun E ce q9 H locs hx => False.elim hx) (fun v u H locs hp hP hD hS => ?_)
    obtain rfl := hp
    have hP : va_P D vwCl (dw cI cZ a X Y ++ (ppw cI cZ a X Y ++ (kq cI cZ cP b I V P ++ cw cI b I V))) H := hP
    have hD : va_D A (dw cI cZ a X Y ++ (ppw cI cZ a X Y ++ (kq cI cZ cP b I V P ++ cw cI b I V))) := hD
    refine lv_goto (tgt := 24) B.hx B.hb dX3_waitsFor_20 (by decide) ?_
    exact q_iret B hr hP hD hS (u := ()) rfl (by rw [if_neg c1]) (Nat.le_of_ble_eq_true rfl) (Nat.le_of_ble_eq_true rfl) dX3_waitsFor_24
set_option maxHeartbeats 4000000 in
set_option maxRecDepth 100000 in
theorem c3_inForce (l : Launch) (D : va_G) (cI cZ cP : ClassId) (b : Nat → Nat) (I : Nat → Int32) (V : Nat → Nat → Int32) (P : Nat → Option Nat) (a : Nat → Nat) (X : Nat → Int32) (Y : Nat → Nat → Int32) (j : Nat) (hj : j < 8) (hpj : P j = some (a 0)) (w : Nat) (hw1 : X 1 = nI w) (hw2 : w ≤ 128) : q_C l yX3_inForce wsX3_inForce ({ frames := 1, cells := 0, slots := 0, locals := 22 }) D cI cZ cP [.ref (b 0), .int (nI j)] (dw cI cZ a X Y ++ (ppw cI cZ a X Y ++ (kq cI cZ cP b I V P ++ cw cI b I V))) (S := Unit) (fun v _ => v = some (.int (vn w))) (fun _ => dw cI cZ a X Y ++ (ppw cI cZ a X Y ++ (kq cI cZ cP b I V P ++ cw cI b I V))) (fun _ => False) 0 0 := by
  refine q_of (cc := cX3_inForce) (maxL := 2) (ret := (some .int)) (by decide +kernel) rfl (Nat.le_of_ble_eq_true rfl) ?_
  intro p e s m below meth c A ls B hr htb hmn hP hD hS hl
  have hl : lv_has ls 2 [(0, .ref (b 0)), (1, .int (nI j))] := hl
  refine lv_aload_n B.hx B.hb dX3_inForce_0 rfl (lv_at hl 0 rfl) ?_
  refine lv_iload_n B.hx B.hb dX3_inForce_1 rfl (lv_at hl 1 rfl) ?_
  refine q_callV (As := [.int (nI j)]) (rest := []) B hP hD hS ((c3_paperAt l D cI cZ cP b I V P j (a 0) hj hpj).fl2 (dw cI cZ a X Y) (ppw cI cZ a X Y)) (cwV 1 B.hts gX3_inForce_X3_paperAt rfl rfl rfl (by decide +kernel) ⟨(Nat.le_of_ble_eq_true rfl), (Nat.le_of_ble_eq_true rfl)⟩) 10 3 rfl rfl rfl rfl hl.1 rfl (Nat.le_of_ble_eq_true rfl) dX3_inForce_2 ⟨(Nat.le_of_ble_eq_true rfl), (Nat.le_of_ble_eq_true rfl)⟩ (fun E ce q9 H locs hx => False.elim hx) (fun v u H locs hp hP hD hS => ?_)
  obtain rfl := hp
  have hP : va_P D vwCl (dw cI cZ a X Y ++ (ppw cI cZ a X Y ++ (kq cI cZ cP b I V P ++ cw cI b I V))) H := hP
  have hD : va_D A (dw cI cZ a X Y ++ (ppw cI cZ a X Y ++ (kq cI cZ cP b I V P ++ cw cI b I V))) := hD
  refine q_callV (As := []) (rest := []) B hP hD hS ((c2_newest l D cI cZ cP a X Y w hw1).fr2 (kq cI cZ cP b I V P ++ cw cI b I V)) (cwV 0 B.hts gX3_inForce_X2_newest rfl rfl rfl (by decide +kernel) ⟨(Nat.le_of_ble_eq_true rfl), (Nat.le_of_ble_eq_true rfl)⟩) 6 2 rfl rfl rfl rfl hl.1 rfl (Nat.le_of_ble_eq_true rfl) dX3_inForce_5 ⟨(Nat.le_of_ble_eq_true rfl), (Nat.le_of_ble_eq_true rfl)⟩ (fun E ce q9 H locs hx => False.elim hx) (fun v u H locs hp hP hD hS => ?_)
  obtain rfl := hp
  have hP : va_P D vwCl (dw cI cZ a X Y ++ (ppw cI cZ a X Y ++ (kq cI cZ cP b I V P ++ cw cI b I V))) H := hP
  have hD : va_D A (dw cI cZ a X Y ++ (ppw cI cZ a X Y ++ (kq cI cZ cP b I V P ++ cw cI b I V))) := hD
  exact q_iret B hr hP hD hS (u := ()) rfl rfl (Nat.le_of_ble_eq_true rfl) (Nat.le_of_ble_eq_true rfl) dX3_inForce_8
set_option maxHeartbeats 4000000 in
set_option maxRecDepth 100000 in
theorem c3_text (l : Launch) (D : va_G) (cI cZ cP : ClassId) (b : Nat → Nat) (I : Nat → Int32) (V : Nat → Nat → Int32) (P : Nat → Option Nat) (a : Nat → Nat) (X : Nat → Int32) (Y : Nat → Nat → Int32) (j : Nat) (hj : j < 8) (hpj : P j = some (a 0)) (w : Nat) (hw1 : X 1 = nI w) (hw2 : w ≤ 128) : q_C l yX3_text wsX3_text ({ frames := 1, cells := 0, slots := 0, locals := 22 }) D cI cZ cP [.ref (b 0), .int (nI j)] (dw cI cZ a X Y ++ (ppw cI cZ a X Y ++ (kq cI cZ cP b I V P ++ cw cI b I V))) (S := Unit) (fun v _ => v = some (.int (if w = 0 then -1 else Y 6 (w - 1)))) (fun _ => dw cI cZ a X Y ++ (ppw cI cZ a X Y ++ (kq cI cZ cP b I V P ++ cw cI b I V))) (fun _ => False) 0 0 := by
  refine q_of (cc := cX3_text) (maxL := 4) (ret := (some .int)) (by decide +kernel) rfl (Nat.le_of_ble_eq_true rfl) ?_
  intro p e s m below meth c A ls B hr htb hmn hP hD hS hl
  have hl : lv_has ls 4 [(0, .ref (b 0)), (1, .int (nI j))] := hl
  have hi2 : ∀ w ∈ u_ws RX2 TX2 9, w ∈ wsX3_text := by decide +kernel
  refine lv_aload_n B.hx B.hb dX3_text_0 rfl (lv_at hl 0 rfl) ?_
  refine lv_iload_n B.hx B.hb dX3_text_1 rfl (lv_at hl 1 rfl) ?_
  refine q_callV (As := [.int (nI j)]) (rest := []) B hP hD hS ((c3_paperAt l D cI cZ cP b I V P j (a 0) hj hpj).fl2 (dw cI cZ a X Y) (ppw cI cZ a X Y)) (cwV 1 B.hts gX3_text_X3_paperAt rfl rfl rfl (by decide +kernel) ⟨(Nat.le_of_ble_eq_true rfl), (Nat.le_of_ble_eq_true rfl)⟩) 10 3 rfl rfl rfl rfl hl.1 rfl (Nat.le_of_ble_eq_true rfl) dX3_text_2 ⟨(Nat.le_of_ble_eq_true rfl), (Nat.le_of_ble_eq_true rfl)⟩ (fun E ce q9 H locs hx => False.elim hx) (fun v u H locs hp hP hD hS => ?_)
  obtain rfl := hp
  have hP : va_P D vwCl (dw cI cZ a X Y ++ (ppw cI cZ a X Y ++ (kq cI cZ cP b I V P ++ cw cI b I V))) H := hP
  have hD : va_D A (dw cI cZ a X Y ++ (ppw cI cZ a X Y ++ (kq cI cZ cP b I V P ++ cw cI b I V))) := hD
  refine lv_astore_n (lv' := [(2, .ref (a 0)), (0, .ref (b 0)), (1, .int (nI j))]) B.hx B.hb dX3_text_5 rfl hl (by decide) rfl (fun ls hl => ?_)
  refine lv_aload_n B.hx B.hb dX3_text_6 rfl (lv_at hl 0 rfl) ?_
  refine q_callV (As := []) (rest := []) B hP hD hS ((c2_newest l D cI cZ cP a X Y w hw1).fr2 (kq cI cZ cP b I V P ++ cw cI b I V)) (cwV 0 B.hts gX3_text_X2_newest rfl rfl rfl (by decide +kernel) ⟨(Nat.le_of_ble_eq_true rfl), (Nat.le_of_ble_eq_true rfl)⟩) 6 2 rfl rfl rfl rfl hl.1 rfl (Nat.le_of_ble_eq_true rfl) dX3_text_7 ⟨(Nat.le_of_ble_eq_true rfl), (Nat.le_of_ble_eq_true rfl)⟩ (fun E ce q9 H locs hx => False.elim hx) (fun v u H locs hp hP hD hS => ?_)
  obtain rfl := hp
  have hP : va_P D vwCl (dw cI cZ a X Y ++ (ppw cI cZ a X Y ++ (kq cI cZ cP b I V P ++ cw cI b I V))) H := hP
  have hD : va_D A (dw cI cZ a X Y ++ (ppw cI cZ a X Y ++ (kq cI cZ cP b I V P ++ cw cI b I V))) := hD
  refine lv_istore_n (lv' := [(3, .int (vn w)), (2, .ref (a 0)), (0, .ref (b 0)), (1, .int (nI j))]) B.hx B.hb dX3_text_10 rfl hl (by decide) rfl (fun ls hl => ?_)
  refine lv_iload_n B.hx B.hb dX3_text_11 rfl (lv_at hl 0 rfl) ?_
  cases w with
  | zero =>
    have hl : lv_has ls 4 [(3, .int (-1)), (2, .ref (a 0)), (0, .ref (b 0)), (1, .int (nI j))] := hl
    refine q_top (v2 := .int (-1)) rfl ?_
    refine lv_if_ge (tgt := 19) B.hx B.hb dX3_text_12 (by decide) (fun c1 => absurd c1 (by decide)) (fun _ => ?_)
    refine lv_iconst (v := (-1)) B.hx B.hb dX3_text_15 (by decide) ?_
    refine lv_goto (tgt := 25) B.hx B.hb dX3_text_16 (by decide) ?_
    exact q_iret B hr hP hD hS (u := ()) rfl rfl (Nat.le_of_ble_eq_true rfl) (Nat.le_of_ble_eq_true rfl) dX3_text_25
  | succ k =>
    have hl : lv_has ls 4 [(3, .int (nI k)), (2, .ref (a 0)), (0, .ref (b 0)), (1, .int (nI j))] := hl
    refine q_top (v2 := .int (nI k)) rfl ?_
    refine lv_if_ge (tgt := 19) B.hx B.hb dX3_text_12 (by decide) (fun _ => ?_) (fun c2 => absurd (nI_pos' (by omega)) c2)
    refine lv_aload_n B.hx B.hb dX3_text_19 rfl (lv_at hl 1 rfl) ?_
    refine q_get B hP (C := RX2) (ref := "PaperKeeper$Paper") (T := TX2) (N := 9) (ci := 2) hi2 rfl 6 rfl 3 (by decide) (by decide +kernel) rfl (v := .ref (a 8)) rfl dX3_text_20 ?_
    refine lv_iload_n B.hx B.hb dX3_text_23 rfl (lv_at hl 0 rfl) ?_
    refine q_iald B hP 8 rfl (j := k) rfl (by omega) (by decide) dX3_text_24 ?_
    exact q_iret B hr hP hD hS (u := ()) rfl rfl (Nat.le_of_ble_eq_true rfl) (Nat.le_of_ble_eq_true rfl) dX3_text_25
set_option maxHeartbeats 4000000 in
set_option maxRecDepth 100000 in
theorem c3_inForceOn (l : Launch) (hfl : l.stackTraces = false) (D : va_G) (cI cZ cP : ClassId) (b : Nat → Nat) (I : Nat → Int32) (V : Nat → Nat → Int32) (P : Nat → Option Nat) (a : Nat → Nat) (X : Nat → Int32) (Y : Nat → Nat → Int32) (j : Nat) (hj : j < 8) (hpj : P j = some (a 0)) (w : Nat) (hw1 : X 1 = nI w) (hw2 : w ≤ 128) (y : Int32) : q_C l yX3_inForceOn wsX3_inForceOn ({ frames := 7, cells := 1, slots := 6, locals := 104 }) D cI cZ cP [.ref (b 0), .int (nI j), .int y] (dw cI cZ a X Y ++ (ppw cI cZ a X Y ++ (kq cI cZ cP b I V P ++ cw cI b I V))) (S := Unit) (fun v _ => v = some (.int (pL (fun i => decide (¬ y < Y 7 i)) nI w)) ∧ kInForceOn y (I 7) = 0) (fun _ => dw cI cZ a X Y ++ (ppw cI cZ a X Y ++ (kq cI cZ cP b I V P ++ cw cI b I V))) (fun E => E = q_IAE ∧ kInForceOn y (I 7) = 2) 1 6 := by
  refine q_of (cc := cX3_inForceOn) (maxL := 4) (ret := (some .int)) (by decide +kernel) rfl (Nat.le_of_ble_eq_true rfl) ?_
  intro p e s m below meth c A ls B hr htb hmn hP hD hS hl
  have hl : lv_has ls 4 [(0, .ref (b 0)), (1, .int (nI j)), (2, .int y)] := hl
  have hi3 : ∀ w ∈ u_ws RX3 TX3 8, w ∈ wsX3_inForceOn := by decide +kernel
  refine lv_aload_n B.hx B.hb dX3_inForceOn_0 rfl (lv_at hl 0 rfl) ?_
  refine lv_iload_n B.hx B.hb dX3_inForceOn_1 rfl (lv_at hl 1 rfl) ?_
  refine q_callV (As := [.int (nI j)]) (rest := []) B hP hD hS ((c3_paperAt l D cI cZ cP b I V P j (a 0) hj hpj).fl2 (dw cI cZ a X Y) (ppw cI cZ a X Y)) (cwV 1 B.hts gX3_inForceOn_X3_paperAt rfl rfl rfl (by decide +kernel) ⟨(Nat.le_of_ble_eq_true rfl), (Nat.le_of_ble_eq_true rfl)⟩) 10 3 rfl rfl rfl rfl hl.1 rfl (Nat.le_of_ble_eq_true rfl) dX3_inForceOn_2 ⟨(Nat.le_of_ble_eq_true rfl), (Nat.le_of_ble_eq_true rfl)⟩ (fun E ce q9 H locs hx => False.elim hx) (fun v u H locs hp hP hD hS => ?_)
  obtain rfl := hp
  have hP : va_P D vwCl (dw cI cZ a X Y ++ (ppw cI cZ a X Y ++ (kq cI cZ cP b I V P ++ cw cI b I V))) H := hP
  have hD : va_D A (dw cI cZ a X Y ++ (ppw cI cZ a X Y ++ (kq cI cZ cP b I V P ++ cw cI b I V))) := hD
  refine lv_astore_n (lv' := [(3, .ref (a 0)), (0, .ref (b 0)), (1, .int (nI j)), (2, .int y)]) B.hx B.hb dX3_inForceOn_5 rfl hl (by decide) rfl (fun ls hl => ?_)
  refine lv_iload_n B.hx B.hb dX3_inForceOn_6 rfl (lv_at hl 3 rfl) ?_
  refine lv_iconst (v := (nI 0)) B.hx B.hb dX3_inForceOn_7 (by decide) ?_
  refine lv_aload_n B.hx B.hb dX3_inForceOn_8 rfl (lv_at hl 1 rfl) ?_
  refine q_get B hP (C := RX3) (ref := "PaperKeeper") (T := TX3) (N := 8) (ci := 3) hi3 rfl 10 rfl 7 (by decide) (by decide +kernel) rfl (v := .int (I 7)) rfl dX3_inForceOn_9 ?_
  refine q_callS (As := [.int y, .int (nI 0), .int (I 7)]) (rest := []) B hP hD hS ((c3_checkRange l hfl D cI cZ cP y (nI 0) (I 7)).fr0 (dw cI cZ a X Y ++ (ppw cI cZ a X Y ++ (kq cI cZ cP b I V P ++ cw cI b I V)))) (cwS 3 B.hts gX3_inForceOn_X3_checkRange rfl rfl rfl (by decide +kernel) ⟨(Nat.le_of_ble_eq_true rfl), (Nat.le_of_ble_eq_true rfl)⟩) rfl hl.1 rfl (Nat.le_of_ble_eq_true rfl) dX3_inForceOn_12 ⟨(Nat.le_of_ble_eq_true rfl), (Nat.le_of_ble_eq_true rfl)⟩ (fun E ce q9 H locs hx hP hS hce hcv hcl => ?_) (fun v u H locs hp hP hD hS => ?_)
  · exact q_xout B htb hP hS hce hcv hcl ⟨hx.1, by simp [kInForceOn, hx.2]⟩ (Nat.le_of_ble_eq_true rfl) (Nat.le_of_ble_eq_true rfl)
  · obtain ⟨rfl, hrg0⟩ := hp
    have hP : va_P D vwCl (dw cI cZ a X Y ++ (ppw cI cZ a X Y ++ (kq cI cZ cP b I V P ++ cw cI b I V))) H := hP
    have hD : va_D A (dw cI cZ a X Y ++ (ppw cI cZ a X Y ++ (kq cI cZ cP b I V P ++ cw cI b I V))) := hD
    refine lv_aload_n B.hx B.hb dX3_inForceOn_15 rfl (lv_at hl 0 rfl) ?_
    refine lv_iload_n B.hx B.hb dX3_inForceOn_16 rfl (lv_at hl 3 rfl) ?_
    refine q_callV (As := [.int y]) (rest := []) B hP hD hS ((c2_versionOn l D cI cZ cP a X Y w hw1 hw2 y).fr2 (kq cI cZ cP b I V P ++ cw cI b I V)) (cwV 1 B.hts gX3_inForceOn_X2_versionOn rfl rfl rfl (by decide +kernel) ⟨(Nat.le_of_ble_eq_true rfl), (Nat.le_of_ble_eq_true rfl)⟩) 6 2 rfl rfl rfl rfl hl.1 rfl (Nat.le_of_ble_eq_true rfl) dX3_inForceOn_17 ⟨(Nat.le_of_ble_eq_true rfl), (Nat.le_of_ble_eq_true rfl)⟩ (fun E ce q9 H locs hx => False.elim hx) (fun v u H locs hp hP hD hS => ?_)
    obtain rfl := hp
    have hP : va_P D vwCl (dw cI cZ a X Y ++ (ppw cI cZ a X Y ++ (kq cI cZ cP b I V P ++ cw cI b I V))) H := hP
    have hD : va_D A (dw cI cZ a X Y ++ (ppw cI cZ a X Y ++ (kq cI cZ cP b I V P ++ cw cI b I V))) := hD
    exact q_iret B hr hP hD hS (u := ()) rfl ⟨rfl, by simp [kInForceOn, hrg0]⟩ (Nat.le_of_ble_eq_true rfl) (Nat.le_of_ble_eq_true rfl) dX3_inForceOn_20
set_option maxHeartbeats 4000000 in
set_option maxRecDepth 100000 in
theorem c3_since (l : Launch) (hfl : l.stackTraces = false) (D : va_G) (cI cZ cP : ClassId) (b : Nat → Nat) (I : Nat → Int32) (V : Nat → Nat → Int32) (P : Nat → Option Nat) (a : Nat → Nat) (X : Nat → Int32) (Y : Nat → Nat → Int32) (j : Nat) (hj : j < 8) (hpj : P j = some (a 0)) (w : Nat) (hw1 : X 1 = nI w) (hw2 : w ≤ 128) (y : Int32) : q_C l yX3_since wsX3_since ({ frames := 6, cells := 1, slots := 6, locals := 82 }) D cI cZ cP [.ref (b 0), .int (nI j), .int y] (dw cI cZ a X Y ++ (ppw cI cZ a X Y ++ (kq cI cZ cP b I V P ++ cw cI b I V))) (S := Unit) (fun v _ => v = some (.int (Y 7 (ix y))) ∧ kSince y w = 0) (fun _ => dw cI cZ a X Y ++ (ppw cI cZ a X Y ++ (kq cI cZ cP b I V P ++ cw cI b I V))) (fun E => E = q_IOB ∧ kSince y w = 1) 1 6 := by
  refine q_of (cc := cX3_since) (maxL := 4) (ret := (some .int)) (by decide +kernel) rfl (Nat.le_of_ble_eq_true rfl) ?_
  intro p e s m below meth c A ls B hr htb hmn hP hD hS hl
  have hl : lv_has ls 4 [(0, .ref (b 0)), (1, .int (nI j)), (2, .int y)] := hl
  have hi2 : ∀ w ∈ u_ws RX2 TX2 9, w ∈ wsX3_since := by decide +kernel
  refine lv_aload_n B.hx B.hb dX3_since_0 rfl (lv_at hl 0 rfl) ?_
  refine lv_iload_n B.hx B.hb dX3_since_1 rfl (lv_at hl 1 rfl) ?_
  refine q_callV (As := [.int (nI j)]) (rest := []) B hP hD hS ((c3_paperAt l D cI cZ cP b I V P j (a 0) hj hpj).fl2 (dw cI cZ a X Y) (ppw cI cZ a X Y)) (cwV 1 B.hts gX3_since_X3_paperAt rfl rfl rfl (by decide +kernel) ⟨(Nat.le_of_ble_eq_true rfl), (Nat.le_of_ble_eq_true rfl)⟩) 10 3 rfl rfl rfl rfl hl.1 rfl (Nat.le_of_ble_eq_true rfl) dX3_since_2 ⟨(Nat.le_of_ble_eq_true rfl), (Nat.le_of_ble_eq_true rfl)⟩ (fun E ce q9 H locs hx => False.elim hx) (fun v u H locs hp hP hD hS => ?_)
  obtain rfl := hp
  have hP : va_P D vwCl (dw cI cZ a X Y ++ (ppw cI cZ a X Y ++ (kq cI cZ cP b I V P ++ cw cI b I V))) H := hP
  have hD : va_D A (dw cI cZ a X Y ++ (ppw cI cZ a X Y ++ (kq cI cZ cP b I V P ++ cw cI b I V))) := hD
  refine lv_astore_n (lv' := [(3, .ref (a 0)), (0, .ref (b 0)), (1, .int (nI j)), (2, .int y)]) B.hx B.hb dX3_since_5 rfl hl (by decide) rfl (fun ls hl => ?_)
  refine lv_iload_n B.hx B.hb dX3_since_6 rfl (lv_at hl 3 rfl) ?_
  refine lv_if_lt (tgt := 18) B.hx B.hb dX3_since_7 (by decide) (fun c1 => ?_) (fun c1 => ?_)
  · exact q_throw B hfl htb hP hS q_E_IOB (goodIn_app (goodIn_of [_, _] (by decide +kernel)) (goodIn_sub (fun w h => List.mem_cons_of_mem _ (List.mem_append_right _ h)) q_allg_IOB)) (List.mem_of_getElem? (i := 20) rfl) hl.1 dX3_since_18 dX3_since_21 dX3_since_22 dX3_since_24 dX3_since_27 ⟨(Nat.le_of_ble_eq_true rfl), (Nat.le_of_ble_eq_true rfl), (Nat.le_of_ble_eq_true rfl), (Nat.le_of_ble_eq_true rfl)⟩ ⟨rfl, by simp [kSince, inr, c1]⟩ (Nat.le_of_ble_eq_true rfl) (Nat.le_of_ble_eq_true rfl)
  · refine lv_iload_n B.hx B.hb dX3_since_10 rfl (lv_at hl 3 rfl) ?_
    refine lv_aload_n B.hx B.hb dX3_since_11 rfl (lv_at hl 0 rfl) ?_
    refine q_get B hP (C := RX2) (ref := "PaperKeeper$Paper") (T := TX2) (N := 9) (ci := 2) hi2 rfl 6 rfl 5 (by decide) (by decide +kernel) rfl (v := .int (X 1)) rfl dX3_since_12 ?_
    refine q_top (v2 := .int (nI w)) (congrArg Value.int hw1) ?_
    refine lv_icmp_lt (tgt := 28) B.hx B.hb dX3_since_15 (by decide) (fun c2 => ?_) (fun c2 => ?_)
    · obtain ⟨jy, hjjy, rfl⟩ := inr_of (n := w) (by omega) c1 c2
      have hixjy : ix (nI jy) = jy := ix_nI (by omega)
      refine lv_aload_n B.hx B.hb dX3_since_28 rfl (lv_at hl 0 rfl) ?_
      refine q_get B hP (C := RX2) (ref := "PaperKeeper$Paper") (T := TX2) (N := 9) (ci := 2) hi2 rfl 6 rfl 4 (by decide) (by decide +kernel) rfl (v := .ref (a 9)) rfl dX3_since_29 ?_
      refine lv_iload_n B.hx B.hb dX3_since_32 rfl (lv_at hl 3 rfl) ?_
      refine q_iald B hP 9 rfl (j := jy) rfl (by omega) (by decide) dX3_since_33 ?_
      exact q_iret B hr hP hD hS (u := ()) (by simp only [hixjy]) ⟨by rw [hixjy], by simp [kSince, inr, c1, c2, hixjy]⟩ (Nat.le_of_ble_eq_true rfl) (Nat.le_of_ble_eq_true rfl) dX3_since_34
    · exact q_throw B hfl htb hP hS q_E_IOB (goodIn_app (goodIn_of [_, _] (by decide +kernel)) (goodIn_sub (fun w h => List.mem_cons_of_mem _ (List.mem_append_right _ h)) q_allg_IOB)) (List.mem_of_getElem? (i := 20) rfl) hl.1 dX3_since_18 dX3_since_21 dX3_since_22 dX3_since_24 dX3_since_27 ⟨(Nat.le_of_ble_eq_true rfl), (Nat.le_of_ble_eq_true rfl), (Nat.le_of_ble_eq_true rfl), (Nat.le_of_ble_eq_true rfl)⟩ ⟨rfl, by simp [kSince, inr, c1, c2]⟩ (Nat.le_of_ble_eq_true rfl) (Nat.le_of_ble_eq_true rfl)
set_option maxHeartbeats 4000000 in
set_option maxRecDepth 100000 in
theorem c3_hang (l : Launch) (hfl : l.stackTraces = false) (D : va_G) (cI cZ cP : ClassId) (b : Nat → Nat) (I : Nat → Int32) (V : Nat → Nat → Int32) (P : Nat → Option Nat) (a : Nat → Nat) (X : Nat → Int32) (Y : Nat → Nat → Int32) (j : Nat) (hj : j < 8) (hpj : P j = some (a 0)) (o r : Nat) (ho : o < 8) (hpo : P o = some r) : q_C l yX3_hang wsX3_hang ({ frames := 6, cells := 1, slots := 6, locals := 82 }) D cI cZ cP [.ref (b 0), .int (nI j), .int (nI o)] (dw cI cZ a X Y ++ (ppw cI cZ a X Y ++ (kq cI cZ cP b I V P ++ cw cI b I V))) (S := Unit) (fun v _ => v = some (.int (nI (pN (fun i => decide (¬ (upd (Y 0) o (nI 1)) i = 0)) 8))) ∧ kHang (nI j) (nI o) = 0) (fun _ => dw cI cZ a X (va_up Y 0 (upd (Y 0) o (nI 1))) ++ (ppw cI cZ a X (va_up Y 0 (upd (Y 0) o (nI 1))) ++ (kq cI cZ cP b I V P ++ cw cI b I V))) (fun E => E = q_IAE ∧ kHang (nI j) (nI o) = 2) 1 6 := by
  refine q_of (cc := cX3_hang) (maxL := 4) (ret := (some .int)) (by decide +kernel) rfl (Nat.le_of_ble_eq_true rfl) ?_
  intro p e s m below meth c A ls B hr htb hmn hP hD hS hl
  have hl : lv_has ls 4 [(0, .ref (b 0)), (1, .int (nI j)), (2, .int (nI o))] := hl
  have hi2 : ∀ w ∈ u_ws RX2 TX2 9, w ∈ wsX3_hang := by decide +kernel
  refine lv_aload_n B.hx B.hb dX3_hang_0 rfl (lv_at hl 0 rfl) ?_
  refine lv_iload_n B.hx B.hb dX3_hang_1 rfl (lv_at hl 1 rfl) ?_
  refine q_callV (As := [.int (nI j)]) (rest := []) B hP hD hS ((c3_paperAt l D cI cZ cP b I V P j (a 0) hj hpj).fl2 (dw cI cZ a X Y) (ppw cI cZ a X Y)) (cwV 1 B.hts gX3_hang_X3_paperAt rfl rfl rfl (by decide +kernel) ⟨(Nat.le_of_ble_eq_true rfl), (Nat.le_of_ble_eq_true rfl)⟩) 10 3 rfl rfl rfl rfl hl.1 rfl (Nat.le_of_ble_eq_true rfl) dX3_hang_2 ⟨(Nat.le_of_ble_eq_true rfl), (Nat.le_of_ble_eq_true rfl)⟩ (fun E ce q9 H locs hx => False.elim hx) (fun v u H locs hp hP hD hS => ?_)
  obtain rfl := hp
  have hP : va_P D vwCl (dw cI cZ a X Y ++ (ppw cI cZ a X Y ++ (kq cI cZ cP b I V P ++ cw cI b I V))) H := hP
  have hD : va_D A (dw cI cZ a X Y ++ (ppw cI cZ a X Y ++ (kq cI cZ cP b I V P ++ cw cI b I V))) := hD
  refine lv_astore_n (lv' := [(3, .ref (a 0)), (0, .ref (b 0)), (1, .int (nI j)), (2, .int (nI o))]) B.hx B.hb dX3_hang_5 rfl hl (by decide) rfl (fun ls hl => ?_)
  refine lv_aload_n B.hx B.hb dX3_hang_6 rfl (lv_at hl 1 rfl) ?_
  refine lv_iload_n B.hx B.hb dX3_hang_7 rfl (lv_at hl 3 rfl) ?_
  refine q_callV (As := [.int (nI o)]) (rest := []) B hP hD hS ((c3_paperAt l D cI cZ cP b I V P o r ho hpo).fl2 (dw cI cZ a X Y) (ppw cI cZ a X Y)) (cwV 1 B.hts gX3_hang_X3_paperAt rfl rfl rfl (by decide +kernel) ⟨(Nat.le_of_ble_eq_true rfl), (Nat.le_of_ble_eq_true rfl)⟩) 10 3 rfl rfl rfl rfl hl.1 rfl (Nat.le_of_ble_eq_true rfl) dX3_hang_8 ⟨(Nat.le_of_ble_eq_true rfl), (Nat.le_of_ble_eq_true rfl)⟩ (fun E ce q9 H locs hx => False.elim hx) (fun v u H locs hp hP hD hS => ?_)
  obtain rfl := hp
  have hP : va_P D vwCl (dw cI cZ a X Y ++ (ppw cI cZ a X Y ++ (kq cI cZ cP b I V P ++ cw cI b I V))) H := hP
  have hD : va_D A (dw cI cZ a X Y ++ (ppw cI cZ a X Y ++ (kq cI cZ cP b I V P ++ cw cI b I V))) := hD
  refine lv_pop B.hx B.hb dX3_hang_11 rfl ?_
  refine lv_iload_n B.hx B.hb dX3_hang_12 rfl (lv_at hl 2 rfl) ?_
  refine lv_iload_n B.hx B.hb dX3_hang_13 rfl (lv_at hl 3 rfl) ?_
  refine lv_icmp_ne (tgt := 27) B.hx B.hb dX3_hang_14 (by decide) (fun c1 => ?_) (fun c1 => ?_)
  · replace c1 := mt (nI_eq (by omega) (by omega)).mpr c1
    have hne : ¬ nI j = nI o := mt (nI_eq (by omega) (by omega)).mp c1
    refine lv_aload_n B.hx B.hb dX3_hang_27 rfl (lv_at hl 0 rfl) ?_
    refine q_get B hP (C := RX2) (ref := "PaperKeeper$Paper") (T := TX2) (N := 9) (ci := 2) hi2 rfl 6 rfl 1 (by decide) (by decide +kernel) rfl (v := .ref (a 1)) rfl dX3_hang_28 ?_
    refine lv_iload_n B.hx B.hb dX3_hang_31 rfl (lv_at hl 3 rfl) ?_
    refine lv_iconst (v := (nI 1)) B.hx B.hb dX3_hang_32 (by decide) ?_
    refine q_zast B hP hD hS 7 rfl (j := o) rfl (by omega) (by decide) (by decide) dX3_hang_33 (w' := dw cI cZ a X (va_up Y 0 (upd (Y 0) o (nI 1))) ++ (ppw cI cZ a X (va_up Y 0 (upd (Y 0) o (nI 1))) ++ (kq cI cZ cP b I V P ++ cw cI b I V))) rfl (fun H locs hP hD hS => ?_)
    refine lv_aload_n B.hx B.hb dX3_hang_34 rfl (lv_at hl 0 rfl) ?_
    refine q_get B hP (C := RX2) (ref := "PaperKeeper$Paper") (T := TX2) (N := 9) (ci := 2) hi2 rfl 6 rfl 1 (by decide) (by decide +kernel) rfl (v := .ref (a 1)) rfl dX3_hang_35 ?_
    refine q_callS (As := [.ref (a 1)]) (rest := []) B hP hD hS (c3_countOf l D cI cZ cP (dw cI cZ a X (va_up Y 0 (upd (Y 0) o (nI 1))) ++ (ppw cI cZ a X (va_up Y 0 (upd (Y 0) o (nI 1))) ++ (kq cI cZ cP b I V P ++ cw cI b I V))) 7 (a 1) 8 (upd (Y 0) o (nI 1)) rfl (by decide)) (cwS 1 B.hts gX3_hang_X3_countOf rfl rfl rfl (by decide +kernel) ⟨(Nat.le_of_ble_eq_true rfl), (Nat.le_of_ble_eq_true rfl)⟩) rfl hl.1 rfl (Nat.le_of_ble_eq_true rfl) dX3_hang_38 ⟨(Nat.le_of_ble_eq_true rfl), (Nat.le_of_ble_eq_true rfl)⟩ (fun E ce q9 H locs hx => False.elim hx) (fun v u H locs hp hP hD hS => ?_)
    obtain rfl := hp
    have hP : va_P D vwCl (dw cI cZ a X (va_up Y 0 (upd (Y 0) o (nI 1))) ++ (ppw cI cZ a X (va_up Y 0 (upd (Y 0) o (nI 1))) ++ (kq cI cZ cP b I V P ++ cw cI b I V))) H := hP
    have hD : va_D A (dw cI cZ a X (va_up Y 0 (upd (Y 0) o (nI 1))) ++ (ppw cI cZ a X (va_up Y 0 (upd (Y 0) o (nI 1))) ++ (kq cI cZ cP b I V P ++ cw cI b I V))) := hD
    exact q_iret B hr hP hD hS (u := ()) rfl ⟨rfl, by simp [kHang, c1, hne]⟩ (Nat.le_of_ble_eq_true rfl) (Nat.le_of_ble_eq_true rfl) dX3_hang_41
  · replace c1 := (nI_eq (by omega) (by omega)).mp c1
    exact q_throw B hfl htb hP hS q_E_IAE (goodIn_app (goodIn_of [_, _] (by decide +kernel)) (goodIn_sub (fun w h => List.mem_cons_of_mem _ (List.mem_append_left _ (List.mem_append_right _ h))) q_allg_IAE)) (List.mem_of_getElem? (i := 2) rfl) hl.1 dX3_hang_17 dX3_hang_20 dX3_hang_21 dX3_hang_23 dX3_hang_26 ⟨(Nat.le_of_ble_eq_true rfl), (Nat.le_of_ble_eq_true rfl), (Nat.le_of_ble_eq_true rfl), (Nat.le_of_ble_eq_true rfl)⟩ ⟨rfl, by simp [kHang, c1]⟩ (Nat.le_of_ble_eq_true rfl) (Nat.le_of_ble_eq_true rfl)
set_option maxHeartbeats 4000000 in
set_option maxRecDepth 100000 in
theorem c3_draft_no (l : Launch) (hfl : l.stackTraces = false) (D : va_G) (cI cZ cP : ClassId) (b : Nat → Nat) (I : Nat → Int32) (V : Nat → Nat → Int32) (P : Nat → Option Nat) (x y z : Int32) (hno : nop P x) : q_C l yX3_draft wsX3_draft ({ frames := 7, cells := 1, slots := 6, locals := 104 }) D cI cZ cP [.ref (b 0), .int x, .int y, .int z] (kq cI cZ cP b I V P ++ cw cI b I V) (S := Unit) (fun _ _ => False) (fun _ => kq cI cZ cP b I V P ++ cw cI b I V) (fun E => E = q_IOB) 1 6 := by
  refine q_of (cc := cX3_draft) (maxL := 5) (ret := none) (by decide +kernel) rfl (Nat.le_of_ble_eq_true rfl) ?_
  intro p e s m below meth c A ls B hr htb hmn hP hD hS hl
  have hl : lv_has ls 5 [(0, .ref (b 0)), (1, .int x), (2, .int y), (3, .int z)] := hl
  refine lv_aload_n B.hx B.hb dX3_draft_0 rfl (lv_at hl 0 rfl) ?_
  refine lv_iload_n B.hx B.hb dX3_draft_1 rfl (lv_at hl 1 rfl) ?_
  refine q_callV (As := [.int x]) (rest := []) B hP hD hS (c3_paperAt_no l hfl D cI cZ cP b I V P x hno) (cwV 1 B.hts gX3_draft_X3_paperAt rfl rfl rfl (by decide +kernel) ⟨(Nat.le_of_ble_eq_true rfl), (Nat.le_of_ble_eq_true rfl)⟩) 0 3 rfl rfl rfl rfl hl.1 rfl (Nat.le_of_ble_eq_true rfl) dX3_draft_2 ⟨(Nat.le_of_ble_eq_true rfl), (Nat.le_of_ble_eq_true rfl)⟩ (fun E ce q9 H locs hx hP hS hce hcv hcl => ?_) (fun v u H locs hp hP hD hS => ?_)
  · exact q_xout B htb hP hS hce hcv hcl hx (Nat.le_of_ble_eq_true rfl) (Nat.le_of_ble_eq_true rfl)
  · exact False.elim hp
set_option maxHeartbeats 4000000 in
set_option maxRecDepth 100000 in
theorem c3_change_no (l : Launch) (hfl : l.stackTraces = false) (D : va_G) (cI cZ cP : ClassId) (b : Nat → Nat) (I : Nat → Int32) (V : Nat → Nat → Int32) (P : Nat → Option Nat) (x y : Int32) (hno : nop P x) : q_C l yX3_change wsX3_change ({ frames := 7, cells := 1, slots := 6, locals := 104 }) D cI cZ cP [.ref (b 0), .int x, .int y] (kq cI cZ cP b I V P ++ cw cI b I V) (S := Unit) (fun _ _ => False) (fun _ => kq cI cZ cP b I V P ++ cw cI b I V) (fun E => E = q_IOB) 1 6 := by
  refine q_of (cc := cX3_change) (maxL := 5) (ret := (some .int)) (by decide +kernel) rfl (Nat.le_of_ble_eq_true rfl) ?_
  intro p e s m below meth c A ls B hr htb hmn hP hD hS hl
  have hl : lv_has ls 5 [(0, .ref (b 0)), (1, .int x), (2, .int y)] := hl
  refine lv_aload_n B.hx B.hb dX3_change_0 rfl (lv_at hl 0 rfl) ?_
  refine lv_iload_n B.hx B.hb dX3_change_1 rfl (lv_at hl 1 rfl) ?_
  refine q_callV (As := [.int x]) (rest := []) B hP hD hS (c3_paperAt_no l hfl D cI cZ cP b I V P x hno) (cwV 1 B.hts gX3_change_X3_paperAt rfl rfl rfl (by decide +kernel) ⟨(Nat.le_of_ble_eq_true rfl), (Nat.le_of_ble_eq_true rfl)⟩) 0 3 rfl rfl rfl rfl hl.1 rfl (Nat.le_of_ble_eq_true rfl) dX3_change_2 ⟨(Nat.le_of_ble_eq_true rfl), (Nat.le_of_ble_eq_true rfl)⟩ (fun E ce q9 H locs hx hP hS hce hcv hcl => ?_) (fun v u H locs hp hP hD hS => ?_)
  · exact q_xout B htb hP hS hce hcv hcl hx (Nat.le_of_ble_eq_true rfl) (Nat.le_of_ble_eq_true rfl)
  · exact False.elim hp
set_option maxHeartbeats 4000000 in
set_option maxRecDepth 100000 in
theorem c3_drop_no (l : Launch) (hfl : l.stackTraces = false) (D : va_G) (cI cZ cP : ClassId) (b : Nat → Nat) (I : Nat → Int32) (V : Nat → Nat → Int32) (P : Nat → Option Nat) (x : Int32) (hno : nop P x) : q_C l yX3_drop wsX3_drop ({ frames := 7, cells := 1, slots := 6, locals := 104 }) D cI cZ cP [.ref (b 0), .int x] (kq cI cZ cP b I V P ++ cw cI b I V) (S := Unit) (fun _ _ => False) (fun _ => kq cI cZ cP b I V P ++ cw cI b I V) (fun E => E = q_IOB) 1 6 := by
  refine q_of (cc := cX3_drop) (maxL := 4) (ret := (some .int)) (by decide +kernel) rfl (Nat.le_of_ble_eq_true rfl) ?_
  intro p e s m below meth c A ls B hr htb hmn hP hD hS hl
  have hl : lv_has ls 4 [(0, .ref (b 0)), (1, .int x)] := hl
  refine lv_aload_n B.hx B.hb dX3_drop_0 rfl (lv_at hl 0 rfl) ?_
  refine lv_iload_n B.hx B.hb dX3_drop_1 rfl (lv_at hl 1 rfl) ?_
  refine q_callV (As := [.int x]) (rest := []) B hP hD hS (c3_paperAt_no l hfl D cI cZ cP b I V P x hno) (cwV 1 B.hts gX3_drop_X3_paperAt rfl rfl rfl (by decide +kernel) ⟨(Nat.le_of_ble_eq_true rfl), (Nat.le_of_ble_eq_true rfl)⟩) 0 3 rfl rfl rfl rfl hl.1 rfl (Nat.le_of_ble_eq_true rfl) dX3_drop_2 ⟨(Nat.le_of_ble_eq_true rfl), (Nat.le_of_ble_eq_true rfl)⟩ (fun E ce q9 H locs hx hP hS hce hcv hcl => ?_) (fun v u H locs hp hP hD hS => ?_)
  · exact q_xout B htb hP hS hce hcv hcl hx (Nat.le_of_ble_eq_true rfl) (Nat.le_of_ble_eq_true rfl)
  · exact False.elim hp
set_option maxHeartbeats 4000000 in
set_option maxRecDepth 100000 in
theorem c3_reviewer_no (l : Launch) (hfl : l.stackTraces = false) (D : va_G) (cI cZ cP : ClassId) (b : Nat → Nat) (I : Nat → Int32) (V : Nat → Nat → Int32) (P : Nat → Option Nat) (x y : Int32) (hno : nop P x) : q_C l yX3_reviewer wsX3_reviewer ({ frames := 7, cells := 1, slots := 6, locals := 104 }) D cI cZ cP [.ref (b 0), .int x, .int y] (kq cI cZ cP b I V P ++ cw cI b I V) (S := Unit) (fun _ _ => False) (fun _ => kq cI cZ cP b I V P ++ cw cI b I V) (fun E => E = q_IOB) 1 6 := by
  refine q_of (cc := cX3_reviewer) (maxL := 5) (ret := (some .int)) (by decide +kernel) rfl (Nat.le_of_ble_eq_true rfl) ?_
  intro p e s m below meth c A ls B hr htb hmn hP hD hS hl
  have hl : lv_has ls 5 [(0, .ref (b 0)), (1, .int x), (2, .int y)] := hl
  refine lv_aload_n B.hx B.hb dX3_reviewer_0 rfl (lv_at hl 0 rfl) ?_
  refine lv_iload_n B.hx B.hb dX3_reviewer_1 rfl (lv_at hl 1 rfl) ?_
  refine q_callV (As := [.int x]) (rest := []) B hP hD hS (c3_paperAt_no l hfl D cI cZ cP b I V P x hno) (cwV 1 B.hts gX3_reviewer_X3_paperAt rfl rfl rfl (by decide +kernel) ⟨(Nat.le_of_ble_eq_true rfl), (Nat.le_of_ble_eq_true rfl)⟩) 0 3 rfl rfl rfl rfl hl.1 rfl (Nat.le_of_ble_eq_true rfl) dX3_reviewer_2 ⟨(Nat.le_of_ble_eq_true rfl), (Nat.le_of_ble_eq_true rfl)⟩ (fun E ce q9 H locs hx hP hS hce hcv hcl => ?_) (fun v u H locs hp hP hD hS => ?_)
  · exact q_xout B htb hP hS hce hcv hcl hx (Nat.le_of_ble_eq_true rfl) (Nat.le_of_ble_eq_true rfl)
  · exact False.elim hp
set_option maxHeartbeats 4000000 in
set_option maxRecDepth 100000 in
theorem c3_reader_no (l : Launch) (hfl : l.stackTraces = false) (D : va_G) (cI cZ cP : ClassId) (b : Nat → Nat) (I : Nat → Int32) (V : Nat → Nat → Int32) (P : Nat → Option Nat) (x y : Int32) (hno : nop P x) : q_C l yX3_reader wsX3_reader ({ frames := 7, cells := 1, slots := 6, locals := 104 }) D cI cZ cP [.ref (b 0), .int x, .int y] (kq cI cZ cP b I V P ++ cw cI b I V) (S := Unit) (fun _ _ => False) (fun _ => kq cI cZ cP b I V P ++ cw cI b I V) (fun E => E = q_IOB) 1 6 := by
  refine q_of (cc := cX3_reader) (maxL := 5) (ret := (some .int)) (by decide +kernel) rfl (Nat.le_of_ble_eq_true rfl) ?_
  intro p e s m below meth c A ls B hr htb hmn hP hD hS hl
  have hl : lv_has ls 5 [(0, .ref (b 0)), (1, .int x), (2, .int y)] := hl
  refine lv_aload_n B.hx B.hb dX3_reader_0 rfl (lv_at hl 0 rfl) ?_
  refine lv_iload_n B.hx B.hb dX3_reader_1 rfl (lv_at hl 1 rfl) ?_
  refine q_callV (As := [.int x]) (rest := []) B hP hD hS (c3_paperAt_no l hfl D cI cZ cP b I V P x hno) (cwV 1 B.hts gX3_reader_X3_paperAt rfl rfl rfl (by decide +kernel) ⟨(Nat.le_of_ble_eq_true rfl), (Nat.le_of_ble_eq_true rfl)⟩) 0 3 rfl rfl rfl rfl hl.1 rfl (Nat.le_of_ble_eq_true rfl) dX3_reader_2 ⟨(Nat.le_of_ble_eq_true rfl), (Nat.le_of_ble_eq_true rfl)⟩ (fun E ce q9 H locs hx hP hS hce hcv hcl => ?_) (fun v u H locs hp hP hD hS => ?_)
  · exact q_xout B htb hP hS hce hcv hcl hx (Nat.le_of_ble_eq_true rfl) (Nat.le_of_ble_eq_true rfl)
  · exact False.elim hp
set_option maxHeartbeats 4000000 in
set_option maxRecDepth 100000 in
theorem c3_review_no (l : Launch) (hfl : l.stackTraces = false) (D : va_G) (cI cZ cP : ClassId) (b : Nat → Nat) (I : Nat → Int32) (V : Nat → Nat → Int32) (P : Nat → Option Nat) (x y z : Int32) (hno : nop P x) : q_C l yX3_review wsX3_review ({ frames := 7, cells := 1, slots := 6, locals := 104 }) D cI cZ cP [.ref (b 0), .int x, .int y, .int z] (kq cI cZ cP b I V P ++ cw cI b I V) (S := Unit) (fun _ _ => False) (fun _ => kq cI cZ cP b I V P ++ cw cI b I V) (fun E => E = q_IOB) 1 6 := by
  refine q_of (cc := cX3_review) (maxL := 6) (ret := (some .int)) (by decide +kernel) rfl (Nat.le_of_ble_eq_true rfl) ?_
  intro p e s m below meth c A ls B hr htb hmn hP hD hS hl
  have hl : lv_has ls 6 [(0, .ref (b 0)), (1, .int x), (2, .int y), (3, .int z)] := hl
  refine lv_aload_n B.hx B.hb dX3_review_0 rfl (lv_at hl 0 rfl) ?_
  refine lv_iload_n B.hx B.hb dX3_review_1 rfl (lv_at hl 1 rfl) ?_
  refine q_callV (As := [.int x]) (rest := []) B hP hD hS (c3_paperAt_no l hfl D cI cZ cP b I V P x hno) (cwV 1 B.hts gX3_review_X3_paperAt rfl rfl rfl (by decide +kernel) ⟨(Nat.le_of_ble_eq_true rfl), (Nat.le_of_ble_eq_true rfl)⟩) 0 3 rfl rfl rfl rfl hl.1 rfl (Nat.le_of_ble_eq_true rfl) dX3_review_2 ⟨(Nat.le_of_ble_eq_true rfl), (Nat.le_of_ble_eq_true rfl)⟩ (fun E ce q9 H locs hx hP hS hce hcv hcl => ?_) (fun v u H locs hp hP hD hS => ?_)
  · exact q_xout B htb hP hS hce hcv hcl hx (Nat.le_of_ble_eq_true rfl) (Nat.le_of_ble_eq_true rfl)
  · exact False.elim hp
set_option maxHeartbeats 4000000 in
set_option maxRecDepth 100000 in
theorem c3_answer_no (l : Launch) (hfl : l.stackTraces = false) (D : va_G) (cI cZ cP : ClassId) (b : Nat → Nat) (I : Nat → Int32) (V : Nat → Nat → Int32) (P : Nat → Option Nat) (x y : Int32) (hno : nop P x) : q_C l yX3_answer wsX3_answer ({ frames := 7, cells := 1, slots := 6, locals := 104 }) D cI cZ cP [.ref (b 0), .int x, .int y] (kq cI cZ cP b I V P ++ cw cI b I V) (S := Unit) (fun _ _ => False) (fun _ => kq cI cZ cP b I V P ++ cw cI b I V) (fun E => E = q_IOB) 1 6 := by
  refine q_of (cc := cX3_answer) (maxL := 5) (ret := (some .int)) (by decide +kernel) rfl (Nat.le_of_ble_eq_true rfl) ?_
  intro p e s m below meth c A ls B hr htb hmn hP hD hS hl
  have hl : lv_has ls 5 [(0, .ref (b 0)), (1, .int x), (2, .int y)] := hl
  refine lv_aload_n B.hx B.hb dX3_answer_0 rfl (lv_at hl 0 rfl) ?_
  refine lv_iload_n B.hx B.hb dX3_answer_1 rfl (lv_at hl 1 rfl) ?_
  refine q_callV (As := [.int x]) (rest := []) B hP hD hS (c3_paperAt_no l hfl D cI cZ cP b I V P x hno) (cwV 1 B.hts gX3_answer_X3_paperAt rfl rfl rfl (by decide +kernel) ⟨(Nat.le_of_ble_eq_true rfl), (Nat.le_of_ble_eq_true rfl)⟩) 0 3 rfl rfl rfl rfl hl.1 rfl (Nat.le_of_ble_eq_true rfl) dX3_answer_2 ⟨(Nat.le_of_ble_eq_true rfl), (Nat.le_of_ble_eq_true rfl)⟩ (fun E ce q9 H locs hx hP hS hce hcv hcl => ?_) (fun v u H locs hp hP hD hS => ?_)
  · exact q_xout B htb hP hS hce hcv hcl hx (Nat.le_of_ble_eq_true rfl) (Nat.le_of_ble_eq_true rfl)
  · exact False.elim hp
set_option maxHeartbeats 4000000 in
set_option maxRecDepth 100000 in
theorem c3_approve_no (l : Launch) (hfl : l.stackTraces = false) (D : va_G) (cI cZ cP : ClassId) (b : Nat → Nat) (I : Nat → Int32) (V : Nat → Nat → Int32) (P : Nat → Option Nat) (x y z : Int32) (hno : nop P x) : q_C l yX3_approve wsX3_approve ({ frames := 7, cells := 1, slots := 6, locals := 104 }) D cI cZ cP [.ref (b 0), .int x, .int y, .int z] (kq cI cZ cP b I V P ++ cw cI b I V) (S := Unit) (fun _ _ => False) (fun _ => kq cI cZ cP b I V P ++ cw cI b I V) (fun E => E = q_IOB) 1 6 := by
  refine q_of (cc := cX3_approve) (maxL := 6) (ret := none) (by decide +kernel) rfl (Nat.le_of_ble_eq_true rfl) ?_
  intro p e s m below meth c A ls B hr htb hmn hP hD hS hl
  have hl : lv_has ls 6 [(0, .ref (b 0)), (1, .int x), (2, .int y), (3, .int z)] := hl
  refine lv_aload_n B.hx B.hb dX3_approve_0 rfl (lv_at hl 0 rfl) ?_
  refine lv_iload_n B.hx B.hb dX3_approve_1 rfl (lv_at hl 1 rfl) ?_
  refine q_callV (As := [.int x]) (rest := []) B hP hD hS (c3_paperAt_no l hfl D cI cZ cP b I V P x hno) (cwV 1 B.hts gX3_approve_X3_paperAt rfl rfl rfl (by decide +kernel) ⟨(Nat.le_of_ble_eq_true rfl), (Nat.le_of_ble_eq_true rfl)⟩) 0 3 rfl rfl rfl rfl hl.1 rfl (Nat.le_of_ble_eq_true rfl) dX3_approve_2 ⟨(Nat.le_of_ble_eq_true rfl), (Nat.le_of_ble_eq_true rfl)⟩ (fun E ce q9 H locs hx hP hS hce hcv hcl => ?_) (fun v u H locs hp hP hD hS => ?_)
  · exact q_xout B htb hP hS hce hcv hcl hx (Nat.le_of_ble_eq_true rfl) (Nat.le_of_ble_eq_true rfl)
  · exact False.elim hp
set_option maxHeartbeats 4000000 in
set_option maxRecDepth 100000 in
theorem c3_confirm_no (l : Launch) (hfl : l.stackTraces = false) (D : va_G) (cI cZ cP : ClassId) (b : Nat → Nat) (I : Nat → Int32) (V : Nat → Nat → Int32) (P : Nat → Option Nat) (x y : Int32) (hno : nop P x) : q_C l yX3_confirm wsX3_confirm ({ frames := 7, cells := 1, slots := 6, locals := 104 }) D cI cZ cP [.ref (b 0), .int x, .int y] (kq cI cZ cP b I V P ++ cw cI b I V) (S := Unit) (fun _ _ => False) (fun _ => kq cI cZ cP b I V P ++ cw cI b I V) (fun E => E = q_IOB) 1 6 := by
  refine q_of (cc := cX3_confirm) (maxL := 5) (ret := (some .int)) (by decide +kernel) rfl (Nat.le_of_ble_eq_true rfl) ?_
  intro p e s m below meth c A ls B hr htb hmn hP hD hS hl
  have hl : lv_has ls 5 [(0, .ref (b 0)), (1, .int x), (2, .int y)] := hl
  refine lv_aload_n B.hx B.hb dX3_confirm_0 rfl (lv_at hl 0 rfl) ?_
  refine lv_iload_n B.hx B.hb dX3_confirm_1 rfl (lv_at hl 1 rfl) ?_
  refine q_callV (As := [.int x]) (rest := []) B hP hD hS (c3_paperAt_no l hfl D cI cZ cP b I V P x hno) (cwV 1 B.hts gX3_confirm_X3_paperAt rfl rfl rfl (by decide +kernel) ⟨(Nat.le_of_ble_eq_true rfl), (Nat.le_of_ble_eq_true rfl)⟩) 0 3 rfl rfl rfl rfl hl.1 rfl (Nat.le_of_ble_eq_true rfl) dX3_confirm_2 ⟨(Nat.le_of_ble_eq_true rfl), (Nat.le_of_ble_eq_true rfl)⟩ (fun E ce q9 H locs hx hP hS hce hcv hcl => ?_) (fun v u H locs hp hP hD hS => ?_)
  · exact q_xout B htb hP hS hce hcv hcl hx (Nat.le_of_ble_eq_true rfl) (Nat.le_of_ble_eq_true rfl)
  · exact False.elim hp
set_option maxHeartbeats 4000000 in
set_option maxRecDepth 100000 in
theorem c3_look_no (l : Launch) (hfl : l.stackTraces = false) (D : va_G) (cI cZ cP : ClassId) (b : Nat → Nat) (I : Nat → Int32) (V : Nat → Nat → Int32) (P : Nat → Option Nat) (x : Int32) (hno : nop P x) : q_C l yX3_look wsX3_look ({ frames := 7, cells := 1, slots := 6, locals := 104 }) D cI cZ cP [.ref (b 0), .int x] (kq cI cZ cP b I V P ++ cw cI b I V) (S := Unit) (fun _ _ => False) (fun _ => kq cI cZ cP b I V P ++ cw cI b I V) (fun E => E = q_IOB) 1 6 := by
  refine q_of (cc := cX3_look) (maxL := 4) (ret := (some .boolean)) (by decide +kernel) rfl (Nat.le_of_ble_eq_true rfl) ?_
  intro p e s m below meth c A ls B hr htb hmn hP hD hS hl
  have hl : lv_has ls 4 [(0, .ref (b 0)), (1, .int x)] := hl
  refine lv_aload_n B.hx B.hb dX3_look_0 rfl (lv_at hl 0 rfl) ?_
  refine lv_iload_n B.hx B.hb dX3_look_1 rfl (lv_at hl 1 rfl) ?_
  refine q_callV (As := [.int x]) (rest := []) B hP hD hS (c3_paperAt_no l hfl D cI cZ cP b I V P x hno) (cwV 1 B.hts gX3_look_X3_paperAt rfl rfl rfl (by decide +kernel) ⟨(Nat.le_of_ble_eq_true rfl), (Nat.le_of_ble_eq_true rfl)⟩) 0 3 rfl rfl rfl rfl hl.1 rfl (Nat.le_of_ble_eq_true rfl) dX3_look_2 ⟨(Nat.le_of_ble_eq_true rfl), (Nat.le_of_ble_eq_true rfl)⟩ (fun E ce q9 H locs hx hP hS hce hcv hcl => ?_) (fun v u H locs hp hP hD hS => ?_)
  · exact q_xout B htb hP hS hce hcv hcl hx (Nat.le_of_ble_eq_true rfl) (Nat.le_of_ble_eq_true rfl)
  · exact False.elim hp
set_option maxHeartbeats 4000000 in
set_option maxRecDepth 100000 in
theorem c3_isDue_no (l : Launch) (hfl : l.stackTraces = false) (D : va_G) (cI cZ cP : ClassId) (b : Nat → Nat) (I : Nat → Int32) (V : Nat → Nat → Int32) (P : Nat → Option Nat) (x : Int32) (hno : nop P x) : q_C l yX3_isDue wsX3_isDue ({ frames := 7, cells := 1, slots := 6, locals := 104 }) D cI cZ cP [.ref (b 0), .int x] (kq cI cZ cP b I V P ++ cw cI b I V) (S := Unit) (fun _ _ => False) (fun _ => kq cI cZ cP b I V P ++ cw cI b I V) (fun E => E = q_IOB) 1 6 := by
  refine q_of (cc := cX3_isDue) (maxL := 2) (ret := (some .boolean)) (by decide +kernel) rfl (Nat.le_of_ble_eq_true rfl) ?_
  intro p e s m below meth c A ls B hr htb hmn hP hD hS hl
  have hl : lv_has ls 2 [(0, .ref (b 0)), (1, .int x)] := hl
  refine lv_aload_n B.hx B.hb dX3_isDue_0 rfl (lv_at hl 0 rfl) ?_
  refine lv_iload_n B.hx B.hb dX3_isDue_1 rfl (lv_at hl 1 rfl) ?_
  refine q_callV (As := [.int x]) (rest := []) B hP hD hS (c3_paperAt_no l hfl D cI cZ cP b I V P x hno) (cwV 1 B.hts gX3_isDue_X3_paperAt rfl rfl rfl (by decide +kernel) ⟨(Nat.le_of_ble_eq_true rfl), (Nat.le_of_ble_eq_true rfl)⟩) 0 3 rfl rfl rfl rfl hl.1 rfl (Nat.le_of_ble_eq_true rfl) dX3_isDue_2 ⟨(Nat.le_of_ble_eq_true rfl), (Nat.le_of_ble_eq_true rfl)⟩ (fun E ce q9 H locs hx hP hS hce hcv hcl => ?_) (fun v u H locs hp hP hD hS => ?_)
  · exact q_xout B htb hP hS hce hcv hcl hx (Nat.le_of_ble_eq_true rfl) (Nat.le_of_ble_eq_true rfl)
  · exact False.elim hp
set_option maxHeartbeats 4000000 in
set_option maxRecDepth 100000 in
theorem c3_copy_no (l : Launch) (hfl : l.stackTraces = false) (D : va_G) (cI cZ cP : ClassId) (b : Nat → Nat) (I : Nat → Int32) (V : Nat → Nat → Int32) (P : Nat → Option Nat) (x y : Int32) (hno : nop P x) : q_C l yX3_copy wsX3_copy ({ frames := 7, cells := 1, slots := 6, locals := 104 }) D cI cZ cP [.ref (b 0), .int x, .int y] (kq cI cZ cP b I V P ++ cw cI b I V) (S := Unit) (fun _ _ => False) (fun _ => kq cI cZ cP b I V P ++ cw cI b I V) (fun E => E = q_IOB) 1 6 := by
  refine q_of (cc := cX3_copy) (maxL := 4) (ret := (some .int)) (by decide +kernel) rfl (Nat.le_of_ble_eq_true rfl) ?_
  intro p e s m below meth c A ls B hr htb hmn hP hD hS hl
  have hl : lv_has ls 4 [(0, .ref (b 0)), (1, .int x), (2, .int y)] := hl
  refine lv_aload_n B.hx B.hb dX3_copy_0 rfl (lv_at hl 0 rfl) ?_
  refine lv_iload_n B.hx B.hb dX3_copy_1 rfl (lv_at hl 1 rfl) ?_
  refine q_callV (As := [.int x]) (rest := []) B hP hD hS (c3_paperAt_no l hfl D cI cZ cP b I V P x hno) (cwV 1 B.hts gX3_copy_X3_paperAt rfl rfl rfl (by decide +kernel) ⟨(Nat.le_of_ble_eq_true rfl), (Nat.le_of_ble_eq_true rfl)⟩) 0 3 rfl rfl rfl rfl hl.1 rfl (Nat.le_of_ble_eq_true rfl) dX3_copy_2 ⟨(Nat.le_of_ble_eq_true rfl), (Nat.le_of_ble_eq_true rfl)⟩ (fun E ce q9 H locs hx hP hS hce hcv hcl => ?_) (fun v u H locs hp hP hD hS => ?_)
  · exact q_xout B htb hP hS hce hcv hcl hx (Nat.le_of_ble_eq_true rfl) (Nat.le_of_ble_eq_true rfl)
  · exact False.elim hp
set_option maxHeartbeats 4000000 in
set_option maxRecDepth 100000 in
theorem c3_outOfDate_no (l : Launch) (hfl : l.stackTraces = false) (D : va_G) (cI cZ cP : ClassId) (b : Nat → Nat) (I : Nat → Int32) (V : Nat → Nat → Int32) (P : Nat → Option Nat) (x : Int32) (hno : nop P x) : q_C l yX3_outOfDate wsX3_outOfDate ({ frames := 7, cells := 1, slots := 6, locals := 104 }) D cI cZ cP [.ref (b 0), .int x] (kq cI cZ cP b I V P ++ cw cI b I V) (S := Unit) (fun _ _ => False) (fun _ => kq cI cZ cP b I V P ++ cw cI b I V) (fun E => E = q_IOB) 1 6 := by
  refine q_of (cc := cX3_outOfDate) (maxL := 2) (ret := (some .int)) (by decide +kernel) rfl (Nat.le_of_ble_eq_true rfl) ?_
  intro p e s m below meth c A ls B hr htb hmn hP hD hS hl
  have hl : lv_has ls 2 [(0, .ref (b 0)), (1, .int x)] := hl
  have hi3 : ∀ w ∈ u_ws RX3 TX3 8, w ∈ wsX3_outOfDate := by decide +kernel
  refine lv_aload_n B.hx B.hb dX3_outOfDate_0 rfl (lv_at hl 0 rfl) ?_
  refine q_get B hP (C := RX3) (ref := "PaperKeeper") (T := TX3) (N := 8) (ci := 3) hi3 rfl 0 rfl 4 (by decide) (by decide +kernel) rfl (v := .ref (b 5)) rfl dX3_outOfDate_1 ?_
  refine lv_iload_n B.hx B.hb dX3_outOfDate_4 rfl (lv_at hl 1 rfl) ?_
  refine lv_aload_n B.hx B.hb dX3_outOfDate_5 rfl (lv_at hl 0 rfl) ?_
  refine lv_iload_n B.hx B.hb dX3_outOfDate_6 rfl (lv_at hl 1 rfl) ?_
  refine q_callV (As := [.int x]) (rest := [.int x, .ref (b 5)]) B hP hD hS (c3_paperAt_no l hfl D cI cZ cP b I V P x hno) (cwV 1 B.hts gX3_outOfDate_X3_paperAt rfl rfl rfl (by decide +kernel) ⟨(Nat.le_of_ble_eq_true rfl), (Nat.le_of_ble_eq_true rfl)⟩) 0 3 rfl rfl rfl rfl hl.1 rfl (Nat.le_of_ble_eq_true rfl) dX3_outOfDate_7 ⟨(Nat.le_of_ble_eq_true rfl), (Nat.le_of_ble_eq_true rfl)⟩ (fun E ce q9 H locs hx hP hS hce hcv hcl => ?_) (fun v u H locs hp hP hD hS => ?_)
  · exact q_xout B htb hP hS hce hcv hcl hx (Nat.le_of_ble_eq_true rfl) (Nat.le_of_ble_eq_true rfl)
  · exact False.elim hp
set_option maxHeartbeats 4000000 in
set_option maxRecDepth 100000 in
theorem c3_step_no (l : Launch) (hfl : l.stackTraces = false) (D : va_G) (cI cZ cP : ClassId) (b : Nat → Nat) (I : Nat → Int32) (V : Nat → Nat → Int32) (P : Nat → Option Nat) (x : Int32) (hno : nop P x) : q_C l yX3_step wsX3_step ({ frames := 7, cells := 1, slots := 6, locals := 104 }) D cI cZ cP [.ref (b 0), .int x] (kq cI cZ cP b I V P ++ cw cI b I V) (S := Unit) (fun _ _ => False) (fun _ => kq cI cZ cP b I V P ++ cw cI b I V) (fun E => E = q_IOB) 1 6 := by
  refine q_of (cc := cX3_step) (maxL := 3) (ret := (some .int)) (by decide +kernel) rfl (Nat.le_of_ble_eq_true rfl) ?_
  intro p e s m below meth c A ls B hr htb hmn hP hD hS hl
  have hl : lv_has ls 3 [(0, .ref (b 0)), (1, .int x)] := hl
  refine lv_aload_n B.hx B.hb dX3_step_0 rfl (lv_at hl 0 rfl) ?_
  refine lv_iload_n B.hx B.hb dX3_step_1 rfl (lv_at hl 1 rfl) ?_
  refine q_callV (As := [.int x]) (rest := []) B hP hD hS (c3_paperAt_no l hfl D cI cZ cP b I V P x hno) (cwV 1 B.hts gX3_step_X3_paperAt rfl rfl rfl (by decide +kernel) ⟨(Nat.le_of_ble_eq_true rfl), (Nat.le_of_ble_eq_true rfl)⟩) 0 3 rfl rfl rfl rfl hl.1 rfl (Nat.le_of_ble_eq_true rfl) dX3_step_2 ⟨(Nat.le_of_ble_eq_true rfl), (Nat.le_of_ble_eq_true rfl)⟩ (fun E ce q9 H locs hx hP hS hce hcv hcl => ?_) (fun v u H locs hp hP hD hS => ?_)
  · exact q_xout B htb hP hS hce hcv hcl hx (Nat.le_of_ble_eq_true rfl) (Nat.le_of_ble_eq_true rfl)
  · exact False.elim hp
set_option maxHeartbeats 4000000 in
set_option maxRecDepth 100000 in
theorem c3_waitsFor_no (l : Launch) (hfl : l.stackTraces = false) (D : va_G) (cI cZ cP : ClassId) (b : Nat → Nat) (I : Nat → Int32) (V : Nat → Nat → Int32) (P : Nat → Option Nat) (x : Int32) (hno : nop P x) : q_C l yX3_waitsFor wsX3_waitsFor ({ frames := 7, cells := 1, slots := 6, locals := 104 }) D cI cZ cP [.ref (b 0), .int x] (kq cI cZ cP b I V P ++ cw cI b I V) (S := Unit) (fun _ _ => False) (fun _ => kq cI cZ cP b I V P ++ cw cI b I V) (fun E => E = q_IOB) 1 6 := by
  refine q_of (cc := cX3_waitsFor) (maxL := 3) (ret := (some .int)) (by decide +kernel) rfl (Nat.le_of_ble_eq_true rfl) ?_
  intro p e s m below meth c A ls B hr htb hmn hP hD hS hl
  have hl : lv_has ls 3 [(0, .ref (b 0)), (1, .int x)] := hl
  refine lv_aload_n B.hx B.hb dX3_waitsFor_0 rfl (lv_at hl 0 rfl) ?_
  refine lv_iload_n B.hx B.hb dX3_waitsFor_1 rfl (lv_at hl 1 rfl) ?_
  refine q_callV (As := [.int x]) (rest := []) B hP hD hS (c3_paperAt_no l hfl D cI cZ cP b I V P x hno) (cwV 1 B.hts gX3_waitsFor_X3_paperAt rfl rfl rfl (by decide +kernel) ⟨(Nat.le_of_ble_eq_true rfl), (Nat.le_of_ble_eq_true rfl)⟩) 0 3 rfl rfl rfl rfl hl.1 rfl (Nat.le_of_ble_eq_true rfl) dX3_waitsFor_2 ⟨(Nat.le_of_ble_eq_true rfl), (Nat.le_of_ble_eq_true rfl)⟩ (fun E ce q9 H locs hx hP hS hce hcv hcl => ?_) (fun v u H locs hp hP hD hS => ?_)
  · exact q_xout B htb hP hS hce hcv hcl hx (Nat.le_of_ble_eq_true rfl) (Nat.le_of_ble_eq_true rfl)
  · exact False.elim hp
set_option maxHeartbeats 4000000 in
set_option maxRecDepth 100000 in
theorem c3_inForce_no (l : Launch) (hfl : l.stackTraces = false) (D : va_G) (cI cZ cP : ClassId) (b : Nat → Nat) (I : Nat → Int32) (V : Nat → Nat → Int32) (P : Nat → Option Nat) (x : Int32) (hno : nop P x) : q_C l yX3_inForce wsX3_inForce ({ frames := 7, cells := 1, slots := 6, locals := 104 }) D cI cZ cP [.ref (b 0), .int x] (kq cI cZ cP b I V P ++ cw cI b I V) (S := Unit) (fun _ _ => False) (fun _ => kq cI cZ cP b I V P ++ cw cI b I V) (fun E => E = q_IOB) 1 6 := by
  refine q_of (cc := cX3_inForce) (maxL := 2) (ret := (some .int)) (by decide +kernel) rfl (Nat.le_of_ble_eq_true rfl) ?_
  intro p e s m below meth c A ls B hr htb hmn hP hD hS hl
  have hl : lv_has ls 2 [(0, .ref (b 0)), (1, .int x)] := hl
  refine lv_aload_n B.hx B.hb dX3_inForce_0 rfl (lv_at hl 0 rfl) ?_
  refine lv_iload_n B.hx B.hb dX3_inForce_1 rfl (lv_at hl 1 rfl) ?_
  refine q_callV (As := [.int x]) (rest := []) B hP hD hS (c3_paperAt_no l hfl D cI cZ cP b I V P x hno) (cwV 1 B.hts gX3_inForce_X3_paperAt rfl rfl rfl (by decide +kernel) ⟨(Nat.le_of_ble_eq_true rfl), (Nat.le_of_ble_eq_true rfl)⟩) 0 3 rfl rfl rfl rfl hl.1 rfl (Nat.le_of_ble_eq_true rfl) dX3_inForce_2 ⟨(Nat.le_of_ble_eq_true rfl), (Nat.le_of_ble_eq_true rfl)⟩ (fun E ce q9 H locs hx hP hS hce hcv hcl => ?_) (fun v u H locs hp hP hD hS => ?_)
  · exact q_xout B htb hP hS hce hcv hcl hx (Nat.le_of_ble_eq_true rfl) (Nat.le_of_ble_eq_true rfl)
  · exact False.elim hp
set_option maxHeartbeats 4000000 in
set_option maxRecDepth 100000 in
theorem c3_text_no (l : Launch) (hfl : l.stackTraces = false) (D : va_G) (cI cZ cP : ClassId) (b : Nat → Nat) (I : Nat → Int32) (V : Nat → Nat → Int32) (P : Nat → Option Nat) (x : Int32) (hno : nop P x) : q_C l yX3_text wsX3_text ({ frames := 7, cells := 1, slots := 6, locals := 104 }) D cI cZ cP [.ref (b 0), .int x] (kq cI cZ cP b I V P ++ cw cI b I V) (S := Unit) (fun _ _ => False) (fun _ => kq cI cZ cP b I V P ++ cw cI b I V) (fun E => E = q_IOB) 1 6 := by
  refine q_of (cc := cX3_text) (maxL := 4) (ret := (some .int)) (by decide +kernel) rfl (Nat.le_of_ble_eq_true rfl) ?_
  intro p e s m below meth c A ls B hr htb hmn hP hD hS hl
  have hl : lv_has ls 4 [(0, .ref (b 0)), (1, .int x)] := hl
  refine lv_aload_n B.hx B.hb dX3_text_0 rfl (lv_at hl 0 rfl) ?_
  refine lv_iload_n B.hx B.hb dX3_text_1 rfl (lv_at hl 1 rfl) ?_
  refine q_callV (As := [.int x]) (rest := []) B hP hD hS (c3_paperAt_no l hfl D cI cZ cP b I V P x hno) (cwV 1 B.hts gX3_text_X3_paperAt rfl rfl rfl (by decide +kernel) ⟨(Nat.le_of_ble_eq_true rfl), (Nat.le_of_ble_eq_true rfl)⟩) 0 3 rfl rfl rfl rfl hl.1 rfl (Nat.le_of_ble_eq_true rfl) dX3_text_2 ⟨(Nat.le_of_ble_eq_true rfl), (Nat.le_of_ble_eq_true rfl)⟩ (fun E ce q9 H locs hx hP hS hce hcv hcl => ?_) (fun v u H locs hp hP hD hS => ?_)
  · exact q_xout B htb hP hS hce hcv hcl hx (Nat.le_of_ble_eq_true rfl) (Nat.le_of_ble_eq_true rfl)
  · exact False.elim hp
set_option maxHeartbeats 4000000 in
set_option maxRecDepth 100000 in
theorem c3_inForceOn_no (l : Launch) (hfl : l.stackTraces = false) (D : va_G) (cI cZ cP : ClassId) (b : Nat → Nat) (I : Nat → Int32) (V : Nat → Nat → Int32) (P : Nat → Option Nat) (x y : Int32) (hno : nop P x) : q_C l yX3_inForceOn wsX3_inForceOn ({ frames := 7, cells := 1, slots := 6, locals := 104 }) D cI cZ cP [.ref (b 0), .int x, .int y] (kq cI cZ cP b I V P ++ cw cI b I V) (S := Unit) (fun _ _ => False) (fun _ => kq cI cZ cP b I V P ++ cw cI b I V) (fun E => E = q_IOB) 1 6 := by
  refine q_of (cc := cX3_inForceOn) (maxL := 4) (ret := (some .int)) (by decide +kernel) rfl (Nat.le_of_ble_eq_true rfl) ?_
  intro p e s m below meth c A ls B hr htb hmn hP hD hS hl
  have hl : lv_has ls 4 [(0, .ref (b 0)), (1, .int x), (2, .int y)] := hl
  refine lv_aload_n B.hx B.hb dX3_inForceOn_0 rfl (lv_at hl 0 rfl) ?_
  refine lv_iload_n B.hx B.hb dX3_inForceOn_1 rfl (lv_at hl 1 rfl) ?_
  refine q_callV (As := [.int x]) (rest := []) B hP hD hS (c3_paperAt_no l hfl D cI cZ cP b I V P x hno) (cwV 1 B.hts gX3_inForceOn_X3_paperAt rfl rfl rfl (by decide +kernel) ⟨(Nat.le_of_ble_eq_true rfl), (Nat.le_of_ble_eq_true rfl)⟩) 0 3 rfl rfl rfl rfl hl.1 rfl (Nat.le_of_ble_eq_true rfl) dX3_inForceOn_2 ⟨(Nat.le_of_ble_eq_true rfl), (Nat.le_of_ble_eq_true rfl)⟩ (fun E ce q9 H locs hx hP hS hce hcv hcl => ?_) (fun v u H locs hp hP hD hS => ?_)
  · exact q_xout B htb hP hS hce hcv hcl hx (Nat.le_of_ble_eq_true rfl) (Nat.le_of_ble_eq_true rfl)
  · exact False.elim hp
set_option maxHeartbeats 4000000 in
set_option maxRecDepth 100000 in
theorem c3_since_no (l : Launch) (hfl : l.stackTraces = false) (D : va_G) (cI cZ cP : ClassId) (b : Nat → Nat) (I : Nat → Int32) (V : Nat → Nat → Int32) (P : Nat → Option Nat) (x y : Int32) (hno : nop P x) : q_C l yX3_since wsX3_since ({ frames := 7, cells := 1, slots := 6, locals := 104 }) D cI cZ cP [.ref (b 0), .int x, .int y] (kq cI cZ cP b I V P ++ cw cI b I V) (S := Unit) (fun _ _ => False) (fun _ => kq cI cZ cP b I V P ++ cw cI b I V) (fun E => E = q_IOB) 1 6 := by
  refine q_of (cc := cX3_since) (maxL := 4) (ret := (some .int)) (by decide +kernel) rfl (Nat.le_of_ble_eq_true rfl) ?_
  intro p e s m below meth c A ls B hr htb hmn hP hD hS hl
  have hl : lv_has ls 4 [(0, .ref (b 0)), (1, .int x), (2, .int y)] := hl
  refine lv_aload_n B.hx B.hb dX3_since_0 rfl (lv_at hl 0 rfl) ?_
  refine lv_iload_n B.hx B.hb dX3_since_1 rfl (lv_at hl 1 rfl) ?_
  refine q_callV (As := [.int x]) (rest := []) B hP hD hS (c3_paperAt_no l hfl D cI cZ cP b I V P x hno) (cwV 1 B.hts gX3_since_X3_paperAt rfl rfl rfl (by decide +kernel) ⟨(Nat.le_of_ble_eq_true rfl), (Nat.le_of_ble_eq_true rfl)⟩) 0 3 rfl rfl rfl rfl hl.1 rfl (Nat.le_of_ble_eq_true rfl) dX3_since_2 ⟨(Nat.le_of_ble_eq_true rfl), (Nat.le_of_ble_eq_true rfl)⟩ (fun E ce q9 H locs hx hP hS hce hcv hcl => ?_) (fun v u H locs hp hP hD hS => ?_)
  · exact q_xout B htb hP hS hce hcv hcl hx (Nat.le_of_ble_eq_true rfl) (Nat.le_of_ble_eq_true rfl)
  · exact False.elim hp
set_option maxHeartbeats 4000000 in
set_option maxRecDepth 100000 in
theorem c3_hang_no (l : Launch) (hfl : l.stackTraces = false) (D : va_G) (cI cZ cP : ClassId) (b : Nat → Nat) (I : Nat → Int32) (V : Nat → Nat → Int32) (P : Nat → Option Nat) (x y : Int32) (hno : nop P x) : q_C l yX3_hang wsX3_hang ({ frames := 7, cells := 1, slots := 6, locals := 104 }) D cI cZ cP [.ref (b 0), .int x, .int y] (kq cI cZ cP b I V P ++ cw cI b I V) (S := Unit) (fun _ _ => False) (fun _ => kq cI cZ cP b I V P ++ cw cI b I V) (fun E => E = q_IOB) 1 6 := by
  refine q_of (cc := cX3_hang) (maxL := 4) (ret := (some .int)) (by decide +kernel) rfl (Nat.le_of_ble_eq_true rfl) ?_
  intro p e s m below meth c A ls B hr htb hmn hP hD hS hl
  have hl : lv_has ls 4 [(0, .ref (b 0)), (1, .int x), (2, .int y)] := hl
  refine lv_aload_n B.hx B.hb dX3_hang_0 rfl (lv_at hl 0 rfl) ?_
  refine lv_iload_n B.hx B.hb dX3_hang_1 rfl (lv_at hl 1 rfl) ?_
  refine q_callV (As := [.int x]) (rest := []) B hP hD hS (c3_paperAt_no l hfl D cI cZ cP b I V P x hno) (cwV 1 B.hts gX3_hang_X3_paperAt rfl rfl rfl (by decide +kernel) ⟨(Nat.le_of_ble_eq_true rfl), (Nat.le_of_ble_eq_true rfl)⟩) 0 3 rfl rfl rfl rfl hl.1 rfl (Nat.le_of_ble_eq_true rfl) dX3_hang_2 ⟨(Nat.le_of_ble_eq_true rfl), (Nat.le_of_ble_eq_true rfl)⟩ (fun E ce q9 H locs hx hP hS hce hcv hcl => ?_) (fun v u H locs hp hP hD hS => ?_)
  · exact q_xout B htb hP hS hce hcv hcl hx (Nat.le_of_ble_eq_true rfl) (Nat.le_of_ble_eq_true rfl)
  · exact False.elim hp
set_option maxHeartbeats 4000000 in
set_option maxRecDepth 100000 in
theorem c3_hang_no2 (l : Launch) (hfl : l.stackTraces = false) (D : va_G) (cI cZ cP : ClassId) (b : Nat → Nat) (I : Nat → Int32) (V : Nat → Nat → Int32) (P : Nat → Option Nat) (j r : Nat) (hj : j < 8) (hpj : P j = some r) (y : Int32) (hno : nop P y) : q_C l yX3_hang wsX3_hang ({ frames := 7, cells := 1, slots := 6, locals := 104 }) D cI cZ cP [.ref (b 0), .int (nI j), .int y] (kq cI cZ cP b I V P ++ cw cI b I V) (S := Unit) (fun _ _ => False) (fun _ => kq cI cZ cP b I V P ++ cw cI b I V) (fun E => E = q_IOB) 1 6 := by
  refine q_of (cc := cX3_hang) (maxL := 4) (ret := (some .int)) (by decide +kernel) rfl (Nat.le_of_ble_eq_true rfl) ?_
  intro p e s m below meth c A ls B hr htb hmn hP hD hS hl
  have hl : lv_has ls 4 [(0, .ref (b 0)), (1, .int (nI j)), (2, .int y)] := hl
  refine lv_aload_n B.hx B.hb dX3_hang_0 rfl (lv_at hl 0 rfl) ?_
  refine lv_iload_n B.hx B.hb dX3_hang_1 rfl (lv_at hl 1 rfl) ?_
  refine q_callV (As := [.int (nI j)]) (rest := []) B hP hD hS (c3_paperAt l D cI cZ cP b I V P j r hj hpj) (cwV 1 B.hts gX3_hang_X3_paperAt rfl rfl rfl (by decide +kernel) ⟨(Nat.le_of_ble_eq_true rfl), (Nat.le_of_ble_eq_true rfl)⟩) 0 3 rfl rfl rfl rfl hl.1 rfl (Nat.le_of_ble_eq_true rfl) dX3_hang_2 ⟨(Nat.le_of_ble_eq_true rfl), (Nat.le_of_ble_eq_true rfl)⟩ (fun E ce q9 H locs hx => False.elim hx) (fun v u H locs hp hP hD hS => ?_)
  obtain rfl := hp
  have hP : va_P D vwCl (kq cI cZ cP b I V P ++ cw cI b I V) H := hP
  have hD : va_D A (kq cI cZ cP b I V P ++ cw cI b I V) := hD
  refine lv_astore_n (lv' := [(3, .ref (r)), (0, .ref (b 0)), (1, .int (nI j)), (2, .int y)]) B.hx B.hb dX3_hang_5 rfl hl (by decide) rfl (fun ls hl => ?_)
  refine lv_aload_n B.hx B.hb dX3_hang_6 rfl (lv_at hl 1 rfl) ?_
  refine lv_iload_n B.hx B.hb dX3_hang_7 rfl (lv_at hl 3 rfl) ?_
  refine q_callV (As := [.int y]) (rest := []) B hP hD hS (c3_paperAt_no l hfl D cI cZ cP b I V P y hno) (cwV 1 B.hts gX3_hang_X3_paperAt rfl rfl rfl (by decide +kernel) ⟨(Nat.le_of_ble_eq_true rfl), (Nat.le_of_ble_eq_true rfl)⟩) 0 3 rfl rfl rfl rfl hl.1 rfl (Nat.le_of_ble_eq_true rfl) dX3_hang_8 ⟨(Nat.le_of_ble_eq_true rfl), (Nat.le_of_ble_eq_true rfl)⟩ (fun E ce q9 H locs hx hP hS hce hcv hcl => ?_) (fun v u H locs hp hP hD hS => ?_)
  · exact q_xout B htb hP hS hce hcv hcl hx (Nat.le_of_ble_eq_true rfl) (Nat.le_of_ble_eq_true rfl)
  · exact False.elim hp
end
section
/-! ALL PAPERS: their cells side by side, one of them ahead, and what a day does to them. -/
def pws (cI cZ : ClassId) (n : Nat) (ad : Nat → Nat → Nat) (XX : Nat → Nat → Int32) (YY : Nat → Nat → Nat → Int32) : va_W := (List.range n).flatMap (fun i => dw cI cZ (ad i) (XX i) (YY i) ++ ppw cI cZ (ad i) (XX i) (YY i))
/-- all but the i-th -/
def pwx (cI cZ : ClassId) (n i : Nat) (ad : Nat → Nat → Nat) (XX : Nat → Nat → Int32) (YY : Nat → Nat → Nat → Int32) : va_W := ((List.range n).erase i).flatMap (fun i => dw cI cZ (ad i) (XX i) (YY i) ++ ppw cI cZ (ad i) (XX i) (YY i))
theorem pws_one {cI cZ : ClassId} {n i : Nat} {ad : Nat → Nat → Nat} {XX : Nat → Nat → Int32} {YY : Nat → Nat → Nat → Int32} (hi : i < n) : (pws cI cZ n ad XX YY).Perm ((dw cI cZ (ad i) (XX i) (YY i) ++ ppw cI cZ (ad i) (XX i) (YY i)) ++ pwx cI cZ n i ad XX YY) := by
  have h := List.Perm.flatMap_right (fun i => dw cI cZ (ad i) (XX i) (YY i) ++ ppw cI cZ (ad i) (XX i) (YY i)) (List.perm_cons_erase (a := i) (l := List.range n) (List.mem_range.mpr hi))
  rw [List.flatMap_cons] at h
  exact h
theorem pwx_congr {cI cZ : ClassId} {n i : Nat} {ad : Nat → Nat → Nat} {XX XX' : Nat → Nat → Int32} {YY YY' : Nat → Nat → Nat → Int32} (h : ∀ k, k ≠ i → XX k = XX' k ∧ YY k = YY' k) : pwx cI cZ n i ad XX YY = pwx cI cZ n i ad XX' YY' := by
  unfold pwx
  rw [List.flatMap_def, List.flatMap_def]
  refine congrArg List.flatten (List.map_congr_left fun k hk => ?_)
  have hne : k ≠ i := ((List.Nodup.mem_erase_iff List.nodup_range).mp hk).1
  rw [(h k hne).1, (h k hne).2]
/-- the keeper with all its papers -/
abbrev WK (cI cZ cP : ClassId) (n : Nat) (ad : Nat → Nat → Nat) (XX : Nat → Nat → Int32) (YY : Nat → Nat → Nat → Int32) (b : Nat → Nat) (I : Nat → Int32) (V : Nat → Nat → Int32) (P : Nat → Option Nat) : va_W := pws cI cZ n ad XX YY ++ (kq cI cZ cP b I V P ++ cw cI b I V)
/-- .. with the i-th ahead -/
theorem foc {cI cZ cP : ClassId} {n i : Nat} {ad : Nat → Nat → Nat} {XX : Nat → Nat → Int32} {YY : Nat → Nat → Nat → Int32} {b : Nat → Nat} {I : Nat → Int32} {V : Nat → Nat → Int32} {P : Nat → Option Nat} (hi : i < n) :
    (WK cI cZ cP n ad XX YY b I V P).Perm (dw cI cZ (ad i) (XX i) (YY i) ++ (ppw cI cZ (ad i) (XX i) (YY i) ++ (kq cI cZ cP b I V P ++ (cw cI b I V ++ pwx cI cZ n i ad XX YY)))) := by
  have h1 := (pws_one (cI := cI) (cZ := cZ) (ad := ad) (XX := XX) (YY := YY) hi).append_right (kq cI cZ cP b I V P ++ cw cI b I V)
  refine h1.trans ?_
  rw [List.append_assoc, List.append_assoc]
  refine List.Perm.append_left _ (List.Perm.append_left _ ?_)
  refine List.perm_append_comm.trans ?_
  rw [List.append_assoc]
/-- .. and back, the i-th another -/
theorem unf {cI cZ cP : ClassId} {n i : Nat} {ad : Nat → Nat → Nat} {XX : Nat → Nat → Int32} {YY : Nat → Nat → Nat → Int32} {b : Nat → Nat} {I : Nat → Int32} {V : Nat → Nat → Int32} {P : Nat → Option Nat} (hi : i < n) (X : Nat → Int32) (Y : Nat → Nat → Int32) :
    (dw cI cZ (ad i) X Y ++ (ppw cI cZ (ad i) X Y ++ (kq cI cZ cP b I V P ++ (cw cI b I V ++ pwx cI cZ n i ad XX YY)))).Perm (WK cI cZ cP n ad (va_up XX i X) (va_up YY i Y) b I V P) := by
  have h := foc (cI := cI) (cZ := cZ) (cP := cP) (ad := ad) (XX := va_up XX i X) (YY := va_up YY i Y) (b := b) (I := I) (V := V) (P := P) hi
  have e1 : va_up XX i X i = X := by simp [va_up]
  have e2 : va_up YY i Y i = Y := by simp [va_up]
  have e3 : pwx cI cZ n i ad (va_up XX i X) (va_up YY i Y) = pwx cI cZ n i ad XX YY := pwx_congr fun k hk => ⟨by simp [va_up, hk], by simp [va_up, hk]⟩
  rw [e1, e2, e3] at h
  exact h.symm
/-- the keeper's own cells ahead -/
theorem fok {cI cZ cP : ClassId} {n : Nat} {ad : Nat → Nat → Nat} {XX : Nat → Nat → Int32} {YY : Nat → Nat → Nat → Int32} {b : Nat → Nat} {I : Nat → Int32} {V : Nat → Nat → Int32} {P : Nat → Option Nat} :
    (WK cI cZ cP n ad XX YY b I V P).Perm (kq cI cZ cP b I V P ++ (cw cI b I V ++ pws cI cZ n ad XX YY)) := by
  refine List.perm_append_comm.trans ?_
  rw [List.append_assoc]
theorem up_same {α : Type} (f : Nat → α) (i : Nat) : va_up f i (f i) = f := by
  funext k
  by_cases h : k = i
  · subst h; simp [va_up]
  · simp [va_up, h]
/-- the papers that hang on r, of the first i, asked -/
def askX (YY : Nat → Nat → Nat → Int32) (r : Nat) (XX : Nat → Nat → Int32) (i : Nat) : Nat → Nat → Int32 := fun k => if k < i ∧ ¬ YY k 0 r = 0 ∧ ¬ XX k 1 = nI 0 then va_up (XX k) 3 (nI 1) else XX k
theorem askX_0 (YY : Nat → Nat → Nat → Int32) (r : Nat) (XX : Nat → Nat → Int32) : askX YY r XX 0 = XX := by
  funext k; simp [askX]
theorem askX_i (YY : Nat → Nat → Nat → Int32) (r : Nat) (XX : Nat → Nat → Int32) (i : Nat) : askX YY r XX i i = XX i := by simp [askX]
theorem askX_no {YY : Nat → Nat → Nat → Int32} {r : Nat} {XX : Nat → Nat → Int32} {i : Nat} (h : YY i 0 r = 0 ∨ XX i 1 = nI 0) : askX YY r XX i = askX YY r XX (i + 1) := by
  funext k
  by_cases hk : k = i
  · subst hk; simp only [askX]; rw [if_neg (by omega), if_neg (by rcases h with h | h <;> simp [h])]
  · simp only [askX]
    by_cases h2 : k < i
    · simp only [h2, show k < i + 1 by omega]
    · simp only [h2, show ¬ k < i + 1 by omega]
theorem askX_yes {YY : Nat → Nat → Nat → Int32} {r : Nat} {XX : Nat → Nat → Int32} {i : Nat} (h : ¬ YY i 0 r = 0) (h2 : ¬ XX i 1 = nI 0) : va_up (askX YY r XX i) i (va_up (XX i) 3 (nI 1)) = askX YY r XX (i + 1) := by
  funext k
  by_cases hk : k = i
  · subst hk
    rw [show va_up (askX YY r XX k) k (va_up (XX k) 3 (nI 1)) k = va_up (XX k) 3 (nI 1) by simp [va_up]]
    simp only [askX]; rw [if_pos ⟨by omega, h, h2⟩]
  · rw [show va_up (askX YY r XX i) i (va_up (XX i) 3 (nI 1)) k = askX YY r XX i k by simp [va_up, hk]]
    simp only [askX]
    by_cases h3 : k < i
    · simp only [h3, show k < i + 1 by omega]
    · simp only [h3, show ¬ k < i + 1 by omega]
theorem askX_ge {YY : Nat → Nat → Nat → Int32} {r : Nat} {XX : Nat → Nat → Int32} {i k : Nat} (h : ¬ k = 3) (j : Nat) : askX YY r XX i j k = XX j k := by
  simp only [askX]
  split
  · simp [va_up, h]
  · rfl
/-- the draft is to come into force on day t -/
def rdy (t : Int32) (X : Nat → Int32) (Y : Nat → Nat → Int32) : Prop := ¬ X 2 = 0 ∧ stp (ix (X 8)) (dNR Y (ix (X 8))) (dOR Y (ix (X 9))) (X 10) (dNC Y) = nI 5 ∧ ¬ t < X 11
def comX (t : Int32) (X : Nat → Int32) : Nat → Int32 := va_up (va_up (va_up (va_up X 1 (nI (ix (X 1) + 1))) 2 (nI 0)) 3 (nI 0)) 4 t
def comY (t : Int32) (X : Nat → Int32) (Y : Nat → Nat → Int32) : Nat → Nat → Int32 := va_up (va_up Y 6 (upd (Y 6) (ix (X 1)) (X 6))) 7 (upd (Y 7) (ix (X 1)) t)
/-- a paper's numbers are what they should be -/
def wfp (X : Nat → Int32) (Y : Nat → Nat → Int32) : Prop := wd X Y (ix (X 8)) (ix (X 9)) ∧ X 1 = nI (ix (X 1)) ∧ ix (X 1) ≤ 128 ∧ (¬ X 2 = 0 → ix (X 1) < 128)
/-- the state: how many came, and the papers -/
abbrev PS : Type := Nat × (Nat → Nat → Int32) × (Nat → Nat → Nat → Int32)
def comS (t : Int32) (i : Nat) (s : PS) : PS := (s.1 + 1, askX (va_up s.2.2 i (comY t (s.2.1 i) (s.2.2 i))) i (va_up s.2.1 i (comX t (s.2.1 i))) 8, va_up s.2.2 i (comY t (s.2.1 i) (s.2.2 i)))
noncomputable def bdS (t : Int32) (n : Nat) (s : PS) : Nat → PS
  | 0 => s
  | i + 1 => @ite _ (i < n ∧ rdy t ((bdS t n s i).2.1 i) ((bdS t n s i).2.2 i)) (Classical.propDecidable _) (comS t i (bdS t n s i)) (bdS t n s i)
theorem bdS_yes {t : Int32} {n i : Nat} {s : PS} (h : i < n) (h2 : rdy t ((bdS t n s i).2.1 i) ((bdS t n s i).2.2 i)) : bdS t n s (i + 1) = comS t i (bdS t n s i) := by
  rw [bdS]; exact @if_pos _ (Classical.propDecidable _) ⟨h, h2⟩ _ _ _
theorem bdS_no {t : Int32} {n i : Nat} {s : PS} (h : ¬ (i < n ∧ rdy t ((bdS t n s i).2.1 i) ((bdS t n s i).2.2 i))) : bdS t n s (i + 1) = bdS t n s i := by
  rw [bdS]; exact @if_neg _ (Classical.propDecidable _) h _ _ _
/-- the days one by one: td the day before -/
noncomputable def psS (td n : Nat) (s : PS) : Nat → PS
  | 0 => s
  | k + 1 => ((psS td n s k).1 + (bdS (nI (td + (k + 1))) n (0, (psS td n s k).2) 8).1, (bdS (nI (td + (k + 1))) n (0, (psS td n s k).2) 8).2)
theorem wfp_ask {YY : Nat → Nat → Nat → Int32} {r i k : Nat} {XX : Nat → Nat → Int32} {Y : Nat → Nat → Int32} (h : wfp (XX k) Y) : wfp (askX YY r XX i k) Y := by
  have e : ∀ q, ¬ q = 3 → askX YY r XX i k q = XX k q := fun q hq => askX_ge hq k
  unfold wfp wd at h ⊢
  rw [e 8 (by decide), e 9 (by decide), e 1 (by decide), e 2 (by decide)]
  exact h
theorem wfp_com {t : Int32} {X : Nat → Int32} {Y : Nat → Nat → Int32} (h : wfp X Y) (h2 : ¬ X 2 = 0) : wfp (comX t X) (comY t X Y) := by
  obtain ⟨h3, h4, h5, h6⟩ := h
  have hw := h6 h2
  have e : ix (nI (ix (X 1) + 1)) = ix (X 1) + 1 := ix_nI (by omega)
  refine ⟨?_, ?_, ?_, ?_⟩
  · exact h3
  · show nI (ix (X 1) + 1) = nI (ix (nI (ix (X 1) + 1)))
    rw [e]
  · show ix (nI (ix (X 1) + 1)) ≤ 128
    rw [e]; omega
  · intro h9; exact absurd rfl h9
theorem wfp_comS {t : Int32} {i k : Nat} {s : PS} (h : wfp (s.2.1 k) (s.2.2 k)) (h2 : k = i → ¬ s.2.1 i 2 = 0) : wfp ((comS t i s).2.1 k) ((comS t i s).2.2 k) := by
  refine wfp_ask ?_
  show wfp (va_up s.2.1 i (comX t (s.2.1 i)) k) (va_up s.2.2 i (comY t (s.2.1 i) (s.2.2 i)) k)
  by_cases hk : k = i
  · subst hk
    rw [show va_up s.2.1 k (comX t (s.2.1 k)) k = comX t (s.2.1 k) by simp [va_up], show va_up s.2.2 k (comY t (s.2.1 k) (s.2.2 k)) k = comY t (s.2.1 k) (s.2.2 k) by simp [va_up]]
    exact wfp_com h (h2 rfl)
  · rw [show va_up s.2.1 i (comX t (s.2.1 i)) k = s.2.1 k by simp [va_up, hk], show va_up s.2.2 i (comY t (s.2.1 i) (s.2.2 i)) k = s.2.2 k by simp [va_up, hk]]
    exact h
theorem wfp_bdS {t : Int32} {n i k : Nat} {s : PS} (h : wfp (s.2.1 k) (s.2.2 k)) : wfp ((bdS t n s i).2.1 k) ((bdS t n s i).2.2 k) := by
  induction i with
  | zero => exact h
  | succ i ih =>
    by_cases h2 : i < n ∧ rdy t ((bdS t n s i).2.1 i) ((bdS t n s i).2.2 i)
    · rw [bdS_yes h2.1 h2.2]
      refine wfp_comS ih (fun hk => h2.2.1)
    · rw [bdS_no h2]; exact ih
theorem wfp_psS {td n k j : Nat} {s : PS} (h : wfp (s.2.1 j) (s.2.2 j)) : wfp ((psS td n s k).2.1 j) ((psS td n s k).2.2 j) := by
  induction k with
  | zero => exact h
  | succ k ih => exact wfp_bdS (s := (0, (psS td n s k).2)) ih
theorem pws_congr {cI cZ : ClassId} {n : Nat} {ad : Nat → Nat → Nat} {XX XX' : Nat → Nat → Int32} {YY YY' : Nat → Nat → Nat → Int32} (h : ∀ k, k < n → XX k = XX' k ∧ YY k = YY' k) : pws cI cZ n ad XX YY = pws cI cZ n ad XX' YY' := by
  unfold pws
  rw [List.flatMap_def, List.flatMap_def]
  refine congrArg List.flatten (List.map_congr_left fun k hk => ?_)
  rw [(h k (List.mem_range.mp hk)).1, (h k (List.mem_range.mp hk)).2]
theorem askX_ne {YY : Nat → Nat → Nat → Int32} {r : Nat} {XX : Nat → Nat → Int32} {i k : Nat} (h : k ≠ i) : askX YY r XX i k = askX YY r XX (i + 1) k := by
  simp only [askX]
  by_cases h3 : k < i
  · simp only [h3, show k < i + 1 by omega]
  · simp only [h3, show ¬ k < i + 1 by omega]
theorem pws_ask {cI cZ : ClassId} {n i r : Nat} {ad : Nat → Nat → Nat} {XX : Nat → Nat → Int32} {YY : Nat → Nat → Nat → Int32} (h : ¬ i < n) : pws cI cZ n ad (askX YY r XX i) YY = pws cI cZ n ad (askX YY r XX (i + 1)) YY :=
  pws_congr fun k hk => ⟨askX_ne (by omega), rfl⟩
theorem wfp_up {t : Int32} {i k : Nat} {s : PS} (h : wfp (s.2.1 k) (s.2.2 k)) (h2 : k = i → ¬ s.2.1 i 2 = 0) : wfp (va_up s.2.1 i (comX t (s.2.1 i)) k) (va_up s.2.2 i (comY t (s.2.1 i) (s.2.2 i)) k) := by
  by_cases hk : k = i
  · subst hk
    rw [show va_up s.2.1 k (comX t (s.2.1 k)) k = comX t (s.2.1 k) by simp [va_up], show va_up s.2.2 k (comY t (s.2.1 k) (s.2.2 k)) k = comY t (s.2.1 k) (s.2.2 k) by simp [va_up]]
    exact wfp_com h (h2 rfl)
  · rw [show va_up s.2.1 i (comX t (s.2.1 i)) k = s.2.1 k by simp [va_up, hk], show va_up s.2.2 i (comY t (s.2.1 i) (s.2.2 i)) k = s.2.2 k by simp [va_up, hk]]
    exact h
theorem wfp_w {X : Nat → Int32} {Y : Nat → Nat → Int32} (h : wfp X Y) : ∃ w, w < 2 ^ 30 ∧ X 1 = nI w := ⟨ix (X 1), by have := h.2.2.1; omega, h.2.1⟩
end
section
/-! The keeper: days. -/
set_option maxHeartbeats 4000000 in
set_option maxRecDepth 100000 in
theorem c3_askForLooks (l : Launch) (D : va_G) (cI cZ cP : ClassId) (b : Nat → Nat) (I : Nat → Int32) (V : Nat → Nat → Int32) (P : Nat → Option Nat) (n : Nat) (hn8 : n ≤ 8) (ad : Nat → Nat → Nat) (XX : Nat → Nat → Int32) (YY : Nat → Nat → Nat → Int32) (hPP : ∀ k, k < 8 → P k = if k < n then some (ad k 0) else none) (hw : ∀ k, k < n → ∃ w, w < 2 ^ 30 ∧ XX k 1 = nI w) (r : Nat) (hr : r < 8) : q_C l yX3_askForLooks wsX3_askForLooks ({ frames := 1, cells := 0, slots := 0, locals := 20 }) D cI cZ cP [.ref (b 0), .int (nI r)] (WK cI cZ cP n ad XX YY b I V P) (S := Unit) (fun v _ => v = none) (fun _ => WK cI cZ cP n ad (askX YY r XX 8) YY b I V P) (fun _ => False) 0 0 := by
  refine q_of (cc := cX3_askForLooks) (maxL := 4) (ret := none) (by decide +kernel) rfl (Nat.le_of_ble_eq_true rfl) ?_
  intro p e s m below meth c A ls B hr htb hmn hP hD hS hl
  have hl : lv_has ls 4 [(0, .ref (b 0)), (1, .int (nI r))] := hl
  have hi2 : ∀ w ∈ u_ws RX2 TX2 9, w ∈ wsX3_askForLooks := by decide +kernel
  have hi3 : ∀ w ∈ u_ws RX3 TX3 8, w ∈ wsX3_askForLooks := by decide +kernel
  refine lv_iconst (v := (nI 0)) B.hx B.hb dX3_askForLooks_0 (by decide) ?_
  refine lv_istore_n (lv' := [(2, .int (nI 0)), (0, .ref (b 0)), (1, .int (nI r))]) B.hx B.hb dX3_askForLooks_1 rfl hl (by decide) rfl (fun ls hl => ?_)
  refine q_loopW (nL := 4) (fun i : Nat => i ≤ 8) (fun i : Nat => 8 - i) (fun i : Nat => [(2, .int (nI i)), (0, .ref (b 0)), (1, .int (nI r))]) (fun i : Nat => WK cI cZ cP n ad (askX YY r XX i) YY b I V P) 0 (Nat.zero_le _) (lv_sub hl [0, 1, 2] rfl) (show va_P D vwCl (WK cI cZ cP n ad (askX YY r XX 0) YY b I V P) _ by rw [askX_0]; exact hP) (show va_D A (WK cI cZ cP n ad (askX YY r XX 0) YY b I V P) by rw [askX_0]; exact hD) hS ?_
  intro i hi ih ls H locs hl hP hD hS
  have hi : i ≤ 8 := hi
  have hl : lv_has ls 4 [(2, .int (nI i)), (0, .ref (b 0)), (1, .int (nI r))] := hl
  have hP : va_P D vwCl (WK cI cZ cP n ad (askX YY r XX i) YY b I V P) H := hP
  have hD : va_D A (WK cI cZ cP n ad (askX YY r XX i) YY b I V P) := hD
  refine lv_iload_n B.hx B.hb dX3_askForLooks_2 rfl (lv_at hl 0 rfl) ?_
  refine lv_bipush (v := (nI 8)) B.hx B.hb dX3_askForLooks_3 (by decide) ?_
  refine lv_icmp_ge (tgt := 47) B.hx B.hb dX3_askForLooks_5 (by decide) (fun c1 => ?_) (fun c1 => ?_)
  · replace c1 := (nI_leI (by omega) (by omega)).mp c1
    obtain rfl : i = 8 := by omega
    exact q_vret B hr hP hD hS (u := ()) rfl rfl (Nat.le_of_ble_eq_true rfl) (Nat.le_of_ble_eq_true rfl) dX3_askForLooks_47
  · replace c1 := mt (nI_leI (by omega) (by omega)).mpr c1
    by_cases hin : i < n
    · have hP := q_Pperm (foc hin) hP
      have hD := q_Dperm (foc hin) hD
      obtain ⟨a, ha⟩ : ∃ a, a = ad i := ⟨_, rfl⟩
      obtain ⟨X, hX⟩ : ∃ X, X = (askX YY r XX i i) := ⟨_, rfl⟩
      obtain ⟨Y, hY⟩ : ∃ Y, Y = (YY i) := ⟨_, rfl⟩
      rw [← ha, ← hX, ← hY] at hP
      rw [← ha, ← hX, ← hY] at hD
      rw [askX_i] at hX
      obtain ⟨w, hwb, hw1⟩ := hw i hin
      rw [← hX] at hw1
      have hP : va_P D vwCl (dw cI cZ a X Y ++ (ppw cI cZ a X Y ++ (kq cI cZ cP b I V P ++ (cw cI b I V ++ pwx cI cZ n i ad (askX YY r XX i) YY)))) H := hP
      have hD : va_D A (dw cI cZ a X Y ++ (ppw cI cZ a X Y ++ (kq cI cZ cP b I V P ++ (cw cI b I V ++ pwx cI cZ n i ad (askX YY r XX i) YY)))) := hD
      refine lv_aload_n B.hx B.hb dX3_askForLooks_8 rfl (lv_at hl 1 rfl) ?_
      refine q_get B hP (C := RX3) (ref := "PaperKeeper") (T := TX3) (N := 8) (ci := 3) hi3 rfl 10 rfl 3 (by decide) (by decide +kernel) rfl (v := .ref (b 4)) rfl dX3_askForLooks_9 ?_
      refine lv_iload_n B.hx B.hb dX3_askForLooks_12 rfl (lv_at hl 0 rfl) ?_
      refine q_aald B hP 14 rfl (j := i) rfl (by omega) (by decide) dX3_askForLooks_13 ?_
      refine q_top (v2 := .ref (a 0)) (by rw [hPP i (by omega), if_pos hin, ha]; rfl) ?_
      refine lv_astore_n (lv' := [(3, .ref (a 0)), (2, .int (nI i)), (0, .ref (b 0)), (1, .int (nI r))]) B.hx B.hb dX3_askForLooks_14 rfl hl (by decide) rfl (fun ls hl => ?_)
      refine lv_aload_n B.hx B.hb dX3_askForLooks_15 rfl (lv_at hl 0 rfl) ?_
      refine lv_ifnull B.hx B.hb dX3_askForLooks_16 ?_
      refine lv_aload_n B.hx B.hb dX3_askForLooks_19 rfl (lv_at hl 0 rfl) ?_
      refine q_get B hP (C := RX2) (ref := "PaperKeeper$Paper") (T := TX2) (N := 9) (ci := 2) hi2 rfl 6 rfl 1 (by decide) (by decide +kernel) rfl (v := .ref (a 1)) rfl dX3_askForLooks_20 ?_
      refine lv_iload_n B.hx B.hb dX3_askForLooks_23 rfl (lv_at hl 3 rfl) ?_
      refine q_zald B hP 7 rfl (j := r) rfl (by omega) (by decide) dX3_askForLooks_24 ?_
      refine lv_if_eq (tgt := 41) B.hx B.hb dX3_askForLooks_25 (by decide) (fun c2 => ?_) (fun c2 => ?_)
      · refine lv_iinc (v := (nI ((i + 1)))) (lv' := [(2, .int (nI ((i + 1)))), (3, .ref (a 0)), (0, .ref (b 0)), (1, .int (nI r))]) B.hx B.hb dX3_askForLooks_41 hl (k := 1) rfl (nI_1 _) (by decide) rfl (fun ls hl => ?_)
        refine lv_goto (tgt := 2) B.hx B.hb dX3_askForLooks_44 (by decide) ?_
        subst ha hX hY
        rw [← askX_i YY r XX i] at hP
        rw [← askX_i YY r XX i] at hD
        have hP := q_Pperm (foc hin).symm hP
        have hD := q_Dperm (foc hin).symm hD
        rw [askX_no (Or.inl c2)] at hP
        rw [askX_no (Or.inl c2)] at hD
        exact ih (i + 1) (by omega) (by omega) ls H locs (lv_sub hl [0, 2, 3] rfl) hP hD hS
      · refine lv_aload_n B.hx B.hb dX3_askForLooks_28 rfl (lv_at hl 0 rfl) ?_
        refine q_callV (As := []) (rest := []) B hP hD hS ((c2_newest l D cI cZ cP a X Y w hw1).fr2 (kq cI cZ cP b I V P ++ (cw cI b I V ++ pwx cI cZ n i ad (askX YY r XX i) YY))) (cwV 0 B.hts gX3_askForLooks_X2_newest rfl rfl rfl (by decide +kernel) ⟨(Nat.le_of_ble_eq_true rfl), (Nat.le_of_ble_eq_true rfl)⟩) 6 2 rfl rfl rfl rfl hl.1 rfl (Nat.le_of_ble_eq_true rfl) dX3_askForLooks_29 ⟨(Nat.le_of_ble_eq_true rfl), (Nat.le_of_ble_eq_true rfl)⟩ (fun E ce q9 H locs hx => False.elim hx) (fun v u H locs hp hP hD hS => ?_)
        obtain rfl := hp
        have hP : va_P D vwCl (dw cI cZ a X Y ++ (ppw cI cZ a X Y ++ (kq cI cZ cP b I V P ++ (cw cI b I V ++ pwx cI cZ n i ad (askX YY r XX i) YY)))) H := hP
        have hD : va_D A (dw cI cZ a X Y ++ (ppw cI cZ a X Y ++ (kq cI cZ cP b I V P ++ (cw cI b I V ++ pwx cI cZ n i ad (askX YY r XX i) YY)))) := hD
        refine lv_iconst (v := (-1)) B.hx B.hb dX3_askForLooks_32 (by decide) ?_
        refine lv_icmp_eq (tgt := 41) B.hx B.hb dX3_askForLooks_33 (by decide) (fun c3 => ?_) (fun c3 => ?_)
        · refine lv_iinc (v := (nI ((i + 1)))) (lv' := [(2, .int (nI ((i + 1)))), (3, .ref (a 0)), (0, .ref (b 0)), (1, .int (nI r))]) B.hx B.hb dX3_askForLooks_41 hl (k := 1) rfl (nI_1 _) (by decide) rfl (fun ls hl => ?_)
          refine lv_goto (tgt := 2) B.hx B.hb dX3_askForLooks_44 (by decide) ?_
          subst ha hX hY
          rw [← askX_i YY r XX i] at hP
          rw [← askX_i YY r XX i] at hD
          have hP := q_Pperm (foc hin).symm hP
          have hD := q_Dperm (foc hin).symm hD
          rw [askX_no (Or.inr (by rw [hw1, (vn_m1 (by omega)).mp c3]))] at hP
          rw [askX_no (Or.inr (by rw [hw1, (vn_m1 (by omega)).mp c3]))] at hD
          exact ih (i + 1) (by omega) (by omega) ls H locs (lv_sub hl [0, 2, 3] rfl) hP hD hS
        · refine lv_aload_n B.hx B.hb dX3_askForLooks_36 rfl (lv_at hl 0 rfl) ?_
          refine lv_iconst (v := (nI 1)) B.hx B.hb dX3_askForLooks_37 (by decide) ?_
          refine q_put B hP hD hS (C := RX2) (ref := "PaperKeeper$Paper") (T := TX2) (N := 9) (ci := 2) hi2 rfl tyX2 tyX2_ok nmX2 6 rfl 7 (by decide) (by decide +kernel) rfl rfl (by decide) (by decide) (Nat.le_of_ble_eq_true rfl) dX3_askForLooks_38 (w' := dw cI cZ a (va_up X 3 (nI 1)) Y ++ (ppw cI cZ a (va_up X 3 (nI 1)) Y ++ (kq cI cZ cP b I V P ++ (cw cI b I V ++ pwx cI cZ n i ad (askX YY r XX i) YY)))) rfl (fun H locs hP hD hS => ?_)
          refine lv_iinc (v := (nI ((i + 1)))) (lv' := [(2, .int (nI ((i + 1)))), (3, .ref (a 0)), (0, .ref (b 0)), (1, .int (nI r))]) B.hx B.hb dX3_askForLooks_41 hl (k := 1) rfl (nI_1 _) (by decide) rfl (fun ls hl => ?_)
          refine lv_goto (tgt := 2) B.hx B.hb dX3_askForLooks_44 (by decide) ?_
          subst ha hX hY
          have hP := q_Pperm (unf hin _ _) hP
          have hD := q_Dperm (unf hin _ _) hD
          have hne : ¬ XX i 1 = nI 0 := by rw [hw1]; intro h9; exact c3 ((vn_m1 (by omega)).mpr ((nI_eq (by omega) (by omega)).mp h9))
          rw [up_same, askX_yes c2 hne] at hP
          rw [up_same, askX_yes c2 hne] at hD
          exact ih (i + 1) (by omega) (by omega) ls H locs (lv_sub hl [0, 2, 3] rfl) hP hD hS
    · have hP := q_Pperm fok hP
      have hD := q_Dperm fok hD
      have hP : va_P D vwCl (kq cI cZ cP b I V P ++ (cw cI b I V ++ pws cI cZ n ad (askX YY r XX i) YY)) H := hP
      have hD : va_D A (kq cI cZ cP b I V P ++ (cw cI b I V ++ pws cI cZ n ad (askX YY r XX i) YY)) := hD
      refine lv_aload_n B.hx B.hb dX3_askForLooks_8 rfl (lv_at hl 1 rfl) ?_
      refine q_get B hP (C := RX3) (ref := "PaperKeeper") (T := TX3) (N := 8) (ci := 3) hi3 rfl 0 rfl 3 (by decide) (by decide +kernel) rfl (v := .ref (b 4)) rfl dX3_askForLooks_9 ?_
      refine lv_iload_n B.hx B.hb dX3_askForLooks_12 rfl (lv_at hl 0 rfl) ?_
      refine q_aald B hP 4 rfl (j := i) rfl (by omega) (by decide) dX3_askForLooks_13 ?_
      refine q_top (v2 := .null) (by rw [hPP i (by omega), if_neg hin]; rfl) ?_
      refine lv_astore_nN (lv' := [(3, .null), (2, .int (nI i)), (0, .ref (b 0)), (1, .int (nI r))]) B.hx B.hb dX3_askForLooks_14 rfl hl (by decide) rfl (fun ls hl => ?_)
      refine lv_aload_nN B.hx B.hb dX3_askForLooks_15 rfl (lv_at hl 0 rfl) ?_
      refine lv_ifnullN (tgt := 41) B.hx B.hb dX3_askForLooks_16 (by decide) ?_
      refine lv_iinc (v := (nI ((i + 1)))) (lv' := [(2, .int (nI ((i + 1)))), (3, .null), (0, .ref (b 0)), (1, .int (nI r))]) B.hx B.hb dX3_askForLooks_41 hl (k := 1) rfl (nI_1 _) (by decide) rfl (fun ls hl => ?_)
      refine lv_goto (tgt := 2) B.hx B.hb dX3_askForLooks_44 (by decide) ?_
      have hP := q_Pperm fok.symm hP
      have hD := q_Dperm fok.symm hD
      exact ih (i + 1) (by omega) (by omega) ls H locs (lv_sub hl [0, 2, 3] rfl) (show va_P D vwCl (WK cI cZ cP n ad (askX YY r XX (i + 1)) YY b I V P) H by unfold WK; rw [← pws_ask hin]; exact hP) (show va_D A (WK cI cZ cP n ad (askX YY r XX (i + 1)) YY b I V P) by unfold WK; rw [← pws_ask hin]; exact hD) hS
set_option maxHeartbeats 4000000 in
set_option maxRecDepth 100000 in
theorem c3_beginDay (l : Launch) (D : va_G) (cI cZ cP : ClassId) (b : Nat → Nat) (I : Nat → Int32) (V : Nat → Nat → Int32) (P : Nat → Option Nat) (n : Nat) (hn8 : n ≤ 8) (ad : Nat → Nat → Nat) (XX : Nat → Nat → Int32) (YY : Nat → Nat → Nat → Int32) (hPP : ∀ k, k < 8 → P k = if k < n then some (ad k 0) else none) (hwf : ∀ k, k < n → wfp (XX k) (YY k)) : q_C l yX3_beginDay wsX3_beginDay ({ frames := 4, cells := 0, slots := 0, locals := 84 }) D cI cZ cP [.ref (b 0)] (WK cI cZ cP n ad XX YY b I V P) (S := Unit) (fun v _ => v = some (.int (nI (bdS (I 7) n (0, XX, YY) 8).1))) (fun _ => WK cI cZ cP n ad (bdS (I 7) n (0, XX, YY) 8).2.1 (bdS (I 7) n (0, XX, YY) 8).2.2 b I V P) (fun _ => False) 0 0 := by
  refine q_of (cc := cX3_beginDay) (maxL := 4) (ret := (some .int)) (by decide +kernel) rfl (Nat.le_of_ble_eq_true rfl) ?_
  intro p e s m below meth c A ls B hr htb hmn hP hD hS hl
  have hl : lv_has ls 4 [(0, .ref (b 0))] := hl
  have hi3 : ∀ w ∈ u_ws RX3 TX3 8, w ∈ wsX3_beginDay := by decide +kernel
  refine lv_iconst (v := (nI 0)) B.hx B.hb dX3_beginDay_0 (by decide) ?_
  refine lv_istore_n (lv' := [(1, .int (nI 0)), (0, .ref (b 0))]) B.hx B.hb dX3_beginDay_1 rfl hl (by decide) rfl (fun ls hl => ?_)
  refine lv_iconst (v := (nI 0)) B.hx B.hb dX3_beginDay_2 (by decide) ?_
  refine lv_istore_n (lv' := [(2, .int (nI 0)), (1, .int (nI 0)), (0, .ref (b 0))]) B.hx B.hb dX3_beginDay_3 rfl hl (by decide) rfl (fun ls hl => ?_)
  refine q_loopW (nL := 4) (fun i : Nat => i ≤ 8) (fun i : Nat => 8 - i) (fun i : Nat => [(2, .int (nI i)), (1, .int (nI ((bdS (I 7) n (0, XX, YY) i).1))), (0, .ref (b 0))]) (fun i : Nat => WK cI cZ cP n ad (bdS (I 7) n (0, XX, YY) i).2.1 (bdS (I 7) n (0, XX, YY) i).2.2 b I V P) 0 (Nat.zero_le _) (lv_sub hl [0, 1, 2] rfl) hP hD hS ?_
  intro i hi ih ls H locs hl hP hD hS
  have hi : i ≤ 8 := hi
  have hl : lv_has ls 4 [(2, .int (nI i)), (1, .int (nI ((bdS (I 7) n (0, XX, YY) i).1))), (0, .ref (b 0))] := hl
  have hP : va_P D vwCl (WK cI cZ cP n ad (bdS (I 7) n (0, XX, YY) i).2.1 (bdS (I 7) n (0, XX, YY) i).2.2 b I V P) H := hP
  have hD : va_D A (WK cI cZ cP n ad (bdS (I 7) n (0, XX, YY) i).2.1 (bdS (I 7) n (0, XX, YY) i).2.2 b I V P) := hD
  refine lv_iload_n B.hx B.hb dX3_beginDay_4 rfl (lv_at hl 0 rfl) ?_
  refine lv_bipush (v := (nI 8)) B.hx B.hb dX3_beginDay_5 (by decide) ?_
  refine lv_icmp_ge (tgt := 46) B.hx B.hb dX3_beginDay_7 (by decide) (fun c1 => ?_) (fun c1 => ?_)
  · replace c1 := (nI_leI (by omega) (by omega)).mp c1
    obtain rfl : i = 8 := by omega
    refine lv_iload_n B.hx B.hb dX3_beginDay_46 rfl (lv_at hl 1 rfl) ?_
    exact q_iret B hr hP hD hS (u := ()) rfl rfl (Nat.le_of_ble_eq_true rfl) (Nat.le_of_ble_eq_true rfl) dX3_beginDay_47
  · replace c1 := mt (nI_leI (by omega) (by omega)).mpr c1
    by_cases hin : i < n
    · have hP := q_Pperm (foc hin) hP
      have hD := q_Dperm (foc hin) hD
      obtain ⟨a, ha⟩ : ∃ a, a = ad i := ⟨_, rfl⟩
      obtain ⟨X, hX⟩ : ∃ X, X = ((bdS (I 7) n (0, XX, YY) i).2.1 i) := ⟨_, rfl⟩
      obtain ⟨Y, hY⟩ : ∃ Y, Y = ((bdS (I 7) n (0, XX, YY) i).2.2 i) := ⟨_, rfl⟩
      rw [← ha, ← hX, ← hY] at hP
      rw [← ha, ← hX, ← hY] at hD
      obtain ⟨hWD, hw1, hw2, hw3⟩ := wfp_bdS (t := I 7) (n := n) (i := i) (s := (0, XX, YY)) (hwf i hin)
      rw [← hX, ← hY] at hWD
      rw [← hX] at hw1 hw2 hw3
      have hP : va_P D vwCl (dw cI cZ a X Y ++ (ppw cI cZ a X Y ++ (kq cI cZ cP b I V P ++ (cw cI b I V ++ pwx cI cZ n i ad (bdS (I 7) n (0, XX, YY) i).2.1 (bdS (I 7) n (0, XX, YY) i).2.2)))) H := hP
      have hD : va_D A (dw cI cZ a X Y ++ (ppw cI cZ a X Y ++ (kq cI cZ cP b I V P ++ (cw cI b I V ++ pwx cI cZ n i ad (bdS (I 7) n (0, XX, YY) i).2.1 (bdS (I 7) n (0, XX, YY) i).2.2)))) := hD
      refine lv_aload_n B.hx B.hb dX3_beginDay_10 rfl (lv_at hl 2 rfl) ?_
      refine q_get B hP (C := RX3) (ref := "PaperKeeper") (T := TX3) (N := 8) (ci := 3) hi3 rfl 10 rfl 3 (by decide) (by decide +kernel) rfl (v := .ref (b 4)) rfl dX3_beginDay_11 ?_
      refine lv_iload_n B.hx B.hb dX3_beginDay_14 rfl (lv_at hl 0 rfl) ?_
      refine q_aald B hP 14 rfl (j := i) rfl (by omega) (by decide) dX3_beginDay_15 ?_
      refine q_top (v2 := .ref (a 0)) (by rw [hPP i (by omega), if_pos hin, ha]; rfl) ?_
      refine lv_astore_n (lv' := [(3, .ref (a 0)), (2, .int (nI i)), (1, .int (nI ((bdS (I 7) n (0, XX, YY) i).1))), (0, .ref (b 0))]) B.hx B.hb dX3_beginDay_16 rfl hl (by decide) rfl (fun ls hl => ?_)
      refine lv_aload_n B.hx B.hb dX3_beginDay_17 rfl (lv_at hl 0 rfl) ?_
      refine lv_ifnull B.hx B.hb dX3_beginDay_18 ?_
      refine lv_aload_n B.hx B.hb dX3_beginDay_21 rfl (lv_at hl 0 rfl) ?_
      refine lv_aload_n B.hx B.hb dX3_beginDay_22 rfl (lv_at hl 3 rfl) ?_
      refine q_get B hP (C := RX3) (ref := "PaperKeeper") (T := TX3) (N := 8) (ci := 3) hi3 rfl 10 rfl 7 (by decide) (by decide +kernel) rfl (v := .int (I 7)) rfl dX3_beginDay_23 ?_
      refine q_callV (As := [.int (I 7)]) (rest := []) B hP hD hS ((c2_comeIntoForce l D cI cZ cP a X Y (ix (X 8)) (ix (X 9)) hWD (ix (X 1)) hw1 (I 7) (fun h => hw3 h.1)).fr2 (kq cI cZ cP b I V P ++ (cw cI b I V ++ pwx cI cZ n i ad (bdS (I 7) n (0, XX, YY) i).2.1 (bdS (I 7) n (0, XX, YY) i).2.2))) (cwV 1 B.hts gX3_beginDay_X2_comeIntoForce rfl rfl rfl (by decide +kernel) ⟨(Nat.le_of_ble_eq_true rfl), (Nat.le_of_ble_eq_true rfl)⟩) 6 2 rfl rfl rfl rfl hl.1 rfl (Nat.le_of_ble_eq_true rfl) dX3_beginDay_26 ⟨(Nat.le_of_ble_eq_true rfl), (Nat.le_of_ble_eq_true rfl)⟩ (fun E ce q9 H locs hx => False.elim hx) (fun v u H locs hp hP hD hS => ?_)
      rcases hp with ⟨rfl, rfl, hrd⟩ | ⟨rfl, rfl, hrd⟩
      · have hP : va_P D vwCl (dw cI cZ a (comX (I 7) X) (comY (I 7) X Y) ++ (ppw cI cZ a (comX (I 7) X) (comY (I 7) X Y) ++ (kq cI cZ cP b I V P ++ (cw cI b I V ++ pwx cI cZ n i ad (bdS (I 7) n (0, XX, YY) i).2.1 (bdS (I 7) n (0, XX, YY) i).2.2)))) H := hP
        have hD : va_D A (dw cI cZ a (comX (I 7) X) (comY (I 7) X Y) ++ (ppw cI cZ a (comX (I 7) X) (comY (I 7) X Y) ++ (kq cI cZ cP b I V P ++ (cw cI b I V ++ pwx cI cZ n i ad (bdS (I 7) n (0, XX, YY) i).2.1 (bdS (I 7) n (0, XX, YY) i).2.2)))) := hD
        refine lv_if_eq (tgt := 40) B.hx B.hb dX3_beginDay_29 (by decide) (fun c2 => absurd c2 (by decide)) (fun _ => ?_)
        refine lv_iinc (v := (nI (((bdS (I 7) n (0, XX, YY) i).1 + 1)))) (lv' := [(1, .int (nI (((bdS (I 7) n (0, XX, YY) i).1 + 1)))), (3, .ref (a 0)), (2, .int (nI i)), (0, .ref (b 0))]) B.hx B.hb dX3_beginDay_32 hl (k := 2) rfl (nI_1 _) (by decide) rfl (fun ls hl => ?_)
        subst ha hX hY
        have hP := q_Pperm fok (q_Pperm (unf hin _ _) hP)
        have hD := q_Dperm fok (q_Dperm (unf hin _ _) hD)
        have hl : lv_has ls 4 [(1, .int (nI (((bdS (I 7) n (0, XX, YY) i).1 + 1)))), (2, .int (nI i)), (0, .ref (b 0))] := lv_sub hl [0, 2, 3] rfl
        have hP : va_P D vwCl (kq cI cZ cP b I V P ++ (cw cI b I V ++ pws cI cZ n ad (va_up (bdS (I 7) n (0, XX, YY) i).2.1 i (comX (I 7) ((bdS (I 7) n (0, XX, YY) i).2.1 i))) (va_up (bdS (I 7) n (0, XX, YY) i).2.2 i (comY (I 7) ((bdS (I 7) n (0, XX, YY) i).2.1 i) ((bdS (I 7) n (0, XX, YY) i).2.2 i))))) H := hP
        have hD : va_D A (kq cI cZ cP b I V P ++ (cw cI b I V ++ pws cI cZ n ad (va_up (bdS (I 7) n (0, XX, YY) i).2.1 i (comX (I 7) ((bdS (I 7) n (0, XX, YY) i).2.1 i))) (va_up (bdS (I 7) n (0, XX, YY) i).2.2 i (comY (I 7) ((bdS (I 7) n (0, XX, YY) i).2.1 i) ((bdS (I 7) n (0, XX, YY) i).2.2 i))))) := hD
        refine lv_aload_n B.hx B.hb dX3_beginDay_35 rfl (lv_at hl 2 rfl) ?_
        refine lv_iload_n B.hx B.hb dX3_beginDay_36 rfl (lv_at hl 1 rfl) ?_
        refine q_callV (As := [.int (nI i)]) (rest := []) B hP hD hS ((c3_askForLooks l D cI cZ cP b I V P n hn8 ad (va_up (bdS (I 7) n (0, XX, YY) i).2.1 i (comX (I 7) ((bdS (I 7) n (0, XX, YY) i).2.1 i))) (va_up (bdS (I 7) n (0, XX, YY) i).2.2 i (comY (I 7) ((bdS (I 7) n (0, XX, YY) i).2.1 i) ((bdS (I 7) n (0, XX, YY) i).2.2 i))) hPP (fun k hk => wfp_w (wfp_up (wfp_bdS (hwf k hk)) (fun _ => hrd.1))) i (by omega)).perm fok (fun _ => fok)) (cwV 1 B.hts gX3_beginDay_X3_askForLooks rfl rfl rfl (by decide +kernel) ⟨(Nat.le_of_ble_eq_true rfl), (Nat.le_of_ble_eq_true rfl)⟩) 0 3 rfl rfl rfl rfl hl.1 rfl (Nat.le_of_ble_eq_true rfl) dX3_beginDay_37 ⟨(Nat.le_of_ble_eq_true rfl), (Nat.le_of_ble_eq_true rfl)⟩ (fun E ce q9 H locs hx => False.elim hx) (fun v u H locs hp hP hD hS => ?_)
        obtain rfl := hp
        have hP : va_P D vwCl (kq cI cZ cP b I V P ++ (cw cI b I V ++ pws cI cZ n ad (askX (va_up (bdS (I 7) n (0, XX, YY) i).2.2 i (comY (I 7) ((bdS (I 7) n (0, XX, YY) i).2.1 i) ((bdS (I 7) n (0, XX, YY) i).2.2 i))) i (va_up (bdS (I 7) n (0, XX, YY) i).2.1 i (comX (I 7) ((bdS (I 7) n (0, XX, YY) i).2.1 i))) 8) (va_up (bdS (I 7) n (0, XX, YY) i).2.2 i (comY (I 7) ((bdS (I 7) n (0, XX, YY) i).2.1 i) ((bdS (I 7) n (0, XX, YY) i).2.2 i))))) H := hP
        have hD : va_D A (kq cI cZ cP b I V P ++ (cw cI b I V ++ pws cI cZ n ad (askX (va_up (bdS (I 7) n (0, XX, YY) i).2.2 i (comY (I 7) ((bdS (I 7) n (0, XX, YY) i).2.1 i) ((bdS (I 7) n (0, XX, YY) i).2.2 i))) i (va_up (bdS (I 7) n (0, XX, YY) i).2.1 i (comX (I 7) ((bdS (I 7) n (0, XX, YY) i).2.1 i))) 8) (va_up (bdS (I 7) n (0, XX, YY) i).2.2 i (comY (I 7) ((bdS (I 7) n (0, XX, YY) i).2.1 i) ((bdS (I 7) n (0, XX, YY) i).2.2 i))))) := hD
        refine lv_iinc (v := (nI ((i + 1)))) (lv' := [(2, .int (nI ((i + 1)))), (1, .int (nI (((bdS (I 7) n (0, XX, YY) i).1 + 1)))), (0, .ref (b 0))]) B.hx B.hb dX3_beginDay_40 hl (k := 1) rfl (nI_1 _) (by decide) rfl (fun ls hl => ?_)
        refine lv_goto (tgt := 4) B.hx B.hb dX3_beginDay_43 (by decide) ?_
        have hP := q_Pperm fok.symm hP
        have hD := q_Dperm fok.symm hD
        exact ih (i + 1) (by omega) (by omega) ls H locs (show lv_has ls 4 [(2, .int (nI ((i + 1)))), (1, .int (nI ((bdS (I 7) n (0, XX, YY) (i + 1)).1))), (0, .ref (b 0))] by rw [bdS_yes hin hrd]; exact lv_sub hl [0, 1, 2] rfl) (show va_P D vwCl (WK cI cZ cP n ad (bdS (I 7) n (0, XX, YY) (i + 1)).2.1 (bdS (I 7) n (0, XX, YY) (i + 1)).2.2 b I V P) H by rw [bdS_yes hin hrd]; exact hP) (show va_D A (WK cI cZ cP n ad (bdS (I 7) n (0, XX, YY) (i + 1)).2.1 (bdS (I 7) n (0, XX, YY) (i + 1)).2.2 b I V P) by rw [bdS_yes hin hrd]; exact hD) hS
      · have hP : va_P D vwCl (dw cI cZ a X Y ++ (ppw cI cZ a X Y ++ (kq cI cZ cP b I V P ++ (cw cI b I V ++ pwx cI cZ n i ad (bdS (I 7) n (0, XX, YY) i).2.1 (bdS (I 7) n (0, XX, YY) i).2.2)))) H := hP
        have hD : va_D A (dw cI cZ a X Y ++ (ppw cI cZ a X Y ++ (kq cI cZ cP b I V P ++ (cw cI b I V ++ pwx cI cZ n i ad (bdS (I 7) n (0, XX, YY) i).2.1 (bdS (I 7) n (0, XX, YY) i).2.2)))) := hD
        refine lv_if_eq (tgt := 40) B.hx B.hb dX3_beginDay_29 (by decide) (fun _ => ?_) (fun c3 => absurd c3 (by decide))
        refine lv_iinc (v := (nI ((i + 1)))) (lv' := [(2, .int (nI ((i + 1)))), (3, .ref (a 0)), (1, .int (nI ((bdS (I 7) n (0, XX, YY) i).1))), (0, .ref (b 0))]) B.hx B.hb dX3_beginDay_40 hl (k := 1) rfl (nI_1 _) (by decide) rfl (fun ls hl => ?_)
        refine lv_goto (tgt := 4) B.hx B.hb dX3_beginDay_43 (by decide) ?_
        subst ha hX hY
        have hP := q_Pperm (foc hin).symm hP
        have hD := q_Dperm (foc hin).symm hD
        exact ih (i + 1) (by omega) (by omega) ls H locs (show lv_has ls 4 [(2, .int (nI ((i + 1)))), (1, .int (nI ((bdS (I 7) n (0, XX, YY) (i + 1)).1))), (0, .ref (b 0))] by rw [bdS_no (fun h => hrd h.2)]; exact lv_sub hl [0, 2, 3] rfl) (show va_P D vwCl (WK cI cZ cP n ad (bdS (I 7) n (0, XX, YY) (i + 1)).2.1 (bdS (I 7) n (0, XX, YY) (i + 1)).2.2 b I V P) H by rw [bdS_no (fun h => hrd h.2)]; exact hP) (show va_D A (WK cI cZ cP n ad (bdS (I 7) n (0, XX, YY) (i + 1)).2.1 (bdS (I 7) n (0, XX, YY) (i + 1)).2.2 b I V P) by rw [bdS_no (fun h => hrd h.2)]; exact hD) hS
    · have hP := q_Pperm fok hP
      have hD := q_Dperm fok hD
      have hP : va_P D vwCl (kq cI cZ cP b I V P ++ (cw cI b I V ++ pws cI cZ n ad (bdS (I 7) n (0, XX, YY) i).2.1 (bdS (I 7) n (0, XX, YY) i).2.2)) H := hP
      have hD : va_D A (kq cI cZ cP b I V P ++ (cw cI b I V ++ pws cI cZ n ad (bdS (I 7) n (0, XX, YY) i).2.1 (bdS (I 7) n (0, XX, YY) i).2.2)) := hD
      refine lv_aload_n B.hx B.hb dX3_beginDay_10 rfl (lv_at hl 2 rfl) ?_
      refine q_get B hP (C := RX3) (ref := "PaperKeeper") (T := TX3) (N := 8) (ci := 3) hi3 rfl 0 rfl 3 (by decide) (by decide +kernel) rfl (v := .ref (b 4)) rfl dX3_beginDay_11 ?_
      refine lv_iload_n B.hx B.hb dX3_beginDay_14 rfl (lv_at hl 0 rfl) ?_
      refine q_aald B hP 4 rfl (j := i) rfl (by omega) (by decide) dX3_beginDay_15 ?_
      refine q_top (v2 := .null) (by rw [hPP i (by omega), if_neg hin]; rfl) ?_
      refine lv_astore_nN (lv' := [(3, .null), (2, .int (nI i)), (1, .int (nI ((bdS (I 7) n (0, XX, YY) i).1))), (0, .ref (b 0))]) B.hx B.hb dX3_beginDay_16 rfl hl (by decide) rfl (fun ls hl => ?_)
      refine lv_aload_nN B.hx B.hb dX3_beginDay_17 rfl (lv_at hl 0 rfl) ?_
      refine lv_ifnullN (tgt := 40) B.hx B.hb dX3_beginDay_18 (by decide) ?_
      refine lv_iinc (v := (nI ((i + 1)))) (lv' := [(2, .int (nI ((i + 1)))), (3, .null), (1, .int (nI ((bdS (I 7) n (0, XX, YY) i).1))), (0, .ref (b 0))]) B.hx B.hb dX3_beginDay_40 hl (k := 1) rfl (nI_1 _) (by decide) rfl (fun ls hl => ?_)
      refine lv_goto (tgt := 4) B.hx B.hb dX3_beginDay_43 (by decide) ?_
      have hP := q_Pperm fok.symm hP
      have hD := q_Dperm fok.symm hD
      exact ih (i + 1) (by omega) (by omega) ls H locs (show lv_has ls 4 [(2, .int (nI ((i + 1)))), (1, .int (nI ((bdS (I 7) n (0, XX, YY) (i + 1)).1))), (0, .ref (b 0))] by rw [bdS_no (fun h => hin h.1)]; exact lv_sub hl [0, 2, 3] rfl) (show va_P D vwCl (WK cI cZ cP n ad (bdS (I 7) n (0, XX, YY) (i + 1)).2.1 (bdS (I 7) n (0, XX, YY) (i + 1)).2.2 b I V P) H by rw [bdS_no (fun h => hin h.1)]; exact hP) (show va_D A (WK cI cZ cP n ad (bdS (I 7) n (0, XX, YY) (i + 1)).2.1 (bdS (I 7) n (0, XX, YY) (i + 1)).2.2 b I V P) by rw [bdS_no (fun h => hin h.1)]; exact hD) hS
set_option maxHeartbeats 4000000 in
set_option maxRecDepth 100000 in
theorem c3_pass (l : Launch) (hfl : l.stackTraces = false) (D : va_G) (cI cZ cP : ClassId) (b : Nat → Nat) (I : Nat → Int32) (V : Nat → Nat → Int32) (P : Nat → Option Nat) (n : Nat) (hn8 : n ≤ 8) (ad : Nat → Nat → Nat) (XX : Nat → Nat → Int32) (YY : Nat → Nat → Nat → Int32) (hPP : ∀ k, k < 8 → P k = if k < n then some (ad k 0) else none) (hwf : ∀ k, k < n → wfp (XX k) (YY k)) (td : Nat) (htd : I 7 = nI td) (htd2 : td ≤ 1000) (x : Int32) : q_C l yX3_pass wsX3_pass ({ frames := 7, cells := 2, slots := 12, locals := 107 }) D cI cZ cP [.ref (b 0), .int x] (kq cI cZ cP b I V P ++ (cw cI b I V ++ pws cI cZ n ad XX YY)) (S := Unit) (fun v _ => v = some (.int (nI (psS td n (0, XX, YY) (ix x)).1)) ∧ kPass x (I 7) = 0) (fun _ => kq cI cZ cP b (va_up I 7 (nI ((td + ix x)))) V P ++ (cw cI b (va_up I 7 (nI ((td + ix x)))) V ++ pws cI cZ n ad (psS td n (0, XX, YY) (ix x)).2.1 (psS td n (0, XX, YY) (ix x)).2.2)) (fun E => (E = q_IAE ∧ kPass x (I 7) = 1) ∨ (E = q_ISE ∧ kPass x (I 7) = 2)) 2 12 := by
  refine q_of (cc := cX3_pass) (maxL := 4) (ret := (some .int)) (by decide +kernel) rfl (Nat.le_of_ble_eq_true rfl) ?_
  intro p e s m below meth c A ls B hr htb hmn hP hD hS hl
  have hl : lv_has ls 4 [(0, .ref (b 0)), (1, .int x)] := hl
  have hi3 : ∀ w ∈ u_ws RX3 TX3 8, w ∈ wsX3_pass := by decide +kernel
  refine lv_iload_n B.hx B.hb dX3_pass_0 rfl (lv_at hl 1 rfl) ?_
  refine lv_iconst (v := (nI 1)) B.hx B.hb dX3_pass_1 (by decide) ?_
  refine lv_bipush (v := (nI 50)) B.hx B.hb dX3_pass_2 (by decide) ?_
  refine q_callS (As := [.int x, .int (nI 1), .int (nI 50)]) (rest := []) B hP hD hS ((c3_checkRange l hfl D cI cZ cP x (nI 1) (nI 50)).fr0 (kq cI cZ cP b I V P ++ (cw cI b I V ++ pws cI cZ n ad XX YY))) (cwS 3 B.hts gX3_pass_X3_checkRange rfl rfl rfl (by decide +kernel) ⟨(Nat.le_of_ble_eq_true rfl), (Nat.le_of_ble_eq_true rfl)⟩) rfl hl.1 rfl (Nat.le_of_ble_eq_true rfl) dX3_pass_4 ⟨(Nat.le_of_ble_eq_true rfl), (Nat.le_of_ble_eq_true rfl)⟩ (fun E ce q9 H locs hx hP hS hce hcv hcl => ?_) (fun v u H locs hp hP hD hS => ?_)
  · exact q_xout B htb hP hS hce hcv hcl (Or.inl ⟨hx.1, by simp [kPass, hx.2]⟩) (Nat.le_of_ble_eq_true rfl) (Nat.le_of_ble_eq_true rfl)
  · obtain ⟨rfl, hrg0⟩ := hp
    have hP : va_P D vwCl (kq cI cZ cP b I V P ++ (cw cI b I V ++ pws cI cZ n ad XX YY)) H := hP
    have hD : va_D A (kq cI cZ cP b I V P ++ (cw cI b I V ++ pws cI cZ n ad XX YY)) := hD
    obtain ⟨d, hd, rfl⟩ := rg_1j (by decide) hrg0
    have hixd : ix (nI d) = d := ix_nI (by omega)
    refine lv_aload_n B.hx B.hb dX3_pass_7 rfl (lv_at hl 0 rfl) ?_
    refine q_get B hP (C := RX3) (ref := "PaperKeeper") (T := TX3) (N := 8) (ci := 3) hi3 rfl 0 rfl 7 (by decide) (by decide +kernel) rfl (v := .int (I 7)) rfl dX3_pass_8 ?_
    refine q_top (v2 := .int (nI td)) (congrArg Value.int htd) ?_
    refine lv_iload_n B.hx B.hb dX3_pass_11 rfl (lv_at hl 1 rfl) ?_
    refine lv_iadd B.hx B.hb dX3_pass_12 ?_
    refine q_top (v2 := .int (nI ((td + d)))) (congrArg Value.int (nI_add _ _)) ?_
    refine lv_sipush (v := (nI 1000)) B.hx B.hb dX3_pass_13 (by decide) ?_
    refine lv_icmp_le (tgt := 29) B.hx B.hb dX3_pass_16 (by decide) (fun c1 => ?_) (fun c1 => ?_)
    · replace c1 := (nI_leI (by omega) (by omega)).mp c1
      have hle : nI td + nI d ≤ nI 1000 := by rw [nI_add]; exact (nI_leI (by omega) (by omega)).mpr c1
      refine lv_iconst (v := (nI 0)) B.hx B.hb dX3_pass_29 (by decide) ?_
      refine lv_istore_n (lv' := [(2, .int (nI 0)), (0, .ref (b 0)), (1, .int (nI d))]) B.hx B.hb dX3_pass_30 rfl hl (by decide) rfl (fun ls hl => ?_)
      refine lv_iconst (v := (nI 0)) B.hx B.hb dX3_pass_31 (by decide) ?_
      refine lv_istore_n (lv' := [(3, .int (nI 0)), (2, .int (nI 0)), (0, .ref (b 0)), (1, .int (nI d))]) B.hx B.hb dX3_pass_32 rfl hl (by decide) rfl (fun ls hl => ?_)
      refine q_loopW (nL := 4) (fun i : Nat => i ≤ d) (fun i : Nat => d - i) (fun i : Nat => [(3, .int (nI i)), (2, .int (nI ((psS td n (0, XX, YY) i).1))), (0, .ref (b 0)), (1, .int (nI d))]) (fun i : Nat => kq cI cZ cP b (va_up I 7 (nI ((td + i)))) V P ++ (cw cI b (va_up I 7 (nI ((td + i)))) V ++ pws cI cZ n ad (psS td n (0, XX, YY) i).2.1 (psS td n (0, XX, YY) i).2.2)) 0 (Nat.zero_le _) (lv_sub hl [0, 1, 2, 3] rfl) (show va_P D vwCl (kq cI cZ cP b (va_up I 7 (nI ((td + 0)))) V P ++ (cw cI b (va_up I 7 (nI ((td + 0)))) V ++ pws cI cZ n ad (psS td n (0, XX, YY) 0).2.1 (psS td n (0, XX, YY) 0).2.2)) _ by rw [show nI (td + 0) = I 7 from htd.symm, up_same]; exact hP) (show va_D A (kq cI cZ cP b (va_up I 7 (nI ((td + 0)))) V P ++ (cw cI b (va_up I 7 (nI ((td + 0)))) V ++ pws cI cZ n ad (psS td n (0, XX, YY) 0).2.1 (psS td n (0, XX, YY) 0).2.2)) by rw [show nI (td + 0) = I 7 from htd.symm, up_same]; exact hD) hS ?_
      intro i hi ih ls H locs hl hP hD hS
      have hi : i ≤ d := hi
      have hl : lv_has ls 4 [(3, .int (nI i)), (2, .int (nI ((psS td n (0, XX, YY) i).1))), (0, .ref (b 0)), (1, .int (nI d))] := hl
      have hP : va_P D vwCl (kq cI cZ cP b (va_up I 7 (nI ((td + i)))) V P ++ (cw cI b (va_up I 7 (nI ((td + i)))) V ++ pws cI cZ n ad (psS td n (0, XX, YY) i).2.1 (psS td n (0, XX, YY) i).2.2)) H := hP
      have hD : va_D A (kq cI cZ cP b (va_up I 7 (nI ((td + i)))) V P ++ (cw cI b (va_up I 7 (nI ((td + i)))) V ++ pws cI cZ n ad (psS td n (0, XX, YY) i).2.1 (psS td n (0, XX, YY) i).2.2)) := hD
      refine lv_iload_n B.hx B.hb dX3_pass_33 rfl (lv_at hl 0 rfl) ?_
      refine lv_iload_n B.hx B.hb dX3_pass_34 rfl (lv_at hl 3 rfl) ?_
      refine lv_icmp_ge (tgt := 61) B.hx B.hb dX3_pass_35 (by decide) (fun c2 => ?_) (fun c2 => ?_)
      · replace c2 := (nI_leI (by omega) (by omega)).mp c2
        obtain rfl : i = d := by omega
        refine lv_iload_n B.hx B.hb dX3_pass_61 rfl (lv_at hl 1 rfl) ?_
        exact q_iret B hr hP hD hS (u := ()) (by simp only [hixd]) ⟨by rw [hixd], by simp [kPass, hrg0, htd, hle]⟩ (Nat.le_of_ble_eq_true rfl) (Nat.le_of_ble_eq_true rfl) dX3_pass_62
      · replace c2 := mt (nI_leI (by omega) (by omega)).mpr c2
        refine lv_aload_n B.hx B.hb dX3_pass_38 rfl (lv_at hl 2 rfl) ?_
        refine lv_dup B.hx B.hb dX3_pass_39 rfl ?_
        refine q_get B hP (C := RX3) (ref := "PaperKeeper") (T := TX3) (N := 8) (ci := 3) hi3 rfl 0 rfl 7 (by decide) (by decide +kernel) rfl (v := .int (nI ((td + i)))) rfl dX3_pass_40 ?_
        refine lv_iconst (v := (nI 1)) B.hx B.hb dX3_pass_43 (by decide) ?_
        refine lv_iadd B.hx B.hb dX3_pass_44 ?_
        refine q_top (v2 := .int (nI (((td + i) + 1)))) (congrArg Value.int (nI_add _ _)) ?_
        refine q_put B hP hD hS (C := RX3) (ref := "PaperKeeper") (T := TX3) (N := 8) (ci := 3) hi3 rfl tyX3 tyX3_ok nmX3 0 rfl 7 (by decide) (by decide +kernel) rfl rfl rfl (by rfl) (Nat.le_of_ble_eq_true rfl) dX3_pass_45 (w' := kq cI cZ cP b (va_up I 7 (nI (((td + i) + 1)))) V P ++ (cw cI b (va_up I 7 (nI (((td + i) + 1)))) V ++ pws cI cZ n ad (psS td n (0, XX, YY) i).2.1 (psS td n (0, XX, YY) i).2.2)) rfl (fun H locs hP hD hS => ?_)
        refine lv_iload_n B.hx B.hb dX3_pass_48 rfl (lv_at hl 1 rfl) ?_
        refine lv_aload_n B.hx B.hb dX3_pass_49 rfl (lv_at hl 2 rfl) ?_
        refine q_callV (As := []) (rest := [.int (nI ((psS td n (0, XX, YY) i).1))]) B hP hD hS ((c3_beginDay l D cI cZ cP b (va_up I 7 (nI (((td + i) + 1)))) V P n hn8 ad (psS td n (0, XX, YY) i).2.1 (psS td n (0, XX, YY) i).2.2 hPP (fun k hk => wfp_psS (hwf k hk))).perm fok (fun _ => fok)) (cwV 0 B.hts gX3_pass_X3_beginDay rfl rfl rfl (by decide +kernel) ⟨(Nat.le_of_ble_eq_true rfl), (Nat.le_of_ble_eq_true rfl)⟩) 0 3 rfl rfl rfl rfl hl.1 rfl (Nat.le_of_ble_eq_true rfl) dX3_pass_50 ⟨(Nat.le_of_ble_eq_true rfl), (Nat.le_of_ble_eq_true rfl)⟩ (fun E ce q9 H locs hx => False.elim hx) (fun v u H locs hp hP hD hS => ?_)
        obtain rfl := hp
        have hP : va_P D vwCl (kq cI cZ cP b (va_up I 7 (nI (((td + i) + 1)))) V P ++ (cw cI b (va_up I 7 (nI (((td + i) + 1)))) V ++ pws cI cZ n ad (bdS (nI (td + i + 1)) n (0, (psS td n (0, XX, YY) i).2) 8).2.1 (bdS (nI (td + i + 1)) n (0, (psS td n (0, XX, YY) i).2) 8).2.2)) H := hP
        have hD : va_D A (kq cI cZ cP b (va_up I 7 (nI (((td + i) + 1)))) V P ++ (cw cI b (va_up I 7 (nI (((td + i) + 1)))) V ++ pws cI cZ n ad (bdS (nI (td + i + 1)) n (0, (psS td n (0, XX, YY) i).2) 8).2.1 (bdS (nI (td + i + 1)) n (0, (psS td n (0, XX, YY) i).2) 8).2.2)) := hD
        refine lv_iadd B.hx B.hb dX3_pass_53 ?_
        refine q_top (v2 := .int (nI (((psS td n (0, XX, YY) i).1 + (bdS (nI (td + i + 1)) n (0, (psS td n (0, XX, YY) i).2) 8).1)))) (congrArg Value.int (nI_add _ _)) ?_
        refine lv_istore_n (lv' := [(2, .int (nI (((psS td n (0, XX, YY) i).1 + (bdS (nI (td + i + 1)) n (0, (psS td n (0, XX, YY) i).2) 8).1)))), (3, .int (nI i)), (0, .ref (b 0)), (1, .int (nI d))]) B.hx B.hb dX3_pass_54 rfl hl (by decide) rfl (fun ls hl => ?_)
        refine lv_iinc (v := (nI ((i + 1)))) (lv' := [(3, .int (nI ((i + 1)))), (2, .int (nI (((psS td n (0, XX, YY) i).1 + (bdS (nI (td + i + 1)) n (0, (psS td n (0, XX, YY) i).2) 8).1)))), (0, .ref (b 0)), (1, .int (nI d))]) B.hx B.hb dX3_pass_55 hl (k := 1) rfl (nI_1 _) (by decide) rfl (fun ls hl => ?_)
        refine lv_goto (tgt := 33) B.hx B.hb dX3_pass_58 (by decide) ?_
        exact ih (i + 1) (by omega) (by omega) ls H locs (lv_sub hl [0, 1, 2, 3] rfl) hP hD hS
    · replace c1 := mt (nI_leI (by omega) (by omega)).mpr c1
      have hle : ¬ nI td + nI d ≤ nI 1000 := by rw [nI_add]; exact mt (nI_leI (by omega) (by omega)).mp c1
      exact q_throw B hfl htb hP hS q_E_ISE (goodIn_app (goodIn_of [_, _] (by decide +kernel)) (goodIn_sub (fun w h => List.mem_cons_of_mem _ (List.mem_append_left _ (List.mem_append_right _ h))) q_allg_ISE)) (List.mem_of_getElem? (i := 17) rfl) hl.1 dX3_pass_19 dX3_pass_22 dX3_pass_23 dX3_pass_25 dX3_pass_28 ⟨(Nat.le_of_ble_eq_true rfl), (Nat.le_of_ble_eq_true rfl), (Nat.le_of_ble_eq_true rfl), (Nat.le_of_ble_eq_true rfl)⟩ (Or.inr ⟨rfl, by simp [kPass, hrg0, c1, hixd, htd, hle]⟩) (Nat.le_of_ble_eq_true rfl) (Nat.le_of_ble_eq_true rfl)
end
section
/-! MAKING: new rows, new objects, constructors. -/
section QN
variable {p : Program} {l : Launch} {e : Env} {R : Room} {s : State} {m : MethodId} {args : Array Value} {below : List Frame} {meth : Method} {c : Code} {H : Heap} {locs : List Loc} {cells slots : Nat} {Q : State → Prop}
variable {D : va_G} {cI cZ cP : ClassId} {A : Nat → Prop} {cc : ByteArray} {pc nL : Nat} {ls : Array Slot} {rest st0 : List Value} {own : String} {Ts : List Cond} {w : va_W}
theorem q_newI (B : q_B p l s m args meth c D cI cZ cP A cc nL own Ts) (hP : va_P D vwCl w H) (hD : va_D A w) (hS : va_S A s.heap H locs) (harr : Cond.arrayClass .int ∈ Ts) {n : Int32} {N : Nat} (hn : ¬ n < 0) (hN : n.toNatClampNeg = N) (hb : N * 4 ≤ 536870912) (hcells : cells + 1 ≤ R.cells) (hslots : slots + N ≤ R.slots) (hdg : decode cc pc = .ok (.newarray .int, 2))
    (kk : ∀ (q : Nat) (H1 : Heap), va_P D vwCl (w ++ [(q, .inl (cI, N, .inl (fun _ => 0)))]) H1 → va_D A (w ++ [(q, .inl (cI, N, .inl (fun _ => 0)))]) → va_S A s.heap H1 locs → W p l e R s m args below meth c H1 locs (cells + 1) (slots + N) Q (F0 m (pc + 2) ls (.ref q :: rest))) : W p l e R s m args below meth c H locs cells slots Q (F0 m pc ls (.int n :: rest)) := by
  refine va_newa (atype := .int) B.hx B.hb (B.hts _ harr) rfl B.hK hP hD hS B.hA (a0 := (N, .inl (fun _ => 0))) (fun _ => rfl) hn hN hb hcells hslots hdg (fun q cA H1 hK1 hP1 hD1 hS1 => ?_)
  have e1 := (hK1.2 3 (cA, .int) rfl).2
  have e2 := (B.hK.2 0 (cI, .int) rfl).2
  cases Option.some.inj (e1.symm.trans e2)
  exact kk q H1 hP1 hD1 hS1
theorem q_newZ (B : q_B p l s m args meth c D cI cZ cP A cc nL own Ts) (hP : va_P D vwCl w H) (hD : va_D A w) (hS : va_S A s.heap H locs) (harr : Cond.arrayClass .boolean ∈ Ts) {n : Int32} {N : Nat} (hn : ¬ n < 0) (hN : n.toNatClampNeg = N) (hb : N * 1 ≤ 536870912) (hcells : cells + 1 ≤ R.cells) (hslots : slots + N ≤ R.slots) (hdg : decode cc pc = .ok (.newarray .boolean, 2))
    (kk : ∀ (q : Nat) (H1 : Heap), va_P D vwCl (w ++ [(q, .inl (cZ, N, .inl (fun _ => 0)))]) H1 → va_D A (w ++ [(q, .inl (cZ, N, .inl (fun _ => 0)))]) → va_S A s.heap H1 locs → W p l e R s m args below meth c H1 locs (cells + 1) (slots + N) Q (F0 m (pc + 2) ls (.ref q :: rest))) : W p l e R s m args below meth c H locs cells slots Q (F0 m pc ls (.int n :: rest)) := by
  refine va_newa (atype := .boolean) B.hx B.hb (B.hts _ harr) rfl B.hK hP hD hS B.hA (a0 := (N, .inl (fun _ => 0))) (fun _ => rfl) hn hN hb hcells hslots hdg (fun q cA H1 hK1 hP1 hD1 hS1 => ?_)
  have e1 := (hK1.2 3 (cA, .boolean) rfl).2
  have e2 := (B.hK.2 1 (cZ, .boolean) rfl).2
  cases Option.some.inj (e1.symm.trans e2)
  exact kk q H1 hP1 hD1 hS1
theorem q_newP (B : q_B p l s m args meth c D cI cZ cP A cc nL own Ts) (hP : va_P D vwCl w H) (hD : va_D A w) (hS : va_S A s.heap H locs) {index : Nat} (hcl : Cond.classLink own index "PaperKeeper$Paper" ∈ Ts) {n : Int32} {N : Nat} (hn : ¬ n < 0) (hN : n.toNatClampNeg = N) (hb : N * 4 ≤ 536870912) (hcells : cells + 1 ≤ R.cells) (hslots : slots + N ≤ R.slots) (hdg : decode cc pc = .ok (.anewarray index, 3))
    (kk : ∀ (q : Nat) (H1 : Heap), va_P D vwCl (w ++ [(q, .inl (cP, N, .inr (.inr (.inr (.inr (fun _ => none))))))]) H1 → va_D A (w ++ [(q, .inl (cP, N, .inr (.inr (.inr (.inr (fun _ => none))))))]) → va_S A s.heap H1 locs → W p l e R s m args below meth c H1 locs (cells + 1) (slots + N) Q (F0 m (pc + 3) ls (.ref q :: rest))) : W p l e R s m args below meth c H locs cells slots Q (F0 m pc ls (.int n :: rest)) := by
  refine va_newq B.hx B.hb B.hown (B.hts _ hcl) B.hKK.2.2.2.2 B.hK hP hD hS B.hA hn hN hb hcells hslots hdg (fun q cA H1 hK1 hP1 hD1 hS1 => ?_)
  obtain ⟨kA, comp, -, -, -, e1⟩ := (hK1.2 3 (cA, .object "PaperKeeper$Paper") rfl).2
  obtain ⟨kB, compB, -, -, -, e2⟩ := (B.hK.2 2 (cP, .object "PaperKeeper$Paper") rfl).2
  cases Option.some.inj (e1.symm.trans e2)
  exact kk q H1 hP1 hD1 hS1
/-- new C -/
theorem q_new (B : q_B p l s m args meth c D cI cZ cP A cc nL own Ts) (hP : va_P D vwCl w H) (hD : va_D A w) (hS : va_S A s.heap H locs) {C : String} {T : u_T} {N ci index : Nat} (hin : ∀ w ∈ u_ws C T N, w ∈ Ts) (ty : Nat → FieldType) (hty : ∀ k, k < N → parseFieldDescriptor (T k).2.2.1 = some (ty k)) (hcl : Cond.classLink own index C ∈ Ts) (hinst : Cond.instantiable C N ∈ Ts) (hini : Cond.initialized C ∈ Ts) (hc : vwCl[ci]? = some (C, T, N)) {fs : List Value} (hfs : ∀ j, j < N → defaultValue (ty j) = vp_V fs j) (hcells : cells + 1 ≤ R.cells) (hslots : slots + N ≤ R.slots) (hdg : decode cc pc = .ok (.new index, 3))
    (kk : ∀ (q : Nat) (H1 : Heap), va_P D vwCl (w ++ [(q, .inr (ci, fs))]) H1 → va_D A (w ++ [(q, .inr (ci, fs))]) → va_S A s.heap H1 locs → W p l e R s m args below meth c H1 locs (cells + 1) (slots + N) Q (F0 m (pc + 3) ls (.ref q :: rest))) : W p l e R s m args below meth c H locs cells slots Q (F0 m pc ls rest) :=
  va_new B.hx B.hb B.hts hin ty hty B.hown (B.hts _ hcl) (B.hts _ hinst) (B.hts _ hini) B.hK hP hD hS B.hA hc hfs hcells hslots hdg kk
/-- a final field, in the constructor -/
theorem q_putF (B : q_B p l s m args meth c D cI cZ cP A cc nL own Ts) (hP : va_P D vwCl w H) (hD : va_D A w) (hS : va_S A s.heap H locs) (hmn : meth.name = "<init>") {C ref : String} {T : u_T} {N ci index a : Nat} (hin : ∀ w ∈ u_ws C T N, w ∈ Ts) (hc : vwCl[ci]? = some (C, T, N)) (ty0 : Nat → FieldType) (hty : ∀ k, k < N → parseFieldDescriptor (T k).2.2.1 = some (ty0 k)) (hnm : ∀ a, a < N → ∀ b, b < N → a ≠ b → (T a).2.1 ≠ (T b).2.1) (q0 : Nat) {fs : List Value} (he : w[q0]? = some (a, .inr (ci, fs))) (k : Nat) (hk : k < N) (hlink : Cond.fieldLink own index ref (T k).2.1 (T k).2.2.1 ∈ Ts) (hsame : (T k).1 = ref) (hfin : (T k).2.2.2 = true) (hdecl : (T k).1 = own) {v : Value} (hn : narrow (ty0 k) v = v) (hfit : fits (ty0 k) v = true) (hl : k < fs.length) (hdg : decode cc pc = .ok (.putfield index, 3)) {w' : va_W} (hw : w.set q0 (a, .inr (ci, fs.set k v)) = w')
    (kk : ∀ (H1 : Heap) (locs1 : List Loc), va_P D vwCl w' H1 → va_D A w' → va_S A s.heap H1 locs1 → W p l e R s m args below meth c H1 locs1 cells slots Q (F0 m (pc + 3) ls rest)) : W p l e R s m args below meth c H locs cells slots Q (F0 m pc ls (v :: .ref a :: rest)) :=
  va_putF B.hx B.hb B.hts hin ty0 hty hnm B.hown B.hK hP hD hS q0 he hc k hk (B.hts _ hlink) (fun x h => by rw [← hsame]; exact h) hfin hmn hdecl (hty k hk) hn hfit hl hdg (by rw [hw]; exact kk)
theorem q_objI (B : q_B p l s m args meth c D cI cZ cP A cc nL own Ts) {idx a : Nat} (hlink : Cond.methodLink own idx objectInit ∈ Ts) (hinst : Cond.instanceMethod objectInit ∈ Ts) (hcode : Cond.code objectInit ⟨#[0xb1]⟩ 1 none ∈ Ts) (hls : ls.size = nL) (hd : decode cc pc = .ok (.invokespecial idx, 3)) (hR : 1 ≤ R.frames ∧ (rest.map fun v => v.category).sum + 12 ≤ R.locals)
    (kk : W p l e R s m args below meth c H locs cells slots Q (F0 m (pc + 3) ls rest)) : W p l e R s m args below meth c H locs cells slots Q (F0 m pc ls (.ref a :: rest)) :=
  W.objInit B.hx B.hb B.hown (B.hts _ hlink) (B.hts _ hinst) (B.hts _ hcode) rfl (by rw [B.hml]; exact hls) rfl hd hR.1 (by show 2 * 0 + _ + 12 ≤ R.locals; have := hR.2; omega) kk
theorem q_C.met {y : MethodName} {ws : List Cond} {rm : Room} {av : List Value} {S : Type} {post : Option Value → S → Prop} {W' : S → va_W} {mc ms : Nat} (h : q_C l y ws rm D cI cZ cP av w post W' (fun _ => False) mc ms) (sz : Nat) : Met l y ws rm (q_P D cI cZ cP av w sz) (q_Q D post W' (va_A w sz)) mc ms (va_A w sz) := by
  intro p e ha hc hk s m args below hf happ hpre hK
  obtain ⟨n, o, h1, h2, h3, h4⟩ := h sz p e ha hc hk s m args below hf happ hpre hK
  refine ⟨n, o, h1, h2, h3, ?_⟩
  rcases h4 with h4 | ⟨q, -, E, ce, L, ⟨hx, -⟩, -⟩
  · exact h4
  · exact hx.elim
/-- invokespecial of a constructor -/
theorem q_callI {S : Type} {post : Option Value → S → Prop} {W' : S → va_W} {mc ms n index maxL b : Nat} {y : MethodName} {bytes : ByteArray} {ws ws' : List Cond} {rm : Room} {As : List Value} (B : q_B p l s m args meth c D cI cZ cP A cc nL own Ts) (hP : va_P D vwCl w H) (hD : va_D A w) (hS : va_S A s.heap H locs)
    (hC : q_C l y ws rm D cI cZ cP (.ref b :: As) w post W' (fun _ => False) mc ms) (hG : GoodIn Ts ws) (hw : ws = Cond.code y bytes maxL none :: ws') (hrc : rm.cells = mc) (hrs : rm.slots = ms) (hini : Cond.initialized y.cls ∈ Ts) (hlk : Cond.methodLink own index y ∈ Ts) (hin : Cond.instanceMethod y ∈ Ts) (hy1 : y.name = "<init>")
    (hd : y.cls ≠ "java/lang/invoke/MethodHandle" ∧ y.cls ≠ "java/lang/invoke/VarHandle" ∧ (parseMethodDescriptor y.desc).map (fun d => d.parameters.length) = some n) (hR : rm.frames + 1 ≤ R.frames ∧ 8 + (maxL + 11) + rm.locals ≤ R.locals) (hn : As.length = n) (hls : ls.size = nL) (hst : st0 = As.reverse ++ .ref b :: rest) (hcat : (rest.map fun v => v.category).sum ≤ 8)
    (hdg : decode cc pc = .ok (.invokespecial index, 3)) (hf : cells + mc ≤ R.cells ∧ slots + ms ≤ R.slots)
    (kk : ∀ (v : Option Value) (u : S) (H1 : Heap) (locs1 : List Loc), post v u → va_P D vwCl (W' u) H1 → va_D A (W' u) → va_S A s.heap H1 locs1 → W p l e R s m args below meth c H1 locs1 (cells + mc) (slots + ms) Q (F0 m (pc + 3) ls (v.toList ++ rest))) :
    W p l e R s m args below meth c H locs cells slots Q (F0 m pc ls st0) := by
  have hs := q_sub B hD hS
  have hr := va_runI (e := e) (below := below) (meth := meth) (locs := locs) ⟨B.hx, B.hb, B.hml, B.hown, B.hts⟩ (hC.met H.size) (cwI n B.hts hG hw hrc hrs (B.hts _ hini) (B.hts _ hlk) (B.hts _ hin) hy1 hd hR) ⟨q_P.blind, fun U hU hW => q_pre B hP hD hS hU hW⟩ (g := F0 m pc ls st0) rfl hn hls hst (lv_room hcat) hdg hf
  intro T hT X
  obtain ⟨v, st₀, t, T', L, h0, X', hL, e1, e2, ⟨⟨v9, u, hv, hp, hPn, hDn⟩, hF⟩, st⟩ := hr T hT X
  cases hv
  obtain ⟨k1, k2, k3⟩ := vx_keep h0 e1 hS (fun q _ h => hs q h) hs hL hF
  obtain ⟨t2, a1, b1⟩ := kk v u T'.heap (locs ++ L) hp (by rw [e1]; exact hPn) (hDn.weaken fun _ _ _ h => hs _ h) k3 T' rfl X'
  exact ⟨t2, st t2 a1, b1⟩
/-- a reference into a row of papers -/
theorem q_aast (B : q_B p l s m args meth c D cI cZ cP A cc nL own Ts) (hP : va_P D vwCl w H) (hD : va_D A w) (hS : va_S A s.heap H locs) (q0 qk : Nat) {a n j v : Nat} {i : Int32} {g : Nat → Option Nat} {vs : List Value} (ha : w[q0]? = some (a, .inl (cP, n, .inr (.inr (.inr (.inr g)))))) (hv : w[qk]? = some (v, .inr (2, vs))) (hi : i = nI j) (hj : j < n) (hn : n < 2 ^ 31) (hdg : decode cc pc = .ok (.aastore, 1)) {w' : va_W} (hw : w.set q0 (a, .inl (cP, n, .inr (.inr (.inr (.inr (va_up g j (some v))))))) = w')
    (kk : ∀ (H1 : Heap) (locs1 : List Loc), va_P D vwCl w' H1 → va_D A w' → va_S A s.heap H1 locs1 → W p l e R s m args below meth c H1 locs1 cells slots Q (F0 m (pc + 1) ls rest)) : W p l e R s m args below meth c H locs cells slots Q (F0 m pc ls (.ref v :: .int i :: .ref a :: rest)) := by
  subst hi
  refine va_astq B.hx B.hb B.hK hP hD hS q0 2 qk 2 (r := (RX2, TX2, 9)) ha rfl hv rfl (vp_in_nI hj hn) hdg ?_
  rw [nI_clamp (Nat.lt_trans hj hn), hw]
  exact kk
end QN
/-- addresses, by a list -/
def adr (l : List Nat) (k : Nat) : Nat := l.getD k 0
/-- the first i places -1 -/
def mf (i : Nat) : Nat → Int32 := fun j => if j < i then -1 else 0
theorem mf_0 : mf 0 = fun _ => 0 := by funext j; simp [mf]
theorem mf_s (i : Nat) : upd (mf i) i (-1) = mf (i + 1) := by
  funext j
  by_cases h : j = i
  · subst h; simp [upd, mf]
  · simp only [upd, mf, if_neg h]
    by_cases h2 : j < i
    · rw [if_pos h2, if_pos (by omega)]
    · rw [if_neg h2, if_neg (by omega)]
theorem q_sw (k c d p : va_W) : ((k ++ c) ++ (d ++ p)).Perm (d ++ (p ++ (k ++ c))) := by
  refine List.perm_append_comm.trans ?_
  rw [List.append_assoc]
end
section
/-! The constructors. -/
set_option maxHeartbeats 4000000 in
set_option maxRecDepth 100000 in
theorem c0_init (l : Launch) (D : va_G) (cI cZ cP : ClassId) (h : Nat) : q_C l yX0_init wsX0_init ({ frames := 1, cells := 3, slots := 90, locals := 12 }) D cI cZ cP [.ref h] [(h, .inr (0, [.null, .null, .null, .int 0]))] (S := Nat → Nat) (fun v a => v = none ∧ a 5 = h) (fun b => cw cI b (fun _ => 0) (fun _ _ => 0)) (fun _ => False) 3 90 := by
  refine q_of (cc := cX0_init) (maxL := 1) (ret := none) (by decide +kernel) rfl (Nat.le_of_ble_eq_true rfl) ?_
  intro p e s m below meth c A ls B hr htb hmn hP hD hS hl
  have hl : lv_has ls 1 [(0, .ref (h))] := hl
  have hi0 : ∀ w ∈ u_ws RX0 TX0 4, w ∈ wsX0_init := by decide +kernel
  refine lv_aload_n B.hx B.hb dX0_init_0 rfl (lv_at hl 0 rfl) ?_
  refine q_objI B (by decide +kernel) (by decide +kernel) (by decide +kernel) hl.1 dX0_init_1 ⟨(Nat.le_of_ble_eq_true rfl), (Nat.le_of_ble_eq_true rfl)⟩ ?_
  refine lv_aload_n B.hx B.hb dX0_init_4 rfl (lv_at hl 0 rfl) ?_
  refine lv_bipush (v := (nI 30)) B.hx B.hb dX0_init_5 (by decide) ?_
  refine q_newI B hP hD hS (by decide +kernel) (N := 30) (by decide) rfl (Nat.le_of_ble_eq_true rfl) (Nat.le_of_ble_eq_true rfl) (Nat.le_of_ble_eq_true rfl) dX0_init_7 (fun q1 H hP hD hS => ?_)
  have hP : va_P D vwCl [(h, .inr (0, [.null, .null, .null, .int 0])), (q1, .inl (cI, 30, .inl (fun _ => 0)))] H := hP
  have hD : va_D A [(h, .inr (0, [.null, .null, .null, .int 0])), (q1, .inl (cI, 30, .inl (fun _ => 0)))] := hD
  refine q_putF B hP hD hS hmn (C := RX0) (ref := "PaperKeeper$Copies") (T := TX0) (N := 4) (ci := 0) hi0 rfl tyX0 tyX0_ok nmX0 0 rfl 0 (by decide) (by decide +kernel) rfl rfl rfl rfl (by rfl) (Nat.le_of_ble_eq_true rfl) dX0_init_9 (w' := [(h, .inr (0, [.ref (q1), .null, .null, .int 0])), (q1, .inl (cI, 30, .inl (fun _ => 0)))]) rfl (fun H locs hP hD hS => ?_)
  refine lv_aload_n B.hx B.hb dX0_init_12 rfl (lv_at hl 0 rfl) ?_
  refine lv_bipush (v := (nI 30)) B.hx B.hb dX0_init_13 (by decide) ?_
  refine q_newI B hP hD hS (by decide +kernel) (N := 30) (by decide) rfl (Nat.le_of_ble_eq_true rfl) (Nat.le_of_ble_eq_true rfl) (Nat.le_of_ble_eq_true rfl) dX0_init_15 (fun q2 H hP hD hS => ?_)
  have hP : va_P D vwCl [(h, .inr (0, [.ref (q1), .null, .null, .int 0])), (q1, .inl (cI, 30, .inl (fun _ => 0))), (q2, .inl (cI, 30, .inl (fun _ => 0)))] H := hP
  have hD : va_D A [(h, .inr (0, [.ref (q1), .null, .null, .int 0])), (q1, .inl (cI, 30, .inl (fun _ => 0))), (q2, .inl (cI, 30, .inl (fun _ => 0)))] := hD
  refine q_putF B hP hD hS hmn (C := RX0) (ref := "PaperKeeper$Copies") (T := TX0) (N := 4) (ci := 0) hi0 rfl tyX0 tyX0_ok nmX0 0 rfl 1 (by decide) (by decide +kernel) rfl rfl rfl rfl (by rfl) (Nat.le_of_ble_eq_true rfl) dX0_init_17 (w' := [(h, .inr (0, [.ref (q1), .ref (q2), .null, .int 0])), (q1, .inl (cI, 30, .inl (fun _ => 0))), (q2, .inl (cI, 30, .inl (fun _ => 0)))]) rfl (fun H locs hP hD hS => ?_)
  refine lv_aload_n B.hx B.hb dX0_init_20 rfl (lv_at hl 0 rfl) ?_
  refine lv_bipush (v := (nI 30)) B.hx B.hb dX0_init_21 (by decide) ?_
  refine q_newI B hP hD hS (by decide +kernel) (N := 30) (by decide) rfl (Nat.le_of_ble_eq_true rfl) (Nat.le_of_ble_eq_true rfl) (Nat.le_of_ble_eq_true rfl) dX0_init_23 (fun q3 H hP hD hS => ?_)
  have hP : va_P D vwCl [(h, .inr (0, [.ref (q1), .ref (q2), .null, .int 0])), (q1, .inl (cI, 30, .inl (fun _ => 0))), (q2, .inl (cI, 30, .inl (fun _ => 0))), (q3, .inl (cI, 30, .inl (fun _ => 0)))] H := hP
  have hD : va_D A [(h, .inr (0, [.ref (q1), .ref (q2), .null, .int 0])), (q1, .inl (cI, 30, .inl (fun _ => 0))), (q2, .inl (cI, 30, .inl (fun _ => 0))), (q3, .inl (cI, 30, .inl (fun _ => 0)))] := hD
  refine q_putF B hP hD hS hmn (C := RX0) (ref := "PaperKeeper$Copies") (T := TX0) (N := 4) (ci := 0) hi0 rfl tyX0 tyX0_ok nmX0 0 rfl 2 (by decide) (by decide +kernel) rfl rfl rfl rfl (by rfl) (Nat.le_of_ble_eq_true rfl) dX0_init_25 (w' := [(h, .inr (0, [.ref (q1), .ref (q2), .ref (q3), .int 0])), (q1, .inl (cI, 30, .inl (fun _ => 0))), (q2, .inl (cI, 30, .inl (fun _ => 0))), (q3, .inl (cI, 30, .inl (fun _ => 0)))]) rfl (fun H locs hP hD hS => ?_)
  exact q_vret B hr hP hD hS (u := adr [0, 0, 0, 0, 0, h, q1, q2, q3]) rfl ⟨rfl, rfl⟩ (Nat.le_of_ble_eq_true rfl) (Nat.le_of_ble_eq_true rfl) dX0_init_28
set_option maxHeartbeats 4000000 in
set_option maxRecDepth 100000 in
theorem c1_init (l : Launch) (D : va_G) (cI cZ cP : ClassId) (h : Nat) : q_C l yX1_init wsX1_init ({ frames := 1, cells := 5, slots := 26, locals := 12 }) D cI cZ cP [.ref h] [(h, .inr (1, [.null, .null, .null, .null, .null, .int 0, .int 0, .int 0, .int 0, .int 0, .int 0, .int 0]))] (S := Nat → Nat) (fun v a => v = none ∧ a 2 = h) (fun a => dw cI cZ a (fun _ => 0) (fun _ _ => 0)) (fun _ => False) 5 26 := by
  refine q_of (cc := cX1_init) (maxL := 1) (ret := none) (by decide +kernel) rfl (Nat.le_of_ble_eq_true rfl) ?_
  intro p e s m below meth c A ls B hr htb hmn hP hD hS hl
  have hl : lv_has ls 1 [(0, .ref (h))] := hl
  have hi1 : ∀ w ∈ u_ws RX1 TX1 12, w ∈ wsX1_init := by decide +kernel
  refine lv_aload_n B.hx B.hb dX1_init_0 rfl (lv_at hl 0 rfl) ?_
  refine q_objI B (by decide +kernel) (by decide +kernel) (by decide +kernel) hl.1 dX1_init_1 ⟨(Nat.le_of_ble_eq_true rfl), (Nat.le_of_ble_eq_true rfl)⟩ ?_
  refine lv_aload_n B.hx B.hb dX1_init_4 rfl (lv_at hl 0 rfl) ?_
  refine lv_iconst (v := (nI 4)) B.hx B.hb dX1_init_5 (by decide) ?_
  refine q_newI B hP hD hS (by decide +kernel) (N := 4) (by decide) rfl (Nat.le_of_ble_eq_true rfl) (Nat.le_of_ble_eq_true rfl) (Nat.le_of_ble_eq_true rfl) dX1_init_6 (fun q1 H hP hD hS => ?_)
  have hP : va_P D vwCl [(h, .inr (1, [.null, .null, .null, .null, .null, .int 0, .int 0, .int 0, .int 0, .int 0, .int 0, .int 0])), (q1, .inl (cI, 4, .inl (fun _ => 0)))] H := hP
  have hD : va_D A [(h, .inr (1, [.null, .null, .null, .null, .null, .int 0, .int 0, .int 0, .int 0, .int 0, .int 0, .int 0])), (q1, .inl (cI, 4, .inl (fun _ => 0)))] := hD
  refine q_putF B hP hD hS hmn (C := RX1) (ref := "PaperKeeper$Draft") (T := TX1) (N := 12) (ci := 1) hi1 rfl tyX1 tyX1_ok nmX1 0 rfl 0 (by decide) (by decide +kernel) rfl rfl rfl rfl (by rfl) (Nat.le_of_ble_eq_true rfl) dX1_init_8 (w' := [(h, .inr (1, [.ref (q1), .null, .null, .null, .null, .int 0, .int 0, .int 0, .int 0, .int 0, .int 0, .int 0])), (q1, .inl (cI, 4, .inl (fun _ => 0)))]) rfl (fun H locs hP hD hS => ?_)
  refine lv_aload_n B.hx B.hb dX1_init_11 rfl (lv_at hl 0 rfl) ?_
  refine lv_bipush (v := (nI 6)) B.hx B.hb dX1_init_12 (by decide) ?_
  refine q_newZ B hP hD hS (by decide +kernel) (N := 6) (by decide) rfl (Nat.le_of_ble_eq_true rfl) (Nat.le_of_ble_eq_true rfl) (Nat.le_of_ble_eq_true rfl) dX1_init_14 (fun q2 H hP hD hS => ?_)
  have hP : va_P D vwCl [(h, .inr (1, [.ref (q1), .null, .null, .null, .null, .int 0, .int 0, .int 0, .int 0, .int 0, .int 0, .int 0])), (q1, .inl (cI, 4, .inl (fun _ => 0))), (q2, .inl (cZ, 6, .inl (fun _ => 0)))] H := hP
  have hD : va_D A [(h, .inr (1, [.ref (q1), .null, .null, .null, .null, .int 0, .int 0, .int 0, .int 0, .int 0, .int 0, .int 0])), (q1, .inl (cI, 4, .inl (fun _ => 0))), (q2, .inl (cZ, 6, .inl (fun _ => 0)))] := hD
  refine q_putF B hP hD hS hmn (C := RX1) (ref := "PaperKeeper$Draft") (T := TX1) (N := 12) (ci := 1) hi1 rfl tyX1 tyX1_ok nmX1 0 rfl 1 (by decide) (by decide +kernel) rfl rfl rfl rfl (by rfl) (Nat.le_of_ble_eq_true rfl) dX1_init_16 (w' := [(h, .inr (1, [.ref (q1), .ref (q2), .null, .null, .null, .int 0, .int 0, .int 0, .int 0, .int 0, .int 0, .int 0])), (q1, .inl (cI, 4, .inl (fun _ => 0))), (q2, .inl (cZ, 6, .inl (fun _ => 0)))]) rfl (fun H locs hP hD hS => ?_)
  refine lv_aload_n B.hx B.hb dX1_init_19 rfl (lv_at hl 0 rfl) ?_
  refine lv_iconst (v := (nI 4)) B.hx B.hb dX1_init_20 (by decide) ?_
  refine q_newZ B hP hD hS (by decide +kernel) (N := 4) (by decide) rfl (Nat.le_of_ble_eq_true rfl) (Nat.le_of_ble_eq_true rfl) (Nat.le_of_ble_eq_true rfl) dX1_init_21 (fun q3 H hP hD hS => ?_)
  have hP : va_P D vwCl [(h, .inr (1, [.ref (q1), .ref (q2), .null, .null, .null, .int 0, .int 0, .int 0, .int 0, .int 0, .int 0, .int 0])), (q1, .inl (cI, 4, .inl (fun _ => 0))), (q2, .inl (cZ, 6, .inl (fun _ => 0))), (q3, .inl (cZ, 4, .inl (fun _ => 0)))] H := hP
  have hD : va_D A [(h, .inr (1, [.ref (q1), .ref (q2), .null, .null, .null, .int 0, .int 0, .int 0, .int 0, .int 0, .int 0, .int 0])), (q1, .inl (cI, 4, .inl (fun _ => 0))), (q2, .inl (cZ, 6, .inl (fun _ => 0))), (q3, .inl (cZ, 4, .inl (fun _ => 0)))] := hD
  refine q_putF B hP hD hS hmn (C := RX1) (ref := "PaperKeeper$Draft") (T := TX1) (N := 12) (ci := 1) hi1 rfl tyX1 tyX1_ok nmX1 0 rfl 2 (by decide) (by decide +kernel) rfl rfl rfl rfl (by rfl) (Nat.le_of_ble_eq_true rfl) dX1_init_23 (w' := [(h, .inr (1, [.ref (q1), .ref (q2), .ref (q3), .null, .null, .int 0, .int 0, .int 0, .int 0, .int 0, .int 0, .int 0])), (q1, .inl (cI, 4, .inl (fun _ => 0))), (q2, .inl (cZ, 6, .inl (fun _ => 0))), (q3, .inl (cZ, 4, .inl (fun _ => 0)))]) rfl (fun H locs hP hD hS => ?_)
  refine lv_aload_n B.hx B.hb dX1_init_26 rfl (lv_at hl 0 rfl) ?_
  refine lv_bipush (v := (nI 6)) B.hx B.hb dX1_init_27 (by decide) ?_
  refine q_newZ B hP hD hS (by decide +kernel) (N := 6) (by decide) rfl (Nat.le_of_ble_eq_true rfl) (Nat.le_of_ble_eq_true rfl) (Nat.le_of_ble_eq_true rfl) dX1_init_29 (fun q4 H hP hD hS => ?_)
  have hP : va_P D vwCl [(h, .inr (1, [.ref (q1), .ref (q2), .ref (q3), .null, .null, .int 0, .int 0, .int 0, .int 0, .int 0, .int 0, .int 0])), (q1, .inl (cI, 4, .inl (fun _ => 0))), (q2, .inl (cZ, 6, .inl (fun _ => 0))), (q3, .inl (cZ, 4, .inl (fun _ => 0))), (q4, .inl (cZ, 6, .inl (fun _ => 0)))] H := hP
  have hD : va_D A [(h, .inr (1, [.ref (q1), .ref (q2), .ref (q3), .null, .null, .int 0, .int 0, .int 0, .int 0, .int 0, .int 0, .int 0])), (q1, .inl (cI, 4, .inl (fun _ => 0))), (q2, .inl (cZ, 6, .inl (fun _ => 0))), (q3, .inl (cZ, 4, .inl (fun _ => 0))), (q4, .inl (cZ, 6, .inl (fun _ => 0)))] := hD
  refine q_putF B hP hD hS hmn (C := RX1) (ref := "PaperKeeper$Draft") (T := TX1) (N := 12) (ci := 1) hi1 rfl tyX1 tyX1_ok nmX1 0 rfl 3 (by decide) (by decide +kernel) rfl rfl rfl rfl (by rfl) (Nat.le_of_ble_eq_true rfl) dX1_init_31 (w' := [(h, .inr (1, [.ref (q1), .ref (q2), .ref (q3), .ref (q4), .null, .int 0, .int 0, .int 0, .int 0, .int 0, .int 0, .int 0])), (q1, .inl (cI, 4, .inl (fun _ => 0))), (q2, .inl (cZ, 6, .inl (fun _ => 0))), (q3, .inl (cZ, 4, .inl (fun _ => 0))), (q4, .inl (cZ, 6, .inl (fun _ => 0)))]) rfl (fun H locs hP hD hS => ?_)
  refine lv_aload_n B.hx B.hb dX1_init_34 rfl (lv_at hl 0 rfl) ?_
  refine lv_bipush (v := (nI 6)) B.hx B.hb dX1_init_35 (by decide) ?_
  refine q_newZ B hP hD hS (by decide +kernel) (N := 6) (by decide) rfl (Nat.le_of_ble_eq_true rfl) (Nat.le_of_ble_eq_true rfl) (Nat.le_of_ble_eq_true rfl) dX1_init_37 (fun q5 H hP hD hS => ?_)
  have hP : va_P D vwCl [(h, .inr (1, [.ref (q1), .ref (q2), .ref (q3), .ref (q4), .null, .int 0, .int 0, .int 0, .int 0, .int 0, .int 0, .int 0])), (q1, .inl (cI, 4, .inl (fun _ => 0))), (q2, .inl (cZ, 6, .inl (fun _ => 0))), (q3, .inl (cZ, 4, .inl (fun _ => 0))), (q4, .inl (cZ, 6, .inl (fun _ => 0))), (q5, .inl (cZ, 6, .inl (fun _ => 0)))] H := hP
  have hD : va_D A [(h, .inr (1, [.ref (q1), .ref (q2), .ref (q3), .ref (q4), .null, .int 0, .int 0, .int 0, .int 0, .int 0, .int 0, .int 0])), (q1, .inl (cI, 4, .inl (fun _ => 0))), (q2, .inl (cZ, 6, .inl (fun _ => 0))), (q3, .inl (cZ, 4, .inl (fun _ => 0))), (q4, .inl (cZ, 6, .inl (fun _ => 0))), (q5, .inl (cZ, 6, .inl (fun _ => 0)))] := hD
  refine q_putF B hP hD hS hmn (C := RX1) (ref := "PaperKeeper$Draft") (T := TX1) (N := 12) (ci := 1) hi1 rfl tyX1 tyX1_ok nmX1 0 rfl 4 (by decide) (by decide +kernel) rfl rfl rfl rfl (by rfl) (Nat.le_of_ble_eq_true rfl) dX1_init_39 (w' := [(h, .inr (1, [.ref (q1), .ref (q2), .ref (q3), .ref (q4), .ref (q5), .int 0, .int 0, .int 0, .int 0, .int 0, .int 0, .int 0])), (q1, .inl (cI, 4, .inl (fun _ => 0))), (q2, .inl (cZ, 6, .inl (fun _ => 0))), (q3, .inl (cZ, 4, .inl (fun _ => 0))), (q4, .inl (cZ, 6, .inl (fun _ => 0))), (q5, .inl (cZ, 6, .inl (fun _ => 0)))]) rfl (fun H locs hP hD hS => ?_)
  exact q_vret B hr hP hD hS (u := adr [0, 0, h, q1, q2, q3, q4, q5]) rfl ⟨rfl, rfl⟩ (Nat.le_of_ble_eq_true rfl) (Nat.le_of_ble_eq_true rfl) dX1_init_42
set_option maxHeartbeats 4000000 in
set_option maxRecDepth 100000 in
theorem c2_init (l : Launch) (D : va_G) (cI cZ cP : ClassId) (h : Nat) (x : Int32) (hx : x = 0 ∨ x = 1) : q_C l yX2_init wsX2_init ({ frames := 2, cells := 9, slots := 302, locals := 32 }) D cI cZ cP [.ref h, .int x] [(h, .inr (2, [.int 0, .null, .null, .null, .null, .int 0, .int 0, .int 0, .int 0]))] (S := Nat → Nat) (fun v a => v = none ∧ a 0 = h) (fun a => dw cI cZ a (va_up (fun _ => 0) 0 x) (fun _ _ => 0) ++ ppw cI cZ a (va_up (fun _ => 0) 0 x) (fun _ _ => 0)) (fun _ => False) 9 302 := by
  refine q_of (cc := cX2_init) (maxL := 2) (ret := none) (by decide +kernel) rfl (Nat.le_of_ble_eq_true rfl) ?_
  intro p e s m below meth c A ls B hr htb hmn hP hD hS hl
  have hl : lv_has ls 2 [(0, .ref (h)), (1, .int x)] := hl
  have hi1 : ∀ w ∈ u_ws RX1 TX1 12, w ∈ wsX2_init := by decide +kernel
  have hi2 : ∀ w ∈ u_ws RX2 TX2 9, w ∈ wsX2_init := by decide +kernel
  refine lv_aload_n B.hx B.hb dX2_init_0 rfl (lv_at hl 0 rfl) ?_
  refine q_objI B (by decide +kernel) (by decide +kernel) (by decide +kernel) hl.1 dX2_init_1 ⟨(Nat.le_of_ble_eq_true rfl), (Nat.le_of_ble_eq_true rfl)⟩ ?_
  refine lv_aload_n B.hx B.hb dX2_init_4 rfl (lv_at hl 0 rfl) ?_
  refine lv_iload_n B.hx B.hb dX2_init_5 rfl (lv_at hl 1 rfl) ?_
  refine q_putF B hP hD hS hmn (C := RX2) (ref := "PaperKeeper$Paper") (T := TX2) (N := 9) (ci := 2) hi2 rfl tyX2 tyX2_ok nmX2 0 rfl 0 (by decide) (by decide +kernel) rfl rfl rfl (by rcases hx with rfl | rfl <;> rfl) (by rcases hx with rfl | rfl <;> rfl) (Nat.le_of_ble_eq_true rfl) dX2_init_6 (w' := [(h, .inr (2, [.int x, .null, .null, .null, .null, .int 0, .int 0, .int 0, .int 0]))]) rfl (fun H locs hP hD hS => ?_)
  refine lv_aload_n B.hx B.hb dX2_init_9 rfl (lv_at hl 0 rfl) ?_
  refine lv_bipush (v := (nI 8)) B.hx B.hb dX2_init_10 (by decide) ?_
  refine q_newZ B hP hD hS (by decide +kernel) (N := 8) (by decide) rfl (Nat.le_of_ble_eq_true rfl) (Nat.le_of_ble_eq_true rfl) (Nat.le_of_ble_eq_true rfl) dX2_init_12 (fun q1 H hP hD hS => ?_)
  have hP : va_P D vwCl [(h, .inr (2, [.int x, .null, .null, .null, .null, .int 0, .int 0, .int 0, .int 0])), (q1, .inl (cZ, 8, .inl (fun _ => 0)))] H := hP
  have hD : va_D A [(h, .inr (2, [.int x, .null, .null, .null, .null, .int 0, .int 0, .int 0, .int 0])), (q1, .inl (cZ, 8, .inl (fun _ => 0)))] := hD
  refine q_putF B hP hD hS hmn (C := RX2) (ref := "PaperKeeper$Paper") (T := TX2) (N := 9) (ci := 2) hi2 rfl tyX2 tyX2_ok nmX2 0 rfl 1 (by decide) (by decide +kernel) rfl rfl rfl rfl (by rfl) (Nat.le_of_ble_eq_true rfl) dX2_init_14 (w' := [(h, .inr (2, [.int x, .ref (q1), .null, .null, .null, .int 0, .int 0, .int 0, .int 0])), (q1, .inl (cZ, 8, .inl (fun _ => 0)))]) rfl (fun H locs hP hD hS => ?_)
  refine lv_aload_n B.hx B.hb dX2_init_17 rfl (lv_at hl 0 rfl) ?_
  refine q_new B hP hD hS (C := RX1) (T := TX1) (N := 12) (ci := 1) (fs := [.null, .null, .null, .null, .null, .int 0, .int 0, .int 0, .int 0, .int 0, .int 0, .int 0]) hi1 tyX1 tyX1_ok (by decide +kernel) (by decide +kernel) (by decide +kernel) rfl (fun j hj => by rcases (show j = 0 ∨ j = 1 ∨ j = 2 ∨ j = 3 ∨ j = 4 ∨ j = 5 ∨ j = 6 ∨ j = 7 ∨ j = 8 ∨ j = 9 ∨ j = 10 ∨ j = 11 by omega) with rfl | rfl | rfl | rfl | rfl | rfl | rfl | rfl | rfl | rfl | rfl | rfl <;> rfl) (Nat.le_of_ble_eq_true rfl) (Nat.le_of_ble_eq_true rfl) dX2_init_18 (fun q2 H hP hD hS => ?_)
  have hP : va_P D vwCl [(h, .inr (2, [.int x, .ref (q1), .null, .null, .null, .int 0, .int 0, .int 0, .int 0])), (q1, .inl (cZ, 8, .inl (fun _ => 0))), (q2, .inr (1, [.null, .null, .null, .null, .null, .int 0, .int 0, .int 0, .int 0, .int 0, .int 0, .int 0]))] H := hP
  have hD : va_D A [(h, .inr (2, [.int x, .ref (q1), .null, .null, .null, .int 0, .int 0, .int 0, .int 0])), (q1, .inl (cZ, 8, .inl (fun _ => 0))), (q2, .inr (1, [.null, .null, .null, .null, .null, .int 0, .int 0, .int 0, .int 0, .int 0, .int 0, .int 0]))] := hD
  refine lv_dup B.hx B.hb dX2_init_21 rfl ?_
  refine q_callI (As := []) (rest := [.ref (q2), .ref (h)]) B hP hD hS ((c1_init l D cI cZ cP q2).fl [(h, .inr (2, [.int x, .ref (q1), .null, .null, .null, .int 0, .int 0, .int 0, .int 0])), (q1, .inl (cZ, 8, .inl (fun _ => 0)))]) ggX2_init_X1_init rfl rfl rfl (by decide +kernel) (by decide +kernel) (by decide +kernel) rfl (by decide +kernel) ⟨(Nat.le_of_ble_eq_true rfl), (Nat.le_of_ble_eq_true rfl)⟩ rfl hl.1 rfl (Nat.le_of_ble_eq_true rfl) dX2_init_22 ⟨(Nat.le_of_ble_eq_true rfl), (Nat.le_of_ble_eq_true rfl)⟩ (fun v u H locs hp hP hD hS => ?_)
  obtain ⟨rfl, hu⟩ := hp
  obtain ⟨v3, hv3⟩ : ∃ z, z = u 3 := ⟨_, rfl⟩
  obtain ⟨v4, hv4⟩ : ∃ z, z = u 4 := ⟨_, rfl⟩
  obtain ⟨v5, hv5⟩ : ∃ z, z = u 5 := ⟨_, rfl⟩
  obtain ⟨v6, hv6⟩ : ∃ z, z = u 6 := ⟨_, rfl⟩
  obtain ⟨v7, hv7⟩ : ∃ z, z = u 7 := ⟨_, rfl⟩
  simp only [dw] at hP hD
  rw [hu, ← hv3, ← hv4, ← hv5, ← hv6, ← hv7] at hP hD
  have hP : va_P D vwCl [(h, .inr (2, [.int x, .ref (q1), .null, .null, .null, .int 0, .int 0, .int 0, .int 0])), (q1, .inl (cZ, 8, .inl (fun _ => 0))), (q2, .inr (1, [.ref (v3), .ref (v4), .ref (v5), .ref (v6), .ref (v7), .int 0, .int 0, .int 0, .int 0, .int 0, .int 0, .int 0])), (v3, .inl (cI, 4, .inl (fun _ => 0))), (v4, .inl (cZ, 6, .inl (fun _ => 0))), (v5, .inl (cZ, 4, .inl (fun _ => 0))), (v6, .inl (cZ, 6, .inl (fun _ => 0))), (v7, .inl (cZ, 6, .inl (fun _ => 0)))] H := hP
  have hD : va_D A [(h, .inr (2, [.int x, .ref (q1), .null, .null, .null, .int 0, .int 0, .int 0, .int 0])), (q1, .inl (cZ, 8, .inl (fun _ => 0))), (q2, .inr (1, [.ref (v3), .ref (v4), .ref (v5), .ref (v6), .ref (v7), .int 0, .int 0, .int 0, .int 0, .int 0, .int 0, .int 0])), (v3, .inl (cI, 4, .inl (fun _ => 0))), (v4, .inl (cZ, 6, .inl (fun _ => 0))), (v5, .inl (cZ, 4, .inl (fun _ => 0))), (v6, .inl (cZ, 6, .inl (fun _ => 0))), (v7, .inl (cZ, 6, .inl (fun _ => 0)))] := hD
  refine q_putF B hP hD hS hmn (C := RX2) (ref := "PaperKeeper$Paper") (T := TX2) (N := 9) (ci := 2) hi2 rfl tyX2 tyX2_ok nmX2 0 rfl 2 (by decide) (by decide +kernel) rfl rfl rfl rfl (by rfl) (Nat.le_of_ble_eq_true rfl) dX2_init_25 (w' := [(h, .inr (2, [.int x, .ref (q1), .ref (q2), .null, .null, .int 0, .int 0, .int 0, .int 0])), (q1, .inl (cZ, 8, .inl (fun _ => 0))), (q2, .inr (1, [.ref (v3), .ref (v4), .ref (v5), .ref (v6), .ref (v7), .int 0, .int 0, .int 0, .int 0, .int 0, .int 0, .int 0])), (v3, .inl (cI, 4, .inl (fun _ => 0))), (v4, .inl (cZ, 6, .inl (fun _ => 0))), (v5, .inl (cZ, 4, .inl (fun _ => 0))), (v6, .inl (cZ, 6, .inl (fun _ => 0))), (v7, .inl (cZ, 6, .inl (fun _ => 0)))]) rfl (fun H locs hP hD hS => ?_)
  refine lv_aload_n B.hx B.hb dX2_init_28 rfl (lv_at hl 0 rfl) ?_
  refine lv_sipush (v := (nI 128)) B.hx B.hb dX2_init_29 (by decide) ?_
  refine q_newI B hP hD hS (by decide +kernel) (N := 128) (by decide) rfl (Nat.le_of_ble_eq_true rfl) (Nat.le_of_ble_eq_true rfl) (Nat.le_of_ble_eq_true rfl) dX2_init_32 (fun q3 H hP hD hS => ?_)
  have hP : va_P D vwCl [(h, .inr (2, [.int x, .ref (q1), .ref (q2), .null, .null, .int 0, .int 0, .int 0, .int 0])), (q1, .inl (cZ, 8, .inl (fun _ => 0))), (q2, .inr (1, [.ref (v3), .ref (v4), .ref (v5), .ref (v6), .ref (v7), .int 0, .int 0, .int 0, .int 0, .int 0, .int 0, .int 0])), (v3, .inl (cI, 4, .inl (fun _ => 0))), (v4, .inl (cZ, 6, .inl (fun _ => 0))), (v5, .inl (cZ, 4, .inl (fun _ => 0))), (v6, .inl (cZ, 6, .inl (fun _ => 0))), (v7, .inl (cZ, 6, .inl (fun _ => 0))), (q3, .inl (cI, 128, .inl (fun _ => 0)))] H := hP
  have hD : va_D A [(h, .inr (2, [.int x, .ref (q1), .ref (q2), .null, .null, .int 0, .int 0, .int 0, .int 0])), (q1, .inl (cZ, 8, .inl (fun _ => 0))), (q2, .inr (1, [.ref (v3), .ref (v4), .ref (v5), .ref (v6), .ref (v7), .int 0, .int 0, .int 0, .int 0, .int 0, .int 0, .int 0])), (v3, .inl (cI, 4, .inl (fun _ => 0))), (v4, .inl (cZ, 6, .inl (fun _ => 0))), (v5, .inl (cZ, 4, .inl (fun _ => 0))), (v6, .inl (cZ, 6, .inl (fun _ => 0))), (v7, .inl (cZ, 6, .inl (fun _ => 0))), (q3, .inl (cI, 128, .inl (fun _ => 0)))] := hD
  refine q_putF B hP hD hS hmn (C := RX2) (ref := "PaperKeeper$Paper") (T := TX2) (N := 9) (ci := 2) hi2 rfl tyX2 tyX2_ok nmX2 0 rfl 3 (by decide) (by decide +kernel) rfl rfl rfl rfl (by rfl) (Nat.le_of_ble_eq_true rfl) dX2_init_34 (w' := [(h, .inr (2, [.int x, .ref (q1), .ref (q2), .ref (q3), .null, .int 0, .int 0, .int 0, .int 0])), (q1, .inl (cZ, 8, .inl (fun _ => 0))), (q2, .inr (1, [.ref (v3), .ref (v4), .ref (v5), .ref (v6), .ref (v7), .int 0, .int 0, .int 0, .int 0, .int 0, .int 0, .int 0])), (v3, .inl (cI, 4, .inl (fun _ => 0))), (v4, .inl (cZ, 6, .inl (fun _ => 0))), (v5, .inl (cZ, 4, .inl (fun _ => 0))), (v6, .inl (cZ, 6, .inl (fun _ => 0))), (v7, .inl (cZ, 6, .inl (fun _ => 0))), (q3, .inl (cI, 128, .inl (fun _ => 0)))]) rfl (fun H locs hP hD hS => ?_)
  refine lv_aload_n B.hx B.hb dX2_init_37 rfl (lv_at hl 0 rfl) ?_
  refine lv_sipush (v := (nI 128)) B.hx B.hb dX2_init_38 (by decide) ?_
  refine q_newI B hP hD hS (by decide +kernel) (N := 128) (by decide) rfl (Nat.le_of_ble_eq_true rfl) (Nat.le_of_ble_eq_true rfl) (Nat.le_of_ble_eq_true rfl) dX2_init_41 (fun q4 H hP hD hS => ?_)
  have hP : va_P D vwCl [(h, .inr (2, [.int x, .ref (q1), .ref (q2), .ref (q3), .null, .int 0, .int 0, .int 0, .int 0])), (q1, .inl (cZ, 8, .inl (fun _ => 0))), (q2, .inr (1, [.ref (v3), .ref (v4), .ref (v5), .ref (v6), .ref (v7), .int 0, .int 0, .int 0, .int 0, .int 0, .int 0, .int 0])), (v3, .inl (cI, 4, .inl (fun _ => 0))), (v4, .inl (cZ, 6, .inl (fun _ => 0))), (v5, .inl (cZ, 4, .inl (fun _ => 0))), (v6, .inl (cZ, 6, .inl (fun _ => 0))), (v7, .inl (cZ, 6, .inl (fun _ => 0))), (q3, .inl (cI, 128, .inl (fun _ => 0))), (q4, .inl (cI, 128, .inl (fun _ => 0)))] H := hP
  have hD : va_D A [(h, .inr (2, [.int x, .ref (q1), .ref (q2), .ref (q3), .null, .int 0, .int 0, .int 0, .int 0])), (q1, .inl (cZ, 8, .inl (fun _ => 0))), (q2, .inr (1, [.ref (v3), .ref (v4), .ref (v5), .ref (v6), .ref (v7), .int 0, .int 0, .int 0, .int 0, .int 0, .int 0, .int 0])), (v3, .inl (cI, 4, .inl (fun _ => 0))), (v4, .inl (cZ, 6, .inl (fun _ => 0))), (v5, .inl (cZ, 4, .inl (fun _ => 0))), (v6, .inl (cZ, 6, .inl (fun _ => 0))), (v7, .inl (cZ, 6, .inl (fun _ => 0))), (q3, .inl (cI, 128, .inl (fun _ => 0))), (q4, .inl (cI, 128, .inl (fun _ => 0)))] := hD
  refine q_putF B hP hD hS hmn (C := RX2) (ref := "PaperKeeper$Paper") (T := TX2) (N := 9) (ci := 2) hi2 rfl tyX2 tyX2_ok nmX2 0 rfl 4 (by decide) (by decide +kernel) rfl rfl rfl rfl (by rfl) (Nat.le_of_ble_eq_true rfl) dX2_init_43 (w' := [(h, .inr (2, [.int x, .ref (q1), .ref (q2), .ref (q3), .ref (q4), .int 0, .int 0, .int 0, .int 0])), (q1, .inl (cZ, 8, .inl (fun _ => 0))), (q2, .inr (1, [.ref (v3), .ref (v4), .ref (v5), .ref (v6), .ref (v7), .int 0, .int 0, .int 0, .int 0, .int 0, .int 0, .int 0])), (v3, .inl (cI, 4, .inl (fun _ => 0))), (v4, .inl (cZ, 6, .inl (fun _ => 0))), (v5, .inl (cZ, 4, .inl (fun _ => 0))), (v6, .inl (cZ, 6, .inl (fun _ => 0))), (v7, .inl (cZ, 6, .inl (fun _ => 0))), (q3, .inl (cI, 128, .inl (fun _ => 0))), (q4, .inl (cI, 128, .inl (fun _ => 0)))]) rfl (fun H locs hP hD hS => ?_)
  have hP : va_P D vwCl (dw cI cZ (adr [h, q1, q2, v3, v4, v5, v6, v7, q3, q4]) (va_up (fun _ => 0) 0 x) (fun _ _ => 0) ++ ppw cI cZ (adr [h, q1, q2, v3, v4, v5, v6, v7, q3, q4]) (va_up (fun _ => 0) 0 x) (fun _ _ => 0)) H := hP.sub [2, 3, 4, 5, 6, 7, 0, 1, 8, 9] rfl
  have hD : va_D A (dw cI cZ (adr [h, q1, q2, v3, v4, v5, v6, v7, q3, q4]) (va_up (fun _ => 0) 0 x) (fun _ _ => 0) ++ ppw cI cZ (adr [h, q1, q2, v3, v4, v5, v6, v7, q3, q4]) (va_up (fun _ => 0) 0 x) (fun _ _ => 0)) := hD.sub [2, 3, 4, 5, 6, 7, 0, 1, 8, 9] (by decide) rfl
  exact q_vret B hr hP hD hS (u := adr [h, q1, q2, v3, v4, v5, v6, v7, q3, q4]) rfl ⟨rfl, rfl⟩ (Nat.le_of_ble_eq_true rfl) (Nat.le_of_ble_eq_true rfl) dX2_init_46
/-- the keeper's numbers and rows at its start -/
def kI0 : Nat → Int32 := (va_up (fun _ => 0) 6 (nI 30))
def kV0 : Nat → Nat → Int32 := (va_up (fun _ _ => 0) 2 (mf 6))
set_option maxHeartbeats 4000000 in
set_option maxRecDepth 100000 in
theorem c3_init (l : Launch) (D : va_G) (cI cZ cP : ClassId) (h : Nat) : q_C l yX3_init wsX3_init ({ frames := 2, cells := 8, slots := 120, locals := 32 }) D cI cZ cP [.ref h] [(h, .inr (3, [.null, .null, .null, .null, .null, .int 0, .int 0, .int 0]))] (S := Nat → Nat) (fun v b => v = none ∧ b 0 = h) (fun b => kq cI cZ cP b kI0 kV0 (fun _ => none) ++ cw cI b kI0 kV0) (fun _ => False) 8 120 := by
  refine q_of (cc := cX3_init) (maxL := 2) (ret := none) (by decide +kernel) rfl (Nat.le_of_ble_eq_true rfl) ?_
  intro p e s m below meth c A ls B hr htb hmn hP hD hS hl
  have hl : lv_has ls 2 [(0, .ref (h))] := hl
  have hi0 : ∀ w ∈ u_ws RX0 TX0 4, w ∈ wsX3_init := by decide +kernel
  have hi3 : ∀ w ∈ u_ws RX3 TX3 8, w ∈ wsX3_init := by decide +kernel
  refine lv_aload_n B.hx B.hb dX3_init_0 rfl (lv_at hl 0 rfl) ?_
  refine q_objI B (by decide +kernel) (by decide +kernel) (by decide +kernel) hl.1 dX3_init_1 ⟨(Nat.le_of_ble_eq_true rfl), (Nat.le_of_ble_eq_true rfl)⟩ ?_
  refine lv_aload_n B.hx B.hb dX3_init_4 rfl (lv_at hl 0 rfl) ?_
  refine lv_bipush (v := (nI 6)) B.hx B.hb dX3_init_5 (by decide) ?_
  refine q_newZ B hP hD hS (by decide +kernel) (N := 6) (by decide) rfl (Nat.le_of_ble_eq_true rfl) (Nat.le_of_ble_eq_true rfl) (Nat.le_of_ble_eq_true rfl) dX3_init_7 (fun q1 H hP hD hS => ?_)
  have hP : va_P D vwCl [(h, .inr (3, [.null, .null, .null, .null, .null, .int 0, .int 0, .int 0])), (q1, .inl (cZ, 6, .inl (fun _ => 0)))] H := hP
  have hD : va_D A [(h, .inr (3, [.null, .null, .null, .null, .null, .int 0, .int 0, .int 0])), (q1, .inl (cZ, 6, .inl (fun _ => 0)))] := hD
  refine q_putF B hP hD hS hmn (C := RX3) (ref := "PaperKeeper") (T := TX3) (N := 8) (ci := 3) hi3 rfl tyX3 tyX3_ok nmX3 0 rfl 0 (by decide) (by decide +kernel) rfl rfl rfl rfl (by rfl) (Nat.le_of_ble_eq_true rfl) dX3_init_9 (w' := [(h, .inr (3, [.ref (q1), .null, .null, .null, .null, .int 0, .int 0, .int 0])), (q1, .inl (cZ, 6, .inl (fun _ => 0)))]) rfl (fun H locs hP hD hS => ?_)
  refine lv_aload_n B.hx B.hb dX3_init_12 rfl (lv_at hl 0 rfl) ?_
  refine lv_bipush (v := (nI 6)) B.hx B.hb dX3_init_13 (by decide) ?_
  refine q_newZ B hP hD hS (by decide +kernel) (N := 6) (by decide) rfl (Nat.le_of_ble_eq_true rfl) (Nat.le_of_ble_eq_true rfl) (Nat.le_of_ble_eq_true rfl) dX3_init_15 (fun q2 H hP hD hS => ?_)
  have hP : va_P D vwCl [(h, .inr (3, [.ref (q1), .null, .null, .null, .null, .int 0, .int 0, .int 0])), (q1, .inl (cZ, 6, .inl (fun _ => 0))), (q2, .inl (cZ, 6, .inl (fun _ => 0)))] H := hP
  have hD : va_D A [(h, .inr (3, [.ref (q1), .null, .null, .null, .null, .int 0, .int 0, .int 0])), (q1, .inl (cZ, 6, .inl (fun _ => 0))), (q2, .inl (cZ, 6, .inl (fun _ => 0)))] := hD
  refine q_putF B hP hD hS hmn (C := RX3) (ref := "PaperKeeper") (T := TX3) (N := 8) (ci := 3) hi3 rfl tyX3 tyX3_ok nmX3 0 rfl 1 (by decide) (by decide +kernel) rfl rfl rfl rfl (by rfl) (Nat.le_of_ble_eq_true rfl) dX3_init_17 (w' := [(h, .inr (3, [.ref (q1), .ref (q2), .null, .null, .null, .int 0, .int 0, .int 0])), (q1, .inl (cZ, 6, .inl (fun _ => 0))), (q2, .inl (cZ, 6, .inl (fun _ => 0)))]) rfl (fun H locs hP hD hS => ?_)
  refine lv_aload_n B.hx B.hb dX3_init_20 rfl (lv_at hl 0 rfl) ?_
  refine lv_bipush (v := (nI 6)) B.hx B.hb dX3_init_21 (by decide) ?_
  refine q_newI B hP hD hS (by decide +kernel) (N := 6) (by decide) rfl (Nat.le_of_ble_eq_true rfl) (Nat.le_of_ble_eq_true rfl) (Nat.le_of_ble_eq_true rfl) dX3_init_23 (fun q3 H hP hD hS => ?_)
  have hP : va_P D vwCl [(h, .inr (3, [.ref (q1), .ref (q2), .null, .null, .null, .int 0, .int 0, .int 0])), (q1, .inl (cZ, 6, .inl (fun _ => 0))), (q2, .inl (cZ, 6, .inl (fun _ => 0))), (q3, .inl (cI, 6, .inl (fun _ => 0)))] H := hP
  have hD : va_D A [(h, .inr (3, [.ref (q1), .ref (q2), .null, .null, .null, .int 0, .int 0, .int 0])), (q1, .inl (cZ, 6, .inl (fun _ => 0))), (q2, .inl (cZ, 6, .inl (fun _ => 0))), (q3, .inl (cI, 6, .inl (fun _ => 0)))] := hD
  refine q_putF B hP hD hS hmn (C := RX3) (ref := "PaperKeeper") (T := TX3) (N := 8) (ci := 3) hi3 rfl tyX3 tyX3_ok nmX3 0 rfl 2 (by decide) (by decide +kernel) rfl rfl rfl rfl (by rfl) (Nat.le_of_ble_eq_true rfl) dX3_init_25 (w' := [(h, .inr (3, [.ref (q1), .ref (q2), .ref (q3), .null, .null, .int 0, .int 0, .int 0])), (q1, .inl (cZ, 6, .inl (fun _ => 0))), (q2, .inl (cZ, 6, .inl (fun _ => 0))), (q3, .inl (cI, 6, .inl (fun _ => 0)))]) rfl (fun H locs hP hD hS => ?_)
  refine lv_iconst (v := (nI 0)) B.hx B.hb dX3_init_28 (by decide) ?_
  refine lv_istore_n (lv' := [(1, .int (nI 0)), (0, .ref (h))]) B.hx B.hb dX3_init_29 rfl hl (by decide) rfl (fun ls hl => ?_)
  refine q_loopW (nL := 2) (fun i : Nat => i ≤ 6) (fun i : Nat => 6 - i) (fun i : Nat => [(1, .int (nI i)), (0, .ref h)]) (fun i : Nat => [(h, .inr (3, [.ref (q1), .ref (q2), .ref (q3), .null, .null, .int 0, .int 0, .int 0])), (q1, .inl (cZ, 6, .inl (fun _ => 0))), (q2, .inl (cZ, 6, .inl (fun _ => 0))), (q3, .inl (cI, 6, .inl (mf i)))]) 0 (Nat.zero_le _) (lv_sub hl [0, 1] rfl) (show va_P D vwCl [(h, .inr (3, [.ref (q1), .ref (q2), .ref (q3), .null, .null, .int 0, .int 0, .int 0])), (q1, .inl (cZ, 6, .inl (fun _ => 0))), (q2, .inl (cZ, 6, .inl (fun _ => 0))), (q3, .inl (cI, 6, .inl (mf 0)))] _ by rw [mf_0]; exact hP) (show va_D A [(h, .inr (3, [.ref (q1), .ref (q2), .ref (q3), .null, .null, .int 0, .int 0, .int 0])), (q1, .inl (cZ, 6, .inl (fun _ => 0))), (q2, .inl (cZ, 6, .inl (fun _ => 0))), (q3, .inl (cI, 6, .inl (mf 0)))] by rw [mf_0]; exact hD) hS ?_
  intro i hi ih ls H locs hl hP hD hS
  have hi : i ≤ 6 := hi
  have hl : lv_has ls 2 [(1, .int (nI i)), (0, .ref h)] := hl
  have hP : va_P D vwCl [(h, .inr (3, [.ref (q1), .ref (q2), .ref (q3), .null, .null, .int 0, .int 0, .int 0])), (q1, .inl (cZ, 6, .inl (fun _ => 0))), (q2, .inl (cZ, 6, .inl (fun _ => 0))), (q3, .inl (cI, 6, .inl (mf i)))] H := hP
  have hD : va_D A [(h, .inr (3, [.ref (q1), .ref (q2), .ref (q3), .null, .null, .int 0, .int 0, .int 0])), (q1, .inl (cZ, 6, .inl (fun _ => 0))), (q2, .inl (cZ, 6, .inl (fun _ => 0))), (q3, .inl (cI, 6, .inl (mf i)))] := hD
  refine lv_iload_n B.hx B.hb dX3_init_30 rfl (lv_at hl 0 rfl) ?_
  refine lv_bipush (v := (nI 6)) B.hx B.hb dX3_init_31 (by decide) ?_
  refine lv_icmp_ge (tgt := 49) B.hx B.hb dX3_init_33 (by decide) (fun c1 => ?_) (fun c1 => ?_)
  rotate_left
  · replace c1 := mt (nI_leI (by omega) (by omega)).mpr c1
    refine lv_aload_n B.hx B.hb dX3_init_36 rfl (lv_at hl 1 rfl) ?_
    refine q_get B hP (C := RX3) (ref := "PaperKeeper") (T := TX3) (N := 8) (ci := 3) hi3 rfl 0 rfl 2 (by decide) (by decide +kernel) rfl (v := .ref (q3)) rfl dX3_init_37 ?_
    refine lv_iload_n B.hx B.hb dX3_init_40 rfl (lv_at hl 0 rfl) ?_
    refine lv_iconst (v := (-1)) B.hx B.hb dX3_init_41 (by decide) ?_
    refine q_iast B hP hD hS 3 rfl (j := i) rfl (by omega) (by decide) dX3_init_42 (w' := [(h, .inr (3, [.ref (q1), .ref (q2), .ref (q3), .null, .null, .int 0, .int 0, .int 0])), (q1, .inl (cZ, 6, .inl (fun _ => 0))), (q2, .inl (cZ, 6, .inl (fun _ => 0))), (q3, .inl (cI, 6, .inl (mf (i + 1))))]) (by rw [mf_s]; rfl) (fun H locs hP hD hS => ?_)
    refine lv_iinc (v := nI (i + 1)) (lv' := [(1, .int (nI ((i + 1)))), (0, .ref (h))]) B.hx B.hb dX3_init_43 hl (k := 0) rfl (nI_1 _) (by decide) rfl (fun ls hl => ?_)
    refine lv_goto (tgt := 30) B.hx B.hb dX3_init_46 (by decide) ?_
    exact ih (i + 1) (by omega) (by omega) ls H locs (lv_sub hl [0, 1] rfl) hP hD hS
  replace c1 := (nI_leI (by omega) (by omega)).mp c1
  obtain rfl : i = 6 := by omega
  have hP : va_P D vwCl [(h, .inr (3, [.ref (q1), .ref (q2), .ref (q3), .null, .null, .int 0, .int 0, .int 0])), (q1, .inl (cZ, 6, .inl (fun _ => 0))), (q2, .inl (cZ, 6, .inl (fun _ => 0))), (q3, .inl (cI, 6, .inl (mf 6)))] H := hP
  have hD : va_D A [(h, .inr (3, [.ref (q1), .ref (q2), .ref (q3), .null, .null, .int 0, .int 0, .int 0])), (q1, .inl (cZ, 6, .inl (fun _ => 0))), (q2, .inl (cZ, 6, .inl (fun _ => 0))), (q3, .inl (cI, 6, .inl (mf 6)))] := hD
  refine lv_aload_n B.hx B.hb dX3_init_49 rfl (lv_at hl 1 rfl) ?_
  refine lv_bipush (v := (nI 8)) B.hx B.hb dX3_init_50 (by decide) ?_
  refine q_newP B hP hD hS (by decide +kernel) (N := 8) (by decide) rfl (Nat.le_of_ble_eq_true rfl) (Nat.le_of_ble_eq_true rfl) (Nat.le_of_ble_eq_true rfl) dX3_init_52 (fun q4 H hP hD hS => ?_)
  have hP : va_P D vwCl [(h, .inr (3, [.ref (q1), .ref (q2), .ref (q3), .null, .null, .int 0, .int 0, .int 0])), (q1, .inl (cZ, 6, .inl (fun _ => 0))), (q2, .inl (cZ, 6, .inl (fun _ => 0))), (q3, .inl (cI, 6, .inl (mf 6))), (q4, .inl (cP, 8, .inr (.inr (.inr (.inr (fun _ => none))))))] H := hP
  have hD : va_D A [(h, .inr (3, [.ref (q1), .ref (q2), .ref (q3), .null, .null, .int 0, .int 0, .int 0])), (q1, .inl (cZ, 6, .inl (fun _ => 0))), (q2, .inl (cZ, 6, .inl (fun _ => 0))), (q3, .inl (cI, 6, .inl (mf 6))), (q4, .inl (cP, 8, .inr (.inr (.inr (.inr (fun _ => none))))))] := hD
  refine q_putF B hP hD hS hmn (C := RX3) (ref := "PaperKeeper") (T := TX3) (N := 8) (ci := 3) hi3 rfl tyX3 tyX3_ok nmX3 0 rfl 3 (by decide) (by decide +kernel) rfl rfl rfl rfl (by rfl) (Nat.le_of_ble_eq_true rfl) dX3_init_55 (w' := [(h, .inr (3, [.ref (q1), .ref (q2), .ref (q3), .ref (q4), .null, .int 0, .int 0, .int 0])), (q1, .inl (cZ, 6, .inl (fun _ => 0))), (q2, .inl (cZ, 6, .inl (fun _ => 0))), (q3, .inl (cI, 6, .inl (mf 6))), (q4, .inl (cP, 8, .inr (.inr (.inr (.inr (fun _ => none))))))]) rfl (fun H locs hP hD hS => ?_)
  refine lv_aload_n B.hx B.hb dX3_init_58 rfl (lv_at hl 1 rfl) ?_
  refine q_new B hP hD hS (C := RX0) (T := TX0) (N := 4) (ci := 0) (fs := [.null, .null, .null, .int 0]) hi0 tyX0 tyX0_ok (by decide +kernel) (by decide +kernel) (by decide +kernel) rfl (fun j hj => by rcases (show j = 0 ∨ j = 1 ∨ j = 2 ∨ j = 3 by omega) with rfl | rfl | rfl | rfl <;> rfl) (Nat.le_of_ble_eq_true rfl) (Nat.le_of_ble_eq_true rfl) dX3_init_59 (fun q5 H hP hD hS => ?_)
  have hP : va_P D vwCl [(h, .inr (3, [.ref (q1), .ref (q2), .ref (q3), .ref (q4), .null, .int 0, .int 0, .int 0])), (q1, .inl (cZ, 6, .inl (fun _ => 0))), (q2, .inl (cZ, 6, .inl (fun _ => 0))), (q3, .inl (cI, 6, .inl (mf 6))), (q4, .inl (cP, 8, .inr (.inr (.inr (.inr (fun _ => none)))))), (q5, .inr (0, [.null, .null, .null, .int 0]))] H := hP
  have hD : va_D A [(h, .inr (3, [.ref (q1), .ref (q2), .ref (q3), .ref (q4), .null, .int 0, .int 0, .int 0])), (q1, .inl (cZ, 6, .inl (fun _ => 0))), (q2, .inl (cZ, 6, .inl (fun _ => 0))), (q3, .inl (cI, 6, .inl (mf 6))), (q4, .inl (cP, 8, .inr (.inr (.inr (.inr (fun _ => none)))))), (q5, .inr (0, [.null, .null, .null, .int 0]))] := hD
  refine lv_dup B.hx B.hb dX3_init_62 rfl ?_
  refine q_callI (As := []) (rest := [.ref (q5), .ref (h)]) B hP hD hS ((c0_init l D cI cZ cP q5).fl [(h, .inr (3, [.ref (q1), .ref (q2), .ref (q3), .ref (q4), .null, .int 0, .int 0, .int 0])), (q1, .inl (cZ, 6, .inl (fun _ => 0))), (q2, .inl (cZ, 6, .inl (fun _ => 0))), (q3, .inl (cI, 6, .inl (mf 6))), (q4, .inl (cP, 8, .inr (.inr (.inr (.inr (fun _ => none))))))]) ggX3_init_X0_init rfl rfl rfl (by decide +kernel) (by decide +kernel) (by decide +kernel) rfl (by decide +kernel) ⟨(Nat.le_of_ble_eq_true rfl), (Nat.le_of_ble_eq_true rfl)⟩ rfl hl.1 rfl (Nat.le_of_ble_eq_true rfl) dX3_init_63 ⟨(Nat.le_of_ble_eq_true rfl), (Nat.le_of_ble_eq_true rfl)⟩ (fun v u H locs hp hP hD hS => ?_)
  obtain ⟨rfl, hu⟩ := hp
  obtain ⟨v6, hv6⟩ : ∃ z, z = u 6 := ⟨_, rfl⟩
  obtain ⟨v7, hv7⟩ : ∃ z, z = u 7 := ⟨_, rfl⟩
  obtain ⟨v8, hv8⟩ : ∃ z, z = u 8 := ⟨_, rfl⟩
  simp only [cw] at hP hD
  rw [hu, ← hv6, ← hv7, ← hv8] at hP hD
  have hP : va_P D vwCl [(h, .inr (3, [.ref (q1), .ref (q2), .ref (q3), .ref (q4), .null, .int 0, .int 0, .int 0])), (q1, .inl (cZ, 6, .inl (fun _ => 0))), (q2, .inl (cZ, 6, .inl (fun _ => 0))), (q3, .inl (cI, 6, .inl (mf 6))), (q4, .inl (cP, 8, .inr (.inr (.inr (.inr (fun _ => none)))))), (q5, .inr (0, [.ref (v6), .ref (v7), .ref (v8), .int 0])), (v6, .inl (cI, 30, .inl (fun _ => 0))), (v7, .inl (cI, 30, .inl (fun _ => 0))), (v8, .inl (cI, 30, .inl (fun _ => 0)))] H := hP
  have hD : va_D A [(h, .inr (3, [.ref (q1), .ref (q2), .ref (q3), .ref (q4), .null, .int 0, .int 0, .int 0])), (q1, .inl (cZ, 6, .inl (fun _ => 0))), (q2, .inl (cZ, 6, .inl (fun _ => 0))), (q3, .inl (cI, 6, .inl (mf 6))), (q4, .inl (cP, 8, .inr (.inr (.inr (.inr (fun _ => none)))))), (q5, .inr (0, [.ref (v6), .ref (v7), .ref (v8), .int 0])), (v6, .inl (cI, 30, .inl (fun _ => 0))), (v7, .inl (cI, 30, .inl (fun _ => 0))), (v8, .inl (cI, 30, .inl (fun _ => 0)))] := hD
  refine q_putF B hP hD hS hmn (C := RX3) (ref := "PaperKeeper") (T := TX3) (N := 8) (ci := 3) hi3 rfl tyX3 tyX3_ok nmX3 0 rfl 4 (by decide) (by decide +kernel) rfl rfl rfl rfl (by rfl) (Nat.le_of_ble_eq_true rfl) dX3_init_66 (w' := [(h, .inr (3, [.ref (q1), .ref (q2), .ref (q3), .ref (q4), .ref (q5), .int 0, .int 0, .int 0])), (q1, .inl (cZ, 6, .inl (fun _ => 0))), (q2, .inl (cZ, 6, .inl (fun _ => 0))), (q3, .inl (cI, 6, .inl (mf 6))), (q4, .inl (cP, 8, .inr (.inr (.inr (.inr (fun _ => none)))))), (q5, .inr (0, [.ref (v6), .ref (v7), .ref (v8), .int 0])), (v6, .inl (cI, 30, .inl (fun _ => 0))), (v7, .inl (cI, 30, .inl (fun _ => 0))), (v8, .inl (cI, 30, .inl (fun _ => 0)))]) rfl (fun H locs hP hD hS => ?_)
  refine lv_aload_n B.hx B.hb dX3_init_69 rfl (lv_at hl 1 rfl) ?_
  refine lv_iconst (v := (nI 0)) B.hx B.hb dX3_init_70 (by decide) ?_
  refine q_put B hP hD hS (C := RX3) (ref := "PaperKeeper") (T := TX3) (N := 8) (ci := 3) hi3 rfl tyX3 tyX3_ok nmX3 0 rfl 5 (by decide) (by decide +kernel) rfl rfl rfl (by rfl) (Nat.le_of_ble_eq_true rfl) dX3_init_71 (w' := [(h, .inr (3, [.ref (q1), .ref (q2), .ref (q3), .ref (q4), .ref (q5), .int (nI 0), .int 0, .int 0])), (q1, .inl (cZ, 6, .inl (fun _ => 0))), (q2, .inl (cZ, 6, .inl (fun _ => 0))), (q3, .inl (cI, 6, .inl (mf 6))), (q4, .inl (cP, 8, .inr (.inr (.inr (.inr (fun _ => none)))))), (q5, .inr (0, [.ref (v6), .ref (v7), .ref (v8), .int 0])), (v6, .inl (cI, 30, .inl (fun _ => 0))), (v7, .inl (cI, 30, .inl (fun _ => 0))), (v8, .inl (cI, 30, .inl (fun _ => 0)))]) rfl (fun H locs hP hD hS => ?_)
  refine lv_aload_n B.hx B.hb dX3_init_74 rfl (lv_at hl 1 rfl) ?_
  refine lv_bipush (v := (nI 30)) B.hx B.hb dX3_init_75 (by decide) ?_
  refine q_put B hP hD hS (C := RX3) (ref := "PaperKeeper") (T := TX3) (N := 8) (ci := 3) hi3 rfl tyX3 tyX3_ok nmX3 0 rfl 6 (by decide) (by decide +kernel) rfl rfl rfl (by rfl) (Nat.le_of_ble_eq_true rfl) dX3_init_77 (w' := [(h, .inr (3, [.ref (q1), .ref (q2), .ref (q3), .ref (q4), .ref (q5), .int (nI 0), .int (nI 30), .int 0])), (q1, .inl (cZ, 6, .inl (fun _ => 0))), (q2, .inl (cZ, 6, .inl (fun _ => 0))), (q3, .inl (cI, 6, .inl (mf 6))), (q4, .inl (cP, 8, .inr (.inr (.inr (.inr (fun _ => none)))))), (q5, .inr (0, [.ref (v6), .ref (v7), .ref (v8), .int 0])), (v6, .inl (cI, 30, .inl (fun _ => 0))), (v7, .inl (cI, 30, .inl (fun _ => 0))), (v8, .inl (cI, 30, .inl (fun _ => 0)))]) rfl (fun H locs hP hD hS => ?_)
  refine lv_aload_n B.hx B.hb dX3_init_80 rfl (lv_at hl 1 rfl) ?_
  refine lv_iconst (v := (nI 0)) B.hx B.hb dX3_init_81 (by decide) ?_
  refine q_put B hP hD hS (C := RX3) (ref := "PaperKeeper") (T := TX3) (N := 8) (ci := 3) hi3 rfl tyX3 tyX3_ok nmX3 0 rfl 7 (by decide) (by decide +kernel) rfl rfl rfl (by rfl) (Nat.le_of_ble_eq_true rfl) dX3_init_82 (w' := [(h, .inr (3, [.ref (q1), .ref (q2), .ref (q3), .ref (q4), .ref (q5), .int (nI 0), .int (nI 30), .int (nI 0)])), (q1, .inl (cZ, 6, .inl (fun _ => 0))), (q2, .inl (cZ, 6, .inl (fun _ => 0))), (q3, .inl (cI, 6, .inl (mf 6))), (q4, .inl (cP, 8, .inr (.inr (.inr (.inr (fun _ => none)))))), (q5, .inr (0, [.ref (v6), .ref (v7), .ref (v8), .int 0])), (v6, .inl (cI, 30, .inl (fun _ => 0))), (v7, .inl (cI, 30, .inl (fun _ => 0))), (v8, .inl (cI, 30, .inl (fun _ => 0)))]) rfl (fun H locs hP hD hS => ?_)
  exact q_vret B hr hP hD hS (u := adr [h, q1, q2, q3, q4, q5, v6, v7, v8]) rfl ⟨rfl, rfl⟩ (Nat.le_of_ble_eq_true rfl) (Nat.le_of_ble_eq_true rfl) dX3_init_85
end
section
/-! The keeper: open. -/
set_option maxHeartbeats 4000000 in
set_option maxRecDepth 100000 in
theorem c3_open (l : Launch) (hfl : l.stackTraces = false) (D : va_G) (cI cZ cP : ClassId) (b : Nat → Nat) (I : Nat → Int32) (V : Nat → Nat → Int32) (P : Nat → Option Nat) (n : Nat) (hn : I 5 = nI n) (hn8 : n ≤ 8) (x : Int32) (hx : x = 0 ∨ x = 1) : q_C l yX3_open wsX3_open ({ frames := 6, cells := 11, slots := 320, locals := 82 }) D cI cZ cP [.ref (b 0), .int x] (kq cI cZ cP b I V P ++ cw cI b I V) (S := (Nat → Nat)) (fun v _ => v = some (.int (nI n)) ∧ kOpen n = 0) (fun a => dw cI cZ a (va_up (fun _ => 0) 0 x) (fun _ _ => 0) ++ (ppw cI cZ a (va_up (fun _ => 0) 0 x) (fun _ _ => 0) ++ (kq cI cZ cP b (va_up I 5 (nI ((n + 1)))) V (va_up P n (some (a 0))) ++ cw cI b (va_up I 5 (nI ((n + 1)))) V))) (fun E => E = q_ISE ∧ kOpen n = 1) 11 320 := by
  refine q_of (cc := cX3_open) (maxL := 3) (ret := (some .int)) (by decide +kernel) rfl (Nat.le_of_ble_eq_true rfl) ?_
  intro p e s m below meth c A ls B hr htb hmn hP hD hS hl
  have hl : lv_has ls 3 [(0, .ref (b 0)), (1, .int x)] := hl
  have hi2 : ∀ w ∈ u_ws RX2 TX2 9, w ∈ wsX3_open := by decide +kernel
  have hi3 : ∀ w ∈ u_ws RX3 TX3 8, w ∈ wsX3_open := by decide +kernel
  refine lv_aload_n B.hx B.hb dX3_open_0 rfl (lv_at hl 0 rfl) ?_
  refine q_get B hP (C := RX3) (ref := "PaperKeeper") (T := TX3) (N := 8) (ci := 3) hi3 rfl 0 rfl 5 (by decide) (by decide +kernel) rfl (v := .int (I 5)) rfl dX3_open_1 ?_
  refine q_top (v2 := .int (nI n)) (congrArg Value.int hn) ?_
  refine lv_bipush (v := (nI 8)) B.hx B.hb dX3_open_4 (by decide) ?_
  refine lv_icmp_lt (tgt := 19) B.hx B.hb dX3_open_6 (by decide) (fun c1 => ?_) (fun c1 => ?_)
  · replace c1 := (nI_ltI (by omega) (by omega)).mp c1
    refine lv_aload_n B.hx B.hb dX3_open_19 rfl (lv_at hl 0 rfl) ?_
    refine q_get B hP (C := RX3) (ref := "PaperKeeper") (T := TX3) (N := 8) (ci := 3) hi3 rfl 0 rfl 5 (by decide) (by decide +kernel) rfl (v := .int (I 5)) rfl dX3_open_20 ?_
    refine q_top (v2 := .int (nI n)) (congrArg Value.int hn) ?_
    refine lv_istore_n (lv' := [(2, .int (nI n)), (0, .ref (b 0)), (1, .int x)]) B.hx B.hb dX3_open_23 rfl hl (by decide) rfl (fun ls hl => ?_)
    refine lv_aload_n B.hx B.hb dX3_open_24 rfl (lv_at hl 1 rfl) ?_
    refine q_get B hP (C := RX3) (ref := "PaperKeeper") (T := TX3) (N := 8) (ci := 3) hi3 rfl 0 rfl 3 (by decide) (by decide +kernel) rfl (v := .ref (b 4)) rfl dX3_open_25 ?_
    refine lv_iload_n B.hx B.hb dX3_open_28 rfl (lv_at hl 0 rfl) ?_
    have h89 : n < 8 := by omega
    refine q_new B hP hD hS (C := RX2) (T := TX2) (N := 9) (ci := 2) (fs := [.int 0, .null, .null, .null, .null, .int 0, .int 0, .int 0, .int 0]) hi2 tyX2 tyX2_ok (by decide +kernel) (by decide +kernel) (by decide +kernel) rfl (fun j hj => by rcases (show j = 0 ∨ j = 1 ∨ j = 2 ∨ j = 3 ∨ j = 4 ∨ j = 5 ∨ j = 6 ∨ j = 7 ∨ j = 8 by omega) with rfl | rfl | rfl | rfl | rfl | rfl | rfl | rfl | rfl <;> rfl) (Nat.le_of_ble_eq_true rfl) (Nat.le_of_ble_eq_true rfl) dX3_open_29 (fun q H hP hD hS => ?_)
    refine lv_dup B.hx B.hb dX3_open_32 rfl ?_
    refine lv_iload_n B.hx B.hb dX3_open_33 rfl (lv_at hl 2 rfl) ?_
    refine q_callI (n := 1) (As := [.int x]) (rest := [.ref q, .int (nI n), .ref (b 4)]) B hP hD hS ((c2_init l D cI cZ cP q x hx).fl (kq cI cZ cP b I V P ++ cw cI b I V)) ggX3_open_X2_init rfl rfl rfl (by decide +kernel) (by decide +kernel) (by decide +kernel) rfl (by decide +kernel) ⟨(Nat.le_of_ble_eq_true rfl), (Nat.le_of_ble_eq_true rfl)⟩ rfl hl.1 rfl (Nat.le_of_ble_eq_true rfl) dX3_open_34 ⟨(Nat.le_of_ble_eq_true rfl), (Nat.le_of_ble_eq_true rfl)⟩ (fun v a H locs hp hP1 hD1 hS => ?_)
    obtain ⟨rfl, rfl⟩ := hp
    have hP := q_Pperm (q_sw _ _ _ _) hP1
    have hD := q_Dperm (q_sw _ _ _ _) hD1
    have hP : va_P D vwCl (dw cI cZ a (va_up (fun _ => 0) 0 x) (fun _ _ => 0) ++ (ppw cI cZ a (va_up (fun _ => 0) 0 x) (fun _ _ => 0) ++ (kq cI cZ cP b I V P ++ cw cI b I V))) H := hP
    have hD : va_D A (dw cI cZ a (va_up (fun _ => 0) 0 x) (fun _ _ => 0) ++ (ppw cI cZ a (va_up (fun _ => 0) 0 x) (fun _ _ => 0) ++ (kq cI cZ cP b I V P ++ cw cI b I V))) := hD
    refine q_aast B hP hD hS 14 6 (j := n) rfl rfl rfl h89 (by decide) dX3_open_37 (w' := dw cI cZ a (va_up (fun _ => 0) 0 x) (fun _ _ => 0) ++ (ppw cI cZ a (va_up (fun _ => 0) 0 x) (fun _ _ => 0) ++ (kq cI cZ cP b I V (va_up P n (some (a 0))) ++ cw cI b I V))) rfl (fun H locs hP hD hS => ?_)
    refine lv_aload_n B.hx B.hb dX3_open_38 rfl (lv_at hl 1 rfl) ?_
    refine lv_dup B.hx B.hb dX3_open_39 rfl ?_
    refine q_get B hP (C := RX3) (ref := "PaperKeeper") (T := TX3) (N := 8) (ci := 3) hi3 rfl 10 rfl 5 (by decide) (by decide +kernel) rfl (v := .int (I 5)) rfl dX3_open_40 ?_
    refine q_top (v2 := .int (nI n)) (congrArg Value.int hn) ?_
    refine lv_iconst (v := (nI 1)) B.hx B.hb dX3_open_43 (by decide) ?_
    refine lv_iadd B.hx B.hb dX3_open_44 ?_
    refine q_top (v2 := .int (nI ((n + 1)))) (congrArg Value.int (nI_add _ _)) ?_
    refine q_put B hP hD hS (C := RX3) (ref := "PaperKeeper") (T := TX3) (N := 8) (ci := 3) hi3 rfl tyX3 tyX3_ok nmX3 10 rfl 5 (by decide) (by decide +kernel) rfl rfl rfl (by rfl) (Nat.le_of_ble_eq_true rfl) dX3_open_45 (w' := dw cI cZ a (va_up (fun _ => 0) 0 x) (fun _ _ => 0) ++ (ppw cI cZ a (va_up (fun _ => 0) 0 x) (fun _ _ => 0) ++ (kq cI cZ cP b (va_up I 5 (nI ((n + 1)))) V (va_up P n (some (a 0))) ++ cw cI b (va_up I 5 (nI ((n + 1)))) V))) rfl (fun H locs hP hD hS => ?_)
    refine lv_iload_n B.hx B.hb dX3_open_48 rfl (lv_at hl 0 rfl) ?_
    exact q_iret B hr hP hD hS (u := a) rfl ⟨rfl, by simp [kOpen, h89]⟩ (Nat.le_of_ble_eq_true rfl) (Nat.le_of_ble_eq_true rfl) dX3_open_49
  · replace c1 := mt (nI_ltI (by omega) (by omega)).mpr c1
    exact q_throw B hfl htb hP hS q_E_ISE (goodIn_app (goodIn_of [_, _] (by decide +kernel)) (goodIn_sub (fun w h => List.mem_cons_of_mem _ (List.mem_append_right _ h)) q_allg_ISE)) (List.mem_of_getElem? (i := 1) rfl) hl.1 dX3_open_9 dX3_open_12 dX3_open_13 dX3_open_15 dX3_open_18 ⟨(Nat.le_of_ble_eq_true rfl), (Nat.le_of_ble_eq_true rfl), (Nat.le_of_ble_eq_true rfl), (Nat.le_of_ble_eq_true rfl)⟩ ⟨rfl, by simp [kOpen, c1]⟩ (Nat.le_of_ble_eq_true rfl) (Nat.le_of_ble_eq_true rfl)
end
section
/-! THE LAW'S OWN ROWS: how they lie, bits, joins, loops; contracts that read the script. -/
/-- a 64, h 8, v 64, q 60, c 4, m 2, z 6, u 16 -/
def lw (cI : ClassId) (o : Nat → Nat) (F : Nat → Nat → Int32) : va_W :=
  [(o 0, .inl (cI, 64, .inl (F 0))), (o 1, .inl (cI, 8, .inl (F 1))), (o 2, .inl (cI, 64, .inl (F 2))), (o 3, .inl (cI, 60, .inl (F 3))), (o 4, .inl (cI, 4, .inl (F 4))), (o 5, .inl (cI, 2, .inl (F 5))), (o 6, .inl (cI, 6, .inl (F 6))), (o 7, .inl (cI, 16, .inl (F 7)))]
theorem bI_t1 {b : Bool} (h : ¬ bI b = 0) : b = true := by
  cases b
  · exact absurd rfl h
  · rfl
theorem bI_dec (b : Bool) : bI (decide (bI b = nI 1)) = bI b := by
  cases b <;> rfl
theorem narrow_bI (b : Bool) : narrow .boolean (.int (bI b)) = .int (bI b) := by
  cases b <;> rfl
theorem nI_lt0 {n : Nat} (h : n < 2 ^ 31) : nI n < 0 ↔ False := ⟨fun h2 => nI_pos h h2, fun h => h.elim⟩
theorem nI_ge0 {n : Nat} (h : n < 2 ^ 31) : 0 ≤ nI n ↔ True := ⟨fun _ => trivial, fun _ => nI_pos' h⟩
theorem nI_pred1 (n : Nat) : nI (n + 1) - nI 1 = nI n := nI_pred n
-- bits
theorem msk_has0 : ∀ m, m < 256 → ∀ k, k < 8 → (nI m >>> (nI k &&& 31)) &&& nI 1 = bI (m.testBit k) := by decide +kernel
theorem msk_has {m k : Nat} (hm : m < 256) (hk : k < 8) : (nI m >>> (nI k &&& 31)) &&& nI 1 = bI (m.testBit k) := msk_has0 m hm k hk
theorem msk_shl0 : ∀ k, k < 8 → nI 1 <<< (nI k &&& 31) = nI (2 ^ k) := by decide +kernel
theorem msk_shl {k : Nat} (hk : k < 8) : nI 1 <<< (nI k &&& 31) = nI (2 ^ k) := msk_shl0 k hk
/-- how many bits -/
def pc8 (m : Nat) : Nat := pN (fun i => m.testBit i) 8
theorem pc8_le (m : Nat) : pc8 m ≤ 8 := pN_le _ _
/-- a bit more -/
def bs (m k : Nat) : Nat := m ||| 2 ^ k
theorem bs_or0 : ∀ m, m < 256 → ∀ k, k < 8 → nI m ||| nI (2 ^ k) = nI (bs m k) ∧ bs m k < 256 := by decide +kernel
theorem bs_or {m k : Nat} (hm : m < 256) (hk : k < 8) : nI m ||| nI (2 ^ k) = nI (bs m k) := (bs_or0 m hm k hk).1
theorem bs_lt {m k : Nat} (hm : m < 256) (hk : k < 8) : bs m k < 256 := (bs_or0 m hm k hk).2
theorem bs_64 : ∀ m, m < 64 → ∀ k, k < 6 → bs m k < 64 := by decide +kernel
theorem bs_bit {m k i : Nat} : (bs m k).testBit i = (m.testBit i || decide (i = k)) := by
  rw [bs, Nat.testBit_or, Nat.testBit_two_pow]
  congr 1
  by_cases h : k = i <;> simp [h, eq_comm]
theorem or_0 {m : Nat} : nI m ||| nI 0 = nI m := by
  show nI m ||| 0 = nI m
  exact Int32.or_zero
/-- a bit put or taken -/
def bw (m k : Nat) (b : Bool) : Nat := if b = true then bs m k else m - (if m.testBit k = true then 2 ^ k else 0)
theorem bw_0 : ∀ m, m < 64 → ∀ k, k < 6 → nI m &&& (nI (2 ^ k) ^^^ (-1)) ||| nI (2 ^ k) = nI (bw m k true) ∧ nI m &&& (nI (2 ^ k) ^^^ (-1)) ||| nI 0 = nI (bw m k false) ∧ bw m k true < 64 ∧ bw m k false < 64 ∧ ∀ i, i < 6 → (bw m k true).testBit i = (m.testBit i || decide (i = k)) ∧ (bw m k false).testBit i = (m.testBit i && !decide (i = k)) := by decide +kernel
theorem pN_bI (f : Nat → Bool) (k : Nat) : nI (pN f k) + bI (f k) = nI (pN f (k + 1)) := by
  by_cases h : f k = true
  · rw [pN_yes h, h]; exact nI_add _ _
  · have h : f k = false := by simpa using h
    rw [pN_no h, h]; exact nI_add _ _
section QLB
variable {p : Program} {l : Launch} {e : Env} {R : Room} {s : State} {m : MethodId} {args : Array Value} {below : List Frame} {meth : Method} {c : Code} {H : Heap} {locs : List Loc} {cells slots : Nat} {Q : State → Prop}
variable {D : va_G} {cI cZ cP : ClassId} {A : Nat → Prop} {cc : ByteArray} {pc nL J : Nat} {ls : Array Slot} {rest st0 stk : List Value} {own : String} {Ts : List Cond} {w : va_W}
/-- roads that meet again -/
theorem q_join (k : ∀ (H : Heap) (locs : List Loc), va_P D vwCl w H → va_D A w → va_S A s.heap H locs → W p l e R s m args below meth c H locs cells slots Q (F0 m J ls stk)) (g : (∀ (H : Heap) (locs : List Loc), va_P D vwCl w H → va_D A w → va_S A s.heap H locs → W p l e R s m args below meth c H locs cells slots Q (F0 m J ls stk)) → W p l e R s m args below meth c H locs cells slots Q (F0 m pc ls st0)) :
    W p l e R s m args below meth c H locs cells slots Q (F0 m pc ls st0) := g k
theorem q_join0 (k : W p l e R s m args below meth c H locs cells slots Q (F0 m J ls stk)) (g : W p l e R s m args below meth c H locs cells slots Q (F0 m J ls stk) → W p l e R s m args below meth c H locs cells slots Q (F0 m pc ls st0)) :
    W p l e R s m args below meth c H locs cells slots Q (F0 m pc ls st0) := g k
/-- a loop that leaves its world -/
theorem q_loop2 (I : Nat → Prop) (μ : Nat → Nat) (lv : Nat → List (Nat × Value)) (x0 : Nat) (h0 : I x0) (hl : lv_has ls nL (lv x0)) (hP : va_P D vwCl w H) (hD : va_D A w) (hS : va_S A s.heap H locs)
    (hs : ∀ x, I x → (∀ y, I y → μ y < μ x → ∀ (ls : Array Slot) (H : Heap) (locs : List Loc), lv_has ls nL (lv y) → va_P D vwCl w H → va_D A w → va_S A s.heap H locs → W p l e R s m args below meth c H locs cells slots Q (F0 m pc ls st0)) → ∀ (ls : Array Slot) (H : Heap) (locs : List Loc), lv_has ls nL (lv x) → va_P D vwCl w H → va_D A w → va_S A s.heap H locs → W p l e R s m args below meth c H locs cells slots Q (F0 m pc ls st0)) :
    W p l e R s m args below meth c H locs cells slots Q (F0 m pc ls st0) := q_loopW I μ lv (fun _ => w) x0 h0 hl hP hD hS hs
/-- a loop over any state, that makes cells -/
theorem q_loopG {σ : Type} (I : σ → Prop) (μ : σ → Nat) (lv : σ → List (Nat × Value)) (wf : σ → va_W) (cf sf : σ → Nat) (x0 : σ) (h0 : I x0) (hl : lv_has ls nL (lv x0)) (hP : va_P D vwCl (wf x0) H) (hD : va_D A (wf x0)) (hS : va_S A s.heap H locs)
    (hs : ∀ x, I x → (∀ y, I y → μ y < μ x → ∀ (ls : Array Slot) (H : Heap) (locs : List Loc), lv_has ls nL (lv y) → va_P D vwCl (wf y) H → va_D A (wf y) → va_S A s.heap H locs → W p l e R s m args below meth c H locs (cf y) (sf y) Q (F0 m pc ls st0)) → ∀ (ls : Array Slot) (H : Heap) (locs : List Loc), lv_has ls nL (lv x) → va_P D vwCl (wf x) H → va_D A (wf x) → va_S A s.heap H locs → W p l e R s m args below meth c H locs (cf x) (sf x) Q (F0 m pc ls st0)) :
    W p l e R s m args below meth c H locs (cf x0) (sf x0) Q (F0 m pc ls st0) := by
  have key : ∀ N x, μ x < N → I x → ∀ (ls : Array Slot) (H : Heap) (locs : List Loc), lv_has ls nL (lv x) → va_P D vwCl (wf x) H → va_D A (wf x) → va_S A s.heap H locs → W p l e R s m args below meth c H locs (cf x) (sf x) Q (F0 m pc ls st0) := by
    intro N
    induction N with
    | zero => intro x h; exact absurd h (Nat.not_lt_zero _)
    | succ N ih => intro x h hI ls H locs hl hP hD hS; exact hs x hI (fun y hy hlt => ih y (by omega) hy) ls H locs hl hP hD hS
  exact key (μ x0 + 1) x0 (by omega) h0 ls H locs hl hP hD hS
-- contracts that read the script
/-- .. beside the world: the script, which nobody writes -/
def q_CX (l : Launch) (y : MethodName) (ws : List Cond) (rm : Room) (D : va_G) (cI cZ cP : ClassId) (sb L : Nat) (xs : Nat → Int32) (av : List Value) (w : va_W) {S : Type} (post : Option Value → S → Prop) (W' : S → va_W) (xp : String → Prop) (mc ms : Nat) : Prop :=
  ∀ sz : Nat, vx_Met l y ws rm (fun a U => q_P D cI cZ cP av w sz a U ∧ va_X sb L xs U U.heap ∧ sb < sz ∧ ¬ va_A w sz sb) (q_Q D post W' (va_A w sz)) (q_X D xp w (va_A w sz)) mc ms (va_A w sz)
theorem q_CX.fr {y : MethodName} {ws : List Cond} {rm : Room} {av : List Value} {S : Type} {post : Option Value → S → Prop} {W' : S → va_W} {xp : String → Prop} {mc ms sb L : Nat} {xs : Nat → Int32} (h : q_CX l y ws rm D cI cZ cP sb L xs av w post W' xp mc ms) (x : va_W) :
    q_CX l y ws rm D cI cZ cP sb L xs av (w ++ x) post (fun u => W' u ++ x) xp mc ms := by
  intro sz p e ha hc hk s m args below hf happ hpre _
  obtain ⟨⟨e0, e1, e2, e3, e4, e5⟩, hX, hlt, hnA⟩ := hpre
  obtain ⟨n, o, h1, h2, h3, h4⟩ := h sz p e ha hc hk s m args below hf happ ⟨⟨e0, e1, q_Pl e2, q_Dl e3, e4, e5.narrow fun q hq => q_Aw hq⟩, hX, hlt, fun h => hnA (q_Aw h)⟩ trivial
  refine ⟨n, o, h1, h2, h3, ?_⟩
  subst e1
  rcases h4 with ⟨⟨⟨v, u, rfl, hp, hP, hD⟩, hF⟩, L, hE, hL⟩ | ⟨q, rfl, E, ce, L, ⟨hx, hP, hF⟩, hce, hcv, hcl, hW, hsm, hL⟩
  · obtain ⟨k1, k2⟩ := q_back e2 e3 hF.2 hP hD
    exact Or.inl ⟨⟨⟨v, u, rfl, hp, k1, k2⟩, hF.1, fun q hq hA => hF.2 q hq (fun h => hA (q_Aw h))⟩, L, hE, fun q hq => q_Aw (hL q hq)⟩
  · have ho := q_out e2 e3
    refine Or.inr ⟨q, rfl, E, ce, L, ⟨hx, q_mem.mpr fun q hq => ?_, hF.1, fun q hq hA => hF.2 q hq (fun h => hA (q_Aw h))⟩, hce, hcv, hcl, hW, hsm, fun z hz => q_Aw (hL z hz)⟩
    rcases List.mem_append.mp hq with h | h
    · exact q_mem.mp hP q h
    · exact (q_mem.mp (q_Pr e2) q h).kept (hF.2 _ (ho q h).1 (ho q h).2)
theorem q_preX_blind {av : List Value} {sz sb L : Nat} {xs : Nat → Int32} : FrameBlind (fun a U => q_P D cI cZ cP av w sz a U ∧ va_X sb L xs U U.heap ∧ sb < sz ∧ ¬ va_A w sz sb) := by
  intro a U g mk h
  exact ⟨q_P.blind a U g mk h.1, va_X.moved (u := U) (U := U.calling g mk a) (Vm.Alike.refl U.vm) h.2.1, h.2.2⟩
theorem q_ofX {l : Launch} {y : MethodName} {ws ws' : List Cond} {rm : Room} {av : List Value} {S : Type} {post : Option Value → S → Prop} {W' : S → va_W} {xp : String → Prop} {mc ms sb L : Nat} {xs : Nat → Int32} {maxL : Nat} {ret : Option FieldType}
    (hy : plainName y.cls = true) (hw : ws = Cond.code y cc maxL ret :: ws') (hlen : (lg_sl av).length ≤ maxL)
    (body : ∀ (p : Program) (e : Env) (s : State) (m : MethodId) (below : List Frame) (meth : Method) (c : Code) (A : Nat → Prop) (ls : Array Slot), q_B p l s m av.toArray meth c D cI cZ cP A cc maxL y.cls ws → meth.sig.returnType = ret →
      va_X sb L xs s s.heap → sb < s.heap.size → ¬ A sb → va_P D vwCl w s.heap → va_D A w → va_S A s.heap s.heap [] → lv_has ls maxL (lv_args 0 av) →
      W p l e rm s m av.toArray below meth c s.heap [] 0 0 (vx_MQ below (q_Q D post W' A) (q_X D xp w A) av.toArray s mc ms A) (F0 m 0 ls [])) :
    q_CX l y ws rm D cI cZ cP sb L xs av w post W' xp mc ms := by
  intro sz
  refine vx_ofW (cc := cc) (maxL := maxL) (ret := ret) hy hw ?_
  intro p e s m args below meth c s₁ B hml htb hv
  obtain ⟨⟨rfl, hsz, hP, hD, hKK, hZ⟩, hX, hlt, hnA⟩ := hv
  subst hsz
  have hl := lv_entry av (n := maxL) hlen
  rw [lg_entry_eq]
  exact body p e s m below meth c (va_A w s.heap.size) _ ⟨B.exec, B.bytes, hml, B.notSynchronized, findClass_of_methodNamed B.named, atoms_spec (ws := ws) B.pre, hKK, hZ, fun q h => Or.inr h⟩ B.returns hX hlt hnA hP hD.self va_S.rf hl
theorem q_callX {S : Type} {post : Option Value → S → Prop} {W' : S → va_W} {xp : String → Prop} {mc ms n index maxL sb L : Nat} {xs : Nat → Int32} {y : MethodName} {bytes : ByteArray} {ret : Option FieldType} {ws : List Cond} {rm : Room} {As : List Value} (B : q_B p l s m args meth c D cI cZ cP A cc nL own Ts) (hX : va_X sb L xs s s.heap) (hbl : sb < s.heap.size) (hbA : ¬ A sb) (hP : va_P D vwCl w H) (hD : va_D A w) (hS : va_S A s.heap H locs)
    (hC : q_CX l y ws rm D cI cZ cP sb L xs As w post W' xp mc ms) (cw : CallB R s args own index y bytes maxL ret ws rm mc ms n ∧ (Cond.static y).before args s = true)
    (hn : As.length = n) (hls : ls.size = nL) (hst : st0 = As.reverse ++ rest) (hcat : (rest.map fun v => v.category).sum ≤ 8)
    (hdg : decode cc pc = .ok (.invokestatic index, 3)) (hf : cells + mc ≤ R.cells ∧ slots + ms ≤ R.slots)
    (kx : ∀ (E : String) (ce : Cell) (q9 : Addr) (H1 : Heap) (locs1 : List Loc), xp E → va_P D vwCl w H1 → va_S A s.heap H1 locs1 → H1[q9]? = some ce → ce.vm = .none → s.vm.findClass E = some ce.cls → vx_W p l e R s m args below meth c H1 locs1 (cells + mc) (slots + ms) Q (F0 m pc ls rest) q9)
    (kk : ∀ (v : Option Value) (u : S) (H1 : Heap) (locs1 : List Loc), post v u → va_P D vwCl (W' u) H1 → va_D A (W' u) → va_S A s.heap H1 locs1 → W p l e R s m args below meth c H1 locs1 (cells + mc) (slots + ms) Q (F0 m (pc + 3) ls (v.toList ++ rest))) :
    W p l e R s m args below meth c H locs cells slots Q (F0 m pc ls st0) :=
  q_call B hP hD hS (vx_runS ⟨B.hx, B.hb, B.hml, B.hown, B.hts⟩ (hC H.size) cw ⟨q_preX_blind, fun U hU hW => ⟨q_pre B hP hD hS hU hW, by rw [hU]; exact va_X.moved hW.alike (hX.kept (hS.2.1 sb hbl hbA)), Nat.lt_of_lt_of_le hbl hS.1, fun h => hbA (q_sub B hD hS sb h)⟩⟩ rfl hn hls hst (lv_room hcat) hdg hf) kx kk
end QLB
end
