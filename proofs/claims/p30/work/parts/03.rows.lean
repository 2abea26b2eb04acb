/-! ROWS: a method's body, its calls, its ends, throws, cells. -/
section QB
variable {p : Program} {l : Launch} {e : Env} {R : Room} {s : State} {m : MethodId} {args : Array Value} {below : List Frame} {meth : Method} {c : Code} {H : Heap} {locs : List Loc} {cells slots : Nat} {Q : State → Prop}
variable {D : va_G} {cI cZ cP : ClassId} {A : Nat → Prop} {cc : ByteArray} {pc nL : Nat} {ls : Array Slot} {rest st0 : List Value} {own : String} {Ts : List Cond} {w : va_W}
/-- what a walk has at hand -/
def q_B (p : Program) (l : Launch) (s : State) (m : MethodId) (args : Array Value) (meth : Method) (c : Code) (D : va_G) (cI cZ cP : ClassId) (A : Nat → Prop) (cc : ByteArray) (nL : Nat) (own : String) (Ts : List Cond) : Prop :=
  p.tables.exec = Jvm.exec ∧ c.code = cc ∧ c.maxLocals = nL ∧ meth.locks = false ∧ s.vm.findClass own = some m.cls ∧ (∀ w ∈ Ts, w.before args s = true) ∧ q_KK D cI cZ cP s ∧ q_Z A s s.heap ∧ (∀ q, s.heap.size ≤ q → A q)
theorem q_B.hx (B : q_B p l s m args meth c D cI cZ cP A cc nL own Ts) : p.tables.exec = Jvm.exec := B.1
theorem q_B.hb (B : q_B p l s m args meth c D cI cZ cP A cc nL own Ts) : c.code = cc := B.2.1
theorem q_B.hml (B : q_B p l s m args meth c D cI cZ cP A cc nL own Ts) : c.maxLocals = nL := B.2.2.1
theorem q_B.hlk (B : q_B p l s m args meth c D cI cZ cP A cc nL own Ts) : meth.locks = false := B.2.2.2.1
theorem q_B.hown (B : q_B p l s m args meth c D cI cZ cP A cc nL own Ts) : s.vm.findClass own = some m.cls := B.2.2.2.2.1
theorem q_B.hts (B : q_B p l s m args meth c D cI cZ cP A cc nL own Ts) : ∀ w ∈ Ts, w.before args s = true := B.2.2.2.2.2.1
theorem q_B.hKK (B : q_B p l s m args meth c D cI cZ cP A cc nL own Ts) : q_KK D cI cZ cP s := B.2.2.2.2.2.2.1
theorem q_B.hK (B : q_B p l s m args meth c D cI cZ cP A cc nL own Ts) : va_K D vwCl (q_ty cI cZ cP) s := B.hKK.1
theorem q_B.hZ (B : q_B p l s m args meth c D cI cZ cP A cc nL own Ts) : q_Z A s s.heap := B.2.2.2.2.2.2.2.1
theorem q_B.hA (B : q_B p l s m args meth c D cI cZ cP A cc nL own Ts) : ∀ q, s.heap.size ≤ q → A q := B.2.2.2.2.2.2.2.2
/-- a body without handlers -/
theorem q_of {l : Launch} {y : MethodName} {ws ws' : List Cond} {rm : Room} {D : va_G} {cI cZ cP : ClassId} {av : List Value} {w : va_W} {S : Type} {post : Option Value → S → Prop} {W' : S → va_W} {xp : String → Prop} {mc ms : Nat} {cc : ByteArray} {maxL : Nat} {ret : Option FieldType}
    (hy : plainName y.cls = true) (hw : ws = Cond.code y cc maxL ret :: ws') (hlen : (lg_sl av).length ≤ maxL)
    (body : ∀ (p : Program) (e : Env) (s : State) (m : MethodId) (below : List Frame) (meth : Method) (c : Code) (A : Nat → Prop) (ls : Array Slot), q_B p l s m av.toArray meth c D cI cZ cP A cc maxL y.cls ws → meth.sig.returnType = ret → (∀ x ∈ c.exceptionTable.toList, False) → meth.name = y.name →
      va_P D vwCl w s.heap → va_D A w → va_S A s.heap s.heap [] → lv_has ls maxL (lv_args 0 av) →
      W p l e rm s m av.toArray below meth c s.heap [] 0 0 (vx_MQ below (q_Q D post W' A) (q_X D xp w A) av.toArray s mc ms A) (F0 m 0 ls [])) :
    q_C l y ws rm D cI cZ cP av w post W' xp mc ms := by
  intro sz
  refine vx_ofW (cc := cc) (maxL := maxL) (ret := ret) hy hw ?_
  intro p e s m args below meth c s₁ B hml htb hv
  obtain ⟨rfl, hsz, hP, hD, hKK, hZ⟩ := hv
  subst hsz
  have hl := lv_entry av (n := maxL) hlen
  rw [lg_entry_eq]
  exact body p e s m below meth c (va_A w s.heap.size) _ ⟨B.exec, B.bytes, hml, B.notSynchronized, findClass_of_methodNamed B.named, atoms_spec (ws := ws) B.pre, hKK, hZ, fun q h => Or.inr h⟩ B.returns htb (name_of_methodNamed B.named B.method).1 hP hD.self va_S.rf hl
/-- a body with handlers -/
theorem q_ofH {l : Launch} {y : MethodName} {ws ws' : List Cond} {rm : Room} {D : va_G} {cI cZ cP : ClassId} {av : List Value} {w : va_W} {S : Type} {post : Option Value → S → Prop} {W' : S → va_W} {xp : String → Prop} {mc ms : Nat} {cc : ByteArray} {maxL : Nat} {ret : Option FieldType} {hh : List (Nat × Nat × Nat × Nat)}
    (hy : plainName y.cls = true) (hw : ws = Cond.codeWith y cc maxL ret hh :: ws') (hlen : (lg_sl av).length ≤ maxL)
    (body : ∀ (p : Program) (e : Env) (s : State) (m : MethodId) (below : List Frame) (meth : Method) (c : Code) (A : Nat → Prop) (ls : Array Slot), q_B p l s m av.toArray meth c D cI cZ cP A cc maxL y.cls ws → meth.sig.returnType = ret → c.exceptionTable.toList = tableOf hh →
      va_P D vwCl w s.heap → va_D A w → va_S A s.heap s.heap [] → lv_has ls maxL (lv_args 0 av) →
      W p l e rm s m av.toArray below meth c s.heap [] 0 0 (vx_MQ below (q_Q D post W' A) (q_X D xp w A) av.toArray s mc ms A) (F0 m 0 ls [])) :
    q_C l y ws rm D cI cZ cP av w post W' xp mc ms := by
  intro sz
  refine vx_ofWH (cc := cc) (maxL := maxL) (ret := ret) (hh := hh) hy hw ?_
  intro p e s m args below meth c s₁ B hml hv
  obtain ⟨rfl, hsz, hP, hD, hKK, hZ⟩ := hv
  subst hsz
  have hl := lv_entry av (n := maxL) hlen
  have hts := atoms_spec (ws := ws) B.pre
  rw [lg_entry_eq]
  exact body p e s m below meth c (va_A w s.heap.size) _ ⟨B.exec, B.bytes, hml, B.notSynchronized, findClass_of_methodNamed B.named, hts, hKK, hZ, fun q h => Or.inr h⟩ B.returns (vx_table (x := y) B (hts _ (by rw [hw]; exact List.mem_cons_self))) hP hD.self va_S.rf hl
/-- the callee's start, out of the caller's world -/
theorem q_pre (B : q_B p l s m args meth c D cI cZ cP A cc nL own Ts) (hP : va_P D vwCl w H) (hD : va_D A w) (hS : va_S A s.heap H locs) {av : List Value} {U : State} (hU : U.heap = H) (hW : s.WarmedH U.vm) : q_P D cI cZ cP av w H.size av.toArray U := by
  refine ⟨rfl, by rw [hU], by rw [hU]; exact hP, hD.weaken (fun _ _ _ _ => trivial), B.hKK.warm hW, ?_⟩
  rw [hU]
  refine q_Z.moved hW.alike ((B.hZ.kept hS.2.1).narrow fun q h => ?_)
  rcases q_memA.mp h with ⟨e9, h9⟩ | h9
  · exact (q_nodup.mp hD).2 _ h9
  · exact B.hA q (Nat.le_trans hS.1 h9)
theorem q_sub (B : q_B p l s m args meth c D cI cZ cP A cc nL own Ts) (hD : va_D A w) (hS : va_S A s.heap H locs) : ∀ q, va_A w H.size q → A q := by
  intro q h
  rcases q_memA.mp h with ⟨e9, h9⟩ | h9
  · exact (q_nodup.mp hD).2 _ h9
  · exact B.hA q (Nat.le_trans hS.1 h9)
/-- a call, by what it runs to -/
theorem q_call {S : Type} {post : Option Value → S → Prop} {W' : S → va_W} {xp : String → Prop} {mc ms : Nat} {a : Array Value} (B : q_B p l s m args meth c D cI cZ cP A cc nL own Ts) (hP : va_P D vwCl w H) (hD : va_D A w) (hS : va_S A s.heap H locs)
    (hr : vx_Run p l e R s m args below meth c H locs cells slots mc ms (F0 m pc ls st0) rest (q_Q D post W' (va_A w H.size) a) (q_X D xp w (va_A w H.size)) (va_A w H.size))
    (kx : ∀ (E : String) (ce : Cell) (q9 : Addr) (H1 : Heap) (locs1 : List Loc), xp E → va_P D vwCl w H1 → va_S A s.heap H1 locs1 → H1[q9]? = some ce → ce.vm = .none → s.vm.findClass E = some ce.cls → vx_W p l e R s m args below meth c H1 locs1 (cells + mc) (slots + ms) Q (F0 m pc ls rest) q9)
    (kk : ∀ (v : Option Value) (u : S) (H1 : Heap) (locs1 : List Loc), post v u → va_P D vwCl (W' u) H1 → va_D A (W' u) → va_S A s.heap H1 locs1 → W p l e R s m args below meth c H1 locs1 (cells + mc) (slots + ms) Q (F0 m (pc + 3) ls (v.toList ++ rest))) :
    W p l e R s m args below meth c H locs cells slots Q (F0 m pc ls st0) := by
  have hs := q_sub B hD hS
  intro T hT X
  rcases hr T hT X with ⟨v, st₀, t, T', L, h0, X', hL, e1, e2, ⟨⟨v9, u, hv, hp, hPn, hDn⟩, hF⟩, st⟩ | ⟨q, st₀, t, T', L, E, ce, h0, X', hL, e1, e2, ⟨hx9, hPx, hFx⟩, hce, hcv, hcl, st⟩
  · cases hv
    obtain ⟨k1, k2, k3⟩ := vx_keep h0 e1 hS (fun q _ h => hs q h) hs hL hF
    obtain ⟨t2, a1, b1⟩ := kk v u T'.heap (locs ++ L) hp (by rw [e1]; exact hPn) (hDn.weaken fun _ _ _ h => hs _ h) k3 T' rfl X'
    exact ⟨t2, st t2 a1, b1⟩
  · obtain ⟨k1, k2, k3⟩ := vx_keep h0 e1 hS (fun q _ h => hs q h) hs hL hFx
    obtain ⟨t2, a1, b1⟩ := kx E ce q T'.heap (locs ++ L) hx9 (by rw [e1]; exact hPx) k3 (by rw [e1]; exact hce) hcv hcl T' rfl X'
    exact ⟨t2, st.trans a1, b1⟩
/-- invokevirtual -/
theorem q_callV {S : Type} {post : Option Value → S → Prop} {W' : S → va_W} {xp : String → Prop} {mc ms n index maxL b : Nat} {y : MethodName} {bytes : ByteArray} {ret : Option FieldType} {ws : List Cond} {rm : Room} {As : List Value} {C : String} (B : q_B p l s m args meth c D cI cZ cP A cc nL own Ts) (hP : va_P D vwCl w H) (hD : va_D A w) (hS : va_S A s.heap H locs)
    (hC : q_C l y ws rm D cI cZ cP (.ref b :: As) w post W' xp mc ms) (cw : CallW R s args own C index y bytes maxL ret ws rm mc ms n)
    (q0 ci : Nat) {fs : List Value} {vc : vw_C} (hq : w[q0]? = some (b, .inr (ci, fs))) (hc : vwCl[ci]? = some vc) (hvc : vc.1 = C) (hn : As.length = n) (hls : ls.size = nL) (hst : st0 = As.reverse ++ .ref b :: rest) (hcat : (rest.map fun v => v.category).sum ≤ 8)
    (hdg : decode cc pc = .ok (.invokevirtual index, 3)) (hf : cells + mc ≤ R.cells ∧ slots + ms ≤ R.slots)
    (kx : ∀ (E : String) (ce : Cell) (q9 : Addr) (H1 : Heap) (locs1 : List Loc), xp E → va_P D vwCl w H1 → va_S A s.heap H1 locs1 → H1[q9]? = some ce → ce.vm = .none → s.vm.findClass E = some ce.cls → vx_W p l e R s m args below meth c H1 locs1 (cells + mc) (slots + ms) Q (F0 m pc ls rest) q9)
    (kk : ∀ (v : Option Value) (u : S) (H1 : Heap) (locs1 : List Loc), post v u → va_P D vwCl (W' u) H1 → va_D A (W' u) → va_S A s.heap H1 locs1 → W p l e R s m args below meth c H1 locs1 (cells + mc) (slots + ms) Q (F0 m (pc + 3) ls (v.toList ++ rest))) :
    W p l e R s m args below meth c H locs cells slots Q (F0 m pc ls st0) :=
  q_call B hP hD hS (vx_runV ⟨B.hx, B.hb, B.hml, B.hown, B.hts⟩ (hC H.size) cw ⟨q_P.blind, by rw [← hvc]; exact va_recv B.hK hP hc hq, fun U hU hW => q_pre B hP hD hS hU hW⟩ rfl hn hls hst (lv_room hcat) hdg hf) kx kk
/-- invokestatic -/
theorem q_callS {S : Type} {post : Option Value → S → Prop} {W' : S → va_W} {xp : String → Prop} {mc ms n index maxL : Nat} {y : MethodName} {bytes : ByteArray} {ret : Option FieldType} {ws : List Cond} {rm : Room} {As : List Value} (B : q_B p l s m args meth c D cI cZ cP A cc nL own Ts) (hP : va_P D vwCl w H) (hD : va_D A w) (hS : va_S A s.heap H locs)
    (hC : q_C l y ws rm D cI cZ cP As w post W' xp mc ms) (cw : CallB R s args own index y bytes maxL ret ws rm mc ms n ∧ (Cond.static y).before args s = true)
    (hn : As.length = n) (hls : ls.size = nL) (hst : st0 = As.reverse ++ rest) (hcat : (rest.map fun v => v.category).sum ≤ 8)
    (hdg : decode cc pc = .ok (.invokestatic index, 3)) (hf : cells + mc ≤ R.cells ∧ slots + ms ≤ R.slots)
    (kx : ∀ (E : String) (ce : Cell) (q9 : Addr) (H1 : Heap) (locs1 : List Loc), xp E → va_P D vwCl w H1 → va_S A s.heap H1 locs1 → H1[q9]? = some ce → ce.vm = .none → s.vm.findClass E = some ce.cls → vx_W p l e R s m args below meth c H1 locs1 (cells + mc) (slots + ms) Q (F0 m pc ls rest) q9)
    (kk : ∀ (v : Option Value) (u : S) (H1 : Heap) (locs1 : List Loc), post v u → va_P D vwCl (W' u) H1 → va_D A (W' u) → va_S A s.heap H1 locs1 → W p l e R s m args below meth c H1 locs1 (cells + mc) (slots + ms) Q (F0 m (pc + 3) ls (v.toList ++ rest))) :
    W p l e R s m args below meth c H locs cells slots Q (F0 m pc ls st0) :=
  q_call B hP hD hS (vx_runS ⟨B.hx, B.hb, B.hml, B.hown, B.hts⟩ (hC H.size) cw ⟨q_P.blind, fun U hU hW => q_pre B hP hD hS hU hW⟩ rfl hn hls hst (lv_room hcat) hdg hf) kx kk
/-- invokestatic of a method with handlers -/
theorem q_callSX {S : Type} {post : Option Value → S → Prop} {W' : S → va_W} {xp : String → Prop} {mc ms n index maxL : Nat} {y : MethodName} {bytes : ByteArray} {ret : Option FieldType} {hh : List (Nat × Nat × Nat × Nat)} {ws : List Cond} {rm : Room} {As : List Value} (B : q_B p l s m args meth c D cI cZ cP A cc nL own Ts) (hP : va_P D vwCl w H) (hD : va_D A w) (hS : va_S A s.heap H locs)
    (hC : q_C l y ws rm D cI cZ cP As w post W' xp mc ms) (cw : vx_CSW R s args own index y bytes maxL ret hh ws rm mc ms n)
    (hn : As.length = n) (hls : ls.size = nL) (hst : st0 = As.reverse ++ rest) (hcat : (rest.map fun v => v.category).sum ≤ 8)
    (hdg : decode cc pc = .ok (.invokestatic index, 3)) (hf : cells + mc ≤ R.cells ∧ slots + ms ≤ R.slots)
    (kx : ∀ (E : String) (ce : Cell) (q9 : Addr) (H1 : Heap) (locs1 : List Loc), xp E → va_P D vwCl w H1 → va_S A s.heap H1 locs1 → H1[q9]? = some ce → ce.vm = .none → s.vm.findClass E = some ce.cls → vx_W p l e R s m args below meth c H1 locs1 (cells + mc) (slots + ms) Q (F0 m pc ls rest) q9)
    (kk : ∀ (v : Option Value) (u : S) (H1 : Heap) (locs1 : List Loc), post v u → va_P D vwCl (W' u) H1 → va_D A (W' u) → va_S A s.heap H1 locs1 → W p l e R s m args below meth c H1 locs1 (cells + mc) (slots + ms) Q (F0 m (pc + 3) ls (v.toList ++ rest))) :
    W p l e R s m args below meth c H locs cells slots Q (F0 m pc ls st0) :=
  q_call B hP hD hS (vx_runSX ⟨B.hx, B.hb, B.hml, B.hown, B.hts⟩ (hC H.size) cw ⟨q_P.blind, fun U hU hW => q_pre B hP hD hS hU hW⟩ rfl hn hls hst (lv_room hcat) hdg hf) kx kk
-- ends
section
variable {S : Type} {post : Option Value → S → Prop} {W' : S → va_W} {XC : String → State → State → Prop} {mc ms : Nat} {u : S}
theorem q_iret (B : q_B p l s m args meth c D cI cZ cP A cc nL own Ts) (hr : meth.sig.returnType = some .int) (hP : va_P D vwCl w H) (hD : va_D A w) (hS : va_S A s.heap H locs) {v : Int32} (u : S) (hw : W' u = w) (hp : post (some (.int v)) u) (hc : cells ≤ mc) (hs : slots ≤ ms) (hdg : decode cc pc = .ok (.ireturn, 1)) :
    W p l e R s m args below meth c H locs cells slots (vx_MQ below (q_Q D post W' A) XC args s mc ms A) (F0 m pc ls [.int v]) :=
  W.widen hc hs (vx_ret (W.iret B.hx B.hb hr (fun t ht _ => ⟨⟨_, u, rfl, hp, by rw [ht, hw]; exact hP, by rw [hw]; exact hD⟩, hS.F ht⟩) hS.2.2 hdg B.hlk))
theorem q_zret (B : q_B p l s m args meth c D cI cZ cP A cc nL own Ts) (hr : meth.sig.returnType = some .boolean) (hP : va_P D vwCl w H) (hD : va_D A w) (hS : va_S A s.heap H locs) {v : Int32} (hn : narrow .boolean (.int v) = .int v) (u : S) (hw : W' u = w) (hp : post (some (.int v)) u) (hc : cells ≤ mc) (hs : slots ≤ ms) (hdg : decode cc pc = .ok (.ireturn, 1)) :
    W p l e R s m args below meth c H locs cells slots (vx_MQ below (q_Q D post W' A) XC args s mc ms A) (F0 m pc ls [.int v]) :=
  W.widen hc hs (vx_ret (W.zret B.hx B.hb hr hn (fun t ht _ => ⟨⟨_, u, rfl, hp, by rw [ht, hw]; exact hP, by rw [hw]; exact hD⟩, hS.F ht⟩) hS.2.2 hdg B.hlk))
theorem q_vret (B : q_B p l s m args meth c D cI cZ cP A cc nL own Ts) (hr : meth.sig.returnType = none) (hP : va_P D vwCl w H) (hD : va_D A w) (hS : va_S A s.heap H locs) (u : S) (hw : W' u = w) (hp : post none u) (hc : cells ≤ mc) (hs : slots ≤ ms) (hdg : decode cc pc = .ok (.return_, 1)) :
    W p l e R s m args below meth c H locs cells slots (vx_MQ below (q_Q D post W' A) XC args s mc ms A) (F0 m pc ls []) :=
  W.widen hc hs (vx_ret (W.vret B.hx B.hb hr (fun t ht _ => ⟨⟨_, u, rfl, hp, by rw [ht, hw]; exact hP, by rw [hw]; exact hD⟩, hS.F ht⟩) hS.2.2 hdg B.hlk))
theorem q_aret (B : q_B p l s m args meth c D cI cZ cP A cc nL own Ts) {nm : String} (hr : meth.sig.returnType = some (.object nm)) (hP : va_P D vwCl w H) (hD : va_D A w) (hS : va_S A s.heap H locs) {b : Nat} (u : S) (hw : W' u = w) (hp : post (some (.ref b)) u) (hc : cells ≤ mc) (hs : slots ≤ ms) (hdg : decode cc pc = .ok (.areturn, 1)) :
    W p l e R s m args below meth c H locs cells slots (vx_MQ below (q_Q D post W' A) XC args s mc ms A) (F0 m pc ls [.ref b]) :=
  W.widen hc hs (vx_ret (W.aret B.hx B.hb hr (Or.inl ⟨nm, rfl⟩) (Or.inr ⟨b, rfl⟩) (fun t ht _ => ⟨⟨_, u, rfl, hp, by rw [ht, hw]; exact hP, by rw [hw]; exact hD⟩, hS.F ht⟩) hS.2.2 hdg B.hlk))
end
-- throws
abbrev q_up : List String := ["java/lang/RuntimeException", "java/lang/Exception"]
theorem q_ng_of (B : q_B p l s m args meth c D cI cZ cP A cc nL own Ts) : ∀ w ∈ q_ng, w.before args s = true := fun w hw => va_Nw.use (by revert w; decide +kernel) (B.hKK.2.2.1 w hw)
/-- the three classes that the class throws, by its own links -/
def q_E (E : String) (ik ic : Nat) : Prop := Bundle.fit E = true ∧ (∀ w ∈ (vx_atS RX3 ic E q_up).filter (fun w => !goodWord w), w ∈ q_ng) ∧ (∀ w ∈ Cond.classLink RX3 ik E :: Cond.initialized E :: vx_atS RX3 ic E q_up, vx_ot w = true)
theorem q_E_IAE : q_E q_IAE 47 51 := ⟨by decide +kernel, by decide +kernel, by decide +kernel⟩
theorem q_E_ISE : q_E q_ISE 54 58 := ⟨by decide +kernel, by decide +kernel, by decide +kernel⟩
theorem q_E_IOB : q_E q_IOB 157 161 := ⟨by decide +kernel, by decide +kernel, by decide +kernel⟩
theorem q_throw {Qc : Array Value → State → Outcome → State → Prop} {xp : String → Prop} {mc ms : Nat} (B : q_B p l s m args meth c D cI cZ cP A cc nL RX3 Ts) (hfl : l.stackTraces = false) (htb : ∀ x ∈ c.exceptionTable.toList, False) (hP : va_P D vwCl w H) (hS : va_S A s.heap H locs) {E text : String} {ik ic is : Nat} (hE : q_E E ik ic)
    (hg : GoodIn Ts (Cond.classLink RX3 ik E :: Cond.initialized E :: (vx_atS RX3 ic E q_up).filter goodWord)) (htx : (is, text) ∈ q_strs) (hls : ls.size = nL)
    (d0 : decode cc pc = .ok (.new ik, 3)) (d3 : decode cc (pc + 3) = .ok (.dup, 1)) (d4 : decode cc (pc + 4) = .ok (.ldc is, 2)) (d6 : decode cc (pc + 6) = .ok (.invokespecial ic, 3)) (d9 : decode cc (pc + 9) = .ok (.athrow, 1))
    (hR : 5 < R.frames ∧ (rest.map fun v => v.category).sum + 82 ≤ R.locals ∧ cells + 1 ≤ R.cells ∧ slots + 6 ≤ R.slots) (hxp : xp E) (hc : cells + 1 ≤ mc) (hs : slots + 6 ≤ ms) :
    W p l e R s m args below meth c H locs cells slots (vx_MQ below Qc (q_X D xp w A) args s mc ms A) (F0 m pc ls rest) := by
  obtain ⟨sa, hsa⟩ := B.hKK.2.1 _ htx
  have hw : ∀ w ∈ Cond.classLink RX3 ik E :: Cond.initialized E :: (vx_atS RX3 ic E q_up).filter goodWord, w.before args s = true := fun w h => B.hts w (hg w h).1
  refine vx_throwS (cls := E) (names := q_up) (sa := sa) B.hx B.hb hfl B.hown hE.1 (by decide +kernel) (hw _ List.mem_cons_self) (hw _ (List.mem_cons_of_mem _ List.mem_cons_self)) hsa
    (vx_hat (fun w h => hw w (List.mem_cons_of_mem _ (List.mem_cons_of_mem _ h))) hE.2.1 (q_ng_of B)) hE.2.2 B.hZ.1 B.hZ.2 hS (by rw [B.hml]; exact hls) d0 d3 d4 d6 d9 (fun x h => (htb x h).elim) hR.1 hR.2.1 hR.2.2.1 hR.2.2.2 B.hlk ?_ hS.2.2 hc hs
  intro t hal hsz hq
  refine ⟨hxp, q_mem.mpr fun q h => (q_mem.mp hP q h).kept (hq _ (q_mem.mp hP q h).lt), Nat.le_trans hS.1 hsz, fun q h hA => ?_⟩
  rw [hq q (Nat.lt_of_lt_of_le h hS.1)]
  exact hS.2.1 q h hA
/-- an exception goes on -/
theorem q_xout {Qc : Array Value → State → Outcome → State → Prop} {xp : String → Prop} {mc ms : Nat} {E : String} {ce : Cell} {q9 : Addr} (B : q_B p l s m args meth c D cI cZ cP A cc nL own Ts) (htb : ∀ x ∈ c.exceptionTable.toList, False) (hP : va_P D vwCl w H) (hS : va_S A s.heap H locs) (hcell : H[q9]? = some ce) (hv : ce.vm = .none) (hcl : s.vm.findClass E = some ce.cls) (hxp : xp E) (hc : cells ≤ mc) (hs : slots ≤ ms) :
    vx_W p l e R s m args below meth c H locs cells slots (vx_MQ below Qc (q_X D xp w A) args s mc ms A) (F0 m pc ls rest) q9 :=
  vx_out (fun x h => (htb x h).elim) B.hlk hcell hv hcl (fun t ht _ => ⟨hxp, by rw [ht]; exact hP, hS.F ht⟩) hS.2.2 hc hs
-- cells
section
variable {a n j : Nat} {f : Nat → Int32} {i x : Int32}
theorem q_iald (B : q_B p l s m args meth c D cI cZ cP A cc nL own Ts) (hP : va_P D vwCl w H) (q0 : Nat) (ha : w[q0]? = some (a, .inl (cI, n, .inl f))) (hi : i = nI j) (hj : j < n) (hn : n < 2 ^ 31) (hdg : decode cc pc = .ok (.iaload, 1))
    (kk : W p l e R s m args below meth c H locs cells slots Q (F0 m (pc + 1) ls (.int (f j) :: rest))) : W p l e R s m args below meth c H locs cells slots Q (F0 m pc ls (.int i :: .ref a :: rest)) := by
  subst hi
  refine va_iald B.hx B.hb B.hK hP q0 0 ha rfl (vp_in_nI hj hn) hdg ?_
  rw [nI_clamp (Nat.lt_trans hj hn)]
  exact kk
theorem q_zald (B : q_B p l s m args meth c D cI cZ cP A cc nL own Ts) (hP : va_P D vwCl w H) (q0 : Nat) (ha : w[q0]? = some (a, .inl (cZ, n, .inl f))) (hi : i = nI j) (hj : j < n) (hn : n < 2 ^ 31) (hdg : decode cc pc = .ok (.baload, 1))
    (kk : W p l e R s m args below meth c H locs cells slots Q (F0 m (pc + 1) ls (.int (f j) :: rest))) : W p l e R s m args below meth c H locs cells slots Q (F0 m pc ls (.int i :: .ref a :: rest)) := by
  subst hi
  refine va_zald B.hx B.hb B.hK hP q0 1 ha rfl (vp_in_nI hj hn) hdg ?_
  rw [nI_clamp (Nat.lt_trans hj hn)]
  exact kk
theorem q_aald (B : q_B p l s m args meth c D cI cZ cP A cc nL own Ts) (hP : va_P D vwCl w H) (q0 : Nat) {g : Nat → Option Nat} (ha : w[q0]? = some (a, .inl (cP, n, .inr (.inr (.inr (.inr g)))))) (hi : i = nI j) (hj : j < n) (hn : n < 2 ^ 31) (hdg : decode cc pc = .ok (.aaload, 1))
    (kk : W p l e R s m args below meth c H locs cells slots Q (F0 m (pc + 1) ls (va_rf (g j) :: rest))) : W p l e R s m args below meth c H locs cells slots Q (F0 m pc ls (.int i :: .ref a :: rest)) := by
  subst hi
  refine va_aldq B.hx B.hb B.hK hP q0 2 ha rfl (vp_in_nI hj hn) hdg ?_
  rw [nI_clamp (Nat.lt_trans hj hn)]
  exact kk
theorem q_iast (B : q_B p l s m args meth c D cI cZ cP A cc nL own Ts) (hP : va_P D vwCl w H) (hD : va_D A w) (hS : va_S A s.heap H locs) (q0 : Nat) (ha : w[q0]? = some (a, .inl (cI, n, .inl f))) (hi : i = nI j) (hj : j < n) (hn : n < 2 ^ 31) (hdg : decode cc pc = .ok (.iastore, 1)) {w' : va_W} (hw : w.set q0 (a, .inl (cI, n, .inl (upd f j x))) = w')
    (kk : ∀ (H1 : Heap) (locs1 : List Loc), va_P D vwCl w' H1 → va_D A w' → va_S A s.heap H1 locs1 → W p l e R s m args below meth c H1 locs1 cells slots Q (F0 m (pc + 1) ls rest)) : W p l e R s m args below meth c H locs cells slots Q (F0 m pc ls (.int x :: .int i :: .ref a :: rest)) := by
  subst hi
  refine va_iast B.hx B.hb B.hK hP hD hS q0 0 ha rfl (vp_in_nI hj hn) hdg ?_
  rw [nI_clamp (Nat.lt_trans hj hn), hw]
  exact kk
theorem q_zast (B : q_B p l s m args meth c D cI cZ cP A cc nL own Ts) (hP : va_P D vwCl w H) (hD : va_D A w) (hS : va_S A s.heap H locs) (q0 : Nat) (ha : w[q0]? = some (a, .inl (cZ, n, .inl f))) (hi : i = nI j) (hj : j < n) (hn : n < 2 ^ 31) (hv : vp_nar .boolean x = x) (hdg : decode cc pc = .ok (.bastore, 1)) {w' : va_W} (hw : w.set q0 (a, .inl (cZ, n, .inl (upd f j x))) = w')
    (kk : ∀ (H1 : Heap) (locs1 : List Loc), va_P D vwCl w' H1 → va_D A w' → va_S A s.heap H1 locs1 → W p l e R s m args below meth c H1 locs1 cells slots Q (F0 m (pc + 1) ls rest)) : W p l e R s m args below meth c H locs cells slots Q (F0 m pc ls (.int x :: .int i :: .ref a :: rest)) := by
  subst hi
  refine va_zast B.hx B.hb B.hK hP hD hS q0 1 ha rfl (vp_in_nI hj hn) hdg ?_
  rw [nI_clamp (Nat.lt_trans hj hn), hv, hw]
  exact kk
end
/-- a field of an object -/
theorem q_get (B : q_B p l s m args meth c D cI cZ cP A cc nL own Ts) (hP : va_P D vwCl w H) {C ref : String} {T : u_T} {N ci index a : Nat} (hin : ∀ w ∈ u_ws C T N, w ∈ Ts) (hc : vwCl[ci]? = some (C, T, N)) (q0 : Nat) {fs : List Value} (he : w[q0]? = some (a, .inr (ci, fs))) (k : Nat) (hk : k < N) (hlink : Cond.fieldLink own index ref (T k).2.1 (T k).2.2.1 ∈ Ts) (hsame : (T k).1 = ref) {v : Value} (hv : fs[k]? = some v) (hdg : decode cc pc = .ok (.getfield index, 3))
    (kk : W p l e R s m args below meth c H locs cells slots Q (F0 m (pc + 3) ls (v :: rest))) : W p l e R s m args below meth c H locs cells slots Q (F0 m pc ls (.ref a :: rest)) :=
  va_get B.hx B.hb B.hts hin B.hown B.hK hP q0 he hc k hk (B.hts _ hlink) (fun x h => by rw [← hsame]; exact h) hv hdg kk
theorem q_put (B : q_B p l s m args meth c D cI cZ cP A cc nL own Ts) (hP : va_P D vwCl w H) (hD : va_D A w) (hS : va_S A s.heap H locs) {C ref : String} {T : u_T} {N ci index a : Nat} (hin : ∀ w ∈ u_ws C T N, w ∈ Ts) (hc : vwCl[ci]? = some (C, T, N)) (ty0 : Nat → FieldType) (hty : ∀ k, k < N → parseFieldDescriptor (T k).2.2.1 = some (ty0 k)) (hnm : ∀ a, a < N → ∀ b, b < N → a ≠ b → (T a).2.1 ≠ (T b).2.1) (q0 : Nat) {fs : List Value} (he : w[q0]? = some (a, .inr (ci, fs))) (k : Nat) (hk : k < N) (hlink : Cond.fieldLink own index ref (T k).2.1 (T k).2.2.1 ∈ Ts) (hsame : (T k).1 = ref) (hfin : (T k).2.2.2 = false) {v : Value} (hn : narrow (ty0 k) v = v) (hfit : fits (ty0 k) v = true) (hl : k < fs.length) (hdg : decode cc pc = .ok (.putfield index, 3)) {w' : va_W} (hw : w.set q0 (a, .inr (ci, fs.set k v)) = w')
    (kk : ∀ (H1 : Heap) (locs1 : List Loc), va_P D vwCl w' H1 → va_D A w' → va_S A s.heap H1 locs1 → W p l e R s m args below meth c H1 locs1 cells slots Q (F0 m (pc + 3) ls rest)) : W p l e R s m args below meth c H locs cells slots Q (F0 m pc ls (v :: .ref a :: rest)) :=
  va_put B.hx B.hb B.hts hin ty0 hty hnm B.hown B.hK hP hD hS q0 he hc k hk (B.hts _ hlink) (fun x h => by rw [← hsame]; exact h) hfin (hty k hk) hn hfit hl hdg (by rw [hw]; exact kk)
/-- the value on top, said otherwise -/
theorem q_top {v v2 : Value} (h : v = v2) (k : W p l e R s m args below meth c H locs cells slots Q (F0 m pc ls (v2 :: rest))) : W p l e R s m args below meth c H locs cells slots Q (F0 m pc ls (v :: rest)) := by rw [h]; exact k
end QB
