/-! MAKING: new rows, new objects, constructors. -/
section QN
variable {p : Program} {l : Launch} {e : Env} {R : Room} {s : State} {m : MethodId} {args : Array Value} {below : List Frame} {meth : Method} {c : Code} {H : Heap} {locs : List Loc} {cells slots : Nat} {Q : State → Prop}
variable {D : va_G} {cI cZ cP : ClassId} {A : Nat → Prop} {cc : ByteArray} {pc nL : Nat} {ls : Array Slot} {rest st0 : List Value} {own : String} {Ts : List Cond} {w : va_W}
theorem q_newI (B : q_B p l s m args meth c D cI cZ cP A cc nL own Ts) (hP : va_P D vwCl w H) (hD : va_D A w) (hS : va_S A s.heap H locs) (harr : Cond.arrayClass .int ∈ Ts) {n : Int32} {N : Nat} (hn : ¬ n < 0) (hN : n.toNatClampNeg = N) (hb : N * 4 ≤ 536870912) (hcells : cells + 1 ≤ R.cells) (hslots : slots + N ≤ R.slots) (hdg : decode cc pc = .ok (.newarray .int, 2))
    (kk : ∀ (q : Nat) (H1 : Heap), va_P D vwCl (w ++ [(q, .inl (cI, N, .inl (fun _ => 0)))]) H1 → va_D A (w ++ [(q, .inl (cI, N, .inl (fun _ => 0)))]) → va_S A s.heap H1 locs → W p l e R s m args below meth c H1 locs (cells + 1) (slots + N) Q (F0 m (pc + 2) ls (.ref q :: rest))) : W p l e R s m args below meth c H locs cells slots Q (F0 m pc ls (.int n :: rest)) := by
  refine va_newa (atype := .int) B.hx B.hb (B.hts _ harr) rfl B.hK hP hD hS B.hA (a0 := (N, .inl (fun _ => 0))) (fun _ => rfl) hn hN hb hcells hslots hdg (fun q cA H1 hK1 hP1 hD1 hS1 => ?_)
  have e1 := (hK1.2 3 (cA, .int) rfl).2
  have e2 := (B.hK.2 0 (cI, .int) rfl).2
  cases Option.some.inj (e1.symm.trans e2)
  exact kk q H1 hP1 hD1 hS1
theorem q_newZ (B : q_B p l s m args meth c D cI cZ cP A cc nL own Ts) (hP : va_P D vwCl w H) (hD : va_D A w) (hS : va_S A s.heap H locs) (harr : Cond.arrayClass .boolean ∈ Ts) {n : Int32} {N : Nat} (hn : ¬ n < 0) (hN : n.toNatClampNeg = N) (hb : N * 1 ≤ 536870912) (hcells : cells + 1 ≤ R.cells) (hslots : slots + N ≤ R.slots) (hdg : decode cc pc = .ok (.newarray .boolean, 2))
    (kk : ∀ (q : Nat) (H1 : Heap), va_P D vwCl (w ++ [(q, .inl (cZ, N, .inl (fun _ => 0)))]) H1 → va_D A (w ++ [(q, .inl (cZ, N, .inl (fun _ => 0)))]) → va_S A s.heap H1 locs → W p l e R s m args below meth c H1 locs (cells + 1) (slots + N) Q (F0 m (pc + 2) ls (.ref q :: rest))) : W p l e R s m args below meth c H locs cells slots Q (F0 m pc ls (.int n :: rest)) := by
  refine va_newa (atype := .boolean) B.hx B.hb (B.hts _ harr) rfl B.hK hP hD hS B.hA (a0 := (N, .inl (fun _ => 0))) (fun _ => rfl) hn hN hb hcells hslots hdg (fun q cA H1 hK1 hP1 hD1 hS1 => ?_)
  have e1 := (hK1.2 3 (cA, .boolean) rfl).2
  have e2 := (B.hK.2 1 (cZ, .boolean) rfl).2
  cases Option.some.inj (e1.symm.trans e2)
  exact kk q H1 hP1 hD1 hS1
theorem q_newP (B : q_B p l s m args meth c D cI cZ cP A cc nL own Ts) (hP : va_P D vwCl w H) (hD : va_D A w) (hS : va_S A s.heap H locs) {index : Nat} (hcl : Cond.classLink own index "PaperKeeper$Paper" ∈ Ts) {n : Int32} {N : Nat} (hn : ¬ n < 0) (hN : n.toNatClampNeg = N) (hb : N * 4 ≤ 536870912) (hcells : cells + 1 ≤ R.cells) (hslots : slots + N ≤ R.slots) (hdg : decode cc pc = .ok (.anewarray index, 3))
    (kk : ∀ (q : Nat) (H1 : Heap), va_P D vwCl (w ++ [(q, .inl (cP, N, .inr (.inr (.inr (.inr (fun _ => none))))))]) H1 → va_D A (w ++ [(q, .inl (cP, N, .inr (.inr (.inr (.inr (fun _ => none))))))]) → va_S A s.heap H1 locs → W p l e R s m args below meth c H1 locs (cells + 1) (slots + N) Q (F0 m (pc + 3) ls (.ref q :: rest))) : W p l e R s m args below meth c H locs cells slots Q (F0 m pc ls (.int n :: rest)) := by
  refine va_newq B.hx B.hb B.hown (B.hts _ hcl) B.hKK.2.2.2.2 B.hK hP hD hS B.hA hn hN hb hcells hslots hdg (fun q cA H1 hK1 hP1 hD1 hS1 => ?_)
  obtain ⟨kA, comp, -, -, -, e1⟩ := (hK1.2 3 (cA, .object "PaperKeeper$Paper") rfl).2
  obtain ⟨kB, compB, -, -, -, e2⟩ := (B.hK.2 2 (cP, .object "PaperKeeper$Paper") rfl).2
  cases Option.some.inj (e1.symm.trans e2)
  exact kk q H1 hP1 hD1 hS1
/-- new C -/
theorem q_new (B : q_B p l s m args meth c D cI cZ cP A cc nL own Ts) (hP : va_P D vwCl w H) (hD : va_D A w) (hS : va_S A s.heap H locs) {C : String} {T : u_T} {N ci index : Nat} (hin : ∀ w ∈ u_ws C T N, w ∈ Ts) (ty : Nat → FieldType) (hty : ∀ k, k < N → parseFieldDescriptor (T k).2.2.1 = some (ty k)) (hcl : Cond.classLink own index C ∈ Ts) (hinst : Cond.instantiable C N ∈ Ts) (hini : Cond.initialized C ∈ Ts) (hc : vwCl[ci]? = some (C, T, N)) {fs : List Value} (hfs : ∀ j, j < N → defaultValue (ty j) = vp_V fs j) (hcells : cells + 1 ≤ R.cells) (hslots : slots + N ≤ R.slots) (hdg : decode cc pc = .ok (.new index, 3))
    (kk : ∀ (q : Nat) (H1 : Heap), va_P D vwCl (w ++ [(q, .inr (ci, fs))]) H1 → va_D A (w ++ [(q, .inr (ci, fs))]) → va_S A s.heap H1 locs → W p l e R s m args below meth c H1 locs (cells + 1) (slots + N) Q (F0 m (pc + 3) ls (.ref q :: rest))) : W p l e R s m args below meth c H locs cells slots Q (F0 m pc ls rest) :=
  va_new B.hx B.hb B.hts hin ty hty B.hown (B.hts _ hcl) (B.hts _ hinst) (B.hts _ hini) B.hK hP hD hS B.hA hc hfs hcells hslots hdg kk
/-- a final field, in the constructor -/
theorem q_putF (B : q_B p l s m args meth c D cI cZ cP A cc nL own Ts) (hP : va_P D vwCl w H) (hD : va_D A w) (hS : va_S A s.heap H locs) (hmn : meth.name = "<init>") {C ref : String} {T : u_T} {N ci index a : Nat} (hin : ∀ w ∈ u_ws C T N, w ∈ Ts) (hc : vwCl[ci]? = some (C, T, N)) (ty0 : Nat → FieldType) (hty : ∀ k, k < N → parseFieldDescriptor (T k).2.2.1 = some (ty0 k)) (hnm : ∀ a, a < N → ∀ b, b < N → a ≠ b → (T a).2.1 ≠ (T b).2.1) (q0 : Nat) {fs : List Value} (he : w[q0]? = some (a, .inr (ci, fs))) (k : Nat) (hk : k < N) (hlink : Cond.fieldLink own index ref (T k).2.1 (T k).2.2.1 ∈ Ts) (hsame : (T k).1 = ref) (hfin : (T k).2.2.2 = true) (hdecl : (T k).1 = own) {v : Value} (hn : narrow (ty0 k) v = v) (hfit : fits (ty0 k) v = true) (hl : k < fs.length) (hdg : decode cc pc = .ok (.putfield index, 3)) {w' : va_W} (hw : w.set q0 (a, .inr (ci, fs.set k v)) = w')
    (kk : ∀ (H1 : Heap) (locs1 : List Loc), va_P D vwCl w' H1 → va_D A w' → va_S A s.heap H1 locs1 → W p l e R s m args below meth c H1 locs1 cells slots Q (F0 m (pc + 3) ls rest)) : W p l e R s m args below meth c H locs cells slots Q (F0 m pc ls (v :: .ref a :: rest)) :=
  va_putF B.hx B.hb B.hts hin ty0 hty hnm B.hown B.hK hP hD hS q0 he hc k hk (B.hts _ hlink) (fun x h => by rw [← hsame]; exact h) hfin hmn hdecl (hty k hk) hn hfit hl hdg (by rw [hw]; exact kk)
theorem q_objI (B : q_B p l s m args meth c D cI cZ cP A cc nL own Ts) {idx a : Nat} (hlink : Cond.methodLink own idx objectInit ∈ Ts) (hinst : Cond.instanceMethod objectInit ∈ Ts) (hcode : Cond.code objectInit ⟨#[0xb1]⟩ 1 none ∈ Ts) (hls : ls.size = nL) (hd : decode cc pc = .ok (.invokespecial idx, 3)) (hR : 1 ≤ R.frames ∧ (rest.map fun v => v.category).sum + 12 ≤ R.locals)
    (kk : W p l e R s m args below meth c H locs cells slots Q (F0 m (pc + 3) ls rest)) : W p l e R s m args below meth c H locs cells slots Q (F0 m pc ls (.ref a :: rest)) :=
  W.objInit B.hx B.hb B.hown (B.hts _ hlink) (B.hts _ hinst) (B.hts _ hcode) rfl (by rw [B.hml]; exact hls) rfl hd hR.1 (by show 2 * 0 + _ + 12 ≤ R.locals; have := hR.2; omega) kk
theorem q_C.met {y : MethodName} {ws : List Cond} {rm : Room} {av : List Value} {S : Type} {post : Option Value → S → Prop} {W' : S → va_W} {mc ms : Nat} (h : q_C l y ws rm D cI cZ cP av w post W' (fun _ => False) mc ms) (sz : Nat) : Met l y ws rm (q_P D cI cZ cP av w sz) (q_Q D post W' (va_A w sz)) mc ms (va_A w sz) := by
  intro p e ha hc hk s m args below hf happ hpre hK
  obtain ⟨n, o, h1, h2, h3, h4⟩ := h sz p e ha hc hk s m args below hf happ hpre hK
  refine ⟨n, o, h1, h2, h3, ?_⟩
  rcases h4 with h4 | ⟨q, -, E, ce, L, ⟨hx, -⟩, -⟩
  · exact h4
  · exact hx.elim
/-- invokespecial of a constructor -/
theorem q_callI {S : Type} {post : Option Value → S → Prop} {W' : S → va_W} {mc ms n index maxL b : Nat} {y : MethodName} {bytes : ByteArray} {ws ws' : List Cond} {rm : Room} {As : List Value} (B : q_B p l s m args meth c D cI cZ cP A cc nL own Ts) (hP : va_P D vwCl w H) (hD : va_D A w) (hS : va_S A s.heap H locs)
    (hC : q_C l y ws rm D cI cZ cP (.ref b :: As) w post W' (fun _ => False) mc ms) (hG : GoodIn Ts ws) (hw : ws = Cond.code y bytes maxL none :: ws') (hrc : rm.cells = mc) (hrs : rm.slots = ms) (hini : Cond.initialized y.cls ∈ Ts) (hlk : Cond.methodLink own index y ∈ Ts) (hin : Cond.instanceMethod y ∈ Ts) (hy1 : y.name = "<init>")
    (hd : y.cls ≠ "java/lang/invoke/MethodHandle" ∧ y.cls ≠ "java/lang/invoke/VarHandle" ∧ (parseMethodDescriptor y.desc).map (fun d => d.parameters.length) = some n) (hR : rm.frames + 1 ≤ R.frames ∧ 8 + (maxL + 11) + rm.locals ≤ R.locals) (hn : As.length = n) (hls : ls.size = nL) (hst : st0 = As.reverse ++ .ref b :: rest) (hcat : (rest.map fun v => v.category).sum ≤ 8)
    (hdg : decode cc pc = .ok (.invokespecial index, 3)) (hf : cells + mc ≤ R.cells ∧ slots + ms ≤ R.slots)
    (kk : ∀ (v : Option Value) (u : S) (H1 : Heap) (locs1 : List Loc), post v u → va_P D vwCl (W' u) H1 → va_D A (W' u) → va_S A s.heap H1 locs1 → W p l e R s m args below meth c H1 locs1 (cells + mc) (slots + ms) Q (F0 m (pc + 3) ls (v.toList ++ rest))) :
    W p l e R s m args below meth c H locs cells slots Q (F0 m pc ls st0) := by
  have hs := q_sub B hD hS
  have hr := va_runI (e := e) (below := below) (meth := meth) (locs := locs) ⟨B.hx, B.hb, B.hml, B.hown, B.hts⟩ (hC.met H.size) (cwI n B.hts hG hw hrc hrs (B.hts _ hini) (B.hts _ hlk) (B.hts _ hin) hy1 hd hR) ⟨q_P.blind, fun U hU hW => q_pre B hP hD hS hU hW⟩ (g := F0 m pc ls st0) rfl hn hls hst (lv_room hcat) hdg hf
  intro T hT X
  obtain ⟨v, st₀, t, T', L, h0, X', hL, e1, e2, ⟨⟨v9, u, hv, hp, hPn, hDn⟩, hF⟩, st⟩ := hr T hT X
  cases hv
  obtain ⟨k1, k2, k3⟩ := vx_keep h0 e1 hS (fun q _ h => hs q h) hs hL hF
  obtain ⟨t2, a1, b1⟩ := kk v u T'.heap (locs ++ L) hp (by rw [e1]; exact hPn) (hDn.weaken fun _ _ _ h => hs _ h) k3 T' rfl X'
  exact ⟨t2, st t2 a1, b1⟩
/-- a reference into a row of papers -/
theorem q_aast (B : q_B p l s m args meth c D cI cZ cP A cc nL own Ts) (hP : va_P D vwCl w H) (hD : va_D A w) (hS : va_S A s.heap H locs) (q0 qk : Nat) {a n j v : Nat} {i : Int32} {g : Nat → Option Nat} {vs : List Value} (ha : w[q0]? = some (a, .inl (cP, n, .inr (.inr (.inr (.inr g)))))) (hv : w[qk]? = some (v, .inr (2, vs))) (hi : i = nI j) (hj : j < n) (hn : n < 2 ^ 31) (hdg : decode cc pc = .ok (.aastore, 1)) {w' : va_W} (hw : w.set q0 (a, .inl (cP, n, .inr (.inr (.inr (.inr (va_up g j (some v))))))) = w')
    (kk : ∀ (H1 : Heap) (locs1 : List Loc), va_P D vwCl w' H1 → va_D A w' → va_S A s.heap H1 locs1 → W p l e R s m args below meth c H1 locs1 cells slots Q (F0 m (pc + 1) ls rest)) : W p l e R s m args below meth c H locs cells slots Q (F0 m pc ls (.ref v :: .int i :: .ref a :: rest)) := by
  subst hi
  refine va_astq B.hx B.hb B.hK hP hD hS q0 2 qk 2 (r := (RX2, TX2, 9)) ha rfl hv rfl (vp_in_nI hj hn) hdg ?_
  rw [nI_clamp (Nat.lt_trans hj hn), hw]
  exact kk
end QN
/-- addresses, by a list -/
def adr (l : List Nat) (k : Nat) : Nat := l.getD k 0
/-- the first i places -1 -/
def mf (i : Nat) : Nat → Int32 := fun j => if j < i then -1 else 0
theorem mf_0 : mf 0 = fun _ => 0 := by funext j; simp [mf]
theorem mf_s (i : Nat) : upd (mf i) i (-1) = mf (i + 1) := by
  funext j
  by_cases h : j = i
  · subst h; simp [upd, mf]
  · simp only [upd, mf, if_neg h]
    by_cases h2 : j < i
    · rw [if_pos h2, if_pos (by omega)]
    · rw [if_neg h2, if_neg (by omega)]
theorem q_sw (k c d p : va_W) : ((k ++ c) ++ (d ++ p)).Perm (d ++ (p ++ (k ++ c))) := by
  refine List.perm_append_comm.trans ?_
  rw [List.append_assoc]
