/-! THE LAW'S OWN ROWS: how they lie, bits, joins, loops; contracts that read the script. -/
/-- a 64, h 8, v 64, q 60, c 4, m 2, z 6, u 16 -/
def lw (cI : ClassId) (o : Nat → Nat) (F : Nat → Nat → Int32) : va_W :=
  [(o 0, .inl (cI, 64, .inl (F 0))), (o 1, .inl (cI, 8, .inl (F 1))), (o 2, .inl (cI, 64, .inl (F 2))), (o 3, .inl (cI, 60, .inl (F 3))), (o 4, .inl (cI, 4, .inl (F 4))), (o 5, .inl (cI, 2, .inl (F 5))), (o 6, .inl (cI, 6, .inl (F 6))), (o 7, .inl (cI, 16, .inl (F 7)))]
theorem bI_t1 {b : Bool} (h : ¬ bI b = 0) : b = true := by
  cases b
  · exact absurd rfl h
  · rfl
theorem bI_dec (b : Bool) : bI (decide (bI b = nI 1)) = bI b := by
  cases b <;> rfl
theorem narrow_bI (b : Bool) : narrow .boolean (.int (bI b)) = .int (bI b) := by
  cases b <;> rfl
theorem nI_lt0 {n : Nat} (h : n < 2 ^ 31) : nI n < 0 ↔ False := ⟨fun h2 => nI_pos h h2, fun h => h.elim⟩
theorem nI_ge0 {n : Nat} (h : n < 2 ^ 31) : 0 ≤ nI n ↔ True := ⟨fun _ => trivial, fun _ => nI_pos' h⟩
theorem nI_pred1 (n : Nat) : nI (n + 1) - nI 1 = nI n := nI_pred n
-- bits
theorem msk_has0 : ∀ m, m < 256 → ∀ k, k < 8 → (nI m >>> (nI k &&& 31)) &&& nI 1 = bI (m.testBit k) := by decide +kernel
theorem msk_has {m k : Nat} (hm : m < 256) (hk : k < 8) : (nI m >>> (nI k &&& 31)) &&& nI 1 = bI (m.testBit k) := msk_has0 m hm k hk
theorem msk_shl0 : ∀ k, k < 8 → nI 1 <<< (nI k &&& 31) = nI (2 ^ k) := by decide +kernel
theorem msk_shl {k : Nat} (hk : k < 8) : nI 1 <<< (nI k &&& 31) = nI (2 ^ k) := msk_shl0 k hk
/-- how many bits -/
def pc8 (m : Nat) : Nat := pN (fun i => m.testBit i) 8
theorem pc8_le (m : Nat) : pc8 m ≤ 8 := pN_le _ _
/-- a bit more -/
def bs (m k : Nat) : Nat := m ||| 2 ^ k
theorem bs_or0 : ∀ m, m < 256 → ∀ k, k < 8 → nI m ||| nI (2 ^ k) = nI (bs m k) ∧ bs m k < 256 := by decide +kernel
theorem bs_or {m k : Nat} (hm : m < 256) (hk : k < 8) : nI m ||| nI (2 ^ k) = nI (bs m k) := (bs_or0 m hm k hk).1
theorem bs_lt {m k : Nat} (hm : m < 256) (hk : k < 8) : bs m k < 256 := (bs_or0 m hm k hk).2
theorem bs_64 : ∀ m, m < 64 → ∀ k, k < 6 → bs m k < 64 := by decide +kernel
theorem bs_bit {m k i : Nat} : (bs m k).testBit i = (m.testBit i || decide (i = k)) := by
  rw [bs, Nat.testBit_or, Nat.testBit_two_pow]
  congr 1
  by_cases h : k = i <;> simp [h, eq_comm]
theorem or_0 {m : Nat} : nI m ||| nI 0 = nI m := by
  show nI m ||| 0 = nI m
  exact Int32.or_zero
/-- a bit put or taken -/
def bw (m k : Nat) (b : Bool) : Nat := if b = true then bs m k else m - (if m.testBit k = true then 2 ^ k else 0)
theorem bw_0 : ∀ m, m < 64 → ∀ k, k < 6 → nI m &&& (nI (2 ^ k) ^^^ (-1)) ||| nI (2 ^ k) = nI (bw m k true) ∧ nI m &&& (nI (2 ^ k) ^^^ (-1)) ||| nI 0 = nI (bw m k false) ∧ bw m k true < 64 ∧ bw m k false < 64 ∧ ∀ i, i < 6 → (bw m k true).testBit i = (m.testBit i || decide (i = k)) ∧ (bw m k false).testBit i = (m.testBit i && !decide (i = k)) := by decide +kernel
theorem pN_bI (f : Nat → Bool) (k : Nat) : nI (pN f k) + bI (f k) = nI (pN f (k + 1)) := by
  by_cases h : f k = true
  · rw [pN_yes h, h]; exact nI_add _ _
  · have h : f k = false := by simpa using h
    rw [pN_no h, h]; exact nI_add _ _
section QLB
variable {p : Program} {l : Launch} {e : Env} {R : Room} {s : State} {m : MethodId} {args : Array Value} {below : List Frame} {meth : Method} {c : Code} {H : Heap} {locs : List Loc} {cells slots : Nat} {Q : State → Prop}
variable {D : va_G} {cI cZ cP : ClassId} {A : Nat → Prop} {cc : ByteArray} {pc nL J : Nat} {ls : Array Slot} {rest st0 stk : List Value} {own : String} {Ts : List Cond} {w : va_W}
/-- roads that meet again -/
theorem q_join (k : ∀ (H : Heap) (locs : List Loc), va_P D vwCl w H → va_D A w → va_S A s.heap H locs → W p l e R s m args below meth c H locs cells slots Q (F0 m J ls stk)) (g : (∀ (H : Heap) (locs : List Loc), va_P D vwCl w H → va_D A w → va_S A s.heap H locs → W p l e R s m args below meth c H locs cells slots Q (F0 m J ls stk)) → W p l e R s m args below meth c H locs cells slots Q (F0 m pc ls st0)) :
    W p l e R s m args below meth c H locs cells slots Q (F0 m pc ls st0) := g k
theorem q_join0 (k : W p l e R s m args below meth c H locs cells slots Q (F0 m J ls stk)) (g : W p l e R s m args below meth c H locs cells slots Q (F0 m J ls stk) → W p l e R s m args below meth c H locs cells slots Q (F0 m pc ls st0)) :
    W p l e R s m args below meth c H locs cells slots Q (F0 m pc ls st0) := g k
/-- a loop that leaves its world -/
theorem q_loop2 (I : Nat → Prop) (μ : Nat → Nat) (lv : Nat → List (Nat × Value)) (x0 : Nat) (h0 : I x0) (hl : lv_has ls nL (lv x0)) (hP : va_P D vwCl w H) (hD : va_D A w) (hS : va_S A s.heap H locs)
    (hs : ∀ x, I x → (∀ y, I y → μ y < μ x → ∀ (ls : Array Slot) (H : Heap) (locs : List Loc), lv_has ls nL (lv y) → va_P D vwCl w H → va_D A w → va_S A s.heap H locs → W p l e R s m args below meth c H locs cells slots Q (F0 m pc ls st0)) → ∀ (ls : Array Slot) (H : Heap) (locs : List Loc), lv_has ls nL (lv x) → va_P D vwCl w H → va_D A w → va_S A s.heap H locs → W p l e R s m args below meth c H locs cells slots Q (F0 m pc ls st0)) :
    W p l e R s m args below meth c H locs cells slots Q (F0 m pc ls st0) := q_loopW I μ lv (fun _ => w) x0 h0 hl hP hD hS hs
/-- a loop over any state, that makes cells -/
theorem q_loopG {σ : Type} (I : σ → Prop) (μ : σ → Nat) (lv : σ → List (Nat × Value)) (wf : σ → va_W) (cf sf : σ → Nat) (x0 : σ) (h0 : I x0) (hl : lv_has ls nL (lv x0)) (hP : va_P D vwCl (wf x0) H) (hD : va_D A (wf x0)) (hS : va_S A s.heap H locs)
    (hs : ∀ x, I x → (∀ y, I y → μ y < μ x → ∀ (ls : Array Slot) (H : Heap) (locs : List Loc), lv_has ls nL (lv y) → va_P D vwCl (wf y) H → va_D A (wf y) → va_S A s.heap H locs → W p l e R s m args below meth c H locs (cf y) (sf y) Q (F0 m pc ls st0)) → ∀ (ls : Array Slot) (H : Heap) (locs : List Loc), lv_has ls nL (lv x) → va_P D vwCl (wf x) H → va_D A (wf x) → va_S A s.heap H locs → W p l e R s m args below meth c H locs (cf x) (sf x) Q (F0 m pc ls st0)) :
    W p l e R s m args below meth c H locs (cf x0) (sf x0) Q (F0 m pc ls st0) := by
  have key : ∀ N x, μ x < N → I x → ∀ (ls : Array Slot) (H : Heap) (locs : List Loc), lv_has ls nL (lv x) → va_P D vwCl (wf x) H → va_D A (wf x) → va_S A s.heap H locs → W p l e R s m args below meth c H locs (cf x) (sf x) Q (F0 m pc ls st0) := by
    intro N
    induction N with
    | zero => intro x h; exact absurd h (Nat.not_lt_zero _)
    | succ N ih => intro x h hI ls H locs hl hP hD hS; exact hs x hI (fun y hy hlt => ih y (by omega) hy) ls H locs hl hP hD hS
  exact key (μ x0 + 1) x0 (by omega) h0 ls H locs hl hP hD hS
-- contracts that read the script
/-- .. beside the world: the script, which nobody writes -/
def q_CX (l : Launch) (y : MethodName) (ws : List Cond) (rm : Room) (D : va_G) (cI cZ cP : ClassId) (sb L : Nat) (xs : Nat → Int32) (av : List Value) (w : va_W) {S : Type} (post : Option Value → S → Prop) (W' : S → va_W) (xp : String → Prop) (mc ms : Nat) : Prop :=
  ∀ sz : Nat, vx_Met l y ws rm (fun a U => q_P D cI cZ cP av w sz a U ∧ va_X sb L xs U U.heap ∧ sb < sz ∧ ¬ va_A w sz sb) (q_Q D post W' (va_A w sz)) (q_X D xp w (va_A w sz)) mc ms (va_A w sz)
theorem q_CX.fr {y : MethodName} {ws : List Cond} {rm : Room} {av : List Value} {S : Type} {post : Option Value → S → Prop} {W' : S → va_W} {xp : String → Prop} {mc ms sb L : Nat} {xs : Nat → Int32} (h : q_CX l y ws rm D cI cZ cP sb L xs av w post W' xp mc ms) (x : va_W) :
    q_CX l y ws rm D cI cZ cP sb L xs av (w ++ x) post (fun u => W' u ++ x) xp mc ms := by
  intro sz p e ha hc hk s m args below hf happ hpre _
  obtain ⟨⟨e0, e1, e2, e3, e4, e5⟩, hX, hlt, hnA⟩ := hpre
  obtain ⟨n, o, h1, h2, h3, h4⟩ := h sz p e ha hc hk s m args below hf happ ⟨⟨e0, e1, q_Pl e2, q_Dl e3, e4, e5.narrow fun q hq => q_Aw hq⟩, hX, hlt, fun h => hnA (q_Aw h)⟩ trivial
  refine ⟨n, o, h1, h2, h3, ?_⟩
  subst e1
  rcases h4 with ⟨⟨⟨v, u, rfl, hp, hP, hD⟩, hF⟩, L, hE, hL⟩ | ⟨q, rfl, E, ce, L, ⟨hx, hP, hF⟩, hce, hcv, hcl, hW, hsm, hL⟩
  · obtain ⟨k1, k2⟩ := q_back e2 e3 hF.2 hP hD
    exact Or.inl ⟨⟨⟨v, u, rfl, hp, k1, k2⟩, hF.1, fun q hq hA => hF.2 q hq (fun h => hA (q_Aw h))⟩, L, hE, fun q hq => q_Aw (hL q hq)⟩
  · have ho := q_out e2 e3
    refine Or.inr ⟨q, rfl, E, ce, L, ⟨hx, q_mem.mpr fun q hq => ?_, hF.1, fun q hq hA => hF.2 q hq (fun h => hA (q_Aw h))⟩, hce, hcv, hcl, hW, hsm, fun z hz => q_Aw (hL z hz)⟩
    rcases List.mem_append.mp hq with h | h
    · exact q_mem.mp hP q h
    · exact (q_mem.mp (q_Pr e2) q h).kept (hF.2 _ (ho q h).1 (ho q h).2)
theorem q_preX_blind {av : List Value} {sz sb L : Nat} {xs : Nat → Int32} : FrameBlind (fun a U => q_P D cI cZ cP av w sz a U ∧ va_X sb L xs U U.heap ∧ sb < sz ∧ ¬ va_A w sz sb) := by
  intro a U g mk h
  exact ⟨q_P.blind a U g mk h.1, va_X.moved (u := U) (U := U.calling g mk a) (Vm.Alike.refl U.vm) h.2.1, h.2.2⟩
theorem q_ofX {l : Launch} {y : MethodName} {ws ws' : List Cond} {rm : Room} {av : List Value} {S : Type} {post : Option Value → S → Prop} {W' : S → va_W} {xp : String → Prop} {mc ms sb L : Nat} {xs : Nat → Int32} {maxL : Nat} {ret : Option FieldType}
    (hy : plainName y.cls = true) (hw : ws = Cond.code y cc maxL ret :: ws') (hlen : (lg_sl av).length ≤ maxL)
    (body : ∀ (p : Program) (e : Env) (s : State) (m : MethodId) (below : List Frame) (meth : Method) (c : Code) (A : Nat → Prop) (ls : Array Slot), q_B p l s m av.toArray meth c D cI cZ cP A cc maxL y.cls ws → meth.sig.returnType = ret →
      va_X sb L xs s s.heap → sb < s.heap.size → ¬ A sb → va_P D vwCl w s.heap → va_D A w → va_S A s.heap s.heap [] → lv_has ls maxL (lv_args 0 av) →
      W p l e rm s m av.toArray below meth c s.heap [] 0 0 (vx_MQ below (q_Q D post W' A) (q_X D xp w A) av.toArray s mc ms A) (F0 m 0 ls [])) :
    q_CX l y ws rm D cI cZ cP sb L xs av w post W' xp mc ms := by
  intro sz
  refine vx_ofW (cc := cc) (maxL := maxL) (ret := ret) hy hw ?_
  intro p e s m args below meth c s₁ B hml htb hv
  obtain ⟨⟨rfl, hsz, hP, hD, hKK, hZ⟩, hX, hlt, hnA⟩ := hv
  subst hsz
  have hl := lv_entry av (n := maxL) hlen
  rw [lg_entry_eq]
  exact body p e s m below meth c (va_A w s.heap.size) _ ⟨B.exec, B.bytes, hml, B.notSynchronized, findClass_of_methodNamed B.named, atoms_spec (ws := ws) B.pre, hKK, hZ, fun q h => Or.inr h⟩ B.returns hX hlt hnA hP hD.self va_S.rf hl
theorem q_callX {S : Type} {post : Option Value → S → Prop} {W' : S → va_W} {xp : String → Prop} {mc ms n index maxL sb L : Nat} {xs : Nat → Int32} {y : MethodName} {bytes : ByteArray} {ret : Option FieldType} {ws : List Cond} {rm : Room} {As : List Value} (B : q_B p l s m args meth c D cI cZ cP A cc nL own Ts) (hX : va_X sb L xs s s.heap) (hbl : sb < s.heap.size) (hbA : ¬ A sb) (hP : va_P D vwCl w H) (hD : va_D A w) (hS : va_S A s.heap H locs)
    (hC : q_CX l y ws rm D cI cZ cP sb L xs As w post W' xp mc ms) (cw : CallB R s args own index y bytes maxL ret ws rm mc ms n ∧ (Cond.static y).before args s = true)
    (hn : As.length = n) (hls : ls.size = nL) (hst : st0 = As.reverse ++ rest) (hcat : (rest.map fun v => v.category).sum ≤ 8)
    (hdg : decode cc pc = .ok (.invokestatic index, 3)) (hf : cells + mc ≤ R.cells ∧ slots + ms ≤ R.slots)
    (kx : ∀ (E : String) (ce : Cell) (q9 : Addr) (H1 : Heap) (locs1 : List Loc), xp E → va_P D vwCl w H1 → va_S A s.heap H1 locs1 → H1[q9]? = some ce → ce.vm = .none → s.vm.findClass E = some ce.cls → vx_W p l e R s m args below meth c H1 locs1 (cells + mc) (slots + ms) Q (F0 m pc ls rest) q9)
    (kk : ∀ (v : Option Value) (u : S) (H1 : Heap) (locs1 : List Loc), post v u → va_P D vwCl (W' u) H1 → va_D A (W' u) → va_S A s.heap H1 locs1 → W p l e R s m args below meth c H1 locs1 (cells + mc) (slots + ms) Q (F0 m (pc + 3) ls (v.toList ++ rest))) :
    W p l e R s m args below meth c H locs cells slots Q (F0 m pc ls st0) :=
  q_call B hP hD hS (vx_runS ⟨B.hx, B.hb, B.hml, B.hown, B.hts⟩ (hC H.size) cw ⟨q_preX_blind, fun U hU hW => ⟨q_pre B hP hD hS hU hW, by rw [hU]; exact va_X.moved hW.alike (hX.kept (hS.2.1 sb hbl hbA)), Nat.lt_of_lt_of_le hbl hS.1, fun h => hbA (q_sub B hD hS sb h)⟩⟩ rfl hn hls hst (lv_room hcat) hdg hf) kx kk
end QLB
