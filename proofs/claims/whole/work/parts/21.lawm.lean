/-! THE LAW'S OWN METHODS: a call of the class with its throws caught, over any contract of the class's method. -/
section QL
/-- the long's cell -/
def oc (cJ : ClassId) (o : Nat) (f : Nat → Int64) : Nat × va_E := (o, .inl (cJ, 1, .inr (.inl f)))
def lpost {S : Type} (post : Option Value → S → Prop) (xp : String → Prop) (cs : List (String × Nat)) : Option Value → (S × Int32) ⊕ (String × Nat) → Prop
  | v, .inl (u, x) => post (some (.int x)) u ∧ v = some (.int (nI 0))
  | v, .inr (E, k) => xp E ∧ (E, k) ∈ cs ∧ v = some (.int (nI k))
def lW {S : Type} (W' : S → va_W) (w : va_W) (cJ : ClassId) (o : Nat) (f : Nat → Int64) (g : Int32 → Int64) : (S × Int32) ⊕ (String × Nat) → va_W
  | .inl (u, x) => W' u ++ [oc cJ o (vp_updL f 0 (g x))]
  | .inr _ => w ++ [oc cJ o f]
def vpost {S : Type} (post : Option Value → S → Prop) (xp : String → Prop) (cs : List (String × Nat)) : Option Value → S ⊕ (String × Nat) → Prop
  | v, .inl u => post none u ∧ v = some (.int (nI 0))
  | v, .inr (E, k) => xp E ∧ (E, k) ∈ cs ∧ v = some (.int (nI k))
def vW {S : Type} (W' : S → va_W) (w : va_W) : S ⊕ (String × Nat) → va_W
  | .inl u => W' u
  | .inr _ => w
theorem oc_at (w : va_W) (q : Nat × va_E) : (w ++ [q])[w.length]? = some q := by simp
theorem oc_set (w : va_W) (q r : Nat × va_E) : (w ++ [q]).set w.length r = w ++ [r] := by
  rw [List.set_append_right _ _ (Nat.le_refl _), Nat.sub_self]; rfl
variable {p : Program} {l : Launch} {e : Env} {R : Room} {s : State} {m : MethodId} {args : Array Value} {below : List Frame} {meth : Method} {c : Code} {H : Heap} {locs : List Loc} {cells slots : Nat} {Q : State → Prop}
variable {D : va_G} {cI cZ cP cJ : ClassId} {A : Nat → Prop} {cc : ByteArray} {pc nL : Nat} {ls : Array Slot} {rest st0 : List Value} {own : String} {Ts : List Cond} {w : va_W}
theorem q_last {f : Nat → Int64} {o : Nat} {x : Int64} (B : q_B p l s m args meth c D cI cZ cP cJ A cc nL own Ts) (hP : va_P D vwCl (w ++ [oc cJ o f]) H) (hD : va_D A (w ++ [oc cJ o f])) (hS : va_S A s.heap H locs) (hdg : decode cc pc = .ok (.lastore, 1))
    (kk : ∀ (H1 : Heap) (locs1 : List Loc), va_P D vwCl (w ++ [oc cJ o (vp_updL f 0 x)]) H1 → va_D A (w ++ [oc cJ o (vp_updL f 0 x)]) → va_S A s.heap H1 locs1 → W p l e R s m args below meth c H1 locs1 cells slots Q (F0 m (pc + 1) ls rest)) : W p l e R s m args below meth c H locs cells slots Q (F0 m pc ls (.long x :: .int (nI 0) :: .ref o :: rest)) := by
  refine va_last B.hx B.hb B.hK hP hD hS w.length 3 (oc_at w _) rfl (vp_in_nI (by omega) (by decide)) hdg ?_
  rw [show (nI 0).toNatClampNeg = 0 from nI_clamp (by decide), oc_set]
  exact kk
theorem q_laldo {f : Nat → Int64} {o q0 : Nat} (B : q_B p l s m args meth c D cI cZ cP cJ A cc nL own Ts) (hP : va_P D vwCl w H) (ha : w[q0]? = some (oc cJ o f)) (hdg : decode cc pc = .ok (.laload, 1))
    (kk : W p l e R s m args below meth c H locs cells slots Q (F0 m (pc + 1) ls (.long (f 0) :: rest))) : W p l e R s m args below meth c H locs cells slots Q (F0 m pc ls (.int (nI 0) :: .ref o :: rest)) := by
  refine va_lald B.hx B.hb B.hK hP q0 3 ha rfl (vp_in_nI (by omega) (by decide)) hdg ?_
  rw [show (nI 0).toNatClampNeg = 0 from nI_clamp (by decide)]
  exact kk
theorem q_cast {E : String} (B : q_B p l s m args meth c D cI cZ cP cJ A cc nL own Ts) (h : Cond.castable E E ∈ q_ng) : (Cond.castable E E).before args s = true := va_tabs (by rfl) rfl (B.hKK.2.2.1 _ h)
theorem q_nca {E F : String} (B : q_B p l s m args meth c D cI cZ cP cJ A cc nL own Ts) (h : (E, F) ∈ q_nc) : va_Nc E F s := B.hKK.2.2.2.1 _ h
/-- the handlers, in their order -/
theorem q_hand1 {E : String} {ce : Cell} {q : Addr} {a0 b0 h0 c0 : Nat} {suf : List (Nat × Nat × Nat × Nat)} (B : q_B p l s m args meth c D cI cZ cP cJ A cc nL own Ts) (htb : c.exceptionTable.toList = tableOf ((a0, b0, h0, c0) :: suf)) (hcov : covers ⟨a0, b0, h0, c0⟩ pc = true) (hc0 : c0 ≠ 0)
    (hl : Cond.classLink own c0 E ∈ Ts) (hcast : Cond.castable E E ∈ q_ng) (hcell : H[q]? = some ce) (hv : ce.vm = .none) (hcl : s.vm.findClass E = some ce.cls)
    (kk : W p l e R s m args below meth c H locs cells slots Q (F0 m h0 ls [.ref q])) : vx_W p l e R s m args below meth c H locs cells slots Q (F0 m pc ls rest) q :=
  vx_catch B.hown [] ⟨a0, b0, h0, c0⟩ (tableOf suf) (by rw [htb]; rfl) (fun z hz => absurd hz List.not_mem_nil) hcov hc0 (B.hts _ hl) (q_cast B hcast) hcell hv hcl kk
theorem q_hand2 {E F : String} {ce : Cell} {q : Addr} {a0 b0 h0 c0 a1 b1 h1 c1 : Nat} {suf : List (Nat × Nat × Nat × Nat)} (B : q_B p l s m args meth c D cI cZ cP cJ A cc nL own Ts) (htb : c.exceptionTable.toList = tableOf ((a0, b0, h0, c0) :: (a1, b1, h1, c1) :: suf)) (hc0 : c0 ≠ 0) (hl0 : Cond.classLink own c0 F ∈ Ts) (hn : (E, F) ∈ q_nc) (hcov : covers ⟨a1, b1, h1, c1⟩ pc = true) (hc1 : c1 ≠ 0)
    (hl : Cond.classLink own c1 E ∈ Ts) (hcast : Cond.castable E E ∈ q_ng) (hcell : H[q]? = some ce) (hv : ce.vm = .none) (hcl : s.vm.findClass E = some ce.cls)
    (kk : W p l e R s m args below meth c H locs cells slots Q (F0 m h1 ls [.ref q])) : vx_W p l e R s m args below meth c H locs cells slots Q (F0 m pc ls rest) q :=
  vx_catch B.hown [⟨a0, b0, h0, c0⟩] ⟨a1, b1, h1, c1⟩ (tableOf suf) (by rw [htb]; rfl) (fun z hz => by obtain rfl := List.mem_singleton.mp hz; exact Or.inr ⟨hc0, F, B.hts _ hl0, q_nca B hn⟩) hcov hc1 (B.hts _ hl) (q_cast B hcast) hcell hv hcl kk
theorem q_hand3 {E F G : String} {ce : Cell} {q : Addr} {a0 b0 h0 c0 a1 b1 h1 c1 a2 b2 h2 c2 : Nat} {suf : List (Nat × Nat × Nat × Nat)} (B : q_B p l s m args meth c D cI cZ cP cJ A cc nL own Ts) (htb : c.exceptionTable.toList = tableOf ((a0, b0, h0, c0) :: (a1, b1, h1, c1) :: (a2, b2, h2, c2) :: suf)) (hc0 : c0 ≠ 0) (hl0 : Cond.classLink own c0 F ∈ Ts) (hn : (E, F) ∈ q_nc) (hc1 : c1 ≠ 0) (hl1 : Cond.classLink own c1 G ∈ Ts) (hn1 : (E, G) ∈ q_nc) (hcov : covers ⟨a2, b2, h2, c2⟩ pc = true) (hc2 : c2 ≠ 0)
    (hl : Cond.classLink own c2 E ∈ Ts) (hcast : Cond.castable E E ∈ q_ng) (hcell : H[q]? = some ce) (hv : ce.vm = .none) (hcl : s.vm.findClass E = some ce.cls)
    (kk : W p l e R s m args below meth c H locs cells slots Q (F0 m h2 ls [.ref q])) : vx_W p l e R s m args below meth c H locs cells slots Q (F0 m pc ls rest) q :=
  vx_catch B.hown [⟨a0, b0, h0, c0⟩, ⟨a1, b1, h1, c1⟩] ⟨a2, b2, h2, c2⟩ (tableOf suf) (by rw [htb]; rfl) (fun z hz => by
    rcases List.mem_cons.mp hz with rfl | hz
    · exact Or.inr ⟨hc0, F, B.hts _ hl0, q_nca B hn⟩
    · obtain rfl := List.mem_singleton.mp hz
      exact Or.inr ⟨hc1, G, B.hts _ hl1, q_nca B hn1⟩) hcov hc2 (B.hts _ hl) (q_cast B hcast) hcell hv hcl kk
end QL
section QLM
set_option maxHeartbeats 4000000 in
theorem cl_answer (l : Launch) (D : va_G) (cI cZ cP cJ : ClassId) {S : Type} {post : Option Value → S → Prop} {W' : S → va_W} {xp : String → Prop} {fr lo mc ms q0 b o : Nat} {w : va_W} {fs : List Value} {f : Nat → Int64} {x y : Int32} (hq : w[q0]? = some (b, .inr (3, fs))) (h : q_C l yX3_answer wsX3_answer { frames := fr, cells := mc, slots := ms, locals := lo } D cI cZ cP cJ [.ref b, .int x, .int y] w post W' xp mc ms) (hpost : ∀ v u, post v u → ∃ z : Int32, v = some (.int z)) (hxp : ∀ E, xp E → E = q_IOB ∨ E = q_ISE) : q_C l yL_answer wsL_answer { frames := fr + 1, cells := mc, slots := ms, locals := 8 + (5 + 11) + lo } D cI cZ cP cJ [.ref b, .int x, .int y, .ref o] (w ++ [oc cJ o f]) (S := (S × Int32) ⊕ (String × Nat)) (lpost post xp [(q_IOB, 1), (q_ISE, 2)]) (lW W' w cJ o f (fun x => x.toInt64)) (fun _ => False) mc ms := by
  refine q_ofH (cc := cL_answer) (maxL := 5) (ret := (some .int)) (by decide +kernel) rfl (Nat.le_of_ble_eq_true rfl) ?_
  intro p e s m below meth c A ls B hr htb hP hD hS hl
  have hl : lv_has ls 5 [(0, .ref b), (1, .int x), (2, .int y), (3, .ref o)] := hl
  have hq : (w ++ [oc cJ o f])[q0]? = some (b, .inr (3, fs)) := by rw [List.getElem?_append_left (List.getElem?_eq_some_iff.mp hq).1]; exact hq
  refine lv_aload_n B.hx B.hb dL_answer_0 rfl (lv_at hl 3 rfl) ?_
  refine lv_iconst (v := nI 0) B.hx B.hb dL_answer_1 (by decide) ?_
  refine lv_aload_n B.hx B.hb dL_answer_2 rfl (lv_at hl 0 rfl) ?_
  refine lv_iload_n B.hx B.hb dL_answer_3 rfl (lv_at hl 1 rfl) ?_
  refine lv_iload_n B.hx B.hb dL_answer_4 rfl (lv_at hl 2 rfl) ?_
  refine q_callV (As := [.int x, .int y]) (rest := [.int (nI 0), .ref o]) B hP hD hS (h.fr [oc cJ o f]) (cwV 2 B.hts gL_answer_X3_answer rfl rfl rfl (by decide +kernel) ⟨Nat.le_refl _, Nat.le_refl _⟩) q0 3 hq rfl rfl rfl hl.1 rfl (Nat.le_of_ble_eq_true rfl) dL_answer_5 ⟨(Nat.le_of_eq (Nat.zero_add _)), (Nat.le_of_eq (Nat.zero_add _))⟩ (fun E ce q9 H locs hx hP hS hce hcv hcl => ?_) (fun v u H locs hp hP hD hS => ?_)
  · rcases hxp E hx with rfl | rfl
    · refine q_hand1 B htb rfl (by decide) (by decide +kernel) (by decide) hce hcv hcl ?_
      refine lv_astore (lv' := [(4, .ref q9), (0, .ref b), (1, .int x), (2, .int y), (3, .ref o)]) B.hx B.hb dL_answer_13 hl (by decide) rfl (fun ls hl => ?_)
      refine lv_iconst (v := nI 1) B.hx B.hb dL_answer_15 (by decide) ?_
      exact q_iret B hr hP hD hS (u := .inr (q_IOB, 1)) rfl ⟨hx, by simp, rfl⟩ (Nat.le_of_eq (Nat.zero_add _)) (Nat.le_of_eq (Nat.zero_add _)) dL_answer_16
    · refine q_hand2 (F := q_IOB) B htb (by decide) (by decide +kernel) (by decide) rfl (by decide) (by decide +kernel) (by decide) hce hcv hcl ?_
      refine lv_astore (lv' := [(4, .ref q9), (0, .ref b), (1, .int x), (2, .int y), (3, .ref o)]) B.hx B.hb dL_answer_17 hl (by decide) rfl (fun ls hl => ?_)
      refine lv_iconst (v := nI 2) B.hx B.hb dL_answer_19 (by decide) ?_
      exact q_iret B hr hP hD hS (u := .inr (q_ISE, 2)) rfl ⟨hx, by simp, rfl⟩ (Nat.le_of_eq (Nat.zero_add _)) (Nat.le_of_eq (Nat.zero_add _)) dL_answer_20
  · obtain ⟨z, rfl⟩ := hpost v u hp
    refine lv_i2l (v := z.toInt64) B.hx B.hb dL_answer_8 rfl ?_
    refine q_last B hP hD hS dL_answer_9 (fun H locs hP hD hS => ?_)
    refine lv_goto (tgt := 21) B.hx B.hb dL_answer_10 (by decide) ?_
    refine lv_iconst (v := nI 0) B.hx B.hb dL_answer_21 (by decide) ?_
    exact q_iret B hr hP hD hS (u := .inl (u, z)) rfl ⟨hp, rfl⟩ (Nat.le_of_eq (Nat.zero_add _)) (Nat.le_of_eq (Nat.zero_add _)) dL_answer_22

set_option maxHeartbeats 4000000 in
theorem cl_approve (l : Launch) (D : va_G) (cI cZ cP cJ : ClassId) {S : Type} {post : Option Value → S → Prop} {W' : S → va_W} {xp : String → Prop} {fr lo mc ms q0 b : Nat} {w : va_W} {fs : List Value} {x y z : Int32} (hq : w[q0]? = some (b, .inr (3, fs))) (h : q_C l yX3_approve wsX3_approve { frames := fr, cells := mc, slots := ms, locals := lo } D cI cZ cP cJ [.ref b, .int x, .int y, .int z] w post W' xp mc ms) (hpost : ∀ v u, post v u → v = none) (hxp : ∀ E, xp E → E = q_IOB ∨ E = q_IAE ∨ E = q_ISE) : q_C l yL_approve wsL_approve { frames := fr + 1, cells := mc, slots := ms, locals := 8 + (6 + 11) + lo } D cI cZ cP cJ [.ref b, .int x, .int y, .int z] w (S := S ⊕ (String × Nat)) (vpost post xp [(q_IOB, 1), (q_IAE, 2), (q_ISE, 3)]) (vW W' w) (fun _ => False) mc ms := by
  refine q_ofH (cc := cL_approve) (maxL := 5) (ret := (some .int)) (by decide +kernel) rfl (Nat.le_of_ble_eq_true rfl) ?_
  intro p e s m below meth c A ls B hr htb hP hD hS hl
  have hl : lv_has ls 5 [(0, .ref b), (1, .int x), (2, .int y), (3, .int z)] := hl
  refine lv_aload_n B.hx B.hb dL_approve_0 rfl (lv_at hl 0 rfl) ?_
  refine lv_iload_n B.hx B.hb dL_approve_1 rfl (lv_at hl 1 rfl) ?_
  refine lv_iload_n B.hx B.hb dL_approve_2 rfl (lv_at hl 2 rfl) ?_
  refine lv_iload_n B.hx B.hb dL_approve_3 rfl (lv_at hl 3 rfl) ?_
  refine q_callV (As := [.int x, .int y, .int z]) (rest := []) B hP hD hS h (cwV 3 B.hts gL_approve_X3_approve rfl rfl rfl (by decide +kernel) ⟨Nat.le_refl _, Nat.le_refl _⟩) q0 3 hq rfl rfl rfl hl.1 rfl (Nat.le_of_ble_eq_true rfl) dL_approve_4 ⟨(Nat.le_of_eq (Nat.zero_add _)), (Nat.le_of_eq (Nat.zero_add _))⟩ (fun E ce q9 H locs hx hP hS hce hcv hcl => ?_) (fun v u H locs hp hP hD hS => ?_)
  · rcases hxp E hx with rfl | rfl | rfl
    · refine q_hand1 B htb rfl (by decide) (by decide +kernel) (by decide) hce hcv hcl ?_
      refine lv_astore (lv' := [(4, .ref q9), (0, .ref b), (1, .int x), (2, .int y), (3, .int z)]) B.hx B.hb dL_approve_10 hl (by decide) rfl (fun ls hl => ?_)
      refine lv_iconst (v := nI 1) B.hx B.hb dL_approve_12 (by decide) ?_
      exact q_iret B hr hP hD hS (u := .inr (q_IOB, 1)) rfl ⟨hx, by simp, rfl⟩ (Nat.le_of_eq (Nat.zero_add _)) (Nat.le_of_eq (Nat.zero_add _)) dL_approve_13
    · refine q_hand2 (F := q_IOB) B htb (by decide) (by decide +kernel) (by decide) rfl (by decide) (by decide +kernel) (by decide) hce hcv hcl ?_
      refine lv_astore (lv' := [(4, .ref q9), (0, .ref b), (1, .int x), (2, .int y), (3, .int z)]) B.hx B.hb dL_approve_14 hl (by decide) rfl (fun ls hl => ?_)
      refine lv_iconst (v := nI 2) B.hx B.hb dL_approve_16 (by decide) ?_
      exact q_iret B hr hP hD hS (u := .inr (q_IAE, 2)) rfl ⟨hx, by simp, rfl⟩ (Nat.le_of_eq (Nat.zero_add _)) (Nat.le_of_eq (Nat.zero_add _)) dL_approve_17
    · refine q_hand3 (F := q_IOB) (G := q_IAE) B htb (by decide) (by decide +kernel) (by decide) (by decide) (by decide +kernel) (by decide) rfl (by decide) (by decide +kernel) (by decide) hce hcv hcl ?_
      refine lv_astore (lv' := [(4, .ref q9), (0, .ref b), (1, .int x), (2, .int y), (3, .int z)]) B.hx B.hb dL_approve_18 hl (by decide) rfl (fun ls hl => ?_)
      refine lv_iconst (v := nI 3) B.hx B.hb dL_approve_20 (by decide) ?_
      exact q_iret B hr hP hD hS (u := .inr (q_ISE, 3)) rfl ⟨hx, by simp, rfl⟩ (Nat.le_of_eq (Nat.zero_add _)) (Nat.le_of_eq (Nat.zero_add _)) dL_approve_21
  · obtain rfl := hpost v u hp
    refine lv_goto (tgt := 22) B.hx B.hb dL_approve_7 (by decide) ?_
    refine lv_iconst (v := nI 0) B.hx B.hb dL_approve_22 (by decide) ?_
    exact q_iret B hr hP hD hS (u := .inl u) rfl ⟨hp, rfl⟩ (Nat.le_of_eq (Nat.zero_add _)) (Nat.le_of_eq (Nat.zero_add _)) dL_approve_23

set_option maxHeartbeats 4000000 in
theorem cl_change (l : Launch) (D : va_G) (cI cZ cP cJ : ClassId) {S : Type} {post : Option Value → S → Prop} {W' : S → va_W} {xp : String → Prop} {fr lo mc ms q0 b o : Nat} {w : va_W} {fs : List Value} {f : Nat → Int64} {x y : Int32} (hq : w[q0]? = some (b, .inr (3, fs))) (h : q_C l yX3_change wsX3_change { frames := fr, cells := mc, slots := ms, locals := lo } D cI cZ cP cJ [.ref b, .int x, .int y] w post W' xp mc ms) (hpost : ∀ v u, post v u → ∃ z : Int32, v = some (.int z)) (hxp : ∀ E, xp E → E = q_IOB ∨ E = q_IAE ∨ E = q_ISE) : q_C l yL_change wsL_change { frames := fr + 1, cells := mc, slots := ms, locals := 8 + (5 + 11) + lo } D cI cZ cP cJ [.ref b, .int x, .int y, .ref o] (w ++ [oc cJ o f]) (S := (S × Int32) ⊕ (String × Nat)) (lpost post xp [(q_IOB, 1), (q_IAE, 2), (q_ISE, 3)]) (lW W' w cJ o f (fun x => x.toInt64)) (fun _ => False) mc ms := by
  refine q_ofH (cc := cL_change) (maxL := 5) (ret := (some .int)) (by decide +kernel) rfl (Nat.le_of_ble_eq_true rfl) ?_
  intro p e s m below meth c A ls B hr htb hP hD hS hl
  have hl : lv_has ls 5 [(0, .ref b), (1, .int x), (2, .int y), (3, .ref o)] := hl
  have hq : (w ++ [oc cJ o f])[q0]? = some (b, .inr (3, fs)) := by rw [List.getElem?_append_left (List.getElem?_eq_some_iff.mp hq).1]; exact hq
  refine lv_aload_n B.hx B.hb dL_change_0 rfl (lv_at hl 3 rfl) ?_
  refine lv_iconst (v := nI 0) B.hx B.hb dL_change_1 (by decide) ?_
  refine lv_aload_n B.hx B.hb dL_change_2 rfl (lv_at hl 0 rfl) ?_
  refine lv_iload_n B.hx B.hb dL_change_3 rfl (lv_at hl 1 rfl) ?_
  refine lv_iload_n B.hx B.hb dL_change_4 rfl (lv_at hl 2 rfl) ?_
  refine q_callV (As := [.int x, .int y]) (rest := [.int (nI 0), .ref o]) B hP hD hS (h.fr [oc cJ o f]) (cwV 2 B.hts gL_change_X3_change rfl rfl rfl (by decide +kernel) ⟨Nat.le_refl _, Nat.le_refl _⟩) q0 3 hq rfl rfl rfl hl.1 rfl (Nat.le_of_ble_eq_true rfl) dL_change_5 ⟨(Nat.le_of_eq (Nat.zero_add _)), (Nat.le_of_eq (Nat.zero_add _))⟩ (fun E ce q9 H locs hx hP hS hce hcv hcl => ?_) (fun v u H locs hp hP hD hS => ?_)
  · rcases hxp E hx with rfl | rfl | rfl
    · refine q_hand1 B htb rfl (by decide) (by decide +kernel) (by decide) hce hcv hcl ?_
      refine lv_astore (lv' := [(4, .ref q9), (0, .ref b), (1, .int x), (2, .int y), (3, .ref o)]) B.hx B.hb dL_change_13 hl (by decide) rfl (fun ls hl => ?_)
      refine lv_iconst (v := nI 1) B.hx B.hb dL_change_15 (by decide) ?_
      exact q_iret B hr hP hD hS (u := .inr (q_IOB, 1)) rfl ⟨hx, by simp, rfl⟩ (Nat.le_of_eq (Nat.zero_add _)) (Nat.le_of_eq (Nat.zero_add _)) dL_change_16
    · refine q_hand2 (F := q_IOB) B htb (by decide) (by decide +kernel) (by decide) rfl (by decide) (by decide +kernel) (by decide) hce hcv hcl ?_
      refine lv_astore (lv' := [(4, .ref q9), (0, .ref b), (1, .int x), (2, .int y), (3, .ref o)]) B.hx B.hb dL_change_17 hl (by decide) rfl (fun ls hl => ?_)
      refine lv_iconst (v := nI 2) B.hx B.hb dL_change_19 (by decide) ?_
      exact q_iret B hr hP hD hS (u := .inr (q_IAE, 2)) rfl ⟨hx, by simp, rfl⟩ (Nat.le_of_eq (Nat.zero_add _)) (Nat.le_of_eq (Nat.zero_add _)) dL_change_20
    · refine q_hand3 (F := q_IOB) (G := q_IAE) B htb (by decide) (by decide +kernel) (by decide) (by decide) (by decide +kernel) (by decide) rfl (by decide) (by decide +kernel) (by decide) hce hcv hcl ?_
      refine lv_astore (lv' := [(4, .ref q9), (0, .ref b), (1, .int x), (2, .int y), (3, .ref o)]) B.hx B.hb dL_change_21 hl (by decide) rfl (fun ls hl => ?_)
      refine lv_iconst (v := nI 3) B.hx B.hb dL_change_23 (by decide) ?_
      exact q_iret B hr hP hD hS (u := .inr (q_ISE, 3)) rfl ⟨hx, by simp, rfl⟩ (Nat.le_of_eq (Nat.zero_add _)) (Nat.le_of_eq (Nat.zero_add _)) dL_change_24
  · obtain ⟨z, rfl⟩ := hpost v u hp
    refine lv_i2l (v := z.toInt64) B.hx B.hb dL_change_8 rfl ?_
    refine q_last B hP hD hS dL_change_9 (fun H locs hP hD hS => ?_)
    refine lv_goto (tgt := 25) B.hx B.hb dL_change_10 (by decide) ?_
    refine lv_iconst (v := nI 0) B.hx B.hb dL_change_25 (by decide) ?_
    exact q_iret B hr hP hD hS (u := .inl (u, z)) rfl ⟨hp, rfl⟩ (Nat.le_of_eq (Nat.zero_add _)) (Nat.le_of_eq (Nat.zero_add _)) dL_change_26

set_option maxHeartbeats 4000000 in
theorem cl_confirm (l : Launch) (D : va_G) (cI cZ cP cJ : ClassId) {S : Type} {post : Option Value → S → Prop} {W' : S → va_W} {xp : String → Prop} {fr lo mc ms q0 b o : Nat} {w : va_W} {fs : List Value} {f : Nat → Int64} {x y : Int32} (hq : w[q0]? = some (b, .inr (3, fs))) (h : q_C l yX3_confirm wsX3_confirm { frames := fr, cells := mc, slots := ms, locals := lo } D cI cZ cP cJ [.ref b, .int x, .int y] w post W' xp mc ms) (hpost : ∀ v u, post v u → ∃ z : Int32, v = some (.int z)) (hxp : ∀ E, xp E → E = q_IOB ∨ E = q_IAE ∨ E = q_ISE) : q_C l yL_confirm wsL_confirm { frames := fr + 1, cells := mc, slots := ms, locals := 8 + (5 + 11) + lo } D cI cZ cP cJ [.ref b, .int x, .int y, .ref o] (w ++ [oc cJ o f]) (S := (S × Int32) ⊕ (String × Nat)) (lpost post xp [(q_IOB, 1), (q_IAE, 2), (q_ISE, 3)]) (lW W' w cJ o f (fun x => x.toInt64)) (fun _ => False) mc ms := by
  refine q_ofH (cc := cL_confirm) (maxL := 5) (ret := (some .int)) (by decide +kernel) rfl (Nat.le_of_ble_eq_true rfl) ?_
  intro p e s m below meth c A ls B hr htb hP hD hS hl
  have hl : lv_has ls 5 [(0, .ref b), (1, .int x), (2, .int y), (3, .ref o)] := hl
  have hq : (w ++ [oc cJ o f])[q0]? = some (b, .inr (3, fs)) := by rw [List.getElem?_append_left (List.getElem?_eq_some_iff.mp hq).1]; exact hq
  refine lv_aload_n B.hx B.hb dL_confirm_0 rfl (lv_at hl 3 rfl) ?_
  refine lv_iconst (v := nI 0) B.hx B.hb dL_confirm_1 (by decide) ?_
  refine lv_aload_n B.hx B.hb dL_confirm_2 rfl (lv_at hl 0 rfl) ?_
  refine lv_iload_n B.hx B.hb dL_confirm_3 rfl (lv_at hl 1 rfl) ?_
  refine lv_iload_n B.hx B.hb dL_confirm_4 rfl (lv_at hl 2 rfl) ?_
  refine q_callV (As := [.int x, .int y]) (rest := [.int (nI 0), .ref o]) B hP hD hS (h.fr [oc cJ o f]) (cwV 2 B.hts gL_confirm_X3_confirm rfl rfl rfl (by decide +kernel) ⟨Nat.le_refl _, Nat.le_refl _⟩) q0 3 hq rfl rfl rfl hl.1 rfl (Nat.le_of_ble_eq_true rfl) dL_confirm_5 ⟨(Nat.le_of_eq (Nat.zero_add _)), (Nat.le_of_eq (Nat.zero_add _))⟩ (fun E ce q9 H locs hx hP hS hce hcv hcl => ?_) (fun v u H locs hp hP hD hS => ?_)
  · rcases hxp E hx with rfl | rfl | rfl
    · refine q_hand1 B htb rfl (by decide) (by decide +kernel) (by decide) hce hcv hcl ?_
      refine lv_astore (lv' := [(4, .ref q9), (0, .ref b), (1, .int x), (2, .int y), (3, .ref o)]) B.hx B.hb dL_confirm_13 hl (by decide) rfl (fun ls hl => ?_)
      refine lv_iconst (v := nI 1) B.hx B.hb dL_confirm_15 (by decide) ?_
      exact q_iret B hr hP hD hS (u := .inr (q_IOB, 1)) rfl ⟨hx, by simp, rfl⟩ (Nat.le_of_eq (Nat.zero_add _)) (Nat.le_of_eq (Nat.zero_add _)) dL_confirm_16
    · refine q_hand2 (F := q_IOB) B htb (by decide) (by decide +kernel) (by decide) rfl (by decide) (by decide +kernel) (by decide) hce hcv hcl ?_
      refine lv_astore (lv' := [(4, .ref q9), (0, .ref b), (1, .int x), (2, .int y), (3, .ref o)]) B.hx B.hb dL_confirm_17 hl (by decide) rfl (fun ls hl => ?_)
      refine lv_iconst (v := nI 2) B.hx B.hb dL_confirm_19 (by decide) ?_
      exact q_iret B hr hP hD hS (u := .inr (q_IAE, 2)) rfl ⟨hx, by simp, rfl⟩ (Nat.le_of_eq (Nat.zero_add _)) (Nat.le_of_eq (Nat.zero_add _)) dL_confirm_20
    · refine q_hand3 (F := q_IOB) (G := q_IAE) B htb (by decide) (by decide +kernel) (by decide) (by decide) (by decide +kernel) (by decide) rfl (by decide) (by decide +kernel) (by decide) hce hcv hcl ?_
      refine lv_astore (lv' := [(4, .ref q9), (0, .ref b), (1, .int x), (2, .int y), (3, .ref o)]) B.hx B.hb dL_confirm_21 hl (by decide) rfl (fun ls hl => ?_)
      refine lv_iconst (v := nI 3) B.hx B.hb dL_confirm_23 (by decide) ?_
      exact q_iret B hr hP hD hS (u := .inr (q_ISE, 3)) rfl ⟨hx, by simp, rfl⟩ (Nat.le_of_eq (Nat.zero_add _)) (Nat.le_of_eq (Nat.zero_add _)) dL_confirm_24
  · obtain ⟨z, rfl⟩ := hpost v u hp
    refine lv_i2l (v := z.toInt64) B.hx B.hb dL_confirm_8 rfl ?_
    refine q_last B hP hD hS dL_confirm_9 (fun H locs hP hD hS => ?_)
    refine lv_goto (tgt := 25) B.hx B.hb dL_confirm_10 (by decide) ?_
    refine lv_iconst (v := nI 0) B.hx B.hb dL_confirm_25 (by decide) ?_
    exact q_iret B hr hP hD hS (u := .inl (u, z)) rfl ⟨hp, rfl⟩ (Nat.le_of_eq (Nat.zero_add _)) (Nat.le_of_eq (Nat.zero_add _)) dL_confirm_26

set_option maxHeartbeats 4000000 in
theorem cl_copy (l : Launch) (D : va_G) (cI cZ cP cJ : ClassId) {S : Type} {post : Option Value → S → Prop} {W' : S → va_W} {xp : String → Prop} {fr lo mc ms q0 b o : Nat} {w : va_W} {fs : List Value} {f : Nat → Int64} {x y : Int32} (hq : w[q0]? = some (b, .inr (3, fs))) (h : q_C l yX3_copy wsX3_copy { frames := fr, cells := mc, slots := ms, locals := lo } D cI cZ cP cJ [.ref b, .int x, .int y] w post W' xp mc ms) (hpost : ∀ v u, post v u → ∃ z : Int32, v = some (.int z)) (hxp : ∀ E, xp E → E = q_IOB ∨ E = q_IAE ∨ E = q_ISE) : q_C l yL_copy wsL_copy { frames := fr + 1, cells := mc, slots := ms, locals := 8 + (4 + 11) + lo } D cI cZ cP cJ [.ref b, .int x, .int y, .ref o] (w ++ [oc cJ o f]) (S := (S × Int32) ⊕ (String × Nat)) (lpost post xp [(q_IOB, 1), (q_IAE, 2), (q_ISE, 3)]) (lW W' w cJ o f (fun x => x.toInt64)) (fun _ => False) mc ms := by
  refine q_ofH (cc := cL_copy) (maxL := 5) (ret := (some .int)) (by decide +kernel) rfl (Nat.le_of_ble_eq_true rfl) ?_
  intro p e s m below meth c A ls B hr htb hP hD hS hl
  have hl : lv_has ls 5 [(0, .ref b), (1, .int x), (2, .int y), (3, .ref o)] := hl
  have hq : (w ++ [oc cJ o f])[q0]? = some (b, .inr (3, fs)) := by rw [List.getElem?_append_left (List.getElem?_eq_some_iff.mp hq).1]; exact hq
  refine lv_aload_n B.hx B.hb dL_copy_0 rfl (lv_at hl 3 rfl) ?_
  refine lv_iconst (v := nI 0) B.hx B.hb dL_copy_1 (by decide) ?_
  refine lv_aload_n B.hx B.hb dL_copy_2 rfl (lv_at hl 0 rfl) ?_
  refine lv_iload_n B.hx B.hb dL_copy_3 rfl (lv_at hl 1 rfl) ?_
  refine lv_iload_n B.hx B.hb dL_copy_4 rfl (lv_at hl 2 rfl) ?_
  refine q_callV (As := [.int x, .int y]) (rest := [.int (nI 0), .ref o]) B hP hD hS (h.fr [oc cJ o f]) (cwV 2 B.hts gL_copy_X3_copy rfl rfl rfl (by decide +kernel) ⟨Nat.le_refl _, Nat.le_refl _⟩) q0 3 hq rfl rfl rfl hl.1 rfl (Nat.le_of_ble_eq_true rfl) dL_copy_5 ⟨(Nat.le_of_eq (Nat.zero_add _)), (Nat.le_of_eq (Nat.zero_add _))⟩ (fun E ce q9 H locs hx hP hS hce hcv hcl => ?_) (fun v u H locs hp hP hD hS => ?_)
  · rcases hxp E hx with rfl | rfl | rfl
    · refine q_hand1 B htb rfl (by decide) (by decide +kernel) (by decide) hce hcv hcl ?_
      refine lv_astore (lv' := [(4, .ref q9), (0, .ref b), (1, .int x), (2, .int y), (3, .ref o)]) B.hx B.hb dL_copy_13 hl (by decide) rfl (fun ls hl => ?_)
      refine lv_iconst (v := nI 1) B.hx B.hb dL_copy_15 (by decide) ?_
      exact q_iret B hr hP hD hS (u := .inr (q_IOB, 1)) rfl ⟨hx, by simp, rfl⟩ (Nat.le_of_eq (Nat.zero_add _)) (Nat.le_of_eq (Nat.zero_add _)) dL_copy_16
    · refine q_hand2 (F := q_IOB) B htb (by decide) (by decide +kernel) (by decide) rfl (by decide) (by decide +kernel) (by decide) hce hcv hcl ?_
      refine lv_astore (lv' := [(4, .ref q9), (0, .ref b), (1, .int x), (2, .int y), (3, .ref o)]) B.hx B.hb dL_copy_17 hl (by decide) rfl (fun ls hl => ?_)
      refine lv_iconst (v := nI 2) B.hx B.hb dL_copy_19 (by decide) ?_
      exact q_iret B hr hP hD hS (u := .inr (q_IAE, 2)) rfl ⟨hx, by simp, rfl⟩ (Nat.le_of_eq (Nat.zero_add _)) (Nat.le_of_eq (Nat.zero_add _)) dL_copy_20
    · refine q_hand3 (F := q_IOB) (G := q_IAE) B htb (by decide) (by decide +kernel) (by decide) (by decide) (by decide +kernel) (by decide) rfl (by decide) (by decide +kernel) (by decide) hce hcv hcl ?_
      refine lv_astore (lv' := [(4, .ref q9), (0, .ref b), (1, .int x), (2, .int y), (3, .ref o)]) B.hx B.hb dL_copy_21 hl (by decide) rfl (fun ls hl => ?_)
      refine lv_iconst (v := nI 3) B.hx B.hb dL_copy_23 (by decide) ?_
      exact q_iret B hr hP hD hS (u := .inr (q_ISE, 3)) rfl ⟨hx, by simp, rfl⟩ (Nat.le_of_eq (Nat.zero_add _)) (Nat.le_of_eq (Nat.zero_add _)) dL_copy_24
  · obtain ⟨z, rfl⟩ := hpost v u hp
    refine lv_i2l (v := z.toInt64) B.hx B.hb dL_copy_8 rfl ?_
    refine q_last B hP hD hS dL_copy_9 (fun H locs hP hD hS => ?_)
    refine lv_goto (tgt := 25) B.hx B.hb dL_copy_10 (by decide) ?_
    refine lv_iconst (v := nI 0) B.hx B.hb dL_copy_25 (by decide) ?_
    exact q_iret B hr hP hD hS (u := .inl (u, z)) rfl ⟨hp, rfl⟩ (Nat.le_of_eq (Nat.zero_add _)) (Nat.le_of_eq (Nat.zero_add _)) dL_copy_26

set_option maxHeartbeats 4000000 in
theorem cl_draft (l : Launch) (D : va_G) (cI cZ cP cJ : ClassId) {S : Type} {post : Option Value → S → Prop} {W' : S → va_W} {xp : String → Prop} {fr lo mc ms q0 b : Nat} {w : va_W} {fs : List Value} {x y z : Int32} (hq : w[q0]? = some (b, .inr (3, fs))) (h : q_C l yX3_draft wsX3_draft { frames := fr, cells := mc, slots := ms, locals := lo } D cI cZ cP cJ [.ref b, .int x, .int y, .int z] w post W' xp mc ms) (hpost : ∀ v u, post v u → v = none) (hxp : ∀ E, xp E → E = q_IOB ∨ E = q_IAE ∨ E = q_ISE) : q_C l yL_draft wsL_draft { frames := fr + 1, cells := mc, slots := ms, locals := 8 + (5 + 11) + lo } D cI cZ cP cJ [.ref b, .int x, .int y, .int z] w (S := S ⊕ (String × Nat)) (vpost post xp [(q_IOB, 1), (q_IAE, 2), (q_ISE, 3)]) (vW W' w) (fun _ => False) mc ms := by
  refine q_ofH (cc := cL_draft) (maxL := 5) (ret := (some .int)) (by decide +kernel) rfl (Nat.le_of_ble_eq_true rfl) ?_
  intro p e s m below meth c A ls B hr htb hP hD hS hl
  have hl : lv_has ls 5 [(0, .ref b), (1, .int x), (2, .int y), (3, .int z)] := hl
  refine lv_aload_n B.hx B.hb dL_draft_0 rfl (lv_at hl 0 rfl) ?_
  refine lv_iload_n B.hx B.hb dL_draft_1 rfl (lv_at hl 1 rfl) ?_
  refine lv_iload_n B.hx B.hb dL_draft_2 rfl (lv_at hl 2 rfl) ?_
  refine lv_iload_n B.hx B.hb dL_draft_3 rfl (lv_at hl 3 rfl) ?_
  refine q_callV (As := [.int x, .int y, .int z]) (rest := []) B hP hD hS h (cwV 3 B.hts gL_draft_X3_draft rfl rfl rfl (by decide +kernel) ⟨Nat.le_refl _, Nat.le_refl _⟩) q0 3 hq rfl rfl rfl hl.1 rfl (Nat.le_of_ble_eq_true rfl) dL_draft_4 ⟨(Nat.le_of_eq (Nat.zero_add _)), (Nat.le_of_eq (Nat.zero_add _))⟩ (fun E ce q9 H locs hx hP hS hce hcv hcl => ?_) (fun v u H locs hp hP hD hS => ?_)
  · rcases hxp E hx with rfl | rfl | rfl
    · refine q_hand1 B htb rfl (by decide) (by decide +kernel) (by decide) hce hcv hcl ?_
      refine lv_astore (lv' := [(4, .ref q9), (0, .ref b), (1, .int x), (2, .int y), (3, .int z)]) B.hx B.hb dL_draft_10 hl (by decide) rfl (fun ls hl => ?_)
      refine lv_iconst (v := nI 1) B.hx B.hb dL_draft_12 (by decide) ?_
      exact q_iret B hr hP hD hS (u := .inr (q_IOB, 1)) rfl ⟨hx, by simp, rfl⟩ (Nat.le_of_eq (Nat.zero_add _)) (Nat.le_of_eq (Nat.zero_add _)) dL_draft_13
    · refine q_hand2 (F := q_IOB) B htb (by decide) (by decide +kernel) (by decide) rfl (by decide) (by decide +kernel) (by decide) hce hcv hcl ?_
      refine lv_astore (lv' := [(4, .ref q9), (0, .ref b), (1, .int x), (2, .int y), (3, .int z)]) B.hx B.hb dL_draft_14 hl (by decide) rfl (fun ls hl => ?_)
      refine lv_iconst (v := nI 2) B.hx B.hb dL_draft_16 (by decide) ?_
      exact q_iret B hr hP hD hS (u := .inr (q_IAE, 2)) rfl ⟨hx, by simp, rfl⟩ (Nat.le_of_eq (Nat.zero_add _)) (Nat.le_of_eq (Nat.zero_add _)) dL_draft_17
    · refine q_hand3 (F := q_IOB) (G := q_IAE) B htb (by decide) (by decide +kernel) (by decide) (by decide) (by decide +kernel) (by decide) rfl (by decide) (by decide +kernel) (by decide) hce hcv hcl ?_
      refine lv_astore (lv' := [(4, .ref q9), (0, .ref b), (1, .int x), (2, .int y), (3, .int z)]) B.hx B.hb dL_draft_18 hl (by decide) rfl (fun ls hl => ?_)
      refine lv_iconst (v := nI 3) B.hx B.hb dL_draft_20 (by decide) ?_
      exact q_iret B hr hP hD hS (u := .inr (q_ISE, 3)) rfl ⟨hx, by simp, rfl⟩ (Nat.le_of_eq (Nat.zero_add _)) (Nat.le_of_eq (Nat.zero_add _)) dL_draft_21
  · obtain rfl := hpost v u hp
    refine lv_goto (tgt := 22) B.hx B.hb dL_draft_7 (by decide) ?_
    refine lv_iconst (v := nI 0) B.hx B.hb dL_draft_22 (by decide) ?_
    exact q_iret B hr hP hD hS (u := .inl u) rfl ⟨hp, rfl⟩ (Nat.le_of_eq (Nat.zero_add _)) (Nat.le_of_eq (Nat.zero_add _)) dL_draft_23

set_option maxHeartbeats 4000000 in
theorem cl_drop (l : Launch) (D : va_G) (cI cZ cP cJ : ClassId) {S : Type} {post : Option Value → S → Prop} {W' : S → va_W} {xp : String → Prop} {fr lo mc ms q0 b o : Nat} {w : va_W} {fs : List Value} {f : Nat → Int64} {x : Int32} (hq : w[q0]? = some (b, .inr (3, fs))) (h : q_C l yX3_drop wsX3_drop { frames := fr, cells := mc, slots := ms, locals := lo } D cI cZ cP cJ [.ref b, .int x] w post W' xp mc ms) (hpost : ∀ v u, post v u → ∃ z : Int32, v = some (.int z)) (hxp : ∀ E, xp E → E = q_IOB ∨ E = q_ISE) : q_C l yL_drop wsL_drop { frames := fr + 1, cells := mc, slots := ms, locals := 8 + (4 + 11) + lo } D cI cZ cP cJ [.ref b, .int x, .ref o] (w ++ [oc cJ o f]) (S := (S × Int32) ⊕ (String × Nat)) (lpost post xp [(q_IOB, 1), (q_ISE, 2)]) (lW W' w cJ o f (fun x => x.toInt64)) (fun _ => False) mc ms := by
  refine q_ofH (cc := cL_drop) (maxL := 4) (ret := (some .int)) (by decide +kernel) rfl (Nat.le_of_ble_eq_true rfl) ?_
  intro p e s m below meth c A ls B hr htb hP hD hS hl
  have hl : lv_has ls 4 [(0, .ref b), (1, .int x), (2, .ref o)] := hl
  have hq : (w ++ [oc cJ o f])[q0]? = some (b, .inr (3, fs)) := by rw [List.getElem?_append_left (List.getElem?_eq_some_iff.mp hq).1]; exact hq
  refine lv_aload_n B.hx B.hb dL_drop_0 rfl (lv_at hl 2 rfl) ?_
  refine lv_iconst (v := nI 0) B.hx B.hb dL_drop_1 (by decide) ?_
  refine lv_aload_n B.hx B.hb dL_drop_2 rfl (lv_at hl 0 rfl) ?_
  refine lv_iload_n B.hx B.hb dL_drop_3 rfl (lv_at hl 1 rfl) ?_
  refine q_callV (As := [.int x]) (rest := [.int (nI 0), .ref o]) B hP hD hS (h.fr [oc cJ o f]) (cwV 1 B.hts gL_drop_X3_drop rfl rfl rfl (by decide +kernel) ⟨Nat.le_refl _, Nat.le_refl _⟩) q0 3 hq rfl rfl rfl hl.1 rfl (Nat.le_of_ble_eq_true rfl) dL_drop_4 ⟨(Nat.le_of_eq (Nat.zero_add _)), (Nat.le_of_eq (Nat.zero_add _))⟩ (fun E ce q9 H locs hx hP hS hce hcv hcl => ?_) (fun v u H locs hp hP hD hS => ?_)
  · rcases hxp E hx with rfl | rfl
    · refine q_hand1 B htb rfl (by decide) (by decide +kernel) (by decide) hce hcv hcl ?_
      refine lv_astore_n (lv' := [(3, .ref q9), (0, .ref b), (1, .int x), (2, .ref o)]) B.hx B.hb dL_drop_12 rfl hl (by decide) rfl (fun ls hl => ?_)
      refine lv_iconst (v := nI 1) B.hx B.hb dL_drop_13 (by decide) ?_
      exact q_iret B hr hP hD hS (u := .inr (q_IOB, 1)) rfl ⟨hx, by simp, rfl⟩ (Nat.le_of_eq (Nat.zero_add _)) (Nat.le_of_eq (Nat.zero_add _)) dL_drop_14
    · refine q_hand2 (F := q_IOB) B htb (by decide) (by decide +kernel) (by decide) rfl (by decide) (by decide +kernel) (by decide) hce hcv hcl ?_
      refine lv_astore_n (lv' := [(3, .ref q9), (0, .ref b), (1, .int x), (2, .ref o)]) B.hx B.hb dL_drop_15 rfl hl (by decide) rfl (fun ls hl => ?_)
      refine lv_iconst (v := nI 2) B.hx B.hb dL_drop_16 (by decide) ?_
      exact q_iret B hr hP hD hS (u := .inr (q_ISE, 2)) rfl ⟨hx, by simp, rfl⟩ (Nat.le_of_eq (Nat.zero_add _)) (Nat.le_of_eq (Nat.zero_add _)) dL_drop_17
  · obtain ⟨z, rfl⟩ := hpost v u hp
    refine lv_i2l (v := z.toInt64) B.hx B.hb dL_drop_7 rfl ?_
    refine q_last B hP hD hS dL_drop_8 (fun H locs hP hD hS => ?_)
    refine lv_goto (tgt := 18) B.hx B.hb dL_drop_9 (by decide) ?_
    refine lv_iconst (v := nI 0) B.hx B.hb dL_drop_18 (by decide) ?_
    exact q_iret B hr hP hD hS (u := .inl (u, z)) rfl ⟨hp, rfl⟩ (Nat.le_of_eq (Nat.zero_add _)) (Nat.le_of_eq (Nat.zero_add _)) dL_drop_19

set_option maxHeartbeats 4000000 in
theorem cl_hang (l : Launch) (D : va_G) (cI cZ cP cJ : ClassId) {S : Type} {post : Option Value → S → Prop} {W' : S → va_W} {xp : String → Prop} {fr lo mc ms q0 b o : Nat} {w : va_W} {fs : List Value} {f : Nat → Int64} {x y : Int32} (hq : w[q0]? = some (b, .inr (3, fs))) (h : q_C l yX3_hang wsX3_hang { frames := fr, cells := mc, slots := ms, locals := lo } D cI cZ cP cJ [.ref b, .int x, .int y] w post W' xp mc ms) (hpost : ∀ v u, post v u → ∃ z : Int32, v = some (.int z)) (hxp : ∀ E, xp E → E = q_IOB ∨ E = q_IAE) : q_C l yL_hang wsL_hang { frames := fr + 1, cells := mc, slots := ms, locals := 8 + (4 + 11) + lo } D cI cZ cP cJ [.ref b, .int x, .int y, .ref o] (w ++ [oc cJ o f]) (S := (S × Int32) ⊕ (String × Nat)) (lpost post xp [(q_IOB, 1), (q_IAE, 2)]) (lW W' w cJ o f (fun x => x.toInt64)) (fun _ => False) mc ms := by
  refine q_ofH (cc := cL_hang) (maxL := 5) (ret := (some .int)) (by decide +kernel) rfl (Nat.le_of_ble_eq_true rfl) ?_
  intro p e s m below meth c A ls B hr htb hP hD hS hl
  have hl : lv_has ls 5 [(0, .ref b), (1, .int x), (2, .int y), (3, .ref o)] := hl
  have hq : (w ++ [oc cJ o f])[q0]? = some (b, .inr (3, fs)) := by rw [List.getElem?_append_left (List.getElem?_eq_some_iff.mp hq).1]; exact hq
  refine lv_aload_n B.hx B.hb dL_hang_0 rfl (lv_at hl 3 rfl) ?_
  refine lv_iconst (v := nI 0) B.hx B.hb dL_hang_1 (by decide) ?_
  refine lv_aload_n B.hx B.hb dL_hang_2 rfl (lv_at hl 0 rfl) ?_
  refine lv_iload_n B.hx B.hb dL_hang_3 rfl (lv_at hl 1 rfl) ?_
  refine lv_iload_n B.hx B.hb dL_hang_4 rfl (lv_at hl 2 rfl) ?_
  refine q_callV (As := [.int x, .int y]) (rest := [.int (nI 0), .ref o]) B hP hD hS (h.fr [oc cJ o f]) (cwV 2 B.hts gL_hang_X3_hang rfl rfl rfl (by decide +kernel) ⟨Nat.le_refl _, Nat.le_refl _⟩) q0 3 hq rfl rfl rfl hl.1 rfl (Nat.le_of_ble_eq_true rfl) dL_hang_5 ⟨(Nat.le_of_eq (Nat.zero_add _)), (Nat.le_of_eq (Nat.zero_add _))⟩ (fun E ce q9 H locs hx hP hS hce hcv hcl => ?_) (fun v u H locs hp hP hD hS => ?_)
  · rcases hxp E hx with rfl | rfl
    · refine q_hand1 B htb rfl (by decide) (by decide +kernel) (by decide) hce hcv hcl ?_
      refine lv_astore (lv' := [(4, .ref q9), (0, .ref b), (1, .int x), (2, .int y), (3, .ref o)]) B.hx B.hb dL_hang_13 hl (by decide) rfl (fun ls hl => ?_)
      refine lv_iconst (v := nI 1) B.hx B.hb dL_hang_15 (by decide) ?_
      exact q_iret B hr hP hD hS (u := .inr (q_IOB, 1)) rfl ⟨hx, by simp, rfl⟩ (Nat.le_of_eq (Nat.zero_add _)) (Nat.le_of_eq (Nat.zero_add _)) dL_hang_16
    · refine q_hand2 (F := q_IOB) B htb (by decide) (by decide +kernel) (by decide) rfl (by decide) (by decide +kernel) (by decide) hce hcv hcl ?_
      refine lv_astore (lv' := [(4, .ref q9), (0, .ref b), (1, .int x), (2, .int y), (3, .ref o)]) B.hx B.hb dL_hang_17 hl (by decide) rfl (fun ls hl => ?_)
      refine lv_iconst (v := nI 2) B.hx B.hb dL_hang_19 (by decide) ?_
      exact q_iret B hr hP hD hS (u := .inr (q_IAE, 2)) rfl ⟨hx, by simp, rfl⟩ (Nat.le_of_eq (Nat.zero_add _)) (Nat.le_of_eq (Nat.zero_add _)) dL_hang_20
  · obtain ⟨z, rfl⟩ := hpost v u hp
    refine lv_i2l (v := z.toInt64) B.hx B.hb dL_hang_8 rfl ?_
    refine q_last B hP hD hS dL_hang_9 (fun H locs hP hD hS => ?_)
    refine lv_goto (tgt := 21) B.hx B.hb dL_hang_10 (by decide) ?_
    refine lv_iconst (v := nI 0) B.hx B.hb dL_hang_21 (by decide) ?_
    exact q_iret B hr hP hD hS (u := .inl (u, z)) rfl ⟨hp, rfl⟩ (Nat.le_of_eq (Nat.zero_add _)) (Nat.le_of_eq (Nat.zero_add _)) dL_hang_22

set_option maxHeartbeats 4000000 in
theorem cl_inForce (l : Launch) (D : va_G) (cI cZ cP cJ : ClassId) {S : Type} {post : Option Value → S → Prop} {W' : S → va_W} {xp : String → Prop} {fr lo mc ms q0 b o : Nat} {w : va_W} {fs : List Value} {f : Nat → Int64} {x : Int32} (hq : w[q0]? = some (b, .inr (3, fs))) (h : q_C l yX3_inForce wsX3_inForce { frames := fr, cells := mc, slots := ms, locals := lo } D cI cZ cP cJ [.ref b, .int x] w post W' xp mc ms) (hpost : ∀ v u, post v u → ∃ z : Int32, v = some (.int z)) (hxp : ∀ E, xp E → E = q_IOB) : q_C l yL_inForce wsL_inForce { frames := fr + 1, cells := mc, slots := ms, locals := 8 + (2 + 11) + lo } D cI cZ cP cJ [.ref b, .int x, .ref o] (w ++ [oc cJ o f]) (S := (S × Int32) ⊕ (String × Nat)) (lpost post xp [(q_IOB, 1)]) (lW W' w cJ o f (fun x => x.toInt64)) (fun _ => False) mc ms := by
  refine q_ofH (cc := cL_inForce) (maxL := 4) (ret := (some .int)) (by decide +kernel) rfl (Nat.le_of_ble_eq_true rfl) ?_
  intro p e s m below meth c A ls B hr htb hP hD hS hl
  have hl : lv_has ls 4 [(0, .ref b), (1, .int x), (2, .ref o)] := hl
  have hq : (w ++ [oc cJ o f])[q0]? = some (b, .inr (3, fs)) := by rw [List.getElem?_append_left (List.getElem?_eq_some_iff.mp hq).1]; exact hq
  refine lv_aload_n B.hx B.hb dL_inForce_0 rfl (lv_at hl 2 rfl) ?_
  refine lv_iconst (v := nI 0) B.hx B.hb dL_inForce_1 (by decide) ?_
  refine lv_aload_n B.hx B.hb dL_inForce_2 rfl (lv_at hl 0 rfl) ?_
  refine lv_iload_n B.hx B.hb dL_inForce_3 rfl (lv_at hl 1 rfl) ?_
  refine q_callV (As := [.int x]) (rest := [.int (nI 0), .ref o]) B hP hD hS (h.fr [oc cJ o f]) (cwV 1 B.hts gL_inForce_X3_inForce rfl rfl rfl (by decide +kernel) ⟨Nat.le_refl _, Nat.le_refl _⟩) q0 3 hq rfl rfl rfl hl.1 rfl (Nat.le_of_ble_eq_true rfl) dL_inForce_4 ⟨(Nat.le_of_eq (Nat.zero_add _)), (Nat.le_of_eq (Nat.zero_add _))⟩ (fun E ce q9 H locs hx hP hS hce hcv hcl => ?_) (fun v u H locs hp hP hD hS => ?_)
  · obtain rfl := hxp E hx
    refine q_hand1 B htb rfl (by decide) (by decide +kernel) (by decide) hce hcv hcl ?_
    refine lv_astore_n (lv' := [(3, .ref q9), (0, .ref b), (1, .int x), (2, .ref o)]) B.hx B.hb dL_inForce_12 rfl hl (by decide) rfl (fun ls hl => ?_)
    refine lv_iconst (v := nI 1) B.hx B.hb dL_inForce_13 (by decide) ?_
    exact q_iret B hr hP hD hS (u := .inr (q_IOB, 1)) rfl ⟨hx, by simp, rfl⟩ (Nat.le_of_eq (Nat.zero_add _)) (Nat.le_of_eq (Nat.zero_add _)) dL_inForce_14
  · obtain ⟨z, rfl⟩ := hpost v u hp
    refine lv_i2l (v := z.toInt64) B.hx B.hb dL_inForce_7 rfl ?_
    refine q_last B hP hD hS dL_inForce_8 (fun H locs hP hD hS => ?_)
    refine lv_goto (tgt := 15) B.hx B.hb dL_inForce_9 (by decide) ?_
    refine lv_iconst (v := nI 0) B.hx B.hb dL_inForce_15 (by decide) ?_
    exact q_iret B hr hP hD hS (u := .inl (u, z)) rfl ⟨hp, rfl⟩ (Nat.le_of_eq (Nat.zero_add _)) (Nat.le_of_eq (Nat.zero_add _)) dL_inForce_16

set_option maxHeartbeats 4000000 in
theorem cl_inForceOn (l : Launch) (D : va_G) (cI cZ cP cJ : ClassId) {S : Type} {post : Option Value → S → Prop} {W' : S → va_W} {xp : String → Prop} {fr lo mc ms q0 b o : Nat} {w : va_W} {fs : List Value} {f : Nat → Int64} {x y : Int32} (hq : w[q0]? = some (b, .inr (3, fs))) (h : q_C l yX3_inForceOn wsX3_inForceOn { frames := fr, cells := mc, slots := ms, locals := lo } D cI cZ cP cJ [.ref b, .int x, .int y] w post W' xp mc ms) (hpost : ∀ v u, post v u → ∃ z : Int32, v = some (.int z)) (hxp : ∀ E, xp E → E = q_IOB ∨ E = q_IAE) : q_C l yL_inForceOn wsL_inForceOn { frames := fr + 1, cells := mc, slots := ms, locals := 8 + (4 + 11) + lo } D cI cZ cP cJ [.ref b, .int x, .int y, .ref o] (w ++ [oc cJ o f]) (S := (S × Int32) ⊕ (String × Nat)) (lpost post xp [(q_IOB, 1), (q_IAE, 2)]) (lW W' w cJ o f (fun x => x.toInt64)) (fun _ => False) mc ms := by
  refine q_ofH (cc := cL_inForceOn) (maxL := 5) (ret := (some .int)) (by decide +kernel) rfl (Nat.le_of_ble_eq_true rfl) ?_
  intro p e s m below meth c A ls B hr htb hP hD hS hl
  have hl : lv_has ls 5 [(0, .ref b), (1, .int x), (2, .int y), (3, .ref o)] := hl
  have hq : (w ++ [oc cJ o f])[q0]? = some (b, .inr (3, fs)) := by rw [List.getElem?_append_left (List.getElem?_eq_some_iff.mp hq).1]; exact hq
  refine lv_aload_n B.hx B.hb dL_inForceOn_0 rfl (lv_at hl 3 rfl) ?_
  refine lv_iconst (v := nI 0) B.hx B.hb dL_inForceOn_1 (by decide) ?_
  refine lv_aload_n B.hx B.hb dL_inForceOn_2 rfl (lv_at hl 0 rfl) ?_
  refine lv_iload_n B.hx B.hb dL_inForceOn_3 rfl (lv_at hl 1 rfl) ?_
  refine lv_iload_n B.hx B.hb dL_inForceOn_4 rfl (lv_at hl 2 rfl) ?_
  refine q_callV (As := [.int x, .int y]) (rest := [.int (nI 0), .ref o]) B hP hD hS (h.fr [oc cJ o f]) (cwV 2 B.hts gL_inForceOn_X3_inForceOn rfl rfl rfl (by decide +kernel) ⟨Nat.le_refl _, Nat.le_refl _⟩) q0 3 hq rfl rfl rfl hl.1 rfl (Nat.le_of_ble_eq_true rfl) dL_inForceOn_5 ⟨(Nat.le_of_eq (Nat.zero_add _)), (Nat.le_of_eq (Nat.zero_add _))⟩ (fun E ce q9 H locs hx hP hS hce hcv hcl => ?_) (fun v u H locs hp hP hD hS => ?_)
  · rcases hxp E hx with rfl | rfl
    · refine q_hand1 B htb rfl (by decide) (by decide +kernel) (by decide) hce hcv hcl ?_
      refine lv_astore (lv' := [(4, .ref q9), (0, .ref b), (1, .int x), (2, .int y), (3, .ref o)]) B.hx B.hb dL_inForceOn_13 hl (by decide) rfl (fun ls hl => ?_)
      refine lv_iconst (v := nI 1) B.hx B.hb dL_inForceOn_15 (by decide) ?_
      exact q_iret B hr hP hD hS (u := .inr (q_IOB, 1)) rfl ⟨hx, by simp, rfl⟩ (Nat.le_of_eq (Nat.zero_add _)) (Nat.le_of_eq (Nat.zero_add _)) dL_inForceOn_16
    · refine q_hand2 (F := q_IOB) B htb (by decide) (by decide +kernel) (by decide) rfl (by decide) (by decide +kernel) (by decide) hce hcv hcl ?_
      refine lv_astore (lv' := [(4, .ref q9), (0, .ref b), (1, .int x), (2, .int y), (3, .ref o)]) B.hx B.hb dL_inForceOn_17 hl (by decide) rfl (fun ls hl => ?_)
      refine lv_iconst (v := nI 2) B.hx B.hb dL_inForceOn_19 (by decide) ?_
      exact q_iret B hr hP hD hS (u := .inr (q_IAE, 2)) rfl ⟨hx, by simp, rfl⟩ (Nat.le_of_eq (Nat.zero_add _)) (Nat.le_of_eq (Nat.zero_add _)) dL_inForceOn_20
  · obtain ⟨z, rfl⟩ := hpost v u hp
    refine lv_i2l (v := z.toInt64) B.hx B.hb dL_inForceOn_8 rfl ?_
    refine q_last B hP hD hS dL_inForceOn_9 (fun H locs hP hD hS => ?_)
    refine lv_goto (tgt := 21) B.hx B.hb dL_inForceOn_10 (by decide) ?_
    refine lv_iconst (v := nI 0) B.hx B.hb dL_inForceOn_21 (by decide) ?_
    exact q_iret B hr hP hD hS (u := .inl (u, z)) rfl ⟨hp, rfl⟩ (Nat.le_of_eq (Nat.zero_add _)) (Nat.le_of_eq (Nat.zero_add _)) dL_inForceOn_22

set_option maxHeartbeats 4000000 in
theorem cl_isDue (l : Launch) (D : va_G) (cI cZ cP cJ : ClassId) {S : Type} {post : Option Value → S → Prop} {W' : S → va_W} {xp : String → Prop} {fr lo mc ms q0 b o : Nat} {w : va_W} {fs : List Value} {f : Nat → Int64} {x : Int32} (hq : w[q0]? = some (b, .inr (3, fs))) (h : q_C l yX3_isDue wsX3_isDue { frames := fr, cells := mc, slots := ms, locals := lo } D cI cZ cP cJ [.ref b, .int x] w post W' xp mc ms) (hpost : ∀ v u, post v u → ∃ z : Int32, v = some (.int z)) (hxp : ∀ E, xp E → E = q_IOB) : q_C l yL_isDue wsL_isDue { frames := fr + 1, cells := mc, slots := ms, locals := 8 + (2 + 11) + lo } D cI cZ cP cJ [.ref b, .int x, .ref o] (w ++ [oc cJ o f]) (S := (S × Int32) ⊕ (String × Nat)) (lpost post xp [(q_IOB, 1)]) (lW W' w cJ o f (fun x => if x = 0 then 0 else 1)) (fun _ => False) mc ms := by
  refine q_ofH (cc := cL_isDue) (maxL := 4) (ret := (some .int)) (by decide +kernel) rfl (Nat.le_of_ble_eq_true rfl) ?_
  intro p e s m below meth c A ls B hr htb hP hD hS hl
  have hl : lv_has ls 4 [(0, .ref b), (1, .int x), (2, .ref o)] := hl
  have hq : (w ++ [oc cJ o f])[q0]? = some (b, .inr (3, fs)) := by rw [List.getElem?_append_left (List.getElem?_eq_some_iff.mp hq).1]; exact hq
  refine lv_aload_n B.hx B.hb dL_isDue_0 rfl (lv_at hl 2 rfl) ?_
  refine lv_iconst (v := nI 0) B.hx B.hb dL_isDue_1 (by decide) ?_
  refine lv_aload_n B.hx B.hb dL_isDue_2 rfl (lv_at hl 0 rfl) ?_
  refine lv_iload_n B.hx B.hb dL_isDue_3 rfl (lv_at hl 1 rfl) ?_
  refine q_callV (As := [.int x]) (rest := [.int (nI 0), .ref o]) B hP hD hS (h.fr [oc cJ o f]) (cwV 1 B.hts gL_isDue_X3_isDue rfl rfl rfl (by decide +kernel) ⟨Nat.le_refl _, Nat.le_refl _⟩) q0 3 hq rfl rfl rfl hl.1 rfl (Nat.le_of_ble_eq_true rfl) dL_isDue_4 ⟨(Nat.le_of_eq (Nat.zero_add _)), (Nat.le_of_eq (Nat.zero_add _))⟩ (fun E ce q9 H locs hx hP hS hce hcv hcl => ?_) (fun v u H locs hp hP hD hS => ?_)
  · obtain rfl := hxp E hx
    refine q_hand1 B htb rfl (by decide) (by decide +kernel) (by decide) hce hcv hcl ?_
    refine lv_astore_n (lv' := [(3, .ref q9), (0, .ref b), (1, .int x), (2, .ref o)]) B.hx B.hb dL_isDue_19 rfl hl (by decide) rfl (fun ls hl => ?_)
    refine lv_iconst (v := nI 1) B.hx B.hb dL_isDue_20 (by decide) ?_
    exact q_iret B hr hP hD hS (u := .inr (q_IOB, 1)) rfl ⟨hx, by simp, rfl⟩ (Nat.le_of_eq (Nat.zero_add _)) (Nat.le_of_eq (Nat.zero_add _)) dL_isDue_21
  · obtain ⟨z, rfl⟩ := hpost v u hp
    have k1 : ∀ y : Int64, y = (if z = 0 then 0 else 1) → vp_updL f 0 y = vp_updL f 0 ((fun x : Int32 => if x = 0 then (0 : Int64) else 1) z) := fun y hy => by rw [hy]
    refine lv_if_eq (tgt := 14) B.hx B.hb dL_isDue_7 (by decide) (fun c1 => ?_) (fun c1 => ?_)
    · refine lv_lconst (v := 0) B.hx B.hb dL_isDue_14 (by decide) ?_
      refine q_last B hP hD hS dL_isDue_15 (fun H locs hP hD hS => ?_)
      rw [k1 _ (by rw [if_pos c1])] at hP hD
      refine lv_goto (tgt := 22) B.hx B.hb dL_isDue_16 (by decide) ?_
      refine lv_iconst (v := nI 0) B.hx B.hb dL_isDue_22 (by decide) ?_
      exact q_iret B hr hP hD hS (u := .inl (u, z)) rfl ⟨hp, rfl⟩ (Nat.le_of_eq (Nat.zero_add _)) (Nat.le_of_eq (Nat.zero_add _)) dL_isDue_23
    · refine lv_lconst (v := 1) B.hx B.hb dL_isDue_10 (by decide) ?_
      refine lv_goto (tgt := 15) B.hx B.hb dL_isDue_11 (by decide) ?_
      refine q_last B hP hD hS dL_isDue_15 (fun H locs hP hD hS => ?_)
      rw [k1 _ (by rw [if_neg c1])] at hP hD
      refine lv_goto (tgt := 22) B.hx B.hb dL_isDue_16 (by decide) ?_
      refine lv_iconst (v := nI 0) B.hx B.hb dL_isDue_22 (by decide) ?_
      exact q_iret B hr hP hD hS (u := .inl (u, z)) rfl ⟨hp, rfl⟩ (Nat.le_of_eq (Nat.zero_add _)) (Nat.le_of_eq (Nat.zero_add _)) dL_isDue_23

set_option maxHeartbeats 4000000 in
theorem cl_look (l : Launch) (D : va_G) (cI cZ cP cJ : ClassId) {S : Type} {post : Option Value → S → Prop} {W' : S → va_W} {xp : String → Prop} {fr lo mc ms q0 b o : Nat} {w : va_W} {fs : List Value} {f : Nat → Int64} {x : Int32} (hq : w[q0]? = some (b, .inr (3, fs))) (h : q_C l yX3_look wsX3_look { frames := fr, cells := mc, slots := ms, locals := lo } D cI cZ cP cJ [.ref b, .int x] w post W' xp mc ms) (hpost : ∀ v u, post v u → ∃ z : Int32, v = some (.int z)) (hxp : ∀ E, xp E → E = q_IOB ∨ E = q_ISE) : q_C l yL_look wsL_look { frames := fr + 1, cells := mc, slots := ms, locals := 8 + (4 + 11) + lo } D cI cZ cP cJ [.ref b, .int x, .ref o] (w ++ [oc cJ o f]) (S := (S × Int32) ⊕ (String × Nat)) (lpost post xp [(q_IOB, 1), (q_ISE, 2)]) (lW W' w cJ o f (fun x => if x = 0 then 0 else 1)) (fun _ => False) mc ms := by
  refine q_ofH (cc := cL_look) (maxL := 4) (ret := (some .int)) (by decide +kernel) rfl (Nat.le_of_ble_eq_true rfl) ?_
  intro p e s m below meth c A ls B hr htb hP hD hS hl
  have hl : lv_has ls 4 [(0, .ref b), (1, .int x), (2, .ref o)] := hl
  have hq : (w ++ [oc cJ o f])[q0]? = some (b, .inr (3, fs)) := by rw [List.getElem?_append_left (List.getElem?_eq_some_iff.mp hq).1]; exact hq
  refine lv_aload_n B.hx B.hb dL_look_0 rfl (lv_at hl 2 rfl) ?_
  refine lv_iconst (v := nI 0) B.hx B.hb dL_look_1 (by decide) ?_
  refine lv_aload_n B.hx B.hb dL_look_2 rfl (lv_at hl 0 rfl) ?_
  refine lv_iload_n B.hx B.hb dL_look_3 rfl (lv_at hl 1 rfl) ?_
  refine q_callV (As := [.int x]) (rest := [.int (nI 0), .ref o]) B hP hD hS (h.fr [oc cJ o f]) (cwV 1 B.hts gL_look_X3_look rfl rfl rfl (by decide +kernel) ⟨Nat.le_refl _, Nat.le_refl _⟩) q0 3 hq rfl rfl rfl hl.1 rfl (Nat.le_of_ble_eq_true rfl) dL_look_4 ⟨(Nat.le_of_eq (Nat.zero_add _)), (Nat.le_of_eq (Nat.zero_add _))⟩ (fun E ce q9 H locs hx hP hS hce hcv hcl => ?_) (fun v u H locs hp hP hD hS => ?_)
  · rcases hxp E hx with rfl | rfl
    · refine q_hand1 B htb rfl (by decide) (by decide +kernel) (by decide) hce hcv hcl ?_
      refine lv_astore_n (lv' := [(3, .ref q9), (0, .ref b), (1, .int x), (2, .ref o)]) B.hx B.hb dL_look_19 rfl hl (by decide) rfl (fun ls hl => ?_)
      refine lv_iconst (v := nI 1) B.hx B.hb dL_look_20 (by decide) ?_
      exact q_iret B hr hP hD hS (u := .inr (q_IOB, 1)) rfl ⟨hx, by simp, rfl⟩ (Nat.le_of_eq (Nat.zero_add _)) (Nat.le_of_eq (Nat.zero_add _)) dL_look_21
    · refine q_hand2 (F := q_IOB) B htb (by decide) (by decide +kernel) (by decide) rfl (by decide) (by decide +kernel) (by decide) hce hcv hcl ?_
      refine lv_astore_n (lv' := [(3, .ref q9), (0, .ref b), (1, .int x), (2, .ref o)]) B.hx B.hb dL_look_22 rfl hl (by decide) rfl (fun ls hl => ?_)
      refine lv_iconst (v := nI 2) B.hx B.hb dL_look_23 (by decide) ?_
      exact q_iret B hr hP hD hS (u := .inr (q_ISE, 2)) rfl ⟨hx, by simp, rfl⟩ (Nat.le_of_eq (Nat.zero_add _)) (Nat.le_of_eq (Nat.zero_add _)) dL_look_24
  · obtain ⟨z, rfl⟩ := hpost v u hp
    have k1 : ∀ y : Int64, y = (if z = 0 then 0 else 1) → vp_updL f 0 y = vp_updL f 0 ((fun x : Int32 => if x = 0 then (0 : Int64) else 1) z) := fun y hy => by rw [hy]
    refine lv_if_eq (tgt := 14) B.hx B.hb dL_look_7 (by decide) (fun c1 => ?_) (fun c1 => ?_)
    · refine lv_lconst (v := 0) B.hx B.hb dL_look_14 (by decide) ?_
      refine q_last B hP hD hS dL_look_15 (fun H locs hP hD hS => ?_)
      rw [k1 _ (by rw [if_pos c1])] at hP hD
      refine lv_goto (tgt := 25) B.hx B.hb dL_look_16 (by decide) ?_
      refine lv_iconst (v := nI 0) B.hx B.hb dL_look_25 (by decide) ?_
      exact q_iret B hr hP hD hS (u := .inl (u, z)) rfl ⟨hp, rfl⟩ (Nat.le_of_eq (Nat.zero_add _)) (Nat.le_of_eq (Nat.zero_add _)) dL_look_26
    · refine lv_lconst (v := 1) B.hx B.hb dL_look_10 (by decide) ?_
      refine lv_goto (tgt := 15) B.hx B.hb dL_look_11 (by decide) ?_
      refine q_last B hP hD hS dL_look_15 (fun H locs hP hD hS => ?_)
      rw [k1 _ (by rw [if_neg c1])] at hP hD
      refine lv_goto (tgt := 25) B.hx B.hb dL_look_16 (by decide) ?_
      refine lv_iconst (v := nI 0) B.hx B.hb dL_look_25 (by decide) ?_
      exact q_iret B hr hP hD hS (u := .inl (u, z)) rfl ⟨hp, rfl⟩ (Nat.le_of_eq (Nat.zero_add _)) (Nat.le_of_eq (Nat.zero_add _)) dL_look_26

set_option maxHeartbeats 4000000 in
theorem cl_open (l : Launch) (D : va_G) (cI cZ cP cJ : ClassId) {S : Type} {post : Option Value → S → Prop} {W' : S → va_W} {xp : String → Prop} {fr lo mc ms q0 b o : Nat} {w : va_W} {fs : List Value} {f : Nat → Int64} {x : Int32} (hq : w[q0]? = some (b, .inr (3, fs))) (h : q_C l yX3_open wsX3_open { frames := fr, cells := mc, slots := ms, locals := lo } D cI cZ cP cJ [.ref b, .int x] w post W' xp mc ms) (hpost : ∀ v u, post v u → ∃ z : Int32, v = some (.int z)) (hxp : ∀ E, xp E → E = q_ISE) : q_C l yL_open wsL_open { frames := fr + 1, cells := mc, slots := ms, locals := 8 + (3 + 11) + lo } D cI cZ cP cJ [.ref b, .int x, .ref o] (w ++ [oc cJ o f]) (S := (S × Int32) ⊕ (String × Nat)) (lpost post xp [(q_ISE, 1)]) (lW W' w cJ o f (fun x => x.toInt64)) (fun _ => False) mc ms := by
  refine q_ofH (cc := cL_open) (maxL := 4) (ret := (some .int)) (by decide +kernel) rfl (Nat.le_of_ble_eq_true rfl) ?_
  intro p e s m below meth c A ls B hr htb hP hD hS hl
  have hl : lv_has ls 4 [(0, .ref b), (1, .int x), (2, .ref o)] := hl
  have hq : (w ++ [oc cJ o f])[q0]? = some (b, .inr (3, fs)) := by rw [List.getElem?_append_left (List.getElem?_eq_some_iff.mp hq).1]; exact hq
  refine lv_aload_n B.hx B.hb dL_open_0 rfl (lv_at hl 2 rfl) ?_
  refine lv_iconst (v := nI 0) B.hx B.hb dL_open_1 (by decide) ?_
  refine lv_aload_n B.hx B.hb dL_open_2 rfl (lv_at hl 0 rfl) ?_
  refine lv_iload_n B.hx B.hb dL_open_3 rfl (lv_at hl 1 rfl) ?_
  refine q_callV (As := [.int x]) (rest := [.int (nI 0), .ref o]) B hP hD hS (h.fr [oc cJ o f]) (cwV 1 B.hts gL_open_X3_open rfl rfl rfl (by decide +kernel) ⟨Nat.le_refl _, Nat.le_refl _⟩) q0 3 hq rfl rfl rfl hl.1 rfl (Nat.le_of_ble_eq_true rfl) dL_open_4 ⟨(Nat.le_of_eq (Nat.zero_add _)), (Nat.le_of_eq (Nat.zero_add _))⟩ (fun E ce q9 H locs hx hP hS hce hcv hcl => ?_) (fun v u H locs hp hP hD hS => ?_)
  · obtain rfl := hxp E hx
    refine q_hand1 B htb rfl (by decide) (by decide +kernel) (by decide) hce hcv hcl ?_
    refine lv_astore_n (lv' := [(3, .ref q9), (0, .ref b), (1, .int x), (2, .ref o)]) B.hx B.hb dL_open_12 rfl hl (by decide) rfl (fun ls hl => ?_)
    refine lv_iconst (v := nI 1) B.hx B.hb dL_open_13 (by decide) ?_
    exact q_iret B hr hP hD hS (u := .inr (q_ISE, 1)) rfl ⟨hx, by simp, rfl⟩ (Nat.le_of_eq (Nat.zero_add _)) (Nat.le_of_eq (Nat.zero_add _)) dL_open_14
  · obtain ⟨z, rfl⟩ := hpost v u hp
    refine lv_i2l (v := z.toInt64) B.hx B.hb dL_open_7 rfl ?_
    refine q_last B hP hD hS dL_open_8 (fun H locs hP hD hS => ?_)
    refine lv_goto (tgt := 15) B.hx B.hb dL_open_9 (by decide) ?_
    refine lv_iconst (v := nI 0) B.hx B.hb dL_open_15 (by decide) ?_
    exact q_iret B hr hP hD hS (u := .inl (u, z)) rfl ⟨hp, rfl⟩ (Nat.le_of_eq (Nat.zero_add _)) (Nat.le_of_eq (Nat.zero_add _)) dL_open_16

set_option maxHeartbeats 4000000 in
theorem cl_outOfDate (l : Launch) (D : va_G) (cI cZ cP cJ : ClassId) {S : Type} {post : Option Value → S → Prop} {W' : S → va_W} {xp : String → Prop} {fr lo mc ms q0 b o : Nat} {w : va_W} {fs : List Value} {f : Nat → Int64} {x : Int32} (hq : w[q0]? = some (b, .inr (3, fs))) (h : q_C l yX3_outOfDate wsX3_outOfDate { frames := fr, cells := mc, slots := ms, locals := lo } D cI cZ cP cJ [.ref b, .int x] w post W' xp mc ms) (hpost : ∀ v u, post v u → ∃ z : Int32, v = some (.int z)) (hxp : ∀ E, xp E → E = q_IOB) : q_C l yL_outOfDate wsL_outOfDate { frames := fr + 1, cells := mc, slots := ms, locals := 8 + (2 + 11) + lo } D cI cZ cP cJ [.ref b, .int x, .ref o] (w ++ [oc cJ o f]) (S := (S × Int32) ⊕ (String × Nat)) (lpost post xp [(q_IOB, 1)]) (lW W' w cJ o f (fun x => x.toInt64)) (fun _ => False) mc ms := by
  refine q_ofH (cc := cL_outOfDate) (maxL := 4) (ret := (some .int)) (by decide +kernel) rfl (Nat.le_of_ble_eq_true rfl) ?_
  intro p e s m below meth c A ls B hr htb hP hD hS hl
  have hl : lv_has ls 4 [(0, .ref b), (1, .int x), (2, .ref o)] := hl
  have hq : (w ++ [oc cJ o f])[q0]? = some (b, .inr (3, fs)) := by rw [List.getElem?_append_left (List.getElem?_eq_some_iff.mp hq).1]; exact hq
  refine lv_aload_n B.hx B.hb dL_outOfDate_0 rfl (lv_at hl 2 rfl) ?_
  refine lv_iconst (v := nI 0) B.hx B.hb dL_outOfDate_1 (by decide) ?_
  refine lv_aload_n B.hx B.hb dL_outOfDate_2 rfl (lv_at hl 0 rfl) ?_
  refine lv_iload_n B.hx B.hb dL_outOfDate_3 rfl (lv_at hl 1 rfl) ?_
  refine q_callV (As := [.int x]) (rest := [.int (nI 0), .ref o]) B hP hD hS (h.fr [oc cJ o f]) (cwV 1 B.hts gL_outOfDate_X3_outOfDate rfl rfl rfl (by decide +kernel) ⟨Nat.le_refl _, Nat.le_refl _⟩) q0 3 hq rfl rfl rfl hl.1 rfl (Nat.le_of_ble_eq_true rfl) dL_outOfDate_4 ⟨(Nat.le_of_eq (Nat.zero_add _)), (Nat.le_of_eq (Nat.zero_add _))⟩ (fun E ce q9 H locs hx hP hS hce hcv hcl => ?_) (fun v u H locs hp hP hD hS => ?_)
  · obtain rfl := hxp E hx
    refine q_hand1 B htb rfl (by decide) (by decide +kernel) (by decide) hce hcv hcl ?_
    refine lv_astore_n (lv' := [(3, .ref q9), (0, .ref b), (1, .int x), (2, .ref o)]) B.hx B.hb dL_outOfDate_12 rfl hl (by decide) rfl (fun ls hl => ?_)
    refine lv_iconst (v := nI 1) B.hx B.hb dL_outOfDate_13 (by decide) ?_
    exact q_iret B hr hP hD hS (u := .inr (q_IOB, 1)) rfl ⟨hx, by simp, rfl⟩ (Nat.le_of_eq (Nat.zero_add _)) (Nat.le_of_eq (Nat.zero_add _)) dL_outOfDate_14
  · obtain ⟨z, rfl⟩ := hpost v u hp
    refine lv_i2l (v := z.toInt64) B.hx B.hb dL_outOfDate_7 rfl ?_
    refine q_last B hP hD hS dL_outOfDate_8 (fun H locs hP hD hS => ?_)
    refine lv_goto (tgt := 15) B.hx B.hb dL_outOfDate_9 (by decide) ?_
    refine lv_iconst (v := nI 0) B.hx B.hb dL_outOfDate_15 (by decide) ?_
    exact q_iret B hr hP hD hS (u := .inl (u, z)) rfl ⟨hp, rfl⟩ (Nat.le_of_eq (Nat.zero_add _)) (Nat.le_of_eq (Nat.zero_add _)) dL_outOfDate_16

set_option maxHeartbeats 4000000 in
theorem cl_pass (l : Launch) (D : va_G) (cI cZ cP cJ : ClassId) {S : Type} {post : Option Value → S → Prop} {W' : S → va_W} {xp : String → Prop} {fr lo mc ms q0 b o : Nat} {w : va_W} {fs : List Value} {f : Nat → Int64} {x : Int32} (hq : w[q0]? = some (b, .inr (3, fs))) (h : q_C l yX3_pass wsX3_pass { frames := fr, cells := mc, slots := ms, locals := lo } D cI cZ cP cJ [.ref b, .int x] w post W' xp mc ms) (hpost : ∀ v u, post v u → ∃ z : Int32, v = some (.int z)) (hxp : ∀ E, xp E → E = q_IAE ∨ E = q_ISE) : q_C l yL_pass wsL_pass { frames := fr + 1, cells := mc, slots := ms, locals := 8 + (4 + 11) + lo } D cI cZ cP cJ [.ref b, .int x, .ref o] (w ++ [oc cJ o f]) (S := (S × Int32) ⊕ (String × Nat)) (lpost post xp [(q_IAE, 1), (q_ISE, 2)]) (lW W' w cJ o f (fun x => x.toInt64)) (fun _ => False) mc ms := by
  refine q_ofH (cc := cL_pass) (maxL := 4) (ret := (some .int)) (by decide +kernel) rfl (Nat.le_of_ble_eq_true rfl) ?_
  intro p e s m below meth c A ls B hr htb hP hD hS hl
  have hl : lv_has ls 4 [(0, .ref b), (1, .int x), (2, .ref o)] := hl
  have hq : (w ++ [oc cJ o f])[q0]? = some (b, .inr (3, fs)) := by rw [List.getElem?_append_left (List.getElem?_eq_some_iff.mp hq).1]; exact hq
  refine lv_aload_n B.hx B.hb dL_pass_0 rfl (lv_at hl 2 rfl) ?_
  refine lv_iconst (v := nI 0) B.hx B.hb dL_pass_1 (by decide) ?_
  refine lv_aload_n B.hx B.hb dL_pass_2 rfl (lv_at hl 0 rfl) ?_
  refine lv_iload_n B.hx B.hb dL_pass_3 rfl (lv_at hl 1 rfl) ?_
  refine q_callV (As := [.int x]) (rest := [.int (nI 0), .ref o]) B hP hD hS (h.fr [oc cJ o f]) (cwV 1 B.hts gL_pass_X3_pass rfl rfl rfl (by decide +kernel) ⟨Nat.le_refl _, Nat.le_refl _⟩) q0 3 hq rfl rfl rfl hl.1 rfl (Nat.le_of_ble_eq_true rfl) dL_pass_4 ⟨(Nat.le_of_eq (Nat.zero_add _)), (Nat.le_of_eq (Nat.zero_add _))⟩ (fun E ce q9 H locs hx hP hS hce hcv hcl => ?_) (fun v u H locs hp hP hD hS => ?_)
  · rcases hxp E hx with rfl | rfl
    · refine q_hand1 B htb rfl (by decide) (by decide +kernel) (by decide) hce hcv hcl ?_
      refine lv_astore_n (lv' := [(3, .ref q9), (0, .ref b), (1, .int x), (2, .ref o)]) B.hx B.hb dL_pass_12 rfl hl (by decide) rfl (fun ls hl => ?_)
      refine lv_iconst (v := nI 1) B.hx B.hb dL_pass_13 (by decide) ?_
      exact q_iret B hr hP hD hS (u := .inr (q_IAE, 1)) rfl ⟨hx, by simp, rfl⟩ (Nat.le_of_eq (Nat.zero_add _)) (Nat.le_of_eq (Nat.zero_add _)) dL_pass_14
    · refine q_hand2 (F := q_IAE) B htb (by decide) (by decide +kernel) (by decide) rfl (by decide) (by decide +kernel) (by decide) hce hcv hcl ?_
      refine lv_astore_n (lv' := [(3, .ref q9), (0, .ref b), (1, .int x), (2, .ref o)]) B.hx B.hb dL_pass_15 rfl hl (by decide) rfl (fun ls hl => ?_)
      refine lv_iconst (v := nI 2) B.hx B.hb dL_pass_16 (by decide) ?_
      exact q_iret B hr hP hD hS (u := .inr (q_ISE, 2)) rfl ⟨hx, by simp, rfl⟩ (Nat.le_of_eq (Nat.zero_add _)) (Nat.le_of_eq (Nat.zero_add _)) dL_pass_17
  · obtain ⟨z, rfl⟩ := hpost v u hp
    refine lv_i2l (v := z.toInt64) B.hx B.hb dL_pass_7 rfl ?_
    refine q_last B hP hD hS dL_pass_8 (fun H locs hP hD hS => ?_)
    refine lv_goto (tgt := 18) B.hx B.hb dL_pass_9 (by decide) ?_
    refine lv_iconst (v := nI 0) B.hx B.hb dL_pass_18 (by decide) ?_
    exact q_iret B hr hP hD hS (u := .inl (u, z)) rfl ⟨hp, rfl⟩ (Nat.le_of_eq (Nat.zero_add _)) (Nat.le_of_eq (Nat.zero_add _)) dL_pass_19

set_option maxHeartbeats 4000000 in
theorem cl_reader (l : Launch) (D : va_G) (cI cZ cP cJ : ClassId) {S : Type} {post : Option Value → S → Prop} {W' : S → va_W} {xp : String → Prop} {fr lo mc ms q0 b o : Nat} {w : va_W} {fs : List Value} {f : Nat → Int64} {x y : Int32} (hq : w[q0]? = some (b, .inr (3, fs))) (h : q_C l yX3_reader wsX3_reader { frames := fr, cells := mc, slots := ms, locals := lo } D cI cZ cP cJ [.ref b, .int x, .int y] w post W' xp mc ms) (hpost : ∀ v u, post v u → ∃ z : Int32, v = some (.int z)) (hxp : ∀ E, xp E → E = q_IOB ∨ E = q_IAE ∨ E = q_ISE) : q_C l yL_reader wsL_reader { frames := fr + 1, cells := mc, slots := ms, locals := 8 + (5 + 11) + lo } D cI cZ cP cJ [.ref b, .int x, .int y, .ref o] (w ++ [oc cJ o f]) (S := (S × Int32) ⊕ (String × Nat)) (lpost post xp [(q_IOB, 1), (q_IAE, 2), (q_ISE, 3)]) (lW W' w cJ o f (fun x => x.toInt64)) (fun _ => False) mc ms := by
  refine q_ofH (cc := cL_reader) (maxL := 5) (ret := (some .int)) (by decide +kernel) rfl (Nat.le_of_ble_eq_true rfl) ?_
  intro p e s m below meth c A ls B hr htb hP hD hS hl
  have hl : lv_has ls 5 [(0, .ref b), (1, .int x), (2, .int y), (3, .ref o)] := hl
  have hq : (w ++ [oc cJ o f])[q0]? = some (b, .inr (3, fs)) := by rw [List.getElem?_append_left (List.getElem?_eq_some_iff.mp hq).1]; exact hq
  refine lv_aload_n B.hx B.hb dL_reader_0 rfl (lv_at hl 3 rfl) ?_
  refine lv_iconst (v := nI 0) B.hx B.hb dL_reader_1 (by decide) ?_
  refine lv_aload_n B.hx B.hb dL_reader_2 rfl (lv_at hl 0 rfl) ?_
  refine lv_iload_n B.hx B.hb dL_reader_3 rfl (lv_at hl 1 rfl) ?_
  refine lv_iload_n B.hx B.hb dL_reader_4 rfl (lv_at hl 2 rfl) ?_
  refine q_callV (As := [.int x, .int y]) (rest := [.int (nI 0), .ref o]) B hP hD hS (h.fr [oc cJ o f]) (cwV 2 B.hts gL_reader_X3_reader rfl rfl rfl (by decide +kernel) ⟨Nat.le_refl _, Nat.le_refl _⟩) q0 3 hq rfl rfl rfl hl.1 rfl (Nat.le_of_ble_eq_true rfl) dL_reader_5 ⟨(Nat.le_of_eq (Nat.zero_add _)), (Nat.le_of_eq (Nat.zero_add _))⟩ (fun E ce q9 H locs hx hP hS hce hcv hcl => ?_) (fun v u H locs hp hP hD hS => ?_)
  · rcases hxp E hx with rfl | rfl | rfl
    · refine q_hand1 B htb rfl (by decide) (by decide +kernel) (by decide) hce hcv hcl ?_
      refine lv_astore (lv' := [(4, .ref q9), (0, .ref b), (1, .int x), (2, .int y), (3, .ref o)]) B.hx B.hb dL_reader_13 hl (by decide) rfl (fun ls hl => ?_)
      refine lv_iconst (v := nI 1) B.hx B.hb dL_reader_15 (by decide) ?_
      exact q_iret B hr hP hD hS (u := .inr (q_IOB, 1)) rfl ⟨hx, by simp, rfl⟩ (Nat.le_of_eq (Nat.zero_add _)) (Nat.le_of_eq (Nat.zero_add _)) dL_reader_16
    · refine q_hand2 (F := q_IOB) B htb (by decide) (by decide +kernel) (by decide) rfl (by decide) (by decide +kernel) (by decide) hce hcv hcl ?_
      refine lv_astore (lv' := [(4, .ref q9), (0, .ref b), (1, .int x), (2, .int y), (3, .ref o)]) B.hx B.hb dL_reader_17 hl (by decide) rfl (fun ls hl => ?_)
      refine lv_iconst (v := nI 2) B.hx B.hb dL_reader_19 (by decide) ?_
      exact q_iret B hr hP hD hS (u := .inr (q_IAE, 2)) rfl ⟨hx, by simp, rfl⟩ (Nat.le_of_eq (Nat.zero_add _)) (Nat.le_of_eq (Nat.zero_add _)) dL_reader_20
    · refine q_hand3 (F := q_IOB) (G := q_IAE) B htb (by decide) (by decide +kernel) (by decide) (by decide) (by decide +kernel) (by decide) rfl (by decide) (by decide +kernel) (by decide) hce hcv hcl ?_
      refine lv_astore (lv' := [(4, .ref q9), (0, .ref b), (1, .int x), (2, .int y), (3, .ref o)]) B.hx B.hb dL_reader_21 hl (by decide) rfl (fun ls hl => ?_)
      refine lv_iconst (v := nI 3) B.hx B.hb dL_reader_23 (by decide) ?_
      exact q_iret B hr hP hD hS (u := .inr (q_ISE, 3)) rfl ⟨hx, by simp, rfl⟩ (Nat.le_of_eq (Nat.zero_add _)) (Nat.le_of_eq (Nat.zero_add _)) dL_reader_24
  · obtain ⟨z, rfl⟩ := hpost v u hp
    refine lv_i2l (v := z.toInt64) B.hx B.hb dL_reader_8 rfl ?_
    refine q_last B hP hD hS dL_reader_9 (fun H locs hP hD hS => ?_)
    refine lv_goto (tgt := 25) B.hx B.hb dL_reader_10 (by decide) ?_
    refine lv_iconst (v := nI 0) B.hx B.hb dL_reader_25 (by decide) ?_
    exact q_iret B hr hP hD hS (u := .inl (u, z)) rfl ⟨hp, rfl⟩ (Nat.le_of_eq (Nat.zero_add _)) (Nat.le_of_eq (Nat.zero_add _)) dL_reader_26

set_option maxHeartbeats 4000000 in
theorem cl_review (l : Launch) (D : va_G) (cI cZ cP cJ : ClassId) {S : Type} {post : Option Value → S → Prop} {W' : S → va_W} {xp : String → Prop} {fr lo mc ms q0 b o : Nat} {w : va_W} {fs : List Value} {f : Nat → Int64} {x y z : Int32} (hq : w[q0]? = some (b, .inr (3, fs))) (h : q_C l yX3_review wsX3_review { frames := fr, cells := mc, slots := ms, locals := lo } D cI cZ cP cJ [.ref b, .int x, .int y, .int z] w post W' xp mc ms) (hpost : ∀ v u, post v u → ∃ z : Int32, v = some (.int z)) (hxp : ∀ E, xp E → E = q_IOB ∨ E = q_IAE ∨ E = q_ISE) : q_C l yL_review wsL_review { frames := fr + 1, cells := mc, slots := ms, locals := 8 + (6 + 11) + lo } D cI cZ cP cJ [.ref b, .int x, .int y, .int z, .ref o] (w ++ [oc cJ o f]) (S := (S × Int32) ⊕ (String × Nat)) (lpost post xp [(q_IOB, 1), (q_IAE, 2), (q_ISE, 3)]) (lW W' w cJ o f (fun x => x.toInt64)) (fun _ => False) mc ms := by
  refine q_ofH (cc := cL_review) (maxL := 6) (ret := (some .int)) (by decide +kernel) rfl (Nat.le_of_ble_eq_true rfl) ?_
  intro p e s m below meth c A ls B hr htb hP hD hS hl
  have hl : lv_has ls 6 [(0, .ref b), (1, .int x), (2, .int y), (3, .int z), (4, .ref o)] := hl
  have hq : (w ++ [oc cJ o f])[q0]? = some (b, .inr (3, fs)) := by rw [List.getElem?_append_left (List.getElem?_eq_some_iff.mp hq).1]; exact hq
  refine lv_aload B.hx B.hb dL_review_0 (lv_at hl 4 rfl) ?_
  refine lv_iconst (v := nI 0) B.hx B.hb dL_review_2 (by decide) ?_
  refine lv_aload_n B.hx B.hb dL_review_3 rfl (lv_at hl 0 rfl) ?_
  refine lv_iload_n B.hx B.hb dL_review_4 rfl (lv_at hl 1 rfl) ?_
  refine lv_iload_n B.hx B.hb dL_review_5 rfl (lv_at hl 2 rfl) ?_
  refine lv_iload_n B.hx B.hb dL_review_6 rfl (lv_at hl 3 rfl) ?_
  refine q_callV (As := [.int x, .int y, .int z]) (rest := [.int (nI 0), .ref o]) B hP hD hS (h.fr [oc cJ o f]) (cwV 3 B.hts gL_review_X3_review rfl rfl rfl (by decide +kernel) ⟨Nat.le_refl _, Nat.le_refl _⟩) q0 3 hq rfl rfl rfl hl.1 rfl (Nat.le_of_ble_eq_true rfl) dL_review_7 ⟨(Nat.le_of_eq (Nat.zero_add _)), (Nat.le_of_eq (Nat.zero_add _))⟩ (fun E ce q9 H locs hx hP hS hce hcv hcl => ?_) (fun v u H locs hp hP hD hS => ?_)
  · rcases hxp E hx with rfl | rfl | rfl
    · refine q_hand1 B htb rfl (by decide) (by decide +kernel) (by decide) hce hcv hcl ?_
      refine lv_astore (lv' := [(5, .ref q9), (0, .ref b), (1, .int x), (2, .int y), (3, .int z), (4, .ref o)]) B.hx B.hb dL_review_15 hl (by decide) rfl (fun ls hl => ?_)
      refine lv_iconst (v := nI 1) B.hx B.hb dL_review_17 (by decide) ?_
      exact q_iret B hr hP hD hS (u := .inr (q_IOB, 1)) rfl ⟨hx, by simp, rfl⟩ (Nat.le_of_eq (Nat.zero_add _)) (Nat.le_of_eq (Nat.zero_add _)) dL_review_18
    · refine q_hand2 (F := q_IOB) B htb (by decide) (by decide +kernel) (by decide) rfl (by decide) (by decide +kernel) (by decide) hce hcv hcl ?_
      refine lv_astore (lv' := [(5, .ref q9), (0, .ref b), (1, .int x), (2, .int y), (3, .int z), (4, .ref o)]) B.hx B.hb dL_review_19 hl (by decide) rfl (fun ls hl => ?_)
      refine lv_iconst (v := nI 2) B.hx B.hb dL_review_21 (by decide) ?_
      exact q_iret B hr hP hD hS (u := .inr (q_IAE, 2)) rfl ⟨hx, by simp, rfl⟩ (Nat.le_of_eq (Nat.zero_add _)) (Nat.le_of_eq (Nat.zero_add _)) dL_review_22
    · refine q_hand3 (F := q_IOB) (G := q_IAE) B htb (by decide) (by decide +kernel) (by decide) (by decide) (by decide +kernel) (by decide) rfl (by decide) (by decide +kernel) (by decide) hce hcv hcl ?_
      refine lv_astore (lv' := [(5, .ref q9), (0, .ref b), (1, .int x), (2, .int y), (3, .int z), (4, .ref o)]) B.hx B.hb dL_review_23 hl (by decide) rfl (fun ls hl => ?_)
      refine lv_iconst (v := nI 3) B.hx B.hb dL_review_25 (by decide) ?_
      exact q_iret B hr hP hD hS (u := .inr (q_ISE, 3)) rfl ⟨hx, by simp, rfl⟩ (Nat.le_of_eq (Nat.zero_add _)) (Nat.le_of_eq (Nat.zero_add _)) dL_review_26
  · obtain ⟨z, rfl⟩ := hpost v u hp
    refine lv_i2l (v := z.toInt64) B.hx B.hb dL_review_10 rfl ?_
    refine q_last B hP hD hS dL_review_11 (fun H locs hP hD hS => ?_)
    refine lv_goto (tgt := 27) B.hx B.hb dL_review_12 (by decide) ?_
    refine lv_iconst (v := nI 0) B.hx B.hb dL_review_27 (by decide) ?_
    exact q_iret B hr hP hD hS (u := .inl (u, z)) rfl ⟨hp, rfl⟩ (Nat.le_of_eq (Nat.zero_add _)) (Nat.le_of_eq (Nat.zero_add _)) dL_review_28

set_option maxHeartbeats 4000000 in
theorem cl_reviewer (l : Launch) (D : va_G) (cI cZ cP cJ : ClassId) {S : Type} {post : Option Value → S → Prop} {W' : S → va_W} {xp : String → Prop} {fr lo mc ms q0 b o : Nat} {w : va_W} {fs : List Value} {f : Nat → Int64} {x y : Int32} (hq : w[q0]? = some (b, .inr (3, fs))) (h : q_C l yX3_reviewer wsX3_reviewer { frames := fr, cells := mc, slots := ms, locals := lo } D cI cZ cP cJ [.ref b, .int x, .int y] w post W' xp mc ms) (hpost : ∀ v u, post v u → ∃ z : Int32, v = some (.int z)) (hxp : ∀ E, xp E → E = q_IOB ∨ E = q_IAE ∨ E = q_ISE) : q_C l yL_reviewer wsL_reviewer { frames := fr + 1, cells := mc, slots := ms, locals := 8 + (5 + 11) + lo } D cI cZ cP cJ [.ref b, .int x, .int y, .ref o] (w ++ [oc cJ o f]) (S := (S × Int32) ⊕ (String × Nat)) (lpost post xp [(q_IOB, 1), (q_IAE, 2), (q_ISE, 3)]) (lW W' w cJ o f (fun x => x.toInt64)) (fun _ => False) mc ms := by
  refine q_ofH (cc := cL_reviewer) (maxL := 5) (ret := (some .int)) (by decide +kernel) rfl (Nat.le_of_ble_eq_true rfl) ?_
  intro p e s m below meth c A ls B hr htb hP hD hS hl
  have hl : lv_has ls 5 [(0, .ref b), (1, .int x), (2, .int y), (3, .ref o)] := hl
  have hq : (w ++ [oc cJ o f])[q0]? = some (b, .inr (3, fs)) := by rw [List.getElem?_append_left (List.getElem?_eq_some_iff.mp hq).1]; exact hq
  refine lv_aload_n B.hx B.hb dL_reviewer_0 rfl (lv_at hl 3 rfl) ?_
  refine lv_iconst (v := nI 0) B.hx B.hb dL_reviewer_1 (by decide) ?_
  refine lv_aload_n B.hx B.hb dL_reviewer_2 rfl (lv_at hl 0 rfl) ?_
  refine lv_iload_n B.hx B.hb dL_reviewer_3 rfl (lv_at hl 1 rfl) ?_
  refine lv_iload_n B.hx B.hb dL_reviewer_4 rfl (lv_at hl 2 rfl) ?_
  refine q_callV (As := [.int x, .int y]) (rest := [.int (nI 0), .ref o]) B hP hD hS (h.fr [oc cJ o f]) (cwV 2 B.hts gL_reviewer_X3_reviewer rfl rfl rfl (by decide +kernel) ⟨Nat.le_refl _, Nat.le_refl _⟩) q0 3 hq rfl rfl rfl hl.1 rfl (Nat.le_of_ble_eq_true rfl) dL_reviewer_5 ⟨(Nat.le_of_eq (Nat.zero_add _)), (Nat.le_of_eq (Nat.zero_add _))⟩ (fun E ce q9 H locs hx hP hS hce hcv hcl => ?_) (fun v u H locs hp hP hD hS => ?_)
  · rcases hxp E hx with rfl | rfl | rfl
    · refine q_hand1 B htb rfl (by decide) (by decide +kernel) (by decide) hce hcv hcl ?_
      refine lv_astore (lv' := [(4, .ref q9), (0, .ref b), (1, .int x), (2, .int y), (3, .ref o)]) B.hx B.hb dL_reviewer_13 hl (by decide) rfl (fun ls hl => ?_)
      refine lv_iconst (v := nI 1) B.hx B.hb dL_reviewer_15 (by decide) ?_
      exact q_iret B hr hP hD hS (u := .inr (q_IOB, 1)) rfl ⟨hx, by simp, rfl⟩ (Nat.le_of_eq (Nat.zero_add _)) (Nat.le_of_eq (Nat.zero_add _)) dL_reviewer_16
    · refine q_hand2 (F := q_IOB) B htb (by decide) (by decide +kernel) (by decide) rfl (by decide) (by decide +kernel) (by decide) hce hcv hcl ?_
      refine lv_astore (lv' := [(4, .ref q9), (0, .ref b), (1, .int x), (2, .int y), (3, .ref o)]) B.hx B.hb dL_reviewer_17 hl (by decide) rfl (fun ls hl => ?_)
      refine lv_iconst (v := nI 2) B.hx B.hb dL_reviewer_19 (by decide) ?_
      exact q_iret B hr hP hD hS (u := .inr (q_IAE, 2)) rfl ⟨hx, by simp, rfl⟩ (Nat.le_of_eq (Nat.zero_add _)) (Nat.le_of_eq (Nat.zero_add _)) dL_reviewer_20
    · refine q_hand3 (F := q_IOB) (G := q_IAE) B htb (by decide) (by decide +kernel) (by decide) (by decide) (by decide +kernel) (by decide) rfl (by decide) (by decide +kernel) (by decide) hce hcv hcl ?_
      refine lv_astore (lv' := [(4, .ref q9), (0, .ref b), (1, .int x), (2, .int y), (3, .ref o)]) B.hx B.hb dL_reviewer_21 hl (by decide) rfl (fun ls hl => ?_)
      refine lv_iconst (v := nI 3) B.hx B.hb dL_reviewer_23 (by decide) ?_
      exact q_iret B hr hP hD hS (u := .inr (q_ISE, 3)) rfl ⟨hx, by simp, rfl⟩ (Nat.le_of_eq (Nat.zero_add _)) (Nat.le_of_eq (Nat.zero_add _)) dL_reviewer_24
  · obtain ⟨z, rfl⟩ := hpost v u hp
    refine lv_i2l (v := z.toInt64) B.hx B.hb dL_reviewer_8 rfl ?_
    refine q_last B hP hD hS dL_reviewer_9 (fun H locs hP hD hS => ?_)
    refine lv_goto (tgt := 25) B.hx B.hb dL_reviewer_10 (by decide) ?_
    refine lv_iconst (v := nI 0) B.hx B.hb dL_reviewer_25 (by decide) ?_
    exact q_iret B hr hP hD hS (u := .inl (u, z)) rfl ⟨hp, rfl⟩ (Nat.le_of_eq (Nat.zero_add _)) (Nat.le_of_eq (Nat.zero_add _)) dL_reviewer_26

set_option maxHeartbeats 4000000 in
theorem cl_setDeputy (l : Launch) (D : va_G) (cI cZ cP cJ : ClassId) {S : Type} {post : Option Value → S → Prop} {W' : S → va_W} {xp : String → Prop} {fr lo mc ms q0 b o : Nat} {w : va_W} {fs : List Value} {f : Nat → Int64} {x y : Int32} (hq : w[q0]? = some (b, .inr (3, fs))) (h : q_C l yX3_setDeputy wsX3_setDeputy { frames := fr, cells := mc, slots := ms, locals := lo } D cI cZ cP cJ [.ref b, .int x, .int y] w post W' xp mc ms) (hpost : ∀ v u, post v u → ∃ z : Int32, v = some (.int z)) (hxp : ∀ E, xp E → E = q_IAE) : q_C l yL_setDeputy wsL_setDeputy { frames := fr + 1, cells := mc, slots := ms, locals := 8 + (4 + 11) + lo } D cI cZ cP cJ [.ref b, .int x, .int y, .ref o] (w ++ [oc cJ o f]) (S := (S × Int32) ⊕ (String × Nat)) (lpost post xp [(q_IAE, 1)]) (lW W' w cJ o f (fun x => x.toInt64)) (fun _ => False) mc ms := by
  refine q_ofH (cc := cL_setDeputy) (maxL := 5) (ret := (some .int)) (by decide +kernel) rfl (Nat.le_of_ble_eq_true rfl) ?_
  intro p e s m below meth c A ls B hr htb hP hD hS hl
  have hl : lv_has ls 5 [(0, .ref b), (1, .int x), (2, .int y), (3, .ref o)] := hl
  have hq : (w ++ [oc cJ o f])[q0]? = some (b, .inr (3, fs)) := by rw [List.getElem?_append_left (List.getElem?_eq_some_iff.mp hq).1]; exact hq
  refine lv_aload_n B.hx B.hb dL_setDeputy_0 rfl (lv_at hl 3 rfl) ?_
  refine lv_iconst (v := nI 0) B.hx B.hb dL_setDeputy_1 (by decide) ?_
  refine lv_aload_n B.hx B.hb dL_setDeputy_2 rfl (lv_at hl 0 rfl) ?_
  refine lv_iload_n B.hx B.hb dL_setDeputy_3 rfl (lv_at hl 1 rfl) ?_
  refine lv_iload_n B.hx B.hb dL_setDeputy_4 rfl (lv_at hl 2 rfl) ?_
  refine q_callV (As := [.int x, .int y]) (rest := [.int (nI 0), .ref o]) B hP hD hS (h.fr [oc cJ o f]) (cwV 2 B.hts gL_setDeputy_X3_setDeputy rfl rfl rfl (by decide +kernel) ⟨Nat.le_refl _, Nat.le_refl _⟩) q0 3 hq rfl rfl rfl hl.1 rfl (Nat.le_of_ble_eq_true rfl) dL_setDeputy_5 ⟨(Nat.le_of_eq (Nat.zero_add _)), (Nat.le_of_eq (Nat.zero_add _))⟩ (fun E ce q9 H locs hx hP hS hce hcv hcl => ?_) (fun v u H locs hp hP hD hS => ?_)
  · obtain rfl := hxp E hx
    refine q_hand1 B htb rfl (by decide) (by decide +kernel) (by decide) hce hcv hcl ?_
    refine lv_astore (lv' := [(4, .ref q9), (0, .ref b), (1, .int x), (2, .int y), (3, .ref o)]) B.hx B.hb dL_setDeputy_13 hl (by decide) rfl (fun ls hl => ?_)
    refine lv_iconst (v := nI 1) B.hx B.hb dL_setDeputy_15 (by decide) ?_
    exact q_iret B hr hP hD hS (u := .inr (q_IAE, 1)) rfl ⟨hx, by simp, rfl⟩ (Nat.le_of_eq (Nat.zero_add _)) (Nat.le_of_eq (Nat.zero_add _)) dL_setDeputy_16
  · obtain ⟨z, rfl⟩ := hpost v u hp
    refine lv_i2l (v := z.toInt64) B.hx B.hb dL_setDeputy_8 rfl ?_
    refine q_last B hP hD hS dL_setDeputy_9 (fun H locs hP hD hS => ?_)
    refine lv_goto (tgt := 17) B.hx B.hb dL_setDeputy_10 (by decide) ?_
    refine lv_iconst (v := nI 0) B.hx B.hb dL_setDeputy_17 (by decide) ?_
    exact q_iret B hr hP hD hS (u := .inl (u, z)) rfl ⟨hp, rfl⟩ (Nat.le_of_eq (Nat.zero_add _)) (Nat.le_of_eq (Nat.zero_add _)) dL_setDeputy_18

set_option maxHeartbeats 4000000 in
theorem cl_setInterval (l : Launch) (D : va_G) (cI cZ cP cJ : ClassId) {S : Type} {post : Option Value → S → Prop} {W' : S → va_W} {xp : String → Prop} {fr lo mc ms q0 b o : Nat} {w : va_W} {fs : List Value} {f : Nat → Int64} {x : Int32} (hq : w[q0]? = some (b, .inr (3, fs))) (h : q_C l yX3_setInterval wsX3_setInterval { frames := fr, cells := mc, slots := ms, locals := lo } D cI cZ cP cJ [.ref b, .int x] w post W' xp mc ms) (hpost : ∀ v u, post v u → ∃ z : Int32, v = some (.int z)) (hxp : ∀ E, xp E → E = q_IAE) : q_C l yL_setInterval wsL_setInterval { frames := fr + 1, cells := mc, slots := ms, locals := 8 + (3 + 11) + lo } D cI cZ cP cJ [.ref b, .int x, .ref o] (w ++ [oc cJ o f]) (S := (S × Int32) ⊕ (String × Nat)) (lpost post xp [(q_IAE, 1)]) (lW W' w cJ o f (fun x => x.toInt64)) (fun _ => False) mc ms := by
  refine q_ofH (cc := cL_setInterval) (maxL := 4) (ret := (some .int)) (by decide +kernel) rfl (Nat.le_of_ble_eq_true rfl) ?_
  intro p e s m below meth c A ls B hr htb hP hD hS hl
  have hl : lv_has ls 4 [(0, .ref b), (1, .int x), (2, .ref o)] := hl
  have hq : (w ++ [oc cJ o f])[q0]? = some (b, .inr (3, fs)) := by rw [List.getElem?_append_left (List.getElem?_eq_some_iff.mp hq).1]; exact hq
  refine lv_aload_n B.hx B.hb dL_setInterval_0 rfl (lv_at hl 2 rfl) ?_
  refine lv_iconst (v := nI 0) B.hx B.hb dL_setInterval_1 (by decide) ?_
  refine lv_aload_n B.hx B.hb dL_setInterval_2 rfl (lv_at hl 0 rfl) ?_
  refine lv_iload_n B.hx B.hb dL_setInterval_3 rfl (lv_at hl 1 rfl) ?_
  refine q_callV (As := [.int x]) (rest := [.int (nI 0), .ref o]) B hP hD hS (h.fr [oc cJ o f]) (cwV 1 B.hts gL_setInterval_X3_setInterval rfl rfl rfl (by decide +kernel) ⟨Nat.le_refl _, Nat.le_refl _⟩) q0 3 hq rfl rfl rfl hl.1 rfl (Nat.le_of_ble_eq_true rfl) dL_setInterval_4 ⟨(Nat.le_of_eq (Nat.zero_add _)), (Nat.le_of_eq (Nat.zero_add _))⟩ (fun E ce q9 H locs hx hP hS hce hcv hcl => ?_) (fun v u H locs hp hP hD hS => ?_)
  · obtain rfl := hxp E hx
    refine q_hand1 B htb rfl (by decide) (by decide +kernel) (by decide) hce hcv hcl ?_
    refine lv_astore_n (lv' := [(3, .ref q9), (0, .ref b), (1, .int x), (2, .ref o)]) B.hx B.hb dL_setInterval_12 rfl hl (by decide) rfl (fun ls hl => ?_)
    refine lv_iconst (v := nI 1) B.hx B.hb dL_setInterval_13 (by decide) ?_
    exact q_iret B hr hP hD hS (u := .inr (q_IAE, 1)) rfl ⟨hx, by simp, rfl⟩ (Nat.le_of_eq (Nat.zero_add _)) (Nat.le_of_eq (Nat.zero_add _)) dL_setInterval_14
  · obtain ⟨z, rfl⟩ := hpost v u hp
    refine lv_i2l (v := z.toInt64) B.hx B.hb dL_setInterval_7 rfl ?_
    refine q_last B hP hD hS dL_setInterval_8 (fun H locs hP hD hS => ?_)
    refine lv_goto (tgt := 15) B.hx B.hb dL_setInterval_9 (by decide) ?_
    refine lv_iconst (v := nI 0) B.hx B.hb dL_setInterval_15 (by decide) ?_
    exact q_iret B hr hP hD hS (u := .inl (u, z)) rfl ⟨hp, rfl⟩ (Nat.le_of_eq (Nat.zero_add _)) (Nat.le_of_eq (Nat.zero_add _)) dL_setInterval_16

set_option maxHeartbeats 4000000 in
theorem cl_setRoles (l : Launch) (D : va_G) (cI cZ cP cJ : ClassId) {S : Type} {post : Option Value → S → Prop} {W' : S → va_W} {xp : String → Prop} {fr lo mc ms q0 b : Nat} {w : va_W} {fs : List Value} {x y z : Int32} (hq : w[q0]? = some (b, .inr (3, fs))) (h : q_C l yX3_setRoles wsX3_setRoles { frames := fr, cells := mc, slots := ms, locals := lo } D cI cZ cP cJ [.ref b, .int x, .int y, .int z] w post W' xp mc ms) (hpost : ∀ v u, post v u → v = none) (hxp : ∀ E, xp E → E = q_IAE) : q_C l yL_setRoles wsL_setRoles { frames := fr + 1, cells := mc, slots := ms, locals := 8 + (4 + 11) + lo } D cI cZ cP cJ [.ref b, .int x, .int y, .int z] w (S := S ⊕ (String × Nat)) (vpost post xp [(q_IAE, 1)]) (vW W' w) (fun _ => False) mc ms := by
  refine q_ofH (cc := cL_setRoles) (maxL := 5) (ret := (some .int)) (by decide +kernel) rfl (Nat.le_of_ble_eq_true rfl) ?_
  intro p e s m below meth c A ls B hr htb hP hD hS hl
  have hl : lv_has ls 5 [(0, .ref b), (1, .int x), (2, .int y), (3, .int z)] := hl
  refine lv_aload_n B.hx B.hb dL_setRoles_0 rfl (lv_at hl 0 rfl) ?_
  refine lv_iload_n B.hx B.hb dL_setRoles_1 rfl (lv_at hl 1 rfl) ?_
  refine lv_iload_n B.hx B.hb dL_setRoles_2 rfl (lv_at hl 2 rfl) ?_
  refine lv_iload_n B.hx B.hb dL_setRoles_3 rfl (lv_at hl 3 rfl) ?_
  refine q_callV (As := [.int x, .int y, .int z]) (rest := []) B hP hD hS h (cwV 3 B.hts gL_setRoles_X3_setRoles rfl rfl rfl (by decide +kernel) ⟨Nat.le_refl _, Nat.le_refl _⟩) q0 3 hq rfl rfl rfl hl.1 rfl (Nat.le_of_ble_eq_true rfl) dL_setRoles_4 ⟨(Nat.le_of_eq (Nat.zero_add _)), (Nat.le_of_eq (Nat.zero_add _))⟩ (fun E ce q9 H locs hx hP hS hce hcv hcl => ?_) (fun v u H locs hp hP hD hS => ?_)
  · obtain rfl := hxp E hx
    refine q_hand1 B htb rfl (by decide) (by decide +kernel) (by decide) hce hcv hcl ?_
    refine lv_astore (lv' := [(4, .ref q9), (0, .ref b), (1, .int x), (2, .int y), (3, .int z)]) B.hx B.hb dL_setRoles_10 hl (by decide) rfl (fun ls hl => ?_)
    refine lv_iconst (v := nI 1) B.hx B.hb dL_setRoles_12 (by decide) ?_
    exact q_iret B hr hP hD hS (u := .inr (q_IAE, 1)) rfl ⟨hx, by simp, rfl⟩ (Nat.le_of_eq (Nat.zero_add _)) (Nat.le_of_eq (Nat.zero_add _)) dL_setRoles_13
  · obtain rfl := hpost v u hp
    refine lv_goto (tgt := 14) B.hx B.hb dL_setRoles_7 (by decide) ?_
    refine lv_iconst (v := nI 0) B.hx B.hb dL_setRoles_14 (by decide) ?_
    exact q_iret B hr hP hD hS (u := .inl u) rfl ⟨hp, rfl⟩ (Nat.le_of_eq (Nat.zero_add _)) (Nat.le_of_eq (Nat.zero_add _)) dL_setRoles_15

set_option maxHeartbeats 4000000 in
theorem cl_since (l : Launch) (D : va_G) (cI cZ cP cJ : ClassId) {S : Type} {post : Option Value → S → Prop} {W' : S → va_W} {xp : String → Prop} {fr lo mc ms q0 b o : Nat} {w : va_W} {fs : List Value} {f : Nat → Int64} {x y : Int32} (hq : w[q0]? = some (b, .inr (3, fs))) (h : q_C l yX3_since wsX3_since { frames := fr, cells := mc, slots := ms, locals := lo } D cI cZ cP cJ [.ref b, .int x, .int y] w post W' xp mc ms) (hpost : ∀ v u, post v u → ∃ z : Int32, v = some (.int z)) (hxp : ∀ E, xp E → E = q_IOB) : q_C l yL_since wsL_since { frames := fr + 1, cells := mc, slots := ms, locals := 8 + (4 + 11) + lo } D cI cZ cP cJ [.ref b, .int x, .int y, .ref o] (w ++ [oc cJ o f]) (S := (S × Int32) ⊕ (String × Nat)) (lpost post xp [(q_IOB, 1)]) (lW W' w cJ o f (fun x => x.toInt64)) (fun _ => False) mc ms := by
  refine q_ofH (cc := cL_since) (maxL := 5) (ret := (some .int)) (by decide +kernel) rfl (Nat.le_of_ble_eq_true rfl) ?_
  intro p e s m below meth c A ls B hr htb hP hD hS hl
  have hl : lv_has ls 5 [(0, .ref b), (1, .int x), (2, .int y), (3, .ref o)] := hl
  have hq : (w ++ [oc cJ o f])[q0]? = some (b, .inr (3, fs)) := by rw [List.getElem?_append_left (List.getElem?_eq_some_iff.mp hq).1]; exact hq
  refine lv_aload_n B.hx B.hb dL_since_0 rfl (lv_at hl 3 rfl) ?_
  refine lv_iconst (v := nI 0) B.hx B.hb dL_since_1 (by decide) ?_
  refine lv_aload_n B.hx B.hb dL_since_2 rfl (lv_at hl 0 rfl) ?_
  refine lv_iload_n B.hx B.hb dL_since_3 rfl (lv_at hl 1 rfl) ?_
  refine lv_iload_n B.hx B.hb dL_since_4 rfl (lv_at hl 2 rfl) ?_
  refine q_callV (As := [.int x, .int y]) (rest := [.int (nI 0), .ref o]) B hP hD hS (h.fr [oc cJ o f]) (cwV 2 B.hts gL_since_X3_since rfl rfl rfl (by decide +kernel) ⟨Nat.le_refl _, Nat.le_refl _⟩) q0 3 hq rfl rfl rfl hl.1 rfl (Nat.le_of_ble_eq_true rfl) dL_since_5 ⟨(Nat.le_of_eq (Nat.zero_add _)), (Nat.le_of_eq (Nat.zero_add _))⟩ (fun E ce q9 H locs hx hP hS hce hcv hcl => ?_) (fun v u H locs hp hP hD hS => ?_)
  · obtain rfl := hxp E hx
    refine q_hand1 B htb rfl (by decide) (by decide +kernel) (by decide) hce hcv hcl ?_
    refine lv_astore (lv' := [(4, .ref q9), (0, .ref b), (1, .int x), (2, .int y), (3, .ref o)]) B.hx B.hb dL_since_13 hl (by decide) rfl (fun ls hl => ?_)
    refine lv_iconst (v := nI 1) B.hx B.hb dL_since_15 (by decide) ?_
    exact q_iret B hr hP hD hS (u := .inr (q_IOB, 1)) rfl ⟨hx, by simp, rfl⟩ (Nat.le_of_eq (Nat.zero_add _)) (Nat.le_of_eq (Nat.zero_add _)) dL_since_16
  · obtain ⟨z, rfl⟩ := hpost v u hp
    refine lv_i2l (v := z.toInt64) B.hx B.hb dL_since_8 rfl ?_
    refine q_last B hP hD hS dL_since_9 (fun H locs hP hD hS => ?_)
    refine lv_goto (tgt := 17) B.hx B.hb dL_since_10 (by decide) ?_
    refine lv_iconst (v := nI 0) B.hx B.hb dL_since_17 (by decide) ?_
    exact q_iret B hr hP hD hS (u := .inl (u, z)) rfl ⟨hp, rfl⟩ (Nat.le_of_eq (Nat.zero_add _)) (Nat.le_of_eq (Nat.zero_add _)) dL_since_18

set_option maxHeartbeats 4000000 in
theorem cl_step (l : Launch) (D : va_G) (cI cZ cP cJ : ClassId) {S : Type} {post : Option Value → S → Prop} {W' : S → va_W} {xp : String → Prop} {fr lo mc ms q0 b o : Nat} {w : va_W} {fs : List Value} {f : Nat → Int64} {x : Int32} (hq : w[q0]? = some (b, .inr (3, fs))) (h : q_C l yX3_step wsX3_step { frames := fr, cells := mc, slots := ms, locals := lo } D cI cZ cP cJ [.ref b, .int x] w post W' xp mc ms) (hpost : ∀ v u, post v u → ∃ z : Int32, v = some (.int z)) (hxp : ∀ E, xp E → E = q_IOB) : q_C l yL_step wsL_step { frames := fr + 1, cells := mc, slots := ms, locals := 8 + (3 + 11) + lo } D cI cZ cP cJ [.ref b, .int x, .ref o] (w ++ [oc cJ o f]) (S := (S × Int32) ⊕ (String × Nat)) (lpost post xp [(q_IOB, 1)]) (lW W' w cJ o f (fun x => x.toInt64)) (fun _ => False) mc ms := by
  refine q_ofH (cc := cL_step) (maxL := 4) (ret := (some .int)) (by decide +kernel) rfl (Nat.le_of_ble_eq_true rfl) ?_
  intro p e s m below meth c A ls B hr htb hP hD hS hl
  have hl : lv_has ls 4 [(0, .ref b), (1, .int x), (2, .ref o)] := hl
  have hq : (w ++ [oc cJ o f])[q0]? = some (b, .inr (3, fs)) := by rw [List.getElem?_append_left (List.getElem?_eq_some_iff.mp hq).1]; exact hq
  refine lv_aload_n B.hx B.hb dL_step_0 rfl (lv_at hl 2 rfl) ?_
  refine lv_iconst (v := nI 0) B.hx B.hb dL_step_1 (by decide) ?_
  refine lv_aload_n B.hx B.hb dL_step_2 rfl (lv_at hl 0 rfl) ?_
  refine lv_iload_n B.hx B.hb dL_step_3 rfl (lv_at hl 1 rfl) ?_
  refine q_callV (As := [.int x]) (rest := [.int (nI 0), .ref o]) B hP hD hS (h.fr [oc cJ o f]) (cwV 1 B.hts gL_step_X3_step rfl rfl rfl (by decide +kernel) ⟨Nat.le_refl _, Nat.le_refl _⟩) q0 3 hq rfl rfl rfl hl.1 rfl (Nat.le_of_ble_eq_true rfl) dL_step_4 ⟨(Nat.le_of_eq (Nat.zero_add _)), (Nat.le_of_eq (Nat.zero_add _))⟩ (fun E ce q9 H locs hx hP hS hce hcv hcl => ?_) (fun v u H locs hp hP hD hS => ?_)
  · obtain rfl := hxp E hx
    refine q_hand1 B htb rfl (by decide) (by decide +kernel) (by decide) hce hcv hcl ?_
    refine lv_astore_n (lv' := [(3, .ref q9), (0, .ref b), (1, .int x), (2, .ref o)]) B.hx B.hb dL_step_12 rfl hl (by decide) rfl (fun ls hl => ?_)
    refine lv_iconst (v := nI 1) B.hx B.hb dL_step_13 (by decide) ?_
    exact q_iret B hr hP hD hS (u := .inr (q_IOB, 1)) rfl ⟨hx, by simp, rfl⟩ (Nat.le_of_eq (Nat.zero_add _)) (Nat.le_of_eq (Nat.zero_add _)) dL_step_14
  · obtain ⟨z, rfl⟩ := hpost v u hp
    refine lv_i2l (v := z.toInt64) B.hx B.hb dL_step_7 rfl ?_
    refine q_last B hP hD hS dL_step_8 (fun H locs hP hD hS => ?_)
    refine lv_goto (tgt := 15) B.hx B.hb dL_step_9 (by decide) ?_
    refine lv_iconst (v := nI 0) B.hx B.hb dL_step_15 (by decide) ?_
    exact q_iret B hr hP hD hS (u := .inl (u, z)) rfl ⟨hp, rfl⟩ (Nat.le_of_eq (Nat.zero_add _)) (Nat.le_of_eq (Nat.zero_add _)) dL_step_16

set_option maxHeartbeats 4000000 in
theorem cl_takeDown (l : Launch) (D : va_G) (cI cZ cP cJ : ClassId) {S : Type} {post : Option Value → S → Prop} {W' : S → va_W} {xp : String → Prop} {fr lo mc ms q0 b o : Nat} {w : va_W} {fs : List Value} {f : Nat → Int64} {x : Int32} (hq : w[q0]? = some (b, .inr (3, fs))) (h : q_C l yX3_takeDown wsX3_takeDown { frames := fr, cells := mc, slots := ms, locals := lo } D cI cZ cP cJ [.ref b, .int x] w post W' xp mc ms) (hpost : ∀ v u, post v u → ∃ z : Int32, v = some (.int z)) (hxp : ∀ E, xp E → E = q_IOB) : q_C l yL_takeDown wsL_takeDown { frames := fr + 1, cells := mc, slots := ms, locals := 8 + (3 + 11) + lo } D cI cZ cP cJ [.ref b, .int x, .ref o] (w ++ [oc cJ o f]) (S := (S × Int32) ⊕ (String × Nat)) (lpost post xp [(q_IOB, 1)]) (lW W' w cJ o f (fun x => x.toInt64)) (fun _ => False) mc ms := by
  refine q_ofH (cc := cL_takeDown) (maxL := 4) (ret := (some .int)) (by decide +kernel) rfl (Nat.le_of_ble_eq_true rfl) ?_
  intro p e s m below meth c A ls B hr htb hP hD hS hl
  have hl : lv_has ls 4 [(0, .ref b), (1, .int x), (2, .ref o)] := hl
  have hq : (w ++ [oc cJ o f])[q0]? = some (b, .inr (3, fs)) := by rw [List.getElem?_append_left (List.getElem?_eq_some_iff.mp hq).1]; exact hq
  refine lv_aload_n B.hx B.hb dL_takeDown_0 rfl (lv_at hl 2 rfl) ?_
  refine lv_iconst (v := nI 0) B.hx B.hb dL_takeDown_1 (by decide) ?_
  refine lv_aload_n B.hx B.hb dL_takeDown_2 rfl (lv_at hl 0 rfl) ?_
  refine lv_iload_n B.hx B.hb dL_takeDown_3 rfl (lv_at hl 1 rfl) ?_
  refine q_callV (As := [.int x]) (rest := [.int (nI 0), .ref o]) B hP hD hS (h.fr [oc cJ o f]) (cwV 1 B.hts gL_takeDown_X3_takeDown rfl rfl rfl (by decide +kernel) ⟨Nat.le_refl _, Nat.le_refl _⟩) q0 3 hq rfl rfl rfl hl.1 rfl (Nat.le_of_ble_eq_true rfl) dL_takeDown_4 ⟨(Nat.le_of_eq (Nat.zero_add _)), (Nat.le_of_eq (Nat.zero_add _))⟩ (fun E ce q9 H locs hx hP hS hce hcv hcl => ?_) (fun v u H locs hp hP hD hS => ?_)
  · obtain rfl := hxp E hx
    refine q_hand1 B htb rfl (by decide) (by decide +kernel) (by decide) hce hcv hcl ?_
    refine lv_astore_n (lv' := [(3, .ref q9), (0, .ref b), (1, .int x), (2, .ref o)]) B.hx B.hb dL_takeDown_12 rfl hl (by decide) rfl (fun ls hl => ?_)
    refine lv_iconst (v := nI 1) B.hx B.hb dL_takeDown_13 (by decide) ?_
    exact q_iret B hr hP hD hS (u := .inr (q_IOB, 1)) rfl ⟨hx, by simp, rfl⟩ (Nat.le_of_eq (Nat.zero_add _)) (Nat.le_of_eq (Nat.zero_add _)) dL_takeDown_14
  · obtain ⟨z, rfl⟩ := hpost v u hp
    refine lv_i2l (v := z.toInt64) B.hx B.hb dL_takeDown_7 rfl ?_
    refine q_last B hP hD hS dL_takeDown_8 (fun H locs hP hD hS => ?_)
    refine lv_goto (tgt := 15) B.hx B.hb dL_takeDown_9 (by decide) ?_
    refine lv_iconst (v := nI 0) B.hx B.hb dL_takeDown_15 (by decide) ?_
    exact q_iret B hr hP hD hS (u := .inl (u, z)) rfl ⟨hp, rfl⟩ (Nat.le_of_eq (Nat.zero_add _)) (Nat.le_of_eq (Nat.zero_add _)) dL_takeDown_16

set_option maxHeartbeats 4000000 in
theorem cl_text (l : Launch) (D : va_G) (cI cZ cP cJ : ClassId) {S : Type} {post : Option Value → S → Prop} {W' : S → va_W} {xp : String → Prop} {fr lo mc ms q0 b o : Nat} {w : va_W} {fs : List Value} {f : Nat → Int64} {x : Int32} (hq : w[q0]? = some (b, .inr (3, fs))) (h : q_C l yX3_text wsX3_text { frames := fr, cells := mc, slots := ms, locals := lo } D cI cZ cP cJ [.ref b, .int x] w post W' xp mc ms) (hpost : ∀ v u, post v u → ∃ z : Int32, v = some (.int z)) (hxp : ∀ E, xp E → E = q_IOB) : q_C l yL_text wsL_text { frames := fr + 1, cells := mc, slots := ms, locals := 8 + (4 + 11) + lo } D cI cZ cP cJ [.ref b, .int x, .ref o] (w ++ [oc cJ o f]) (S := (S × Int32) ⊕ (String × Nat)) (lpost post xp [(q_IOB, 1)]) (lW W' w cJ o f (fun x => x.toInt64)) (fun _ => False) mc ms := by
  refine q_ofH (cc := cL_text) (maxL := 4) (ret := (some .int)) (by decide +kernel) rfl (Nat.le_of_ble_eq_true rfl) ?_
  intro p e s m below meth c A ls B hr htb hP hD hS hl
  have hl : lv_has ls 4 [(0, .ref b), (1, .int x), (2, .ref o)] := hl
  have hq : (w ++ [oc cJ o f])[q0]? = some (b, .inr (3, fs)) := by rw [List.getElem?_append_left (List.getElem?_eq_some_iff.mp hq).1]; exact hq
  refine lv_aload_n B.hx B.hb dL_text_0 rfl (lv_at hl 2 rfl) ?_
  refine lv_iconst (v := nI 0) B.hx B.hb dL_text_1 (by decide) ?_
  refine lv_aload_n B.hx B.hb dL_text_2 rfl (lv_at hl 0 rfl) ?_
  refine lv_iload_n B.hx B.hb dL_text_3 rfl (lv_at hl 1 rfl) ?_
  refine q_callV (As := [.int x]) (rest := [.int (nI 0), .ref o]) B hP hD hS (h.fr [oc cJ o f]) (cwV 1 B.hts gL_text_X3_text rfl rfl rfl (by decide +kernel) ⟨Nat.le_refl _, Nat.le_refl _⟩) q0 3 hq rfl rfl rfl hl.1 rfl (Nat.le_of_ble_eq_true rfl) dL_text_4 ⟨(Nat.le_of_eq (Nat.zero_add _)), (Nat.le_of_eq (Nat.zero_add _))⟩ (fun E ce q9 H locs hx hP hS hce hcv hcl => ?_) (fun v u H locs hp hP hD hS => ?_)
  · obtain rfl := hxp E hx
    refine q_hand1 B htb rfl (by decide) (by decide +kernel) (by decide) hce hcv hcl ?_
    refine lv_astore_n (lv' := [(3, .ref q9), (0, .ref b), (1, .int x), (2, .ref o)]) B.hx B.hb dL_text_12 rfl hl (by decide) rfl (fun ls hl => ?_)
    refine lv_iconst (v := nI 1) B.hx B.hb dL_text_13 (by decide) ?_
    exact q_iret B hr hP hD hS (u := .inr (q_IOB, 1)) rfl ⟨hx, by simp, rfl⟩ (Nat.le_of_eq (Nat.zero_add _)) (Nat.le_of_eq (Nat.zero_add _)) dL_text_14
  · obtain ⟨z, rfl⟩ := hpost v u hp
    refine lv_i2l (v := z.toInt64) B.hx B.hb dL_text_7 rfl ?_
    refine q_last B hP hD hS dL_text_8 (fun H locs hP hD hS => ?_)
    refine lv_goto (tgt := 15) B.hx B.hb dL_text_9 (by decide) ?_
    refine lv_iconst (v := nI 0) B.hx B.hb dL_text_15 (by decide) ?_
    exact q_iret B hr hP hD hS (u := .inl (u, z)) rfl ⟨hp, rfl⟩ (Nat.le_of_eq (Nat.zero_add _)) (Nat.le_of_eq (Nat.zero_add _)) dL_text_16

set_option maxHeartbeats 4000000 in
theorem cl_waitsFor (l : Launch) (D : va_G) (cI cZ cP cJ : ClassId) {S : Type} {post : Option Value → S → Prop} {W' : S → va_W} {xp : String → Prop} {fr lo mc ms q0 b o : Nat} {w : va_W} {fs : List Value} {f : Nat → Int64} {x : Int32} (hq : w[q0]? = some (b, .inr (3, fs))) (h : q_C l yX3_waitsFor wsX3_waitsFor { frames := fr, cells := mc, slots := ms, locals := lo } D cI cZ cP cJ [.ref b, .int x] w post W' xp mc ms) (hpost : ∀ v u, post v u → ∃ z : Int32, v = some (.int z)) (hxp : ∀ E, xp E → E = q_IOB) : q_C l yL_waitsFor wsL_waitsFor { frames := fr + 1, cells := mc, slots := ms, locals := 8 + (3 + 11) + lo } D cI cZ cP cJ [.ref b, .int x, .ref o] (w ++ [oc cJ o f]) (S := (S × Int32) ⊕ (String × Nat)) (lpost post xp [(q_IOB, 1)]) (lW W' w cJ o f (fun x => x.toInt64)) (fun _ => False) mc ms := by
  refine q_ofH (cc := cL_waitsFor) (maxL := 4) (ret := (some .int)) (by decide +kernel) rfl (Nat.le_of_ble_eq_true rfl) ?_
  intro p e s m below meth c A ls B hr htb hP hD hS hl
  have hl : lv_has ls 4 [(0, .ref b), (1, .int x), (2, .ref o)] := hl
  have hq : (w ++ [oc cJ o f])[q0]? = some (b, .inr (3, fs)) := by rw [List.getElem?_append_left (List.getElem?_eq_some_iff.mp hq).1]; exact hq
  refine lv_aload_n B.hx B.hb dL_waitsFor_0 rfl (lv_at hl 2 rfl) ?_
  refine lv_iconst (v := nI 0) B.hx B.hb dL_waitsFor_1 (by decide) ?_
  refine lv_aload_n B.hx B.hb dL_waitsFor_2 rfl (lv_at hl 0 rfl) ?_
  refine lv_iload_n B.hx B.hb dL_waitsFor_3 rfl (lv_at hl 1 rfl) ?_
  refine q_callV (As := [.int x]) (rest := [.int (nI 0), .ref o]) B hP hD hS (h.fr [oc cJ o f]) (cwV 1 B.hts gL_waitsFor_X3_waitsFor rfl rfl rfl (by decide +kernel) ⟨Nat.le_refl _, Nat.le_refl _⟩) q0 3 hq rfl rfl rfl hl.1 rfl (Nat.le_of_ble_eq_true rfl) dL_waitsFor_4 ⟨(Nat.le_of_eq (Nat.zero_add _)), (Nat.le_of_eq (Nat.zero_add _))⟩ (fun E ce q9 H locs hx hP hS hce hcv hcl => ?_) (fun v u H locs hp hP hD hS => ?_)
  · obtain rfl := hxp E hx
    refine q_hand1 B htb rfl (by decide) (by decide +kernel) (by decide) hce hcv hcl ?_
    refine lv_astore_n (lv' := [(3, .ref q9), (0, .ref b), (1, .int x), (2, .ref o)]) B.hx B.hb dL_waitsFor_12 rfl hl (by decide) rfl (fun ls hl => ?_)
    refine lv_iconst (v := nI 1) B.hx B.hb dL_waitsFor_13 (by decide) ?_
    exact q_iret B hr hP hD hS (u := .inr (q_IOB, 1)) rfl ⟨hx, by simp, rfl⟩ (Nat.le_of_eq (Nat.zero_add _)) (Nat.le_of_eq (Nat.zero_add _)) dL_waitsFor_14
  · obtain ⟨z, rfl⟩ := hpost v u hp
    refine lv_i2l (v := z.toInt64) B.hx B.hb dL_waitsFor_7 rfl ?_
    refine q_last B hP hD hS dL_waitsFor_8 (fun H locs hP hD hS => ?_)
    refine lv_goto (tgt := 15) B.hx B.hb dL_waitsFor_9 (by decide) ?_
    refine lv_iconst (v := nI 0) B.hx B.hb dL_waitsFor_15 (by decide) ?_
    exact q_iret B hr hP hD hS (u := .inl (u, z)) rfl ⟨hp, rfl⟩ (Nat.le_of_eq (Nat.zero_add _)) (Nat.le_of_eq (Nat.zero_add _)) dL_waitsFor_16
end QLM
