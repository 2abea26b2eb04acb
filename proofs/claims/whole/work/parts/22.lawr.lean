/-! THE LAW'S LOOP: rows for one call of it. -/
section QR
variable {p : Program} {l : Launch} {e : Env} {R : Room} {s : State} {m : MethodId} {args : Array Value} {below : List Frame} {meth : Method} {c : Code} {H : Heap} {locs : List Loc} {cells slots : Nat} {Q : State → Prop}
variable {D : va_G} {cI cZ cP cJ : ClassId} {A : Nat → Prop} {cc : ByteArray} {pc nL : Nat} {ls : Array Slot} {rest st0 : List Value} {own : String} {Ts : List Cond} {w : va_W}
/-- a truth value out of a number -/
def nb (x : Int32) : Int32 := if x = 0 then nI 0 else nI 1
theorem nb_or (x : Int32) : nb x = 0 ∨ nb x = 1 := by
  by_cases h : x = 0
  · exact Or.inl (by rw [nb, if_pos h]; rfl)
  · exact Or.inr (by rw [nb, if_neg h]; rfl)
theorem lw_bool (hx : p.tables.exec = Jvm.exec) (hb : c.code = cc) {x : Int32} (d1 : decode cc pc = .ok (.ifCond .eq 7, 3)) (d2 : decode cc (pc + 3) = .ok (.iconst 1, 1)) (d3 : decode cc (pc + 4) = .ok (.goto 4, 3)) (d4 : decode cc (pc + 7) = .ok (.iconst 0, 1))
    (kk : W p l e R s m args below meth c H locs cells slots Q (F0 m (pc + 8) ls (.int (nb x) :: rest))) : W p l e R s m args below meth c H locs cells slots Q (F0 m pc ls (.int x :: rest)) := by
  refine lv_if_eq (tgt := pc + 7) hx hb d1 (by omega) (fun c1 => ?_) (fun c1 => ?_)
  · refine lv_iconst (v := nI 0) hx hb d4 (by decide) ?_
    rw [nb, if_pos c1] at kk
    exact kk
  · refine lv_iconst (v := nI 1) hx hb d2 (by decide) ?_
    refine lv_goto (tgt := pc + 8) hx hb d3 (by omega) ?_
    rw [nb, if_neg c1] at kk
    exact kk
theorem lw_arg (B : q_B p l s m args meth c D cI cZ cP cJ A cc nL own Ts) (hS : va_S A s.heap H locs) {sb L i d : Nat} {xs : Nat → Int32} (hX : va_X sb L xs s s.heap) (hbl : sb < s.heap.size) (hbA : ¬ A sb) (hL : L ≤ 2048) (hin : i + d < L) {lv : List (Nat × Value)} (hl : lv_has ls nL lv) (k0 k4 : Nat) (h0 : lv[k0]? = some (0, .ref sb)) (h4 : lv[k4]? = some (4, .int (nI i)))
    {dd : Int} (hd : Int32.ofInt dd = nI d) {q : Fin 4} (hq : (q : Nat) = 0) (d0 : decode cc pc = .ok (.aload_n q, 1)) (d1 : decode cc (pc + 1) = .ok (.iload 4, 2)) (d3 : decode cc (pc + 3) = .ok (.iconst dd, 1)) (d4 : decode cc (pc + 4) = .ok (.iadd, 1)) (d5 : decode cc (pc + 5) = .ok (.iaload, 1))
    (kk : W p l e R s m args below meth c H locs cells slots Q (F0 m (pc + 6) ls (.int (xs (i + d)) :: rest))) : W p l e R s m args below meth c H locs cells slots Q (F0 m pc ls rest) := by
  refine lv_aload_n B.hx B.hb d0 hq (lv_at hl k0 h0) ?_
  refine lv_iload B.hx B.hb d1 (lv_at hl k4 h4) ?_
  refine lv_iconst (v := nI d) B.hx B.hb d3 hd ?_
  refine lv_iadd B.hx B.hb d4 ?_
  rw [nI_add]
  refine va_sld B.hx B.hb hX hbl hbA hS (vp_in_nI hin (by omega)) d5 ?_
  rw [nI_clamp (by omega)]
  exact kk
theorem lw_lcmp (hexec : p.tables.exec = Jvm.exec) (hb : c.code = cc) {x : Int64} (hdg : decode cc pc = .ok (.lcmp, 1))
    (k : W p l e R s m args below meth c H locs cells slots Q (F0 m (pc + 1) ls (.int 0 :: rest))) : W p l e R s m args below meth c H locs cells slots Q (F0 m pc ls (.long x :: .long x :: rest)) := by
  intro T hT X
  obtain ⟨t, a, b⟩ := k T hT X
  refine ⟨t, ?_, b⟩
  jvm_step X.here [X.here.top, hexec, hb, hdg, show ¬ x < x from Int64.lt_irrefl]
  first | exact a | simpa using a
/-- the reference's first cell, behind others -/
theorem mw_at (wx x : va_W) {o : Nat → Nat} {J : Nat → Int32} {Z : Nat → Nat → Int32} : ∃ fs, (wx ++ (mw cI cZ o J Z ++ x))[wx.length]? = some (o 0, .inr (4, fs)) := by
  rw [List.getElem?_append_right (Nat.le_refl _), Nat.sub_self]
  exact ⟨_, rfl⟩
theorem oc_at2 (wx y : va_W) (q : Nat × va_E) : (wx ++ (y ++ [q]))[(wx ++ y).length]? = some q := by
  rw [← List.append_assoc]
  exact oc_at _ _
/-- the long's cell goes behind the reference's -/
theorem lw_swap (w x : va_W) (q : Nat × va_E) : ((w ++ [q]) ++ x).Perm (w ++ (x ++ [q])) := by
  rw [List.append_assoc]
  exact List.Perm.append_left _ List.perm_append_comm
theorem lw_fr1 {y : MethodName} {ws : List Cond} {rm : Room} {av : List Value} {wk x : va_W} {o9 : Nat} {f : Nat → Int64} {post : Option Value → (va_W × (Nat → Int64)) → Prop} {mc ms : Nat} (h : q_C l y ws rm D cI cZ cP cJ av (wk ++ [oc cJ o9 f]) post (fun u => u.1 ++ [oc cJ o9 u.2]) (fun _ => False) mc ms) :
    q_C l y ws rm D cI cZ cP cJ av (wk ++ (x ++ [oc cJ o9 f])) post (fun u => u.1 ++ (x ++ [oc cJ o9 u.2])) (fun _ => False) mc ms := (h.fr x).perm (lw_swap _ _ _) (fun _ => lw_swap _ _ _)
/-- did the reference throw? -/
theorem lw_thrown {wk : va_W} {o : Nat → Nat} {J : Nat → Int32} {Z : Nat → Nat → Int32} {o9 : Nat} {f : Nat → Int64} (B : q_B p l s m args meth c D cI cZ cP cJ A cL_law 7 RL wsL_law) (hR : R.frames = 12 ∧ R.locals = 434) (hfit : cells ≤ R.cells ∧ slots ≤ R.slots)
    (hP : va_P D vwCl (wk ++ (mw cI cZ o J Z ++ [oc cJ o9 f])) H) (hD : va_D A (wk ++ (mw cI cZ o J Z ++ [oc cJ o9 f]))) (hS : va_S A s.heap H locs) (hls : ls.size = 7) (hd : decode cL_law pc = .ok (.invokevirtual 110, 3))
    (kk : ∀ (H1 : Heap) (locs1 : List Loc), va_P D vwCl (wk ++ (mw cI cZ o J Z ++ [oc cJ o9 f])) H1 → va_D A (wk ++ (mw cI cZ o J Z ++ [oc cJ o9 f])) → va_S A s.heap H1 locs1 → W p l e R s m args below meth c H1 locs1 cells slots Q (F0 m (pc + 3) ls [.int (J 30)])) :
    W p l e R s m args below meth c H locs cells slots Q (F0 m pc ls [.ref (o 0)]) := by
  obtain ⟨fs, hq⟩ := mw_at (cI := cI) (cZ := cZ) wk [oc cJ o9 f] (o := o) (J := J) (Z := Z)
  refine q_callV (As := []) (rest := []) B hP hD hS (((c4_thrown l D cI cZ cP cJ o J Z).fr [oc cJ o9 f]).fl wk) (cwV 0 B.hts gL_law_X4_thrown rfl rfl rfl (by decide +kernel) ⟨by rw [hR.1]; decide, by rw [hR.2]; decide⟩) wk.length 4 hq rfl rfl rfl hls rfl (Nat.le_of_ble_eq_true rfl) hd hfit (fun E ce q9 H locs hx => False.elim hx) (fun v u H locs hp hP hD hS => ?_)
  obtain rfl := hp
  exact kk H locs hP hD hS
/-- the end of a call of the loop: the two agree -/
theorem lw_tail {t i z : Nat} {wk : va_W} {o : Nat → Nat} {J : Nat → Int32} {Z : Nat → Nat → Int32} {sb bx o9 : Nat} {b9 : Int32} {f : Nat → Int64} {off : Int} (B : q_B p l s m args meth c D cI cZ cP cJ A cL_law 7 RL wsL_law) (hR : R.frames = 12 ∧ R.locals = 434) (hfit : cells ≤ R.cells ∧ slots ≤ R.slots)
    (hP : va_P D vwCl (wk ++ (mw cI cZ o J Z ++ [oc cJ o9 f])) H) (hD : va_D A (wk ++ (mw cI cZ o J Z ++ [oc cJ o9 f]))) (hS : va_S A s.heap H locs) (hl : lv_has ls 7 [(6, .int b9), (5, .int (nI z)), (0, .ref sb), (1, .ref bx), (2, .ref (o 0)), (3, .ref o9), (4, .int (nI i))])
    (hJ : J 30 = nI z) (hz : z < 2 ^ 31) (hans : z = 0 → f 0 = b9.toInt64) {q2 q3 : Fin 4} (e2 : (q2 : Nat) = 2) (e3 : (q3 : Nat) = 3)
    (d0 : decode cL_law t = .ok (.aload_n q2, 1)) (d1 : decode cL_law (t + 1) = .ok (.invokevirtual 110, 3)) (d2 : decode cL_law (t + 4) = .ok (.iload 5, 2)) (d3 : decode cL_law (t + 6) = .ok (.if_icmp .eq 5, 3)) (d4 : decode cL_law (t + 11) = .ok (.iload 5, 2)) (d5 : decode cL_law (t + 13) = .ok (.ifCond .ne 15, 3)) (d6 : decode cL_law (t + 16) = .ok (.aload_n q3, 1)) (d7 : decode cL_law (t + 17) = .ok (.iconst 0, 1)) (d8 : decode cL_law (t + 18) = .ok (.laload, 1)) (d9 : decode cL_law (t + 19) = .ok (.iload 6, 2)) (d10 : decode cL_law (t + 21) = .ok (.i2l, 1)) (d11 : decode cL_law (t + 22) = .ok (.lcmp, 1)) (d12 : decode cL_law (t + 23) = .ok (.ifCond .eq 5, 3)) (d13 : decode cL_law (t + 28) = .ok (.goto off, 3)) (ho : ((t + 28 : Nat) : Int) + off = ((1863 : Nat) : Int))
    (kk : ∀ (H1 : Heap) (locs1 : List Loc), va_P D vwCl (wk ++ (mw cI cZ o J Z ++ [oc cJ o9 f])) H1 → va_D A (wk ++ (mw cI cZ o J Z ++ [oc cJ o9 f])) → va_S A s.heap H1 locs1 → W p l e R s m args below meth c H1 locs1 cells slots Q (F0 m 1863 ls [])) :
    W p l e R s m args below meth c H locs cells slots Q (F0 m t ls []) := by
  refine lv_aload_n B.hx B.hb d0 e2 (lv_at hl 4 rfl) ?_
  refine lw_thrown B hR hfit hP hD hS hl.1 d1 (fun H locs hP hD hS => ?_)
  rw [hJ]
  refine lv_iload B.hx B.hb d2 (lv_at hl 1 rfl) ?_
  refine lv_icmp_eq (tgt := t + 11) B.hx B.hb d3 (by omega) (fun _ => ?_) (fun h => absurd rfl h)
  refine lv_iload B.hx B.hb d4 (lv_at hl 1 rfl) ?_
  refine lv_if_ne (tgt := t + 28) B.hx B.hb d5 (by omega) (fun _ => ?_) (fun hz0 => ?_)
  · exact lv_goto (tgt := 1863) B.hx B.hb d13 ho (kk H locs hP hD hS)
  · refine lv_aload_n B.hx B.hb d6 e3 (lv_at hl 5 rfl) ?_
    refine lv_iconst (v := nI 0) B.hx B.hb d7 (by decide) ?_
    refine q_laldo B hP (oc_at2 wk _ _) d8 ?_
    refine lv_iload B.hx B.hb d9 (lv_at hl 0 rfl) ?_
    refine lv_i2l (v := b9.toInt64) B.hx B.hb d10 rfl ?_
    rw [hans ((nI_eq0 hz).mp hz0)]
    refine lw_lcmp B.hx B.hb d11 ?_
    refine lv_if_eq (tgt := t + 28) B.hx B.hb d12 (by omega) (fun _ => ?_) (fun h => absurd rfl h)
    exact lv_goto (tgt := 1863) B.hx B.hb d13 ho (kk H locs hP hD hS)
theorem lw_tailB {t i z : Nat} {wk : va_W} {o : Nat → Nat} {J : Nat → Int32} {Z : Nat → Nat → Int32} {sb bx o9 : Nat} {b9 : Int32} {f : Nat → Int64} {off : Int} (B : q_B p l s m args meth c D cI cZ cP cJ A cL_law 7 RL wsL_law) (hR : R.frames = 12 ∧ R.locals = 434) (hfit : cells ≤ R.cells ∧ slots ≤ R.slots)
    (hP : va_P D vwCl (wk ++ (mw cI cZ o J Z ++ [oc cJ o9 f])) H) (hD : va_D A (wk ++ (mw cI cZ o J Z ++ [oc cJ o9 f]))) (hS : va_S A s.heap H locs) (hl : lv_has ls 7 [(6, .int b9), (5, .int (nI z)), (0, .ref sb), (1, .ref bx), (2, .ref (o 0)), (3, .ref o9), (4, .int (nI i))])
    (hJ : J 30 = nI z) (hz : z < 2 ^ 31) (hans : z = 0 → f 0 = if b9 = 0 then 0 else 1) {q2 q3 : Fin 4} (e2 : (q2 : Nat) = 2) (e3 : (q3 : Nat) = 3)
    (d0 : decode cL_law t = .ok (.aload_n q2, 1)) (d1 : decode cL_law (t + 1) = .ok (.invokevirtual 110, 3)) (d2 : decode cL_law (t + 4) = .ok (.iload 5, 2)) (d3 : decode cL_law (t + 6) = .ok (.if_icmp .eq 5, 3)) (d4 : decode cL_law (t + 11) = .ok (.iload 5, 2)) (d5 : decode cL_law (t + 13) = .ok (.ifCond .ne 22, 3)) (d6 : decode cL_law (t + 16) = .ok (.aload_n q3, 1)) (d7 : decode cL_law (t + 17) = .ok (.iconst 0, 1)) (d8 : decode cL_law (t + 18) = .ok (.laload, 1)) (d9 : decode cL_law (t + 19) = .ok (.iload 6, 2)) (d10 : decode cL_law (t + 21) = .ok (.ifCond .eq 7, 3)) (d10b : decode cL_law (t + 24) = .ok (.lconst 1, 1)) (d10c : decode cL_law (t + 25) = .ok (.goto 4, 3)) (d10d : decode cL_law (t + 28) = .ok (.lconst 0, 1)) (d11 : decode cL_law (t + 29) = .ok (.lcmp, 1)) (d12 : decode cL_law (t + 30) = .ok (.ifCond .eq 5, 3)) (d13 : decode cL_law (t + 35) = .ok (.goto off, 3)) (ho : ((t + 35 : Nat) : Int) + off = ((1863 : Nat) : Int))
    (kk : ∀ (H1 : Heap) (locs1 : List Loc), va_P D vwCl (wk ++ (mw cI cZ o J Z ++ [oc cJ o9 f])) H1 → va_D A (wk ++ (mw cI cZ o J Z ++ [oc cJ o9 f])) → va_S A s.heap H1 locs1 → W p l e R s m args below meth c H1 locs1 cells slots Q (F0 m 1863 ls [])) :
    W p l e R s m args below meth c H locs cells slots Q (F0 m t ls []) := by
  refine lv_aload_n B.hx B.hb d0 e2 (lv_at hl 4 rfl) ?_
  refine lw_thrown B hR hfit hP hD hS hl.1 d1 (fun H locs hP hD hS => ?_)
  rw [hJ]
  refine lv_iload B.hx B.hb d2 (lv_at hl 1 rfl) ?_
  refine lv_icmp_eq (tgt := t + 11) B.hx B.hb d3 (by omega) (fun _ => ?_) (fun h => absurd rfl h)
  refine lv_iload B.hx B.hb d4 (lv_at hl 1 rfl) ?_
  refine lv_if_ne (tgt := t + 35) B.hx B.hb d5 (by omega) (fun _ => ?_) (fun hz0 => ?_)
  · exact lv_goto (tgt := 1863) B.hx B.hb d13 ho (kk H locs hP hD hS)
  · refine lv_aload_n B.hx B.hb d6 e3 (lv_at hl 5 rfl) ?_
    refine lv_iconst (v := nI 0) B.hx B.hb d7 (by decide) ?_
    refine q_laldo B hP (oc_at2 wk _ _) d8 ?_
    refine lv_iload B.hx B.hb d9 (lv_at hl 0 rfl) ?_
    rw [hans ((nI_eq0 hz).mp hz0)]
    refine lv_if_eq (tgt := t + 28) B.hx B.hb d10 (by omega) (fun h => ?_) (fun h => ?_)
    · refine lv_lconst (v := 0) B.hx B.hb d10d (by decide) ?_
      rw [if_pos h]
      refine lw_lcmp B.hx B.hb d11 ?_
      refine lv_if_eq (tgt := t + 35) B.hx B.hb d12 (by omega) (fun _ => ?_) (fun h => absurd rfl h)
      exact lv_goto (tgt := 1863) B.hx B.hb d13 ho (kk H locs hP hD hS)
    · refine lv_lconst (v := 1) B.hx B.hb d10b (by decide) ?_
      refine lv_goto (tgt := t + 29) B.hx B.hb d10c (by omega) ?_
      rw [if_neg h]
      refine lw_lcmp B.hx B.hb d11 ?_
      refine lv_if_eq (tgt := t + 35) B.hx B.hb d12 (by omega) (fun _ => ?_) (fun h => absurd rfl h)
      exact lv_goto (tgt := 1863) B.hx B.hb d13 ho (kk H locs hP hD hS)
theorem lw_tailV {t i z : Nat} {wk : va_W} {o : Nat → Nat} {J : Nat → Int32} {Z : Nat → Nat → Int32} {sb bx o9 : Nat} {f : Nat → Int64} {off : Int} (B : q_B p l s m args meth c D cI cZ cP cJ A cL_law 7 RL wsL_law) (hR : R.frames = 12 ∧ R.locals = 434) (hfit : cells ≤ R.cells ∧ slots ≤ R.slots)
    (hP : va_P D vwCl (wk ++ (mw cI cZ o J Z ++ [oc cJ o9 f])) H) (hD : va_D A (wk ++ (mw cI cZ o J Z ++ [oc cJ o9 f]))) (hS : va_S A s.heap H locs) (hl : lv_has ls 7 [(5, .int (nI z)), (0, .ref sb), (1, .ref bx), (2, .ref (o 0)), (3, .ref o9), (4, .int (nI i))])
    (hJ : J 30 = nI z) {q2 : Fin 4} (e2 : (q2 : Nat) = 2)
    (d0 : decode cL_law t = .ok (.aload_n q2, 1)) (d1 : decode cL_law (t + 1) = .ok (.invokevirtual 110, 3)) (d2 : decode cL_law (t + 4) = .ok (.iload 5, 2)) (d3 : decode cL_law (t + 6) = .ok (.if_icmp .eq 5, 3)) (d13 : decode cL_law (t + 11) = .ok (.goto off, 3)) (ho : ((t + 11 : Nat) : Int) + off = ((1863 : Nat) : Int))
    (kk : ∀ (H1 : Heap) (locs1 : List Loc), va_P D vwCl (wk ++ (mw cI cZ o J Z ++ [oc cJ o9 f])) H1 → va_D A (wk ++ (mw cI cZ o J Z ++ [oc cJ o9 f])) → va_S A s.heap H1 locs1 → W p l e R s m args below meth c H1 locs1 cells slots Q (F0 m 1863 ls [])) :
    W p l e R s m args below meth c H locs cells slots Q (F0 m t ls []) := by
  refine lv_aload_n B.hx B.hb d0 e2 (lv_at hl 3 rfl) ?_
  refine lw_thrown B hR hfit hP hD hS hl.1 d1 (fun H locs hP hD hS => ?_)
  rw [hJ]
  refine lv_iload B.hx B.hb d2 (lv_at hl 0 rfl) ?_
  refine lv_icmp_eq (tgt := t + 11) B.hx B.hb d3 (by omega) (fun _ => ?_) (fun h => absurd rfl h)
  exact lv_goto (tgt := 1863) B.hx B.hb d13 ho (kk H locs hP hD hS)
end QR
