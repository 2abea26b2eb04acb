/-! THE DRAWS, the keeper, and what it begins with. -/
section QKe
variable {p : Program} {l : Launch} {e : Env} {R : Room} {s : State} {m : MethodId} {args : Array Value} {below : List Frame} {meth : Method} {c : Code} {H : Heap} {locs : List Loc} {cells slots : Nat} {Q : State → Prop}
variable {D : va_G} {cI cZ cP : ClassId} {A : Nat → Prop} {pc J : Nat} {ls : Array Slot} {rest st0 : List Value} {w : va_W}
theorem q_joinV (k : ∀ v : Int32, W p l e R s m args below meth c H locs cells slots Q (F0 m J ls (.int v :: rest))) (g : (∀ v : Int32, W p l e R s m args below meth c H locs cells slots Q (F0 m J ls (.int v :: rest))) → W p l e R s m args below meth c H locs cells slots Q (F0 m pc ls st0)) :
    W p l e R s m args below meth c H locs cells slots Q (F0 m pc ls st0) := g k
theorem q_joinN (k : ∀ (wh : Nat) (H : Heap) (locs : List Loc), wh < 25 → va_P D vwCl w H → va_D A w → va_S A s.heap H locs → W p l e R s m args below meth c H locs cells slots Q (F0 m J ls (.int (nI wh) :: rest))) (g : (∀ (wh : Nat) (H : Heap) (locs : List Loc), wh < 25 → va_P D vwCl w H → va_D A w → va_S A s.heap H locs → W p l e R s m args below meth c H locs cells slots Q (F0 m J ls (.int (nI wh) :: rest))) → W p l e R s m args below meth c H locs cells slots Q (F0 m pc ls st0)) :
    W p l e R s m args below meth c H locs cells slots Q (F0 m pc ls st0) := g k
end QKe
theorem c30 : (1073741824 : Int32) = nI 1073741824 := by decide
set_option maxHeartbeats 4000000 in
theorem cl_draw (l : Launch) (D : va_G) (cI cZ cP : ClassId) {sb L : Nat} {xs : Nat → Int32} (hL : L ≤ 260) (i mo : Nat) (hi : i < 2 ^ 20) (h0 : 0 < mo) (h1 : mo ≤ 2 ^ 30) : q_CX l yL_draw wsL_draw ({ frames := 0, cells := 0, slots := 0, locals := 0 }) D cI cZ cP sb L xs [.ref sb, .int (nI i), .int (nI mo)] [] (S := Nat) (fun v r => v = some (.int (nI r)) ∧ r < mo) (fun _ => []) (fun _ => False) 0 0 := by
  refine q_ofX (cc := cL_draw) (maxL := 4) (ret := (some .int)) (by decide +kernel) rfl (Nat.le_of_ble_eq_true rfl) ?_
  intro p e s m below meth c A ls B hr hX hbl hbA hP hD hS hl
  have hl : lv_has ls 4 [(0, .ref sb), (1, .int (nI i)), (2, .int (nI mo))] := hl
  refine q_joinV (J := 23) (rest := []) (fun v => ?_) (fun kJ => ?_)
  · refine lv_istore_n (lv' := [(3, .int v), (0, .ref sb), (1, .int (nI i)), (2, .int (nI mo))]) B.hx B.hb dL_draw_23 rfl hl (by decide) rfl (fun ls hl => ?_)
    refine lv_iload_n B.hx B.hb dL_draw_24 rfl (lv_at hl 0 rfl) ?_
    refine lv_ldc (v := 2147483647) B.hx B.hb B.hown (B.hts _ (List.mem_of_getElem? (i := 3) rfl)) dL_draw_25 ?_
    refine lv_iand B.hx B.hb dL_draw_27 ?_
    obtain ⟨j, hj, ej⟩ := pk_andE v (m := 2147483647) 31 (by decide)
    refine q_top (v2 := .int (nI j)) (congrArg Value.int ej) ?_
    refine lv_iload_n B.hx B.hb dL_draw_28 rfl (lv_at hl 3 rfl) ?_
    refine lv_irem B.hx B.hb dL_draw_29 (fun h => absurd ((nI_eq0 (by omega)).mp h) (by omega)) ?_
    refine q_top (v2 := .int (nI (j % mo))) (congrArg Value.int (pk_rem hj h0 (by omega))) ?_
    exact q_iret B hr hP hD hS (u := j % mo) rfl ⟨rfl, Nat.mod_lt _ h0⟩ (Nat.le_of_ble_eq_true rfl) (Nat.le_of_ble_eq_true rfl) dL_draw_30
  · refine lv_iload_n B.hx B.hb dL_draw_0 rfl (lv_at hl 1 rfl) ?_
    refine lv_aload_n B.hx B.hb dL_draw_1 rfl (lv_at hl 0 rfl) ?_
    refine va_slen B.hx B.hb hX hbl hbA hS dL_draw_2 ?_
    refine lv_icmp_ge (tgt := 12) B.hx B.hb dL_draw_3 (by decide) (fun c1 => ?_) (fun c1 => ?_)
    · refine lv_ldc (v := 935717331) B.hx B.hb B.hown (B.hts _ (List.mem_of_getElem? (i := 1) rfl)) dL_draw_12 ?_
      refine lv_iload_n B.hx B.hb dL_draw_14 rfl (lv_at hl 1 rfl) ?_
      refine lv_sipush (v := nI 251) B.hx B.hb dL_draw_15 (by decide) ?_
      refine lv_iadd B.hx B.hb dL_draw_18 ?_
      refine lv_imul B.hx B.hb dL_draw_19 ?_
      refine lv_ldc (v := 1137817079) B.hx B.hb B.hown (B.hts _ (List.mem_of_getElem? (i := 2) rfl)) dL_draw_20 ?_
      refine lv_iadd B.hx B.hb dL_draw_22 ?_
      exact kJ _
    · have hin : i < L := by
        have h9 : ¬ nI L ≤ nI i := c1
        rw [nI_leI (by omega) (by omega)] at h9
        omega
      refine lv_aload_n B.hx B.hb dL_draw_6 rfl (lv_at hl 0 rfl) ?_
      refine lv_iload_n B.hx B.hb dL_draw_7 rfl (lv_at hl 1 rfl) ?_
      refine va_sld B.hx B.hb hX hbl hbA hS (vp_in_nI hin (by omega)) dL_draw_8 ?_
      refine lv_goto (tgt := 23) B.hx B.hb dL_draw_9 (by decide) ?_
      exact kJ _
theorem kr1 {w : Cond} (h : w ∈ wsL_keeper_r1) : w ∈ wsL_keeper := List.mem_cons_of_mem _ (List.mem_append_left _ (List.mem_append_left _ (List.mem_append_left _ (List.mem_append_left _ (List.mem_append_left _ (List.mem_append_left _ (List.mem_append_left _ (List.mem_append_left _ h))))))))
theorem kX3 : ∀ w ∈ u_ws RX3 TX3 8, w ∈ wsL_keeper := fun _ h => List.mem_cons_of_mem _ (List.mem_append_left _ (List.mem_append_left _ (List.mem_append_left _ (List.mem_append_left _ (List.mem_append_left _ (List.mem_append_left _ (List.mem_append_right _ h)))))))
theorem pm8 (kc : va_W) (x1 x2 x3 x4 x5 x6 x7 x8 : Nat × va_E) : ((((((((kc ++ [x1]) ++ [x2]) ++ [x3]) ++ [x4]) ++ [x5]) ++ [x6]) ++ [x7]) ++ [x8]).Perm ([x1, x2, x3, x4, x5, x6, x7, x8] ++ kc) := by
  have e : ((((((((kc ++ [x1]) ++ [x2]) ++ [x3]) ++ [x4]) ++ [x5]) ++ [x6]) ++ [x7]) ++ [x8]) = kc ++ [x1, x2, x3, x4, x5, x6, x7, x8] := by
    simp only [List.append_assoc]; rfl
  rw [e]; exact List.perm_append_comm
def F0z : Nat → Nat → Int32 := fun _ _ => 0
def F1z : Nat → Nat → Int32 := va_up F0z 4 (upd (F0z 4) 2 (nI 30))
def ad0 : Nat → Nat → Nat := fun _ _ => 0
def XX0 : Nat → Nat → Int32 := fun _ _ => 0
def YY0 : Nat → Nat → Nat → Int32 := fun _ _ _ => 0
theorem LQ0 {cI cZ cP : ClassId} (b : Nat → Nat) : LQ cI cZ cP b 0 F1z (WK cI cZ cP 0 ad0 XX0 YY0 b kI0 kV0 (fun _ => none)) := by
  refine ⟨0, 0, 0, ad0, XX0, YY0, kI0, kV0, fun _ => none, rfl, ⟨by omega, by omega, by omega, rfl, rfl, rfl, rfl, rfl, rfl, 30, by omega, by omega, rfl, rfl⟩, fun i hi => absurd hi (by omega), ⟨⟨0, rfl, by omega, fun i hi => ?_⟩, ⟨0, rfl, by omega, fun i hi => ?_⟩, fun p _ => Or.inl rfl, fun p hp => Or.inl ⟨?_, rfl⟩⟩, fun j _ _ => ⟨fun _ _ => rfl, rfl, fun _ _ => rfl, fun _ _ => rfl⟩, fun i _ => ?_, fun j hj => absurd hj (by omega)⟩
  · rw [Nat.zero_testBit]; rfl
  · rw [Nat.zero_testBit]; rfl
  · show mf 6 p = -1
    unfold mf; rw [if_pos hp]
  · rw [if_neg (by omega)]
set_option maxHeartbeats 4000000 in
set_option maxRecDepth 100000 in
theorem cl_keeper (l : Launch) (hfl : l.stackTraces = false) (D : va_G) (cI cZ cP : ClassId) {sb L : Nat} {xs : Nat → Int32} (hL : L ≤ 260) (at0 : Nat) (hat0 : at0 ≤ 600) : q_CX l yL_keeper wsL_keeper ({ frames := 13, cells := 31517, slots := 189352, locals := 266 }) D cI cZ cP sb L xs [.ref sb, .int (nI at0)] [] (S := Unit) (fun v _ => v = some (.int (nI 1))) (fun _ => []) (fun _ => False) 31517 189352 := by
  refine q_ofX (cc := cL_keeper) (maxL := 16) (ret := (some .boolean)) (by decide +kernel) rfl (Nat.le_of_ble_eq_true rfl) ?_
  intro p e s m below meth c A ls B hr hX hbl hbA hP hD hS hl
  have hl : lv_has ls 16 [(0, .ref sb), (1, .int (nI at0))] := hl
  refine q_new B hP hD hS (C := RX3) (T := TX3) (N := 8) (ci := 3) (fs := [.null, .null, .null, .null, .null, .int 0, .int 0, .int 0]) kX3 tyX3 tyX3_ok (kr1 (List.mem_of_getElem? (i := 0) rfl)) (kr1 (List.mem_of_getElem? (i := 1) rfl)) (kr1 (List.mem_of_getElem? (i := 2) rfl)) rfl (fun j hj => by rcases (show j = 0 ∨ j = 1 ∨ j = 2 ∨ j = 3 ∨ j = 4 ∨ j = 5 ∨ j = 6 ∨ j = 7 by omega) with rfl | rfl | rfl | rfl | rfl | rfl | rfl | rfl <;> rfl) (Nat.le_of_ble_eq_true rfl) (Nat.le_of_ble_eq_true rfl) dL_keeper_0 (fun q1 H hP hD hS => ?_)
  refine lv_dup B.hx B.hb dL_keeper_3 rfl ?_
  refine q_callI (n := 0) (As := []) (rest := [.ref q1]) B hP hD hS (c3_init l D cI cZ cP q1) ggL_keeper_X3_init rfl rfl rfl (kr1 (List.mem_of_getElem? (i := 2) rfl)) (kr1 (List.mem_of_getElem? (i := 5) rfl)) (kr1 (List.mem_of_getElem? (i := 6) rfl)) rfl (by decide +kernel) ⟨(Nat.le_of_ble_eq_true rfl), (Nat.le_of_ble_eq_true rfl)⟩ rfl hl.1 rfl (Nat.le_of_ble_eq_true rfl) dL_keeper_4 ⟨(Nat.le_of_ble_eq_true rfl), (Nat.le_of_ble_eq_true rfl)⟩ (fun v bb H locs hp hPn hDn hS => ?_)
  obtain ⟨rfl, rfl⟩ := hp
  refine lv_astore_n (lv' := [(2, .ref (bb 0)), (0, .ref sb), (1, .int (nI at0))]) B.hx B.hb dL_keeper_7 rfl hl (by decide) rfl (fun ls hl => ?_)
  have hP : va_P D vwCl (kq cI cZ cP bb kI0 kV0 (fun _ => none) ++ cw cI bb kI0 kV0) H := hPn
  have hD : va_D A (kq cI cZ cP bb kI0 kV0 (fun _ => none) ++ cw cI bb kI0 kV0) := hDn
  refine lv_bipush (v := nI 64) B.hx B.hb dL_keeper_8 (by decide) ?_
  refine q_newI (N := 64) B hP hD hS (kr1 (List.mem_of_getElem? (i := 3) rfl)) (by decide) (by decide) (by decide) (Nat.le_of_ble_eq_true rfl) (Nat.le_of_ble_eq_true rfl) dL_keeper_10 (fun a1 H hP hD hS => ?_)
  refine lv_astore_n (lv' := [(3, .ref a1), (2, .ref (bb 0)), (0, .ref sb), (1, .int (nI at0))]) B.hx B.hb dL_keeper_12 rfl hl (by decide) rfl (fun ls hl => ?_)
  refine lv_bipush (v := nI 8) B.hx B.hb dL_keeper_13 (by decide) ?_
  refine q_newI (N := 8) B hP hD hS (kr1 (List.mem_of_getElem? (i := 3) rfl)) (by decide) (by decide) (by decide) (Nat.le_of_ble_eq_true rfl) (Nat.le_of_ble_eq_true rfl) dL_keeper_15 (fun a2 H hP hD hS => ?_)
  refine lv_astore (lv' := [(4, .ref a2), (3, .ref a1), (2, .ref (bb 0)), (0, .ref sb), (1, .int (nI at0))]) B.hx B.hb dL_keeper_17 hl (by decide) rfl (fun ls hl => ?_)
  refine lv_bipush (v := nI 64) B.hx B.hb dL_keeper_19 (by decide) ?_
  refine q_newI (N := 64) B hP hD hS (kr1 (List.mem_of_getElem? (i := 3) rfl)) (by decide) (by decide) (by decide) (Nat.le_of_ble_eq_true rfl) (Nat.le_of_ble_eq_true rfl) dL_keeper_21 (fun a3 H hP hD hS => ?_)
  refine lv_astore (lv' := [(5, .ref a3), (4, .ref a2), (3, .ref a1), (2, .ref (bb 0)), (0, .ref sb), (1, .int (nI at0))]) B.hx B.hb dL_keeper_23 hl (by decide) rfl (fun ls hl => ?_)
  refine lv_bipush (v := nI 60) B.hx B.hb dL_keeper_25 (by decide) ?_
  refine q_newI (N := 60) B hP hD hS (kr1 (List.mem_of_getElem? (i := 3) rfl)) (by decide) (by decide) (by decide) (Nat.le_of_ble_eq_true rfl) (Nat.le_of_ble_eq_true rfl) dL_keeper_27 (fun a4 H hP hD hS => ?_)
  refine lv_astore (lv' := [(6, .ref a4), (5, .ref a3), (4, .ref a2), (3, .ref a1), (2, .ref (bb 0)), (0, .ref sb), (1, .int (nI at0))]) B.hx B.hb dL_keeper_29 hl (by decide) rfl (fun ls hl => ?_)
  refine lv_iconst (v := nI 4) B.hx B.hb dL_keeper_31 (by decide) ?_
  refine q_newI (N := 4) B hP hD hS (kr1 (List.mem_of_getElem? (i := 3) rfl)) (by decide) (by decide) (by decide) (Nat.le_of_ble_eq_true rfl) (Nat.le_of_ble_eq_true rfl) dL_keeper_32 (fun a5 H hP hD hS => ?_)
  refine lv_astore (lv' := [(7, .ref a5), (6, .ref a4), (5, .ref a3), (4, .ref a2), (3, .ref a1), (2, .ref (bb 0)), (0, .ref sb), (1, .int (nI at0))]) B.hx B.hb dL_keeper_34 hl (by decide) rfl (fun ls hl => ?_)
  refine lv_iconst (v := nI 2) B.hx B.hb dL_keeper_36 (by decide) ?_
  refine q_newI (N := 2) B hP hD hS (kr1 (List.mem_of_getElem? (i := 3) rfl)) (by decide) (by decide) (by decide) (Nat.le_of_ble_eq_true rfl) (Nat.le_of_ble_eq_true rfl) dL_keeper_37 (fun a6 H hP hD hS => ?_)
  refine lv_astore (lv' := [(8, .ref a6), (7, .ref a5), (6, .ref a4), (5, .ref a3), (4, .ref a2), (3, .ref a1), (2, .ref (bb 0)), (0, .ref sb), (1, .int (nI at0))]) B.hx B.hb dL_keeper_39 hl (by decide) rfl (fun ls hl => ?_)
  refine lv_bipush (v := nI 6) B.hx B.hb dL_keeper_41 (by decide) ?_
  refine q_newI (N := 6) B hP hD hS (kr1 (List.mem_of_getElem? (i := 3) rfl)) (by decide) (by decide) (by decide) (Nat.le_of_ble_eq_true rfl) (Nat.le_of_ble_eq_true rfl) dL_keeper_43 (fun a7 H hP hD hS => ?_)
  refine lv_astore (lv' := [(9, .ref a7), (8, .ref a6), (7, .ref a5), (6, .ref a4), (5, .ref a3), (4, .ref a2), (3, .ref a1), (2, .ref (bb 0)), (0, .ref sb), (1, .int (nI at0))]) B.hx B.hb dL_keeper_45 hl (by decide) rfl (fun ls hl => ?_)
  refine lv_bipush (v := nI 16) B.hx B.hb dL_keeper_47 (by decide) ?_
  refine q_newI (N := 16) B hP hD hS (kr1 (List.mem_of_getElem? (i := 3) rfl)) (by decide) (by decide) (by decide) (Nat.le_of_ble_eq_true rfl) (Nat.le_of_ble_eq_true rfl) dL_keeper_49 (fun a8 H hP hD hS => ?_)
  refine lv_astore (lv' := [(10, .ref a8), (9, .ref a7), (8, .ref a6), (7, .ref a5), (6, .ref a4), (5, .ref a3), (4, .ref a2), (3, .ref a1), (2, .ref (bb 0)), (0, .ref sb), (1, .int (nI at0))]) B.hx B.hb dL_keeper_51 hl (by decide) rfl (fun ls hl => ?_)
  have hP : va_P D vwCl (lw cI (adr [a1, a2, a3, a4, a5, a6, a7, a8]) F0z ++ (WK cI cZ cP 0 ad0 XX0 YY0 bb kI0 kV0 (fun _ => none))) H := q_Pperm (pm8 _ _ _ _ _ _ _ _ _) hP
  have hD : va_D A (lw cI (adr [a1, a2, a3, a4, a5, a6, a7, a8]) F0z ++ (WK cI cZ cP 0 ad0 XX0 YY0 bb kI0 kV0 (fun _ => none))) := q_Dperm (pm8 _ _ _ _ _ _ _ _ _) hD
  have hl : lv_has ls 16 [(10, .ref ((adr [a1, a2, a3, a4, a5, a6, a7, a8]) 7)), (9, .ref ((adr [a1, a2, a3, a4, a5, a6, a7, a8]) 6)), (8, .ref ((adr [a1, a2, a3, a4, a5, a6, a7, a8]) 5)), (7, .ref ((adr [a1, a2, a3, a4, a5, a6, a7, a8]) 4)), (6, .ref ((adr [a1, a2, a3, a4, a5, a6, a7, a8]) 3)), (5, .ref ((adr [a1, a2, a3, a4, a5, a6, a7, a8]) 2)), (4, .ref ((adr [a1, a2, a3, a4, a5, a6, a7, a8]) 1)), (3, .ref ((adr [a1, a2, a3, a4, a5, a6, a7, a8]) 0)), (2, .ref (bb 0)), (0, .ref sb), (1, .int (nI at0))] := hl
  generalize (adr [a1, a2, a3, a4, a5, a6, a7, a8]) = o at hP hD hl
  refine lv_aload B.hx B.hb dL_keeper_53 (lv_at hl 3 rfl) ?_
  refine lv_iconst (v := nI 2) B.hx B.hb dL_keeper_55 (by decide) ?_
  refine lv_bipush (v := nI 30) B.hx B.hb dL_keeper_56 (by decide) ?_
  refine q_iast (f := F0z 4) B hP hD hS 4 (j := 2) rfl rfl (by decide) (by decide) dL_keeper_58 (w' := (lw cI o F1z ++ (WK cI cZ cP 0 ad0 XX0 YY0 bb kI0 kV0 (fun _ => none)))) rfl (fun H locs hP hD hS => ?_)
  refine lv_iconst (v := nI 0) B.hx B.hb dL_keeper_59 (by decide) ?_
  refine lv_istore (lv' := [(11, .int (nI 0)), (10, .ref (o 7)), (9, .ref (o 6)), (8, .ref (o 5)), (7, .ref (o 4)), (6, .ref (o 3)), (5, .ref (o 2)), (4, .ref (o 1)), (3, .ref (o 0)), (2, .ref (bb 0)), (0, .ref sb), (1, .int (nI at0))]) B.hx B.hb dL_keeper_60 hl (by decide) rfl (fun ls hl => ?_)
  refine q_loopG (nL := 16) (σ := Nat × (Nat → Nat → Int32) × va_W) (fun x => x.1 ≤ 90 ∧ LQ cI cZ cP bb x.1 x.2.1 x.2.2) (fun x => 90 - x.1) (fun x => [(11, .int (nI x.1)), (10, .ref (o 7)), (9, .ref (o 6)), (8, .ref (o 5)), (7, .ref (o 4)), (6, .ref (o 3)), (5, .ref (o 2)), (4, .ref (o 1)), (3, .ref (o 0)), (2, .ref (bb 0)), (0, .ref sb), (1, .int (nI at0))]) (fun x => (lw cI o x.2.1 ++ x.2.2)) (fun x => 17 + 350 * x.1) (fun x => 352 + 2100 * x.1) (0, F1z, (WK cI cZ cP 0 ad0 XX0 YY0 bb kI0 kV0 (fun _ => none))) ⟨Nat.zero_le _, LQ0 bb⟩ hl hP hD hS ?_
  intro x8 hI8 ih8 ls H locs hl hP hD hS
  obtain ⟨k8, F8, w8⟩ := x8
  obtain ⟨hk8, hQ8⟩ := hI8
  have hk8 : k8 ≤ 90 := hk8
  have hQ8 : LQ cI cZ cP bb k8 F8 w8 := hQ8
  have hl : lv_has ls 16 [(11, .int (nI k8)), (10, .ref (o 7)), (9, .ref (o 6)), (8, .ref (o 5)), (7, .ref (o 4)), (6, .ref (o 3)), (5, .ref (o 2)), (4, .ref (o 1)), (3, .ref (o 0)), (2, .ref (bb 0)), (0, .ref sb), (1, .int (nI at0))] := hl
  have hP : va_P D vwCl (lw cI o F8 ++ w8) H := hP
  have hD : va_D A (lw cI o F8 ++ w8) := hD
  refine lv_iload B.hx B.hb dL_keeper_62 (lv_at hl 0 rfl) ?_
  refine lv_bipush (v := nI 90) B.hx B.hb dL_keeper_64 (by decide) ?_
  refine lv_icmp_ge (tgt := 230) B.hx B.hb dL_keeper_66 (by decide) (fun c1 => ?_) (fun c1 => ?_)
  · refine lv_iconst (v := nI 1) B.hx B.hb dL_keeper_230 (by decide) ?_
    have hP0 : va_P D vwCl [] H := fun k9 q9 h9 => by simp at h9
    have hD0 : va_D A [] := ⟨fun i9 j9 p9 q9 h9 => by simp at h9, fun k9 q9 h9 => by simp at h9⟩
    exact q_zret B hr hP0 hD0 hS (by decide) (u := ()) rfl rfl (show 17 + 350 * k8 ≤ 31517 by omega) (show 352 + 2100 * k8 ≤ 189352 by omega) dL_keeper_231
  replace c1 := mt (nI_leI (by omega) (by omega)).mpr c1
  refine lv_aload_n B.hx B.hb dL_keeper_69 rfl (lv_at hl 10 rfl) ?_
  refine lv_iload_n B.hx B.hb dL_keeper_70 rfl (lv_at hl 11 rfl) ?_
  refine lv_iconst (v := nI 3) B.hx B.hb dL_keeper_71 (by decide) ?_
  refine lv_iload B.hx B.hb dL_keeper_72 (lv_at hl 0 rfl) ?_
  refine lv_imul B.hx B.hb dL_keeper_74 ?_
  refine q_top (v2 := .int (nI (3 * k8))) (congrArg Value.int (pk_mul _ _)) ?_
  refine lv_iadd B.hx B.hb dL_keeper_75 ?_
  refine q_top (v2 := .int (nI (at0 + 3 * k8))) (congrArg Value.int (nI_add _ _)) ?_
  refine lv_iconst (v := nI 1) B.hx B.hb dL_keeper_76 (by decide) ?_
  refine lv_iadd B.hx B.hb dL_keeper_77 ?_
  refine q_top (v2 := .int (nI (at0 + 3 * k8 + 1))) (congrArg Value.int (nI_add _ _)) ?_
  refine lv_ldc (v := 1073741824) B.hx B.hb B.hown (B.hts _ (kr1 (List.mem_of_getElem? (i := 4) rfl))) dL_keeper_78 ?_
  refine q_top (v2 := .int (nI 1073741824)) (congrArg Value.int c30) ?_
  refine q_callX (As := [.ref sb, .int (nI (at0 + 3 * k8 + 1)), .int (nI 1073741824)]) (rest := []) B hX hbl hbA hP hD hS ((cl_draw l D cI cZ cP hL (at0 + 3 * k8 + 1) 1073741824 (by omega) (by omega) (by omega)).fr (lw cI o F8 ++ w8)) (cwS 3 B.hts gL_keeper_L_draw rfl rfl rfl (by decide +kernel) ⟨(Nat.le_of_ble_eq_true rfl), (Nat.le_of_ble_eq_true rfl)⟩) rfl hl.1 rfl (Nat.le_of_ble_eq_true rfl) dL_keeper_80 ⟨show 17 + 350 * k8 + 0 ≤ 31517 by omega, show 352 + 2100 * k8 + 0 ≤ 189352 by omega⟩ (fun E ce q9 H locs hx => False.elim hx) (fun v xx H locs hp hP hD hS => ?_)
  obtain ⟨rfl, hxx⟩ := hp
  have hP : va_P D vwCl (lw cI o F8 ++ w8) H := hP
  have hD : va_D A (lw cI o F8 ++ w8) := hD
  refine lv_istore (lv' := [(12, .int (nI xx)), (11, .int (nI k8)), (10, .ref (o 7)), (9, .ref (o 6)), (8, .ref (o 5)), (7, .ref (o 4)), (6, .ref (o 3)), (5, .ref (o 2)), (4, .ref (o 1)), (3, .ref (o 0)), (2, .ref (bb 0)), (0, .ref sb), (1, .int (nI at0))]) B.hx B.hb dL_keeper_83 hl (by decide) rfl (fun ls hl => ?_)
  refine lv_aload_n B.hx B.hb dL_keeper_85 rfl (lv_at hl 11 rfl) ?_
  refine lv_iload_n B.hx B.hb dL_keeper_86 rfl (lv_at hl 12 rfl) ?_
  refine lv_iconst (v := nI 3) B.hx B.hb dL_keeper_87 (by decide) ?_
  refine lv_iload B.hx B.hb dL_keeper_88 (lv_at hl 1 rfl) ?_
  refine lv_imul B.hx B.hb dL_keeper_90 ?_
  refine q_top (v2 := .int (nI (3 * k8))) (congrArg Value.int (pk_mul _ _)) ?_
  refine lv_iadd B.hx B.hb dL_keeper_91 ?_
  refine q_top (v2 := .int (nI (at0 + 3 * k8))) (congrArg Value.int (nI_add _ _)) ?_
  refine lv_iconst (v := nI 2) B.hx B.hb dL_keeper_92 (by decide) ?_
  refine lv_iadd B.hx B.hb dL_keeper_93 ?_
  refine q_top (v2 := .int (nI (at0 + 3 * k8 + 2))) (congrArg Value.int (nI_add _ _)) ?_
  refine lv_ldc (v := 1073741824) B.hx B.hb B.hown (B.hts _ (kr1 (List.mem_of_getElem? (i := 4) rfl))) dL_keeper_94 ?_
  refine q_top (v2 := .int (nI 1073741824)) (congrArg Value.int c30) ?_
  refine q_callX (As := [.ref sb, .int (nI (at0 + 3 * k8 + 2)), .int (nI 1073741824)]) (rest := []) B hX hbl hbA hP hD hS ((cl_draw l D cI cZ cP hL (at0 + 3 * k8 + 2) 1073741824 (by omega) (by omega) (by omega)).fr (lw cI o F8 ++ w8)) (cwS 3 B.hts gL_keeper_L_draw rfl rfl rfl (by decide +kernel) ⟨(Nat.le_of_ble_eq_true rfl), (Nat.le_of_ble_eq_true rfl)⟩) rfl hl.1 rfl (Nat.le_of_ble_eq_true rfl) dL_keeper_96 ⟨show 17 + 350 * k8 + 0 ≤ 31517 by omega, show 352 + 2100 * k8 + 0 ≤ 189352 by omega⟩ (fun E ce q9 H locs hx => False.elim hx) (fun v yy H locs hp hP hD hS => ?_)
  obtain ⟨rfl, hyy⟩ := hp
  have hP : va_P D vwCl (lw cI o F8 ++ w8) H := hP
  have hD : va_D A (lw cI o F8 ++ w8) := hD
  refine lv_istore (lv' := [(13, .int (nI yy)), (12, .int (nI xx)), (11, .int (nI k8)), (10, .ref (o 7)), (9, .ref (o 6)), (8, .ref (o 5)), (7, .ref (o 4)), (6, .ref (o 3)), (5, .ref (o 2)), (4, .ref (o 1)), (3, .ref (o 0)), (2, .ref (bb 0)), (0, .ref sb), (1, .int (nI at0))]) B.hx B.hb dL_keeper_99 hl (by decide) rfl (fun ls hl => ?_)
  refine q_joinN (D := D) (A := A) (J := 145) (rest := []) (w := (lw cI o F8 ++ w8)) (fun wh H locs hwh hP hD hS => ?_) (fun kJ => ?_)
  rotate_left
  · refine lv_iload B.hx B.hb dL_keeper_101 (lv_at hl 2 rfl) ?_
    refine lv_iconst (v := nI 3) B.hx B.hb dL_keeper_103 (by decide) ?_
    refine lv_icmp_ge (tgt := 111) B.hx B.hb dL_keeper_104 (by decide) (fun c2 => ?_) (fun c2 => ?_)
    rotate_left
    · refine lv_iconst (v := nI 0) B.hx B.hb dL_keeper_107 (by decide) ?_
      refine lv_goto (tgt := 145) B.hx B.hb dL_keeper_108 (by decide) ?_
      exact kJ 0 _ _ (by omega) hP hD hS
    · refine lv_iload B.hx B.hb dL_keeper_111 (lv_at hl 2 rfl) ?_
      refine lv_bipush (v := nI 8) B.hx B.hb dL_keeper_113 (by decide) ?_
      refine lv_icmp_ge (tgt := 122) B.hx B.hb dL_keeper_115 (by decide) (fun c3 => ?_) (fun c3 => ?_)
      rotate_left
      · refine lv_iconst (v := nI 2) B.hx B.hb dL_keeper_118 (by decide) ?_
        refine lv_goto (tgt := 145) B.hx B.hb dL_keeper_119 (by decide) ?_
        exact kJ 2 _ _ (by omega) hP hD hS
      · refine lv_iload B.hx B.hb dL_keeper_122 (lv_at hl 2 rfl) ?_
        refine lv_bipush (v := nI 11) B.hx B.hb dL_keeper_124 (by decide) ?_
        refine lv_icmp_ge (tgt := 133) B.hx B.hb dL_keeper_126 (by decide) (fun c4 => ?_) (fun c4 => ?_)
        rotate_left
        · refine lv_iconst (v := nI 4) B.hx B.hb dL_keeper_129 (by decide) ?_
          refine lv_goto (tgt := 145) B.hx B.hb dL_keeper_130 (by decide) ?_
          exact kJ 4 _ _ (by omega) hP hD hS
        · refine lv_aload_n B.hx B.hb dL_keeper_133 rfl (lv_at hl 12 rfl) ?_
          refine lv_iload_n B.hx B.hb dL_keeper_134 rfl (lv_at hl 13 rfl) ?_
          refine lv_iconst (v := nI 3) B.hx B.hb dL_keeper_135 (by decide) ?_
          refine lv_iload B.hx B.hb dL_keeper_136 (lv_at hl 2 rfl) ?_
          refine lv_imul B.hx B.hb dL_keeper_138 ?_
          refine q_top (v2 := .int (nI (3 * k8))) (congrArg Value.int (pk_mul _ _)) ?_
          refine lv_iadd B.hx B.hb dL_keeper_139 ?_
          refine q_top (v2 := .int (nI (at0 + 3 * k8))) (congrArg Value.int (nI_add _ _)) ?_
          refine lv_bipush (v := nI 25) B.hx B.hb dL_keeper_140 (by decide) ?_
          refine q_callX (As := [.ref sb, .int (nI (at0 + 3 * k8)), .int (nI 25)]) (rest := []) B hX hbl hbA hP hD hS ((cl_draw l D cI cZ cP hL (at0 + 3 * k8) 25 (by omega) (by omega) (by omega)).fr (lw cI o F8 ++ w8)) (cwS 3 B.hts gL_keeper_L_draw rfl rfl rfl (by decide +kernel) ⟨(Nat.le_of_ble_eq_true rfl), (Nat.le_of_ble_eq_true rfl)⟩) rfl hl.1 rfl (Nat.le_of_ble_eq_true rfl) dL_keeper_142 ⟨show 17 + 350 * k8 + 0 ≤ 31517 by omega, show 352 + 2100 * k8 + 0 ≤ 189352 by omega⟩ (fun E ce q9 H locs hx => False.elim hx) (fun v wh H locs hp hP hD hS => ?_)
          obtain ⟨rfl, hwh⟩ := hp
          have hP : va_P D vwCl (lw cI o F8 ++ w8) H := hP
          have hD : va_D A (lw cI o F8 ++ w8) := hD
          exact kJ wh _ _ hwh hP hD hS
  · refine lv_istore (lv' := [(14, .int (nI wh)), (13, .int (nI yy)), (12, .int (nI xx)), (11, .int (nI k8)), (10, .ref (o 7)), (9, .ref (o 6)), (8, .ref (o 5)), (7, .ref (o 4)), (6, .ref (o 3)), (5, .ref (o 2)), (4, .ref (o 1)), (3, .ref (o 0)), (2, .ref (bb 0)), (0, .ref sb), (1, .int (nI at0))]) B.hx B.hb dL_keeper_145 hl (by decide) rfl (fun ls hl => ?_)
    refine lv_aload_n B.hx B.hb dL_keeper_147 rfl (lv_at hl 12 rfl) ?_
    refine lv_iload B.hx B.hb dL_keeper_148 (lv_at hl 0 rfl) ?_
    refine lv_iload B.hx B.hb dL_keeper_150 (lv_at hl 2 rfl) ?_
    refine lv_iload B.hx B.hb dL_keeper_152 (lv_at hl 1 rfl) ?_
    refine lv_aload_n B.hx B.hb dL_keeper_154 rfl (lv_at hl 11 rfl) ?_
    refine lv_aload B.hx B.hb dL_keeper_155 (lv_at hl 10 rfl) ?_
    refine lv_aload B.hx B.hb dL_keeper_157 (lv_at hl 9 rfl) ?_
    refine lv_aload B.hx B.hb dL_keeper_159 (lv_at hl 8 rfl) ?_
    refine lv_aload B.hx B.hb dL_keeper_161 (lv_at hl 7 rfl) ?_
    refine lv_aload B.hx B.hb dL_keeper_163 (lv_at hl 6 rfl) ?_
    refine lv_aload B.hx B.hb dL_keeper_165 (lv_at hl 5 rfl) ?_
    refine lv_aload B.hx B.hb dL_keeper_167 (lv_at hl 4 rfl) ?_
    refine q_callS (As := [.ref (bb 0), .int (nI wh), .int (nI xx), .int (nI yy), .ref (o 0), .ref (o 1), .ref (o 2), .ref (o 3), .ref (o 4), .ref (o 5), .ref (o 6), .ref (o 7)]) (rest := []) B hP hD hS (lst_all l hfl D cI cZ cP hQ8 (by omega) wh xx yy hwh (by omega) (by omega)) (cwS 12 B.hts gL_keeper_L_step rfl rfl rfl (by decide +kernel) ⟨(Nat.le_of_ble_eq_true rfl), (Nat.le_of_ble_eq_true rfl)⟩) rfl hl.1 rfl (Nat.le_of_ble_eq_true rfl) dL_keeper_169 ⟨show 17 + 350 * k8 + 294 ≤ 31517 by omega, show 352 + 2100 * k8 + 1764 ≤ 189352 by omega⟩ (fun E ce q9 H locs hx => False.elim hx) (fun v u H locs hp hP hD hS => ?_)
    obtain ⟨rfl, F9, w9, rfl, hQ9⟩ := hp
    have hQ9k := hQ9
    obtain ⟨n, td, q, ad, XX, YY, I, V, P, rfl, hG⟩ := hQ9
    have hP : va_P D vwCl (lw cI o F9 ++ (WK cI cZ cP n ad XX YY bb I V P)) H := hP
    have hD : va_D A (lw cI o F9 ++ (WK cI cZ cP n ad XX YY bb I V P)) := hD
    obtain ⟨hn8, htd, hq20, hI5, f41, hI7, f40, hI3, f43, iv, hiv1, hiv2, hI6, f42⟩ := id hG.1
    obtain ⟨fs_ha, ha⟩ := WKat (cI := cI) (cZ := cZ) (cP := cP) (n := n) (ad := ad) (XX := XX) (YY := YY) (b := bb) (I := I) (V := V) (P := P)
    refine lv_if_eq (tgt := 186) B.hx B.hb dL_keeper_172 (by decide) (fun c2 => absurd c2 (by decide)) (fun _ => ?_)
    refine lv_aload_n B.hx B.hb dL_keeper_175 rfl (lv_at hl 12 rfl) ?_
    refine q_callV (As := []) (rest := []) B hP hD hS ((lk_day l D cI cZ cP).fl (lw cI o F9)) (cwV 0 B.hts gL_keeper_X3_day rfl rfl rfl (by decide +kernel) ⟨(Nat.le_of_ble_eq_true rfl), (Nat.le_of_ble_eq_true rfl)⟩) ((pws cI cZ n ad XX YY).length + 8) 3 ha rfl rfl rfl hl.1 rfl (Nat.le_of_ble_eq_true rfl) dL_keeper_176 ⟨show 17 + 350 * k8 + 294 + 0 ≤ 31517 by omega, show 352 + 2100 * k8 + 1764 + 0 ≤ 189352 by omega⟩ (fun E ce q9 H locs hx => False.elim hx) (fun v u H locs hp hP hD hS => ?_)
    obtain rfl := hp
    have hP : va_P D vwCl (lw cI o F9 ++ (WK cI cZ cP n ad XX YY bb I V P)) H := hP
    have hD : va_D A (lw cI o F9 ++ (WK cI cZ cP n ad XX YY bb I V P)) := hD
    refine lv_aload B.hx B.hb dL_keeper_179 (lv_at hl 7 rfl) ?_
    refine lv_iconst (v := nI 0) B.hx B.hb dL_keeper_181 (by decide) ?_
    refine q_iald (f := F9 4) B hP 4 (j := 0) rfl rfl (by decide) (by decide) dL_keeper_182 ?_
    refine lv_icmp_eq (tgt := 188) B.hx B.hb dL_keeper_183 (by decide) (fun _ => ?_) (fun c2 => absurd (hI7.trans f40.symm) c2)
    refine lv_iconst (v := nI 0) B.hx B.hb dL_keeper_188 (by decide) ?_
    refine lv_istore (lv' := [(15, .int (nI 0)), (14, .int (nI wh)), (13, .int (nI yy)), (12, .int (nI xx)), (11, .int (nI k8)), (10, .ref (o 7)), (9, .ref (o 6)), (8, .ref (o 5)), (7, .ref (o 4)), (6, .ref (o 3)), (5, .ref (o 2)), (4, .ref (o 1)), (3, .ref (o 0)), (2, .ref (bb 0)), (0, .ref sb), (1, .int (nI at0))]) B.hx B.hb dL_keeper_189 hl (by decide) rfl (fun ls hl => ?_)
    refine q_loopG (nL := 16) (σ := Nat) (fun j => j ≤ n) (fun j => n - j) (fun j => [(15, .int (nI j)), (14, .int (nI wh)), (13, .int (nI yy)), (12, .int (nI xx)), (11, .int (nI k8)), (10, .ref (o 7)), (9, .ref (o 6)), (8, .ref (o 5)), (7, .ref (o 4)), (6, .ref (o 3)), (5, .ref (o 2)), (4, .ref (o 1)), (3, .ref (o 0)), (2, .ref (bb 0)), (0, .ref sb), (1, .int (nI at0))]) (fun _ => (lw cI o F9 ++ (WK cI cZ cP n ad XX YY bb I V P))) (fun j => 17 + 350 * k8 + 294 + 7 * j) (fun j => 352 + 2100 * k8 + 1764 + 42 * j) 0 (Nat.zero_le _) hl hP hD hS ?_
    intro j hj9 ihj ls H locs hl hP hD hS
    have hj9 : j ≤ n := hj9
    have hl : lv_has ls 16 [(15, .int (nI j)), (14, .int (nI wh)), (13, .int (nI yy)), (12, .int (nI xx)), (11, .int (nI k8)), (10, .ref (o 7)), (9, .ref (o 6)), (8, .ref (o 5)), (7, .ref (o 4)), (6, .ref (o 3)), (5, .ref (o 2)), (4, .ref (o 1)), (3, .ref (o 0)), (2, .ref (bb 0)), (0, .ref sb), (1, .int (nI at0))] := hl
    have hP : va_P D vwCl (lw cI o F9 ++ (WK cI cZ cP n ad XX YY bb I V P)) H := hP
    have hD : va_D A (lw cI o F9 ++ (WK cI cZ cP n ad XX YY bb I V P)) := hD
    refine lv_iload B.hx B.hb dL_keeper_191 (lv_at hl 0 rfl) ?_
    refine lv_aload B.hx B.hb dL_keeper_193 (lv_at hl 8 rfl) ?_
    refine lv_iconst (v := nI 1) B.hx B.hb dL_keeper_195 (by decide) ?_
    refine q_iald (f := F9 4) B hP 4 (j := 1) rfl rfl (by decide) (by decide) dL_keeper_196 ?_
    refine q_top (v2 := .int (nI n)) (congrArg Value.int f41) ?_
    refine lv_icmp_ge (tgt := 224) B.hx B.hb dL_keeper_197 (by decide) (fun c3 => ?_) (fun c3 => ?_)
    · refine lv_iinc (v := nI (k8 + 1)) (lv' := [(11, .int (nI (k8 + 1))), (15, .int (nI j)), (14, .int (nI wh)), (13, .int (nI yy)), (12, .int (nI xx)), (10, .ref (o 7)), (9, .ref (o 6)), (8, .ref (o 5)), (7, .ref (o 4)), (6, .ref (o 3)), (5, .ref (o 2)), (4, .ref (o 1)), (3, .ref (o 0)), (2, .ref (bb 0)), (0, .ref sb), (1, .int (nI at0))]) B.hx B.hb dL_keeper_224 hl (k := 4) rfl (nI_1 _) (by decide) rfl (fun ls hl => ?_)
      refine lv_goto (tgt := 62) B.hx B.hb dL_keeper_227 (by decide) ?_
      exact W.widen (show 17 + 350 * k8 + 294 + 7 * j ≤ 17 + 350 * (k8 + 1) by omega) (show 352 + 2100 * k8 + 1764 + 42 * j ≤ 352 + 2100 * (k8 + 1) by omega) (ih8 (k8 + 1, F9, (WK cI cZ cP n ad XX YY bb I V P)) ⟨show k8 + 1 ≤ 90 by omega, hQ9k⟩ (show 90 - (k8 + 1) < 90 - k8 by omega) ls H _ (lv_sub hl [0, 5, 6, 7, 8, 9, 10, 11, 12, 13, 14, 15] rfl) hP hD hS)
    · replace c3 := mt (nI_leI (by omega) (by omega)).mpr c3
      refine lv_aload_n B.hx B.hb dL_keeper_200 rfl (lv_at hl 13 rfl) ?_
      refine lv_aload_n B.hx B.hb dL_keeper_201 rfl (lv_at hl 12 rfl) ?_
      refine lv_aload B.hx B.hb dL_keeper_202 (lv_at hl 8 rfl) ?_
      refine lv_aload B.hx B.hb dL_keeper_204 (lv_at hl 5 rfl) ?_
      refine lv_aload B.hx B.hb dL_keeper_206 (lv_at hl 9 rfl) ?_
      refine lv_iload B.hx B.hb dL_keeper_208 (lv_at hl 0 rfl) ?_
      refine q_callS (As := [.ref (bb 0), .ref (o 0), .ref (o 4), .ref (o 7), .ref (o 3), .int (nI j)]) (rest := []) B hP hD hS (lip_all l hfl D cI cZ cP hG (by omega) j (by omega)) (cwS 6 B.hts gL_keeper_L_isPaper rfl rfl rfl (by decide +kernel) ⟨(Nat.le_of_ble_eq_true rfl), (Nat.le_of_ble_eq_true rfl)⟩) rfl hl.1 rfl (Nat.le_of_ble_eq_true rfl) dL_keeper_210 ⟨show 17 + 350 * k8 + 294 + 7 * j + 7 ≤ 31517 by omega, show 352 + 2100 * k8 + 1764 + 42 * j + 42 ≤ 189352 by omega⟩ (fun E ce q9 H locs hx => False.elim hx) (fun v u H locs hp hP hD hS => ?_)
      obtain rfl := hp
      have hP : va_P D vwCl (lw cI o F9 ++ (WK cI cZ cP n ad XX YY bb I V P)) H := hP
      have hD : va_D A (lw cI o F9 ++ (WK cI cZ cP n ad XX YY bb I V P)) := hD
      refine lv_if_ne (tgt := 218) B.hx B.hb dL_keeper_213 (by decide) (fun _ => ?_) (fun c4 => absurd c4 (by decide))
      refine lv_iinc (v := nI (j + 1)) (lv' := [(15, .int (nI (j + 1))), (14, .int (nI wh)), (13, .int (nI yy)), (12, .int (nI xx)), (11, .int (nI k8)), (10, .ref (o 7)), (9, .ref (o 6)), (8, .ref (o 5)), (7, .ref (o 4)), (6, .ref (o 3)), (5, .ref (o 2)), (4, .ref (o 1)), (3, .ref (o 0)), (2, .ref (bb 0)), (0, .ref sb), (1, .int (nI at0))]) B.hx B.hb dL_keeper_218 hl (k := 0) rfl (nI_1 _) (by decide) rfl (fun ls hl => ?_)
      refine lv_goto (tgt := 191) B.hx B.hb dL_keeper_221 (by decide) ?_
      exact W.widen (show 17 + 350 * k8 + 294 + 7 * j + 7 ≤ 17 + 350 * k8 + 294 + 7 * (j + 1) by omega) (show 352 + 2100 * k8 + 1764 + 42 * j + 42 ≤ 352 + 2100 * k8 + 1764 + 42 * (j + 1) by omega) (ihj (j + 1) (show j + 1 ≤ n by omega) (show n - (j + 1) < n - j by omega) ls H _ hl hP hD hS)
