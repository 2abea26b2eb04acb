/-! THE LAW'S SMALL METHODS, and a call of the class with its throws told as numbers. -/
/-- may this one approve, by the law's own rows? -/
def lmA (M : Nat) (f : Nat → Int32) (j n : Nat) : Bool := M.testBit j || pE (fun i => M.testBit i && decide (f i = nI (j + 1))) n
theorem lmA_0 {M : Nat} {f : Nat → Int32} {j : Nat} : lmA M f j 0 = M.testBit j := by simp [lmA, pE]
theorem lmA_s {M : Nat} {f : Nat → Int32} {j i : Nat} : lmA M f j (i + 1) = (lmA M f j i || (M.testBit i && decide (f i = nI (j + 1)))) := by simp only [lmA, pE, Bool.or_assoc]

set_option maxHeartbeats 4000000 in
set_option maxRecDepth 100000 in
theorem cl_has (l : Launch) (D : va_G) (cI cZ cP : ClassId) (M k : Nat) (hm : M < 256) (hk : k < 8) : q_C l yL_has wsL_has ({ frames := 0, cells := 0, slots := 0, locals := 0 }) D cI cZ cP [.int (nI M), .int (nI k)] ([] : va_W) (S := Unit) (fun v _ => v = some (.int (bI (M.testBit k)))) (fun _ => ([] : va_W)) (fun _ => False) 0 0 := by
  refine q_of (cc := cL_has) (maxL := 2) (ret := (some .boolean)) (by decide +kernel) rfl (Nat.le_of_ble_eq_true rfl) ?_
  intro p e s m below meth c A ls B hr htb hmn hP hD hS hl
  have hl : lv_has ls 2 [(0, .int (nI M)), (1, .int (nI k))] := hl
  refine lv_iload_n B.hx B.hb dL_has_0 rfl (lv_at hl 0 rfl) ?_
  refine lv_iload_n B.hx B.hb dL_has_1 rfl (lv_at hl 1 rfl) ?_
  refine lv_ishr B.hx B.hb dL_has_2 ?_
  refine lv_iconst (v := (nI 1)) B.hx B.hb dL_has_3 (by decide) ?_
  refine lv_iand B.hx B.hb dL_has_4 ?_
  refine q_top (v2 := .int (bI (M.testBit k))) (congrArg Value.int (msk_has hm hk)) ?_
  refine lv_iconst (v := (nI 1)) B.hx B.hb dL_has_5 (by decide) ?_
  refine q_join0 (J := 14) (stk := [.int (bI (decide ((bI (M.testBit k)) = (nI 1))))]) ?_ (fun kJ => ?_)
  · exact q_zret B hr hP hD hS (narrow_bI _) (u := ()) rfl (congrArg (fun x => some (Value.int x)) (bI_dec _)) (Nat.le_of_ble_eq_true rfl) (Nat.le_of_ble_eq_true rfl) dL_has_14
  · refine lv_icmp_ne (tgt := 13) B.hx B.hb dL_has_6 (by decide) (fun c1 => ?_) (fun c1 => ?_)
    · refine lv_iconst (v := nI 0) B.hx B.hb dL_has_13 (by decide) ?_
      refine q_top (v2 := .int (bI (decide ((bI (M.testBit k)) = (nI 1))))) (congrArg Value.int (bI_f (decide_eq_false c1))) ?_
      exact kJ
    · refine lv_iconst (v := nI 1) B.hx B.hb dL_has_9 (by decide) ?_
      refine lv_goto (tgt := 14) B.hx B.hb dL_has_10 (by decide) ?_
      refine q_top (v2 := .int (bI (decide ((bI (M.testBit k)) = (nI 1))))) (congrArg Value.int (bI_t (decide_eq_true c1))) ?_
      exact kJ

set_option maxHeartbeats 4000000 in
set_option maxRecDepth 100000 in
theorem cl_size (l : Launch) (D : va_G) (cI cZ cP : ClassId) (M : Nat) (hm : M < 256) : q_C l yL_size wsL_size ({ frames := 0, cells := 0, slots := 0, locals := 0 }) D cI cZ cP [.int (nI M)] ([] : va_W) (S := Unit) (fun v _ => v = some (.int (nI (pc8 M)))) (fun _ => ([] : va_W)) (fun _ => False) 0 0 := by
  refine q_of (cc := cL_size) (maxL := 3) (ret := (some .int)) (by decide +kernel) rfl (Nat.le_of_ble_eq_true rfl) ?_
  intro p e s m below meth c A ls B hr htb hmn hP hD hS hl
  have hl : lv_has ls 3 [(0, .int (nI M))] := hl
  refine lv_iconst (v := (nI 0)) B.hx B.hb dL_size_0 (by decide) ?_
  refine lv_istore_n (lv' := [(1, .int (nI 0)), (0, .int (nI M))]) B.hx B.hb dL_size_1 rfl hl (by decide) rfl (fun ls hl => ?_)
  refine lv_iconst (v := (nI 0)) B.hx B.hb dL_size_2 (by decide) ?_
  refine lv_istore_n (lv' := [(2, .int (nI 0)), (1, .int (nI 0)), (0, .int (nI M))]) B.hx B.hb dL_size_3 rfl hl (by decide) rfl (fun ls hl => ?_)
  refine q_loop2 (nL := 3) (w := ([] : va_W)) (fun i : Nat => i ≤ 8) (fun i : Nat => 8 - i) (fun i : Nat => [(2, .int (nI i)), (1, .int (nI (pN (fun k => M.testBit k) i))), (0, .int (nI M))]) (0) (Nat.zero_le _) (lv_sub hl [0, 1, 2] rfl) hP hD hS ?_
  intro i1 hI2 ih3 ls H locs hl hP hD hS
  have hI2 : i1 ≤ 8 := hI2
  have hl : lv_has ls 3 [(2, .int (nI i1)), (1, .int (nI (pN (fun k => M.testBit k) i1))), (0, .int (nI M))] := hl
  refine lv_iload_n B.hx B.hb dL_size_4 rfl (lv_at hl 0 rfl) ?_
  refine lv_bipush (v := (nI 8)) B.hx B.hb dL_size_5 (by decide) ?_
  refine lv_icmp_ge (tgt := 24) B.hx B.hb dL_size_7 (by decide) (fun c4 => ?_) (fun c4 => ?_)
  · replace c4 := (nI_leI (by omega) (by omega)).mp c4
    refine lv_iload_n B.hx B.hb dL_size_24 rfl (lv_at hl 1 rfl) ?_
    exact q_iret B hr hP hD hS (u := ()) rfl (by rw [show i1 = 8 by omega]; rfl) (Nat.le_of_ble_eq_true rfl) (Nat.le_of_ble_eq_true rfl) dL_size_25
  · replace c4 := mt (nI_leI (by omega) (by omega)).mpr c4
    refine lv_iload_n B.hx B.hb dL_size_10 rfl (lv_at hl 1 rfl) ?_
    refine lv_iload_n B.hx B.hb dL_size_11 rfl (lv_at hl 2 rfl) ?_
    refine lv_iload_n B.hx B.hb dL_size_12 rfl (lv_at hl 0 rfl) ?_
    refine lv_ishr B.hx B.hb dL_size_13 ?_
    refine lv_iconst (v := (nI 1)) B.hx B.hb dL_size_14 (by decide) ?_
    refine lv_iand B.hx B.hb dL_size_15 ?_
    refine q_top (v2 := .int (bI (M.testBit i1))) (congrArg Value.int (msk_has hm (by omega))) ?_
    refine lv_iadd B.hx B.hb dL_size_16 ?_
    refine q_top (v2 := .int (nI (pN (fun k => M.testBit k) (i1 + 1)))) (congrArg Value.int (pN_bI (fun k => M.testBit k) i1)) ?_
    refine lv_istore_n (lv' := [(1, .int (nI (pN (fun k => M.testBit k) (i1 + 1)))), (2, .int (nI i1)), (0, .int (nI M))]) B.hx B.hb dL_size_17 rfl hl (by decide) rfl (fun ls hl => ?_)
    refine lv_iinc (v := (nI (i1 + 1))) (lv' := [(2, .int (nI (i1 + 1))), (1, .int (nI (pN (fun k => M.testBit k) (i1 + 1)))), (0, .int (nI M))]) B.hx B.hb dL_size_18 hl (k := 1) rfl (nI_1 _) (by decide) rfl (fun ls hl => ?_)
    refine lv_goto (tgt := 4) B.hx B.hb dL_size_21 (by decide) ?_
    exact ih3 (i1 + 1) (by omega) (by omega) ls H _ (lv_sub hl [0, 1, 2] rfl) hP hD hS

set_option maxHeartbeats 4000000 in
set_option maxRecDepth 100000 in
theorem cl_mayApprove (l : Launch) (D : va_G) (cI cZ cP : ClassId) (o : Nat → Nat) (F : Nat → Nat → Int32) (M j : Nat) (hm : F 5 1 = nI M) (hM : M < 64) (hj : j < 6) : q_C l yL_mayApprove wsL_mayApprove ({ frames := 1, cells := 0, slots := 0, locals := 21 }) D cI cZ cP [.ref (o 5), .ref (o 6), .int (nI j)] (lw cI o F) (S := Unit) (fun v _ => v = some (.int (bI (lmA M (F 6) j 6)))) (fun _ => (lw cI o F)) (fun _ => False) 0 0 := by
  refine q_of (cc := cL_mayApprove) (maxL := 5) (ret := (some .boolean)) (by decide +kernel) rfl (Nat.le_of_ble_eq_true rfl) ?_
  intro p e s m below meth c A ls B hr htb hmn hP hD hS hl
  have hl : lv_has ls 5 [(0, .ref (o 5)), (1, .ref (o 6)), (2, .int (nI j))] := hl
  refine lv_aload_n B.hx B.hb dL_mayApprove_0 rfl (lv_at hl 0 rfl) ?_
  refine lv_iconst (v := (nI 1)) B.hx B.hb dL_mayApprove_1 (by decide) ?_
  refine q_iald (f := (F 5)) B hP 5 rfl (j := 1) rfl (by decide) (by decide) dL_mayApprove_2 ?_
  refine q_top (v2 := .int (nI M)) (congrArg Value.int hm) ?_
  refine lv_iload_n B.hx B.hb dL_mayApprove_3 rfl (lv_at hl 2 rfl) ?_
  refine q_callS (As := [.int (nI M), .int (nI j)]) (rest := []) B hP hD hS ((cl_has l D cI cZ cP M j (by omega) (by omega)).fr0 (lw cI o F)) (cwS 2 B.hts gL_mayApprove_L_has rfl rfl rfl (by decide +kernel) ⟨(Nat.le_of_ble_eq_true rfl), (Nat.le_of_ble_eq_true rfl)⟩) rfl hl.1 rfl (Nat.le_of_ble_eq_true rfl) dL_mayApprove_4 ⟨(Nat.le_of_ble_eq_true rfl), (Nat.le_of_ble_eq_true rfl)⟩ (fun E ce q9 H locs hx => False.elim hx) (fun v u H locs hp hP hD hS => ?_)
  obtain rfl := hp
  have hP : va_P D vwCl (lw cI o F) H := hP
  have hD : va_D A (lw cI o F) := hD
  refine lv_istore_n (lv' := [(3, .int (bI (Nat.testBit M j))), (0, .ref (o 5)), (1, .ref (o 6)), (2, .int (nI j))]) B.hx B.hb dL_mayApprove_7 rfl hl (by decide) rfl (fun ls hl => ?_)
  have hl : lv_has ls 5 [(3, .int (bI (lmA M (F 6) j 0))), (0, .ref (o 5)), (1, .ref (o 6)), (2, .int (nI j))] := by rw [lmA_0]; exact hl
  refine lv_iconst (v := (nI 0)) B.hx B.hb dL_mayApprove_8 (by decide) ?_
  refine lv_istore (lv' := [(4, .int (nI 0)), (3, .int (bI (lmA M (F 6) j 0))), (0, .ref (o 5)), (1, .ref (o 6)), (2, .int (nI j))]) B.hx B.hb dL_mayApprove_9 hl (by decide) rfl (fun ls hl => ?_)
  refine q_loop2 (nL := 5) (w := (lw cI o F)) (fun i : Nat => i ≤ 6) (fun i : Nat => 6 - i) (fun i : Nat => [(4, .int (nI i)), (3, .int (bI (lmA M (F 6) j i))), (0, .ref (o 5)), (1, .ref (o 6)), (2, .int (nI j))]) (0) (Nat.zero_le _) (lv_sub hl [0, 1, 2, 3, 4] rfl) hP hD hS ?_
  intro i1 hI2 ih3 ls H locs hl hP hD hS
  have hI2 : i1 ≤ 6 := hI2
  have hl : lv_has ls 5 [(4, .int (nI i1)), (3, .int (bI (lmA M (F 6) j i1))), (0, .ref (o 5)), (1, .ref (o 6)), (2, .int (nI j))] := hl
  refine lv_iload B.hx B.hb dL_mayApprove_11 (lv_at hl 0 rfl) ?_
  refine lv_bipush (v := (nI 6)) B.hx B.hb dL_mayApprove_13 (by decide) ?_
  refine lv_icmp_ge (tgt := 55) B.hx B.hb dL_mayApprove_15 (by decide) (fun c4 => ?_) (fun c4 => ?_)
  · replace c4 := (nI_leI (by omega) (by omega)).mp c4
    refine lv_iload_n B.hx B.hb dL_mayApprove_55 rfl (lv_at hl 1 rfl) ?_
    exact q_zret B hr hP hD hS (narrow_bI _) (u := ()) rfl (by rw [show i1 = 6 by omega]) (Nat.le_of_ble_eq_true rfl) (Nat.le_of_ble_eq_true rfl) dL_mayApprove_56
  · replace c4 := mt (nI_leI (by omega) (by omega)).mpr c4
    refine q_join (D := D) (A := A) (J := 48) (stk := [.int (bI (lmA M (F 6) j (i1 + 1)))]) (w := (lw cI o F)) (fun H locs hP hD hS => ?_) (fun kJ5 => ?_)
    · refine lv_istore_n (lv' := [(3, .int (bI (lmA M (F 6) j (i1 + 1)))), (4, .int (nI i1)), (0, .ref (o 5)), (1, .ref (o 6)), (2, .int (nI j))]) B.hx B.hb dL_mayApprove_48 rfl hl (by decide) rfl (fun ls hl => ?_)
      refine lv_iinc (v := (nI (i1 + 1))) (lv' := [(4, .int (nI (i1 + 1))), (3, .int (bI (lmA M (F 6) j (i1 + 1)))), (0, .ref (o 5)), (1, .ref (o 6)), (2, .int (nI j))]) B.hx B.hb dL_mayApprove_49 hl (k := 1) rfl (nI_1 _) (by decide) rfl (fun ls hl => ?_)
      refine lv_goto (tgt := 11) B.hx B.hb dL_mayApprove_52 (by decide) ?_
      exact ih3 (i1 + 1) (by omega) (by omega) ls H _ (lv_sub hl [0, 1, 2, 3, 4] rfl) hP hD hS
    · refine lv_iload_n B.hx B.hb dL_mayApprove_18 rfl (lv_at hl 1 rfl) ?_
      refine lv_if_ne (tgt := 43) B.hx B.hb dL_mayApprove_19 (by decide) (fun c6 => ?_) (fun c6 => ?_)
      · replace c6 := bI_t1 c6
        refine lv_iconst (v := (nI 1)) B.hx B.hb dL_mayApprove_43 (by decide) ?_
        refine lv_goto (tgt := 48) B.hx B.hb dL_mayApprove_44 (by decide) ?_
        refine q_top (v2 := .int (bI (lmA M (F 6) j (i1 + 1)))) (congrArg Value.int (bI_t (by simp [lmA_s, c6]))) ?_
        exact kJ5 _ _ hP hD hS
      · replace c6 := bI_0.mp c6
        refine lv_aload_n B.hx B.hb dL_mayApprove_22 rfl (lv_at hl 2 rfl) ?_
        refine lv_iconst (v := (nI 1)) B.hx B.hb dL_mayApprove_23 (by decide) ?_
        refine q_iald (f := (F 5)) B hP 5 rfl (j := 1) rfl (by decide) (by decide) dL_mayApprove_24 ?_
        refine q_top (v2 := .int (nI M)) (congrArg Value.int hm) ?_
        refine lv_iload B.hx B.hb dL_mayApprove_25 (lv_at hl 0 rfl) ?_
        refine q_callS (As := [.int (nI M), .int (nI i1)]) (rest := []) B hP hD hS ((cl_has l D cI cZ cP M i1 (by omega) (by omega)).fr0 (lw cI o F)) (cwS 2 B.hts gL_mayApprove_L_has rfl rfl rfl (by decide +kernel) ⟨(Nat.le_of_ble_eq_true rfl), (Nat.le_of_ble_eq_true rfl)⟩) rfl hl.1 rfl (Nat.le_of_ble_eq_true rfl) dL_mayApprove_27 ⟨(Nat.le_of_ble_eq_true rfl), (Nat.le_of_ble_eq_true rfl)⟩ (fun E ce q9 H locs hx => False.elim hx) (fun v u H locs hp hP hD hS => ?_)
        obtain rfl := hp
        have hP : va_P D vwCl (lw cI o F) H := hP
        have hD : va_D A (lw cI o F) := hD
        refine lv_if_eq (tgt := 47) B.hx B.hb dL_mayApprove_30 (by decide) (fun c7 => ?_) (fun c7 => ?_)
        · replace c7 := bI_0.mp c7
          refine lv_iconst (v := (nI 0)) B.hx B.hb dL_mayApprove_47 (by decide) ?_
          refine q_top (v2 := .int (bI (lmA M (F 6) j (i1 + 1)))) (congrArg Value.int (bI_f (by simp [lmA_s, c6, c7]))) ?_
          exact kJ5 _ _ hP hD hS
        · replace c7 := bI_t1 c7
          refine lv_aload_n B.hx B.hb dL_mayApprove_33 rfl (lv_at hl 3 rfl) ?_
          refine lv_iload B.hx B.hb dL_mayApprove_34 (lv_at hl 0 rfl) ?_
          refine q_iald (f := (F 6)) B hP 6 rfl (j := i1) rfl (by omega) (by decide) dL_mayApprove_36 ?_
          refine lv_iload_n B.hx B.hb dL_mayApprove_37 rfl (lv_at hl 4 rfl) ?_
          refine lv_iconst (v := (nI 1)) B.hx B.hb dL_mayApprove_38 (by decide) ?_
          refine lv_iadd B.hx B.hb dL_mayApprove_39 ?_
          refine q_top (v2 := .int (nI (j + 1))) (congrArg Value.int (nI_add _ _)) ?_
          refine lv_icmp_ne (tgt := 47) B.hx B.hb dL_mayApprove_40 (by decide) (fun c8 => ?_) (fun c8 => ?_)
          · refine lv_iconst (v := (nI 0)) B.hx B.hb dL_mayApprove_47 (by decide) ?_
            refine q_top (v2 := .int (bI (lmA M (F 6) j (i1 + 1)))) (congrArg Value.int (bI_f (by simp [lmA_s, c6, c7, c8]))) ?_
            exact kJ5 _ _ hP hD hS
          · refine lv_iconst (v := (nI 1)) B.hx B.hb dL_mayApprove_43 (by decide) ?_
            refine lv_goto (tgt := 48) B.hx B.hb dL_mayApprove_44 (by decide) ?_
            refine q_top (v2 := .int (bI (lmA M (F 6) j (i1 + 1)))) (congrArg Value.int (bI_t (by simp [lmA_s, c6, c7, c8]))) ?_
            exact kJ5 _ _ hP hD hS

section QL
variable {p : Program} {l : Launch} {e : Env} {R : Room} {s : State} {m : MethodId} {args : Array Value} {below : List Frame} {meth : Method} {c : Code} {H : Heap} {locs : List Loc} {cells slots : Nat} {Q : State → Prop}
variable {D : va_G} {cI cZ cP : ClassId} {A : Nat → Prop} {cc : ByteArray} {pc nL : Nat} {ls : Array Slot} {rest st0 : List Value} {own : String} {Ts : List Cond} {w : va_W}
theorem q_cast {E : String} (B : q_B p l s m args meth c D cI cZ cP A cc nL own Ts) (h : Cond.castable E E ∈ q_ng) : (Cond.castable E E).before args s = true := va_tabs (by rfl) rfl (B.hKK.2.2.1 _ h)
theorem q_nca {E F : String} (B : q_B p l s m args meth c D cI cZ cP A cc nL own Ts) (h : (E, F) ∈ q_nc) : va_Nc E F s := B.hKK.2.2.2.1 _ h
/-- the handlers, in their order -/
theorem q_hand1 {E : String} {ce : Cell} {q : Addr} {a0 b0 h0 c0 : Nat} {suf : List (Nat × Nat × Nat × Nat)} (B : q_B p l s m args meth c D cI cZ cP A cc nL own Ts) (htb : c.exceptionTable.toList = tableOf ((a0, b0, h0, c0) :: suf)) (hcov : covers ⟨a0, b0, h0, c0⟩ pc = true) (hc0 : c0 ≠ 0)
    (hl : Cond.classLink own c0 E ∈ Ts) (hcast : Cond.castable E E ∈ q_ng) (hcell : H[q]? = some ce) (hv : ce.vm = .none) (hcl : s.vm.findClass E = some ce.cls)
    (kk : W p l e R s m args below meth c H locs cells slots Q (F0 m h0 ls [.ref q])) : vx_W p l e R s m args below meth c H locs cells slots Q (F0 m pc ls rest) q :=
  vx_catch B.hown [] ⟨a0, b0, h0, c0⟩ (tableOf suf) (by rw [htb]; rfl) (fun z hz => absurd hz List.not_mem_nil) hcov hc0 (B.hts _ hl) (q_cast B hcast) hcell hv hcl kk
theorem q_hand2 {E F : String} {ce : Cell} {q : Addr} {a0 b0 h0 c0 a1 b1 h1 c1 : Nat} {suf : List (Nat × Nat × Nat × Nat)} (B : q_B p l s m args meth c D cI cZ cP A cc nL own Ts) (htb : c.exceptionTable.toList = tableOf ((a0, b0, h0, c0) :: (a1, b1, h1, c1) :: suf)) (hc0 : c0 ≠ 0) (hl0 : Cond.classLink own c0 F ∈ Ts) (hn : (E, F) ∈ q_nc) (hcov : covers ⟨a1, b1, h1, c1⟩ pc = true) (hc1 : c1 ≠ 0)
    (hl : Cond.classLink own c1 E ∈ Ts) (hcast : Cond.castable E E ∈ q_ng) (hcell : H[q]? = some ce) (hv : ce.vm = .none) (hcl : s.vm.findClass E = some ce.cls)
    (kk : W p l e R s m args below meth c H locs cells slots Q (F0 m h1 ls [.ref q])) : vx_W p l e R s m args below meth c H locs cells slots Q (F0 m pc ls rest) q :=
  vx_catch B.hown [⟨a0, b0, h0, c0⟩] ⟨a1, b1, h1, c1⟩ (tableOf suf) (by rw [htb]; rfl) (fun z hz => by obtain rfl := List.mem_singleton.mp hz; exact Or.inr ⟨hc0, F, B.hts _ hl0, q_nca B hn⟩) hcov hc1 (B.hts _ hl) (q_cast B hcast) hcell hv hcl kk
theorem q_hand3 {E F G : String} {ce : Cell} {q : Addr} {a0 b0 h0 c0 a1 b1 h1 c1 a2 b2 h2 c2 : Nat} {suf : List (Nat × Nat × Nat × Nat)} (B : q_B p l s m args meth c D cI cZ cP A cc nL own Ts) (htb : c.exceptionTable.toList = tableOf ((a0, b0, h0, c0) :: (a1, b1, h1, c1) :: (a2, b2, h2, c2) :: suf)) (hc0 : c0 ≠ 0) (hl0 : Cond.classLink own c0 F ∈ Ts) (hn : (E, F) ∈ q_nc) (hc1 : c1 ≠ 0) (hl1 : Cond.classLink own c1 G ∈ Ts) (hn1 : (E, G) ∈ q_nc) (hcov : covers ⟨a2, b2, h2, c2⟩ pc = true) (hc2 : c2 ≠ 0)
    (hl : Cond.classLink own c2 E ∈ Ts) (hcast : Cond.castable E E ∈ q_ng) (hcell : H[q]? = some ce) (hv : ce.vm = .none) (hcl : s.vm.findClass E = some ce.cls)
    (kk : W p l e R s m args below meth c H locs cells slots Q (F0 m h2 ls [.ref q])) : vx_W p l e R s m args below meth c H locs cells slots Q (F0 m pc ls rest) q :=
  vx_catch B.hown [⟨a0, b0, h0, c0⟩, ⟨a1, b1, h1, c1⟩] ⟨a2, b2, h2, c2⟩ (tableOf suf) (by rw [htb]; rfl) (fun z hz => by
    rcases List.mem_cons.mp hz with rfl | hz
    · exact Or.inr ⟨hc0, F, B.hts _ hl0, q_nca B hn⟩
    · obtain rfl := List.mem_singleton.mp hz
      exact Or.inr ⟨hc1, G, B.hts _ hl1, q_nca B hn1⟩) hcov hc2 (B.hts _ hl) (q_cast B hcast) hcell hv hcl kk
end QL

set_option maxHeartbeats 4000000 in
theorem cl_begins (l : Launch) (D : va_G) (cI cZ cP : ClassId) {S : Type} {post : Option Value → S → Prop} {W' : S → va_W} {xp : String → Prop} {q0 b : Nat} {w : va_W} {fs : List Value} {x y z : Int32} (hq : w[q0]? = some (b, .inr (3, fs))) (h : q_C l yX3_draft wsX3_draft ({ frames := 8, cells := 3, slots := 18, locals := 124 }) D cI cZ cP [.ref b, .int x, .int y, .int z] w post W' xp 3 18) (hpost : ∀ v u, post v u → v = none) : q_C l yL_begins wsL_begins ({ frames := 9, cells := 3, slots := 18, locals := 148 }) D cI cZ cP [.ref b, .int x, .int y, .int z] w (fun v u => v = some (.int (nI 0)) ∧ post none u) W' xp 3 18 := by
  refine q_of (cc := cL_begins) (maxL := 4) (ret := (some .int)) (by decide +kernel) rfl (Nat.le_of_ble_eq_true rfl) ?_
  intro p e s m below meth c A ls B hr htb hmn hP hD hS hl
  have hl : lv_has ls 4 [(0, .ref b), (1, .int x), (2, .int y), (3, .int z)] := hl
  refine lv_aload_n B.hx B.hb dL_begins_0 rfl (lv_at hl 0 rfl) ?_
  refine lv_iload_n B.hx B.hb dL_begins_1 rfl (lv_at hl 1 rfl) ?_
  refine lv_iload_n B.hx B.hb dL_begins_2 rfl (lv_at hl 2 rfl) ?_
  refine lv_iload_n B.hx B.hb dL_begins_3 rfl (lv_at hl 3 rfl) ?_
  refine q_callV (As := [.int x, .int y, .int z]) (rest := []) B hP hD hS h (cwV 3 B.hts gL_begins_X3_draft rfl rfl rfl (by decide +kernel) ⟨(Nat.le_of_ble_eq_true rfl), (Nat.le_of_ble_eq_true rfl)⟩) q0 3 hq rfl rfl rfl hl.1 rfl (Nat.le_of_ble_eq_true rfl) dL_begins_4 ⟨(Nat.le_of_ble_eq_true rfl), (Nat.le_of_ble_eq_true rfl)⟩ (fun E ce q9 H locs hx hP hS hce hcv hcl => ?_) (fun v u H locs hp hP hD hS => ?_)
  · exact q_xout B htb hP hS hce hcv hcl hx (Nat.le_of_ble_eq_true rfl) (Nat.le_of_ble_eq_true rfl)
  · obtain rfl := hpost v u hp
    refine lv_iconst (v := nI 0) B.hx B.hb dL_begins_7 (by decide) ?_
    exact q_iret B hr hP hD hS (u := u) rfl ⟨rfl, hp⟩ (Nat.le_of_ble_eq_true rfl) (Nat.le_of_ble_eq_true rfl) dL_begins_8

set_option maxHeartbeats 4000000 in
theorem cl_approves (l : Launch) (D : va_G) (cI cZ cP : ClassId) {S : Type} {post : Option Value → S → Prop} {W' : S → va_W} {xp : String → Prop} {q0 b : Nat} {w : va_W} {fs : List Value} {x y z : Int32} (hq : w[q0]? = some (b, .inr (3, fs))) (h : q_C l yX3_approve wsX3_approve ({ frames := 8, cells := 4, slots := 24, locals := 124 }) D cI cZ cP [.ref b, .int x, .int y, .int z] w post W' xp 4 24) (hpost : ∀ v u, post v u → v = none) : q_C l yL_approves wsL_approves ({ frames := 9, cells := 4, slots := 24, locals := 149 }) D cI cZ cP [.ref b, .int x, .int y, .int z] w (fun v u => v = some (.int (nI 0)) ∧ post none u) W' xp 4 24 := by
  refine q_of (cc := cL_approves) (maxL := 4) (ret := (some .int)) (by decide +kernel) rfl (Nat.le_of_ble_eq_true rfl) ?_
  intro p e s m below meth c A ls B hr htb hmn hP hD hS hl
  have hl : lv_has ls 4 [(0, .ref b), (1, .int x), (2, .int y), (3, .int z)] := hl
  refine lv_aload_n B.hx B.hb dL_approves_0 rfl (lv_at hl 0 rfl) ?_
  refine lv_iload_n B.hx B.hb dL_approves_1 rfl (lv_at hl 1 rfl) ?_
  refine lv_iload_n B.hx B.hb dL_approves_2 rfl (lv_at hl 2 rfl) ?_
  refine lv_iload_n B.hx B.hb dL_approves_3 rfl (lv_at hl 3 rfl) ?_
  refine q_callV (As := [.int x, .int y, .int z]) (rest := []) B hP hD hS h (cwV 3 B.hts gL_approves_X3_approve rfl rfl rfl (by decide +kernel) ⟨(Nat.le_of_ble_eq_true rfl), (Nat.le_of_ble_eq_true rfl)⟩) q0 3 hq rfl rfl rfl hl.1 rfl (Nat.le_of_ble_eq_true rfl) dL_approves_4 ⟨(Nat.le_of_ble_eq_true rfl), (Nat.le_of_ble_eq_true rfl)⟩ (fun E ce q9 H locs hx hP hS hce hcv hcl => ?_) (fun v u H locs hp hP hD hS => ?_)
  · exact q_xout B htb hP hS hce hcv hcl hx (Nat.le_of_ble_eq_true rfl) (Nat.le_of_ble_eq_true rfl)
  · obtain rfl := hpost v u hp
    refine lv_iconst (v := nI 0) B.hx B.hb dL_approves_7 (by decide) ?_
    exact q_iret B hr hP hD hS (u := u) rfl ⟨rfl, hp⟩ (Nat.le_of_ble_eq_true rfl) (Nat.le_of_ble_eq_true rfl) dL_approves_8

set_option maxHeartbeats 4000000 in
theorem cl_asks0 (l : Launch) (D : va_G) (cI cZ cP : ClassId) {S : Type} {post : Option Value → S → Prop} {W' : S → va_W} {xp : String → Prop} {q0 b : Nat} {w w1 : va_W} {fs : List Value} {a x y z : Int32} (hq : w[q0]? = some (b, .inr (3, fs))) (h : q_C l yL_begins wsL_begins ({ frames := 9, cells := 3, slots := 18, locals := 148 }) D cI cZ cP [.ref b, .int x, .int y, .int z] w post W' xp 3 18) (hN : ∀ v u, post v u → v = some (.int a) ∧ W' u = w1) (hX : ∀ E, xp E → w = w1 ∧ ((E = q_IOB ∧ a = -7) ∨ (E = q_ISE ∧ a = -8) ∨ (E = q_IAE ∧ a = -9))) : q_C l yL_asks wsL_asks ({ frames := 10, cells := 3, slots := 18, locals := 171 }) D cI cZ cP [.ref b, .int (nI 0), .int x, .int y, .int z] w (S := Unit) (fun v _ => v = some (.int a)) (fun _ => w1) (fun _ => False) 3 18 := by
  refine q_ofH (cc := cL_asks) (maxL := 6) (ret := (some .int)) (by decide +kernel) rfl (Nat.le_of_ble_eq_true rfl) ?_
  intro p e s m below meth c A ls B hr htb hP hD hS hl
  have hl : lv_has ls 6 [(0, .ref b), (1, .int (nI 0)), (2, .int x), (3, .int y), (4, .int z)] := hl
  refine lv_iload_n B.hx B.hb dL_asks_0 rfl (lv_at hl 1 rfl) ?_
  refine lv_if_ne (tgt := 15) B.hx B.hb dL_asks_1 (by decide) (fun c => absurd c (by decide)) (fun _ => ?_)
  refine lv_aload_n B.hx B.hb dL_asks_4 rfl (lv_at hl 0 rfl) ?_
  refine lv_iload_n B.hx B.hb dL_asks_5 rfl (lv_at hl 2 rfl) ?_
  refine lv_iload_n B.hx B.hb dL_asks_6 rfl (lv_at hl 3 rfl) ?_
  refine lv_iload B.hx B.hb dL_asks_7 (lv_at hl 4 rfl) ?_
  refine q_callS (As := [.ref b, .int x, .int y, .int z]) (rest := []) B hP hD hS h (cwS 4 B.hts gL_asks_L_begins rfl rfl rfl (by decide +kernel) ⟨(Nat.le_of_ble_eq_true rfl), (Nat.le_of_ble_eq_true rfl)⟩) rfl hl.1 rfl (Nat.le_of_ble_eq_true rfl) dL_asks_9 ⟨(Nat.le_of_ble_eq_true rfl), (Nat.le_of_ble_eq_true rfl)⟩ (fun E ce q9 H locs hx hP hS hce hcv hcl => ?_) (fun v u H locs hp hP hD hS => ?_)
  · obtain ⟨e1, h9⟩ := hX E hx
    rw [e1] at hP hD
    rcases h9 with ⟨rfl, rfl⟩ | ⟨rfl, rfl⟩ | ⟨rfl, rfl⟩
    · refine q_hand1 B htb rfl (by decide) (by decide +kernel) (by decide) hce hcv hcl ?_
      refine lv_astore (lv' := [(5, .ref q9), (0, .ref b), (1, .int (nI 0)), (2, .int x), (3, .int y), (4, .int z)]) B.hx B.hb dL_asks_184 hl (by decide) rfl (fun ls hl => ?_)
      refine lv_bipush (v := (-7)) B.hx B.hb dL_asks_186 (by decide) ?_
      exact q_iret B hr hP hD hS (u := ()) rfl rfl (Nat.le_of_ble_eq_true rfl) (Nat.le_of_ble_eq_true rfl) dL_asks_188
    · refine q_hand2 (F := q_IOB) B htb (by decide) (by decide +kernel) (by decide) rfl (by decide) (by decide +kernel) (by decide) hce hcv hcl ?_
      refine lv_astore (lv' := [(5, .ref q9), (0, .ref b), (1, .int (nI 0)), (2, .int x), (3, .int y), (4, .int z)]) B.hx B.hb dL_asks_189 hl (by decide) rfl (fun ls hl => ?_)
      refine lv_bipush (v := (-8)) B.hx B.hb dL_asks_191 (by decide) ?_
      exact q_iret B hr hP hD hS (u := ()) rfl rfl (Nat.le_of_ble_eq_true rfl) (Nat.le_of_ble_eq_true rfl) dL_asks_193
    · refine q_hand3 (F := q_IOB) (G := q_ISE) B htb (by decide) (by decide +kernel) (by decide) (by decide) (by decide +kernel) (by decide) rfl (by decide) (by decide +kernel) (by decide) hce hcv hcl ?_
      refine lv_astore (lv' := [(5, .ref q9), (0, .ref b), (1, .int (nI 0)), (2, .int x), (3, .int y), (4, .int z)]) B.hx B.hb dL_asks_194 hl (by decide) rfl (fun ls hl => ?_)
      refine lv_bipush (v := (-9)) B.hx B.hb dL_asks_196 (by decide) ?_
      exact q_iret B hr hP hD hS (u := ()) rfl rfl (Nat.le_of_ble_eq_true rfl) (Nat.le_of_ble_eq_true rfl) dL_asks_198
  · obtain ⟨rfl, e1⟩ := hN v u hp
    rw [e1] at hP hD
    refine lv_goto (tgt := 183) B.hx B.hb dL_asks_12 (by decide) ?_
    exact q_iret B hr hP hD hS (u := ()) rfl rfl (Nat.le_of_ble_eq_true rfl) (Nat.le_of_ble_eq_true rfl) dL_asks_183

set_option maxHeartbeats 4000000 in
theorem cl_asks1 (l : Launch) (D : va_G) (cI cZ cP : ClassId) {S : Type} {post : Option Value → S → Prop} {W' : S → va_W} {xp : String → Prop} {q0 b : Nat} {w w1 : va_W} {fs : List Value} {a x y z : Int32} (hq : w[q0]? = some (b, .inr (3, fs))) (h : q_C l yX3_change wsX3_change ({ frames := 7, cells := 3, slots := 18, locals := 104 }) D cI cZ cP [.ref b, .int x, .int y] w post W' xp 3 18) (hN : ∀ v u, post v u → v = some (.int a) ∧ W' u = w1) (hX : ∀ E, xp E → w = w1 ∧ ((E = q_IOB ∧ a = -7) ∨ (E = q_ISE ∧ a = -8) ∨ (E = q_IAE ∧ a = -9))) : q_C l yL_asks wsL_asks ({ frames := 8, cells := 3, slots := 18, locals := 128 }) D cI cZ cP [.ref b, .int (nI 1), .int x, .int y, .int z] w (S := Unit) (fun v _ => v = some (.int a)) (fun _ => w1) (fun _ => False) 3 18 := by
  refine q_ofH (cc := cL_asks) (maxL := 6) (ret := (some .int)) (by decide +kernel) rfl (Nat.le_of_ble_eq_true rfl) ?_
  intro p e s m below meth c A ls B hr htb hP hD hS hl
  have hl : lv_has ls 6 [(0, .ref b), (1, .int (nI 1)), (2, .int x), (3, .int y), (4, .int z)] := hl
  refine lv_iload_n B.hx B.hb dL_asks_0 rfl (lv_at hl 1 rfl) ?_
  refine lv_if_ne (tgt := 15) B.hx B.hb dL_asks_1 (by decide) (fun _ => ?_) (fun c => absurd c (by decide))
  refine lv_iload_n B.hx B.hb dL_asks_15 rfl (lv_at hl 1 rfl) ?_
  refine lv_iconst (v := nI 1) B.hx B.hb dL_asks_16 (by decide) ?_
  refine lv_icmp_ne (tgt := 29) B.hx B.hb dL_asks_17 (by decide) (fun c => absurd c (by decide)) (fun _ => ?_)
  refine lv_aload_n B.hx B.hb dL_asks_20 rfl (lv_at hl 0 rfl) ?_
  refine lv_iload_n B.hx B.hb dL_asks_21 rfl (lv_at hl 2 rfl) ?_
  refine lv_iload_n B.hx B.hb dL_asks_22 rfl (lv_at hl 3 rfl) ?_
  refine q_callV (As := [.int x, .int y]) (rest := []) B hP hD hS h (cwV 2 B.hts gL_asks_X3_change rfl rfl rfl (by decide +kernel) ⟨(Nat.le_of_ble_eq_true rfl), (Nat.le_of_ble_eq_true rfl)⟩) q0 3 hq rfl rfl rfl hl.1 rfl (Nat.le_of_ble_eq_true rfl) dL_asks_23 ⟨(Nat.le_of_ble_eq_true rfl), (Nat.le_of_ble_eq_true rfl)⟩ (fun E ce q9 H locs hx hP hS hce hcv hcl => ?_) (fun v u H locs hp hP hD hS => ?_)
  · obtain ⟨e1, h9⟩ := hX E hx
    rw [e1] at hP hD
    rcases h9 with ⟨rfl, rfl⟩ | ⟨rfl, rfl⟩ | ⟨rfl, rfl⟩
    · refine q_hand1 B htb rfl (by decide) (by decide +kernel) (by decide) hce hcv hcl ?_
      refine lv_astore (lv' := [(5, .ref q9), (0, .ref b), (1, .int (nI 1)), (2, .int x), (3, .int y), (4, .int z)]) B.hx B.hb dL_asks_184 hl (by decide) rfl (fun ls hl => ?_)
      refine lv_bipush (v := (-7)) B.hx B.hb dL_asks_186 (by decide) ?_
      exact q_iret B hr hP hD hS (u := ()) rfl rfl (Nat.le_of_ble_eq_true rfl) (Nat.le_of_ble_eq_true rfl) dL_asks_188
    · refine q_hand2 (F := q_IOB) B htb (by decide) (by decide +kernel) (by decide) rfl (by decide) (by decide +kernel) (by decide) hce hcv hcl ?_
      refine lv_astore (lv' := [(5, .ref q9), (0, .ref b), (1, .int (nI 1)), (2, .int x), (3, .int y), (4, .int z)]) B.hx B.hb dL_asks_189 hl (by decide) rfl (fun ls hl => ?_)
      refine lv_bipush (v := (-8)) B.hx B.hb dL_asks_191 (by decide) ?_
      exact q_iret B hr hP hD hS (u := ()) rfl rfl (Nat.le_of_ble_eq_true rfl) (Nat.le_of_ble_eq_true rfl) dL_asks_193
    · refine q_hand3 (F := q_IOB) (G := q_ISE) B htb (by decide) (by decide +kernel) (by decide) (by decide) (by decide +kernel) (by decide) rfl (by decide) (by decide +kernel) (by decide) hce hcv hcl ?_
      refine lv_astore (lv' := [(5, .ref q9), (0, .ref b), (1, .int (nI 1)), (2, .int x), (3, .int y), (4, .int z)]) B.hx B.hb dL_asks_194 hl (by decide) rfl (fun ls hl => ?_)
      refine lv_bipush (v := (-9)) B.hx B.hb dL_asks_196 (by decide) ?_
      exact q_iret B hr hP hD hS (u := ()) rfl rfl (Nat.le_of_ble_eq_true rfl) (Nat.le_of_ble_eq_true rfl) dL_asks_198
  · obtain ⟨rfl, e1⟩ := hN v u hp
    rw [e1] at hP hD
    refine lv_goto (tgt := 183) B.hx B.hb dL_asks_26 (by decide) ?_
    exact q_iret B hr hP hD hS (u := ()) rfl rfl (Nat.le_of_ble_eq_true rfl) (Nat.le_of_ble_eq_true rfl) dL_asks_183

set_option maxHeartbeats 4000000 in
theorem cl_asks2 (l : Launch) (D : va_G) (cI cZ cP : ClassId) {S : Type} {post : Option Value → S → Prop} {W' : S → va_W} {xp : String → Prop} {q0 b : Nat} {w w1 : va_W} {fs : List Value} {a x y z : Int32} (hq : w[q0]? = some (b, .inr (3, fs))) (h : q_C l yX3_drop wsX3_drop ({ frames := 7, cells := 1, slots := 6, locals := 102 }) D cI cZ cP [.ref b, .int x] w post W' xp 1 6) (hN : ∀ v u, post v u → v = some (.int a) ∧ W' u = w1) (hX : ∀ E, xp E → w = w1 ∧ ((E = q_IOB ∧ a = -7) ∨ (E = q_ISE ∧ a = -8) ∨ (E = q_IAE ∧ a = -9))) : q_C l yL_asks wsL_asks ({ frames := 8, cells := 1, slots := 6, locals := 125 }) D cI cZ cP [.ref b, .int (nI 2), .int x, .int y, .int z] w (S := Unit) (fun v _ => v = some (.int a)) (fun _ => w1) (fun _ => False) 1 6 := by
  refine q_ofH (cc := cL_asks) (maxL := 6) (ret := (some .int)) (by decide +kernel) rfl (Nat.le_of_ble_eq_true rfl) ?_
  intro p e s m below meth c A ls B hr htb hP hD hS hl
  have hl : lv_has ls 6 [(0, .ref b), (1, .int (nI 2)), (2, .int x), (3, .int y), (4, .int z)] := hl
  refine lv_iload_n B.hx B.hb dL_asks_0 rfl (lv_at hl 1 rfl) ?_
  refine lv_if_ne (tgt := 15) B.hx B.hb dL_asks_1 (by decide) (fun _ => ?_) (fun c => absurd c (by decide))
  refine lv_iload_n B.hx B.hb dL_asks_15 rfl (lv_at hl 1 rfl) ?_
  refine lv_iconst (v := nI 1) B.hx B.hb dL_asks_16 (by decide) ?_
  refine lv_icmp_ne (tgt := 29) B.hx B.hb dL_asks_17 (by decide) (fun _ => ?_) (fun c => absurd c (by decide))
  refine lv_iload_n B.hx B.hb dL_asks_29 rfl (lv_at hl 1 rfl) ?_
  refine lv_iconst (v := nI 2) B.hx B.hb dL_asks_30 (by decide) ?_
  refine lv_icmp_ne (tgt := 42) B.hx B.hb dL_asks_31 (by decide) (fun c => absurd c (by decide)) (fun _ => ?_)
  refine lv_aload_n B.hx B.hb dL_asks_34 rfl (lv_at hl 0 rfl) ?_
  refine lv_iload_n B.hx B.hb dL_asks_35 rfl (lv_at hl 2 rfl) ?_
  refine q_callV (As := [.int x]) (rest := []) B hP hD hS h (cwV 1 B.hts gL_asks_X3_drop rfl rfl rfl (by decide +kernel) ⟨(Nat.le_of_ble_eq_true rfl), (Nat.le_of_ble_eq_true rfl)⟩) q0 3 hq rfl rfl rfl hl.1 rfl (Nat.le_of_ble_eq_true rfl) dL_asks_36 ⟨(Nat.le_of_ble_eq_true rfl), (Nat.le_of_ble_eq_true rfl)⟩ (fun E ce q9 H locs hx hP hS hce hcv hcl => ?_) (fun v u H locs hp hP hD hS => ?_)
  · obtain ⟨e1, h9⟩ := hX E hx
    rw [e1] at hP hD
    rcases h9 with ⟨rfl, rfl⟩ | ⟨rfl, rfl⟩ | ⟨rfl, rfl⟩
    · refine q_hand1 B htb rfl (by decide) (by decide +kernel) (by decide) hce hcv hcl ?_
      refine lv_astore (lv' := [(5, .ref q9), (0, .ref b), (1, .int (nI 2)), (2, .int x), (3, .int y), (4, .int z)]) B.hx B.hb dL_asks_184 hl (by decide) rfl (fun ls hl => ?_)
      refine lv_bipush (v := (-7)) B.hx B.hb dL_asks_186 (by decide) ?_
      exact q_iret B hr hP hD hS (u := ()) rfl rfl (Nat.le_of_ble_eq_true rfl) (Nat.le_of_ble_eq_true rfl) dL_asks_188
    · refine q_hand2 (F := q_IOB) B htb (by decide) (by decide +kernel) (by decide) rfl (by decide) (by decide +kernel) (by decide) hce hcv hcl ?_
      refine lv_astore (lv' := [(5, .ref q9), (0, .ref b), (1, .int (nI 2)), (2, .int x), (3, .int y), (4, .int z)]) B.hx B.hb dL_asks_189 hl (by decide) rfl (fun ls hl => ?_)
      refine lv_bipush (v := (-8)) B.hx B.hb dL_asks_191 (by decide) ?_
      exact q_iret B hr hP hD hS (u := ()) rfl rfl (Nat.le_of_ble_eq_true rfl) (Nat.le_of_ble_eq_true rfl) dL_asks_193
    · refine q_hand3 (F := q_IOB) (G := q_ISE) B htb (by decide) (by decide +kernel) (by decide) (by decide) (by decide +kernel) (by decide) rfl (by decide) (by decide +kernel) (by decide) hce hcv hcl ?_
      refine lv_astore (lv' := [(5, .ref q9), (0, .ref b), (1, .int (nI 2)), (2, .int x), (3, .int y), (4, .int z)]) B.hx B.hb dL_asks_194 hl (by decide) rfl (fun ls hl => ?_)
      refine lv_bipush (v := (-9)) B.hx B.hb dL_asks_196 (by decide) ?_
      exact q_iret B hr hP hD hS (u := ()) rfl rfl (Nat.le_of_ble_eq_true rfl) (Nat.le_of_ble_eq_true rfl) dL_asks_198
  · obtain ⟨rfl, e1⟩ := hN v u hp
    rw [e1] at hP hD
    refine lv_goto (tgt := 183) B.hx B.hb dL_asks_39 (by decide) ?_
    exact q_iret B hr hP hD hS (u := ()) rfl rfl (Nat.le_of_ble_eq_true rfl) (Nat.le_of_ble_eq_true rfl) dL_asks_183

set_option maxHeartbeats 4000000 in
theorem cl_asks3 (l : Launch) (D : va_G) (cI cZ cP : ClassId) {S : Type} {post : Option Value → S → Prop} {W' : S → va_W} {xp : String → Prop} {q0 b : Nat} {w w1 : va_W} {fs : List Value} {a x y z : Int32} (hq : w[q0]? = some (b, .inr (3, fs))) (h : q_C l yX3_reviewer wsX3_reviewer ({ frames := 8, cells := 3, slots := 18, locals := 124 }) D cI cZ cP [.ref b, .int x, .int y] w post W' xp 3 18) (hN : ∀ v u, post v u → v = some (.int a) ∧ W' u = w1) (hX : ∀ E, xp E → w = w1 ∧ ((E = q_IOB ∧ a = -7) ∨ (E = q_ISE ∧ a = -8) ∨ (E = q_IAE ∧ a = -9))) : q_C l yL_asks wsL_asks ({ frames := 9, cells := 3, slots := 18, locals := 148 }) D cI cZ cP [.ref b, .int (nI 3), .int x, .int y, .int z] w (S := Unit) (fun v _ => v = some (.int a)) (fun _ => w1) (fun _ => False) 3 18 := by
  refine q_ofH (cc := cL_asks) (maxL := 6) (ret := (some .int)) (by decide +kernel) rfl (Nat.le_of_ble_eq_true rfl) ?_
  intro p e s m below meth c A ls B hr htb hP hD hS hl
  have hl : lv_has ls 6 [(0, .ref b), (1, .int (nI 3)), (2, .int x), (3, .int y), (4, .int z)] := hl
  refine lv_iload_n B.hx B.hb dL_asks_0 rfl (lv_at hl 1 rfl) ?_
  refine lv_if_ne (tgt := 15) B.hx B.hb dL_asks_1 (by decide) (fun _ => ?_) (fun c => absurd c (by decide))
  refine lv_iload_n B.hx B.hb dL_asks_15 rfl (lv_at hl 1 rfl) ?_
  refine lv_iconst (v := nI 1) B.hx B.hb dL_asks_16 (by decide) ?_
  refine lv_icmp_ne (tgt := 29) B.hx B.hb dL_asks_17 (by decide) (fun _ => ?_) (fun c => absurd c (by decide))
  refine lv_iload_n B.hx B.hb dL_asks_29 rfl (lv_at hl 1 rfl) ?_
  refine lv_iconst (v := nI 2) B.hx B.hb dL_asks_30 (by decide) ?_
  refine lv_icmp_ne (tgt := 42) B.hx B.hb dL_asks_31 (by decide) (fun _ => ?_) (fun c => absurd c (by decide))
  refine lv_iload_n B.hx B.hb dL_asks_42 rfl (lv_at hl 1 rfl) ?_
  refine lv_iconst (v := nI 3) B.hx B.hb dL_asks_43 (by decide) ?_
  refine lv_icmp_ne (tgt := 56) B.hx B.hb dL_asks_44 (by decide) (fun c => absurd c (by decide)) (fun _ => ?_)
  refine lv_aload_n B.hx B.hb dL_asks_47 rfl (lv_at hl 0 rfl) ?_
  refine lv_iload_n B.hx B.hb dL_asks_48 rfl (lv_at hl 2 rfl) ?_
  refine lv_iload_n B.hx B.hb dL_asks_49 rfl (lv_at hl 3 rfl) ?_
  refine q_callV (As := [.int x, .int y]) (rest := []) B hP hD hS h (cwV 2 B.hts gL_asks_X3_reviewer rfl rfl rfl (by decide +kernel) ⟨(Nat.le_of_ble_eq_true rfl), (Nat.le_of_ble_eq_true rfl)⟩) q0 3 hq rfl rfl rfl hl.1 rfl (Nat.le_of_ble_eq_true rfl) dL_asks_50 ⟨(Nat.le_of_ble_eq_true rfl), (Nat.le_of_ble_eq_true rfl)⟩ (fun E ce q9 H locs hx hP hS hce hcv hcl => ?_) (fun v u H locs hp hP hD hS => ?_)
  · obtain ⟨e1, h9⟩ := hX E hx
    rw [e1] at hP hD
    rcases h9 with ⟨rfl, rfl⟩ | ⟨rfl, rfl⟩ | ⟨rfl, rfl⟩
    · refine q_hand1 B htb rfl (by decide) (by decide +kernel) (by decide) hce hcv hcl ?_
      refine lv_astore (lv' := [(5, .ref q9), (0, .ref b), (1, .int (nI 3)), (2, .int x), (3, .int y), (4, .int z)]) B.hx B.hb dL_asks_184 hl (by decide) rfl (fun ls hl => ?_)
      refine lv_bipush (v := (-7)) B.hx B.hb dL_asks_186 (by decide) ?_
      exact q_iret B hr hP hD hS (u := ()) rfl rfl (Nat.le_of_ble_eq_true rfl) (Nat.le_of_ble_eq_true rfl) dL_asks_188
    · refine q_hand2 (F := q_IOB) B htb (by decide) (by decide +kernel) (by decide) rfl (by decide) (by decide +kernel) (by decide) hce hcv hcl ?_
      refine lv_astore (lv' := [(5, .ref q9), (0, .ref b), (1, .int (nI 3)), (2, .int x), (3, .int y), (4, .int z)]) B.hx B.hb dL_asks_189 hl (by decide) rfl (fun ls hl => ?_)
      refine lv_bipush (v := (-8)) B.hx B.hb dL_asks_191 (by decide) ?_
      exact q_iret B hr hP hD hS (u := ()) rfl rfl (Nat.le_of_ble_eq_true rfl) (Nat.le_of_ble_eq_true rfl) dL_asks_193
    · refine q_hand3 (F := q_IOB) (G := q_ISE) B htb (by decide) (by decide +kernel) (by decide) (by decide) (by decide +kernel) (by decide) rfl (by decide) (by decide +kernel) (by decide) hce hcv hcl ?_
      refine lv_astore (lv' := [(5, .ref q9), (0, .ref b), (1, .int (nI 3)), (2, .int x), (3, .int y), (4, .int z)]) B.hx B.hb dL_asks_194 hl (by decide) rfl (fun ls hl => ?_)
      refine lv_bipush (v := (-9)) B.hx B.hb dL_asks_196 (by decide) ?_
      exact q_iret B hr hP hD hS (u := ()) rfl rfl (Nat.le_of_ble_eq_true rfl) (Nat.le_of_ble_eq_true rfl) dL_asks_198
  · obtain ⟨rfl, e1⟩ := hN v u hp
    rw [e1] at hP hD
    refine lv_goto (tgt := 183) B.hx B.hb dL_asks_53 (by decide) ?_
    exact q_iret B hr hP hD hS (u := ()) rfl rfl (Nat.le_of_ble_eq_true rfl) (Nat.le_of_ble_eq_true rfl) dL_asks_183

set_option maxHeartbeats 4000000 in
theorem cl_asks4 (l : Launch) (D : va_G) (cI cZ cP : ClassId) {S : Type} {post : Option Value → S → Prop} {W' : S → va_W} {xp : String → Prop} {q0 b : Nat} {w w1 : va_W} {fs : List Value} {a x y z : Int32} (hq : w[q0]? = some (b, .inr (3, fs))) (h : q_C l yX3_reader wsX3_reader ({ frames := 8, cells := 3, slots := 18, locals := 124 }) D cI cZ cP [.ref b, .int x, .int y] w post W' xp 3 18) (hN : ∀ v u, post v u → v = some (.int a) ∧ W' u = w1) (hX : ∀ E, xp E → w = w1 ∧ ((E = q_IOB ∧ a = -7) ∨ (E = q_ISE ∧ a = -8) ∨ (E = q_IAE ∧ a = -9))) : q_C l yL_asks wsL_asks ({ frames := 9, cells := 3, slots := 18, locals := 148 }) D cI cZ cP [.ref b, .int (nI 4), .int x, .int y, .int z] w (S := Unit) (fun v _ => v = some (.int a)) (fun _ => w1) (fun _ => False) 3 18 := by
  refine q_ofH (cc := cL_asks) (maxL := 6) (ret := (some .int)) (by decide +kernel) rfl (Nat.le_of_ble_eq_true rfl) ?_
  intro p e s m below meth c A ls B hr htb hP hD hS hl
  have hl : lv_has ls 6 [(0, .ref b), (1, .int (nI 4)), (2, .int x), (3, .int y), (4, .int z)] := hl
  refine lv_iload_n B.hx B.hb dL_asks_0 rfl (lv_at hl 1 rfl) ?_
  refine lv_if_ne (tgt := 15) B.hx B.hb dL_asks_1 (by decide) (fun _ => ?_) (fun c => absurd c (by decide))
  refine lv_iload_n B.hx B.hb dL_asks_15 rfl (lv_at hl 1 rfl) ?_
  refine lv_iconst (v := nI 1) B.hx B.hb dL_asks_16 (by decide) ?_
  refine lv_icmp_ne (tgt := 29) B.hx B.hb dL_asks_17 (by decide) (fun _ => ?_) (fun c => absurd c (by decide))
  refine lv_iload_n B.hx B.hb dL_asks_29 rfl (lv_at hl 1 rfl) ?_
  refine lv_iconst (v := nI 2) B.hx B.hb dL_asks_30 (by decide) ?_
  refine lv_icmp_ne (tgt := 42) B.hx B.hb dL_asks_31 (by decide) (fun _ => ?_) (fun c => absurd c (by decide))
  refine lv_iload_n B.hx B.hb dL_asks_42 rfl (lv_at hl 1 rfl) ?_
  refine lv_iconst (v := nI 3) B.hx B.hb dL_asks_43 (by decide) ?_
  refine lv_icmp_ne (tgt := 56) B.hx B.hb dL_asks_44 (by decide) (fun _ => ?_) (fun c => absurd c (by decide))
  refine lv_iload_n B.hx B.hb dL_asks_56 rfl (lv_at hl 1 rfl) ?_
  refine lv_iconst (v := nI 4) B.hx B.hb dL_asks_57 (by decide) ?_
  refine lv_icmp_ne (tgt := 70) B.hx B.hb dL_asks_58 (by decide) (fun c => absurd c (by decide)) (fun _ => ?_)
  refine lv_aload_n B.hx B.hb dL_asks_61 rfl (lv_at hl 0 rfl) ?_
  refine lv_iload_n B.hx B.hb dL_asks_62 rfl (lv_at hl 2 rfl) ?_
  refine lv_iload_n B.hx B.hb dL_asks_63 rfl (lv_at hl 3 rfl) ?_
  refine q_callV (As := [.int x, .int y]) (rest := []) B hP hD hS h (cwV 2 B.hts gL_asks_X3_reader rfl rfl rfl (by decide +kernel) ⟨(Nat.le_of_ble_eq_true rfl), (Nat.le_of_ble_eq_true rfl)⟩) q0 3 hq rfl rfl rfl hl.1 rfl (Nat.le_of_ble_eq_true rfl) dL_asks_64 ⟨(Nat.le_of_ble_eq_true rfl), (Nat.le_of_ble_eq_true rfl)⟩ (fun E ce q9 H locs hx hP hS hce hcv hcl => ?_) (fun v u H locs hp hP hD hS => ?_)
  · obtain ⟨e1, h9⟩ := hX E hx
    rw [e1] at hP hD
    rcases h9 with ⟨rfl, rfl⟩ | ⟨rfl, rfl⟩ | ⟨rfl, rfl⟩
    · refine q_hand1 B htb rfl (by decide) (by decide +kernel) (by decide) hce hcv hcl ?_
      refine lv_astore (lv' := [(5, .ref q9), (0, .ref b), (1, .int (nI 4)), (2, .int x), (3, .int y), (4, .int z)]) B.hx B.hb dL_asks_184 hl (by decide) rfl (fun ls hl => ?_)
      refine lv_bipush (v := (-7)) B.hx B.hb dL_asks_186 (by decide) ?_
      exact q_iret B hr hP hD hS (u := ()) rfl rfl (Nat.le_of_ble_eq_true rfl) (Nat.le_of_ble_eq_true rfl) dL_asks_188
    · refine q_hand2 (F := q_IOB) B htb (by decide) (by decide +kernel) (by decide) rfl (by decide) (by decide +kernel) (by decide) hce hcv hcl ?_
      refine lv_astore (lv' := [(5, .ref q9), (0, .ref b), (1, .int (nI 4)), (2, .int x), (3, .int y), (4, .int z)]) B.hx B.hb dL_asks_189 hl (by decide) rfl (fun ls hl => ?_)
      refine lv_bipush (v := (-8)) B.hx B.hb dL_asks_191 (by decide) ?_
      exact q_iret B hr hP hD hS (u := ()) rfl rfl (Nat.le_of_ble_eq_true rfl) (Nat.le_of_ble_eq_true rfl) dL_asks_193
    · refine q_hand3 (F := q_IOB) (G := q_ISE) B htb (by decide) (by decide +kernel) (by decide) (by decide) (by decide +kernel) (by decide) rfl (by decide) (by decide +kernel) (by decide) hce hcv hcl ?_
      refine lv_astore (lv' := [(5, .ref q9), (0, .ref b), (1, .int (nI 4)), (2, .int x), (3, .int y), (4, .int z)]) B.hx B.hb dL_asks_194 hl (by decide) rfl (fun ls hl => ?_)
      refine lv_bipush (v := (-9)) B.hx B.hb dL_asks_196 (by decide) ?_
      exact q_iret B hr hP hD hS (u := ()) rfl rfl (Nat.le_of_ble_eq_true rfl) (Nat.le_of_ble_eq_true rfl) dL_asks_198
  · obtain ⟨rfl, e1⟩ := hN v u hp
    rw [e1] at hP hD
    refine lv_goto (tgt := 183) B.hx B.hb dL_asks_67 (by decide) ?_
    exact q_iret B hr hP hD hS (u := ()) rfl rfl (Nat.le_of_ble_eq_true rfl) (Nat.le_of_ble_eq_true rfl) dL_asks_183

set_option maxHeartbeats 4000000 in
theorem cl_asks5 (l : Launch) (D : va_G) (cI cZ cP : ClassId) {S : Type} {post : Option Value → S → Prop} {W' : S → va_W} {xp : String → Prop} {q0 b : Nat} {w w1 : va_W} {fs : List Value} {a x y z : Int32} (hq : w[q0]? = some (b, .inr (3, fs))) (h : q_C l yX3_review wsX3_review ({ frames := 8, cells := 4, slots := 24, locals := 124 }) D cI cZ cP [.ref b, .int x, .int y, .int (bI (decide (¬ z ≤ 0)))] w post W' xp 4 24) (hN : ∀ v u, post v u → v = some (.int a) ∧ W' u = w1) (hX : ∀ E, xp E → w = w1 ∧ ((E = q_IOB ∧ a = -7) ∨ (E = q_ISE ∧ a = -8) ∨ (E = q_IAE ∧ a = -9))) : q_C l yL_asks wsL_asks ({ frames := 9, cells := 4, slots := 24, locals := 149 }) D cI cZ cP [.ref b, .int (nI 5), .int x, .int y, .int z] w (S := Unit) (fun v _ => v = some (.int a)) (fun _ => w1) (fun _ => False) 4 24 := by
  refine q_ofH (cc := cL_asks) (maxL := 6) (ret := (some .int)) (by decide +kernel) rfl (Nat.le_of_ble_eq_true rfl) ?_
  intro p e s m below meth c A ls B hr htb hP hD hS hl
  have hl : lv_has ls 6 [(0, .ref b), (1, .int (nI 5)), (2, .int x), (3, .int y), (4, .int z)] := hl
  refine lv_iload_n B.hx B.hb dL_asks_0 rfl (lv_at hl 1 rfl) ?_
  refine lv_if_ne (tgt := 15) B.hx B.hb dL_asks_1 (by decide) (fun _ => ?_) (fun c => absurd c (by decide))
  refine lv_iload_n B.hx B.hb dL_asks_15 rfl (lv_at hl 1 rfl) ?_
  refine lv_iconst (v := nI 1) B.hx B.hb dL_asks_16 (by decide) ?_
  refine lv_icmp_ne (tgt := 29) B.hx B.hb dL_asks_17 (by decide) (fun _ => ?_) (fun c => absurd c (by decide))
  refine lv_iload_n B.hx B.hb dL_asks_29 rfl (lv_at hl 1 rfl) ?_
  refine lv_iconst (v := nI 2) B.hx B.hb dL_asks_30 (by decide) ?_
  refine lv_icmp_ne (tgt := 42) B.hx B.hb dL_asks_31 (by decide) (fun _ => ?_) (fun c => absurd c (by decide))
  refine lv_iload_n B.hx B.hb dL_asks_42 rfl (lv_at hl 1 rfl) ?_
  refine lv_iconst (v := nI 3) B.hx B.hb dL_asks_43 (by decide) ?_
  refine lv_icmp_ne (tgt := 56) B.hx B.hb dL_asks_44 (by decide) (fun _ => ?_) (fun c => absurd c (by decide))
  refine lv_iload_n B.hx B.hb dL_asks_56 rfl (lv_at hl 1 rfl) ?_
  refine lv_iconst (v := nI 4) B.hx B.hb dL_asks_57 (by decide) ?_
  refine lv_icmp_ne (tgt := 70) B.hx B.hb dL_asks_58 (by decide) (fun _ => ?_) (fun c => absurd c (by decide))
  refine lv_iload_n B.hx B.hb dL_asks_70 rfl (lv_at hl 1 rfl) ?_
  refine lv_iconst (v := nI 5) B.hx B.hb dL_asks_71 (by decide) ?_
  refine lv_icmp_ne (tgt := 94) B.hx B.hb dL_asks_72 (by decide) (fun c => absurd c (by decide)) (fun _ => ?_)
  refine lv_aload_n B.hx B.hb dL_asks_75 rfl (lv_at hl 0 rfl) ?_
  refine lv_iload_n B.hx B.hb dL_asks_76 rfl (lv_at hl 2 rfl) ?_
  refine lv_iload_n B.hx B.hb dL_asks_77 rfl (lv_at hl 3 rfl) ?_
  refine lv_iload B.hx B.hb dL_asks_78 (lv_at hl 4 rfl) ?_
  refine q_join0 (J := 88) (stk := [.int (bI (decide (¬ z ≤ 0))), .int y, .int x, .ref b]) ?_ (fun kJ => ?_)
  rotate_left
  · refine lv_if_le (tgt := 87) B.hx B.hb dL_asks_80 (by decide) (fun c => ?_) (fun c => ?_)
    · refine lv_iconst (v := nI 0) B.hx B.hb dL_asks_87 (by decide) ?_
      refine q_top (v2 := .int (bI (decide (¬ z ≤ 0)))) (congrArg Value.int (bI_f (decide_eq_false (fun h => h c)))) ?_
      exact kJ
    · refine lv_iconst (v := nI 1) B.hx B.hb dL_asks_83 (by decide) ?_
      refine lv_goto (tgt := 88) B.hx B.hb dL_asks_84 (by decide) ?_
      refine q_top (v2 := .int (bI (decide (¬ z ≤ 0)))) (congrArg Value.int (bI_t (decide_eq_true c))) ?_
      exact kJ
  refine q_callV (As := [.int x, .int y, .int (bI (decide (¬ z ≤ 0)))]) (rest := []) B hP hD hS h (cwV 3 B.hts gL_asks_X3_review rfl rfl rfl (by decide +kernel) ⟨(Nat.le_of_ble_eq_true rfl), (Nat.le_of_ble_eq_true rfl)⟩) q0 3 hq rfl rfl rfl hl.1 rfl (Nat.le_of_ble_eq_true rfl) dL_asks_88 ⟨(Nat.le_of_ble_eq_true rfl), (Nat.le_of_ble_eq_true rfl)⟩ (fun E ce q9 H locs hx hP hS hce hcv hcl => ?_) (fun v u H locs hp hP hD hS => ?_)
  · obtain ⟨e1, h9⟩ := hX E hx
    rw [e1] at hP hD
    rcases h9 with ⟨rfl, rfl⟩ | ⟨rfl, rfl⟩ | ⟨rfl, rfl⟩
    · refine q_hand1 B htb rfl (by decide) (by decide +kernel) (by decide) hce hcv hcl ?_
      refine lv_astore (lv' := [(5, .ref q9), (0, .ref b), (1, .int (nI 5)), (2, .int x), (3, .int y), (4, .int z)]) B.hx B.hb dL_asks_184 hl (by decide) rfl (fun ls hl => ?_)
      refine lv_bipush (v := (-7)) B.hx B.hb dL_asks_186 (by decide) ?_
      exact q_iret B hr hP hD hS (u := ()) rfl rfl (Nat.le_of_ble_eq_true rfl) (Nat.le_of_ble_eq_true rfl) dL_asks_188
    · refine q_hand2 (F := q_IOB) B htb (by decide) (by decide +kernel) (by decide) rfl (by decide) (by decide +kernel) (by decide) hce hcv hcl ?_
      refine lv_astore (lv' := [(5, .ref q9), (0, .ref b), (1, .int (nI 5)), (2, .int x), (3, .int y), (4, .int z)]) B.hx B.hb dL_asks_189 hl (by decide) rfl (fun ls hl => ?_)
      refine lv_bipush (v := (-8)) B.hx B.hb dL_asks_191 (by decide) ?_
      exact q_iret B hr hP hD hS (u := ()) rfl rfl (Nat.le_of_ble_eq_true rfl) (Nat.le_of_ble_eq_true rfl) dL_asks_193
    · refine q_hand3 (F := q_IOB) (G := q_ISE) B htb (by decide) (by decide +kernel) (by decide) (by decide) (by decide +kernel) (by decide) rfl (by decide) (by decide +kernel) (by decide) hce hcv hcl ?_
      refine lv_astore (lv' := [(5, .ref q9), (0, .ref b), (1, .int (nI 5)), (2, .int x), (3, .int y), (4, .int z)]) B.hx B.hb dL_asks_194 hl (by decide) rfl (fun ls hl => ?_)
      refine lv_bipush (v := (-9)) B.hx B.hb dL_asks_196 (by decide) ?_
      exact q_iret B hr hP hD hS (u := ()) rfl rfl (Nat.le_of_ble_eq_true rfl) (Nat.le_of_ble_eq_true rfl) dL_asks_198
  · obtain ⟨rfl, e1⟩ := hN v u hp
    rw [e1] at hP hD
    refine lv_goto (tgt := 183) B.hx B.hb dL_asks_91 (by decide) ?_
    exact q_iret B hr hP hD hS (u := ()) rfl rfl (Nat.le_of_ble_eq_true rfl) (Nat.le_of_ble_eq_true rfl) dL_asks_183

set_option maxHeartbeats 4000000 in
theorem cl_asks6 (l : Launch) (D : va_G) (cI cZ cP : ClassId) {S : Type} {post : Option Value → S → Prop} {W' : S → va_W} {xp : String → Prop} {q0 b : Nat} {w w1 : va_W} {fs : List Value} {a x y z : Int32} (hq : w[q0]? = some (b, .inr (3, fs))) (h : q_C l yX3_answer wsX3_answer ({ frames := 7, cells := 3, slots := 18, locals := 102 }) D cI cZ cP [.ref b, .int x, .int y] w post W' xp 3 18) (hN : ∀ v u, post v u → v = some (.int a) ∧ W' u = w1) (hX : ∀ E, xp E → w = w1 ∧ ((E = q_IOB ∧ a = -7) ∨ (E = q_ISE ∧ a = -8) ∨ (E = q_IAE ∧ a = -9))) : q_C l yL_asks wsL_asks ({ frames := 8, cells := 3, slots := 18, locals := 126 }) D cI cZ cP [.ref b, .int (nI 6), .int x, .int y, .int z] w (S := Unit) (fun v _ => v = some (.int a)) (fun _ => w1) (fun _ => False) 3 18 := by
  refine q_ofH (cc := cL_asks) (maxL := 6) (ret := (some .int)) (by decide +kernel) rfl (Nat.le_of_ble_eq_true rfl) ?_
  intro p e s m below meth c A ls B hr htb hP hD hS hl
  have hl : lv_has ls 6 [(0, .ref b), (1, .int (nI 6)), (2, .int x), (3, .int y), (4, .int z)] := hl
  refine lv_iload_n B.hx B.hb dL_asks_0 rfl (lv_at hl 1 rfl) ?_
  refine lv_if_ne (tgt := 15) B.hx B.hb dL_asks_1 (by decide) (fun _ => ?_) (fun c => absurd c (by decide))
  refine lv_iload_n B.hx B.hb dL_asks_15 rfl (lv_at hl 1 rfl) ?_
  refine lv_iconst (v := nI 1) B.hx B.hb dL_asks_16 (by decide) ?_
  refine lv_icmp_ne (tgt := 29) B.hx B.hb dL_asks_17 (by decide) (fun _ => ?_) (fun c => absurd c (by decide))
  refine lv_iload_n B.hx B.hb dL_asks_29 rfl (lv_at hl 1 rfl) ?_
  refine lv_iconst (v := nI 2) B.hx B.hb dL_asks_30 (by decide) ?_
  refine lv_icmp_ne (tgt := 42) B.hx B.hb dL_asks_31 (by decide) (fun _ => ?_) (fun c => absurd c (by decide))
  refine lv_iload_n B.hx B.hb dL_asks_42 rfl (lv_at hl 1 rfl) ?_
  refine lv_iconst (v := nI 3) B.hx B.hb dL_asks_43 (by decide) ?_
  refine lv_icmp_ne (tgt := 56) B.hx B.hb dL_asks_44 (by decide) (fun _ => ?_) (fun c => absurd c (by decide))
  refine lv_iload_n B.hx B.hb dL_asks_56 rfl (lv_at hl 1 rfl) ?_
  refine lv_iconst (v := nI 4) B.hx B.hb dL_asks_57 (by decide) ?_
  refine lv_icmp_ne (tgt := 70) B.hx B.hb dL_asks_58 (by decide) (fun _ => ?_) (fun c => absurd c (by decide))
  refine lv_iload_n B.hx B.hb dL_asks_70 rfl (lv_at hl 1 rfl) ?_
  refine lv_iconst (v := nI 5) B.hx B.hb dL_asks_71 (by decide) ?_
  refine lv_icmp_ne (tgt := 94) B.hx B.hb dL_asks_72 (by decide) (fun _ => ?_) (fun c => absurd c (by decide))
  refine lv_iload_n B.hx B.hb dL_asks_94 rfl (lv_at hl 1 rfl) ?_
  refine lv_bipush (v := nI 6) B.hx B.hb dL_asks_95 (by decide) ?_
  refine lv_icmp_ne (tgt := 109) B.hx B.hb dL_asks_97 (by decide) (fun c => absurd c (by decide)) (fun _ => ?_)
  refine lv_aload_n B.hx B.hb dL_asks_100 rfl (lv_at hl 0 rfl) ?_
  refine lv_iload_n B.hx B.hb dL_asks_101 rfl (lv_at hl 2 rfl) ?_
  refine lv_iload_n B.hx B.hb dL_asks_102 rfl (lv_at hl 3 rfl) ?_
  refine q_callV (As := [.int x, .int y]) (rest := []) B hP hD hS h (cwV 2 B.hts gL_asks_X3_answer rfl rfl rfl (by decide +kernel) ⟨(Nat.le_of_ble_eq_true rfl), (Nat.le_of_ble_eq_true rfl)⟩) q0 3 hq rfl rfl rfl hl.1 rfl (Nat.le_of_ble_eq_true rfl) dL_asks_103 ⟨(Nat.le_of_ble_eq_true rfl), (Nat.le_of_ble_eq_true rfl)⟩ (fun E ce q9 H locs hx hP hS hce hcv hcl => ?_) (fun v u H locs hp hP hD hS => ?_)
  · obtain ⟨e1, h9⟩ := hX E hx
    rw [e1] at hP hD
    rcases h9 with ⟨rfl, rfl⟩ | ⟨rfl, rfl⟩ | ⟨rfl, rfl⟩
    · refine q_hand1 B htb rfl (by decide) (by decide +kernel) (by decide) hce hcv hcl ?_
      refine lv_astore (lv' := [(5, .ref q9), (0, .ref b), (1, .int (nI 6)), (2, .int x), (3, .int y), (4, .int z)]) B.hx B.hb dL_asks_184 hl (by decide) rfl (fun ls hl => ?_)
      refine lv_bipush (v := (-7)) B.hx B.hb dL_asks_186 (by decide) ?_
      exact q_iret B hr hP hD hS (u := ()) rfl rfl (Nat.le_of_ble_eq_true rfl) (Nat.le_of_ble_eq_true rfl) dL_asks_188
    · refine q_hand2 (F := q_IOB) B htb (by decide) (by decide +kernel) (by decide) rfl (by decide) (by decide +kernel) (by decide) hce hcv hcl ?_
      refine lv_astore (lv' := [(5, .ref q9), (0, .ref b), (1, .int (nI 6)), (2, .int x), (3, .int y), (4, .int z)]) B.hx B.hb dL_asks_189 hl (by decide) rfl (fun ls hl => ?_)
      refine lv_bipush (v := (-8)) B.hx B.hb dL_asks_191 (by decide) ?_
      exact q_iret B hr hP hD hS (u := ()) rfl rfl (Nat.le_of_ble_eq_true rfl) (Nat.le_of_ble_eq_true rfl) dL_asks_193
    · refine q_hand3 (F := q_IOB) (G := q_ISE) B htb (by decide) (by decide +kernel) (by decide) (by decide) (by decide +kernel) (by decide) rfl (by decide) (by decide +kernel) (by decide) hce hcv hcl ?_
      refine lv_astore (lv' := [(5, .ref q9), (0, .ref b), (1, .int (nI 6)), (2, .int x), (3, .int y), (4, .int z)]) B.hx B.hb dL_asks_194 hl (by decide) rfl (fun ls hl => ?_)
      refine lv_bipush (v := (-9)) B.hx B.hb dL_asks_196 (by decide) ?_
      exact q_iret B hr hP hD hS (u := ()) rfl rfl (Nat.le_of_ble_eq_true rfl) (Nat.le_of_ble_eq_true rfl) dL_asks_198
  · obtain ⟨rfl, e1⟩ := hN v u hp
    rw [e1] at hP hD
    refine lv_goto (tgt := 183) B.hx B.hb dL_asks_106 (by decide) ?_
    exact q_iret B hr hP hD hS (u := ()) rfl rfl (Nat.le_of_ble_eq_true rfl) (Nat.le_of_ble_eq_true rfl) dL_asks_183

set_option maxHeartbeats 4000000 in
theorem cl_asks7 (l : Launch) (D : va_G) (cI cZ cP : ClassId) {S : Type} {post : Option Value → S → Prop} {W' : S → va_W} {xp : String → Prop} {q0 b : Nat} {w w1 : va_W} {fs : List Value} {a x y z : Int32} (hq : w[q0]? = some (b, .inr (3, fs))) (h : q_C l yL_approves wsL_approves ({ frames := 9, cells := 4, slots := 24, locals := 149 }) D cI cZ cP [.ref b, .int x, .int y, .int z] w post W' xp 4 24) (hN : ∀ v u, post v u → v = some (.int a) ∧ W' u = w1) (hX : ∀ E, xp E → w = w1 ∧ ((E = q_IOB ∧ a = -7) ∨ (E = q_ISE ∧ a = -8) ∨ (E = q_IAE ∧ a = -9))) : q_C l yL_asks wsL_asks ({ frames := 10, cells := 4, slots := 24, locals := 172 }) D cI cZ cP [.ref b, .int (nI 7), .int x, .int y, .int z] w (S := Unit) (fun v _ => v = some (.int a)) (fun _ => w1) (fun _ => False) 4 24 := by
  refine q_ofH (cc := cL_asks) (maxL := 6) (ret := (some .int)) (by decide +kernel) rfl (Nat.le_of_ble_eq_true rfl) ?_
  intro p e s m below meth c A ls B hr htb hP hD hS hl
  have hl : lv_has ls 6 [(0, .ref b), (1, .int (nI 7)), (2, .int x), (3, .int y), (4, .int z)] := hl
  refine lv_iload_n B.hx B.hb dL_asks_0 rfl (lv_at hl 1 rfl) ?_
  refine lv_if_ne (tgt := 15) B.hx B.hb dL_asks_1 (by decide) (fun _ => ?_) (fun c => absurd c (by decide))
  refine lv_iload_n B.hx B.hb dL_asks_15 rfl (lv_at hl 1 rfl) ?_
  refine lv_iconst (v := nI 1) B.hx B.hb dL_asks_16 (by decide) ?_
  refine lv_icmp_ne (tgt := 29) B.hx B.hb dL_asks_17 (by decide) (fun _ => ?_) (fun c => absurd c (by decide))
  refine lv_iload_n B.hx B.hb dL_asks_29 rfl (lv_at hl 1 rfl) ?_
  refine lv_iconst (v := nI 2) B.hx B.hb dL_asks_30 (by decide) ?_
  refine lv_icmp_ne (tgt := 42) B.hx B.hb dL_asks_31 (by decide) (fun _ => ?_) (fun c => absurd c (by decide))
  refine lv_iload_n B.hx B.hb dL_asks_42 rfl (lv_at hl 1 rfl) ?_
  refine lv_iconst (v := nI 3) B.hx B.hb dL_asks_43 (by decide) ?_
  refine lv_icmp_ne (tgt := 56) B.hx B.hb dL_asks_44 (by decide) (fun _ => ?_) (fun c => absurd c (by decide))
  refine lv_iload_n B.hx B.hb dL_asks_56 rfl (lv_at hl 1 rfl) ?_
  refine lv_iconst (v := nI 4) B.hx B.hb dL_asks_57 (by decide) ?_
  refine lv_icmp_ne (tgt := 70) B.hx B.hb dL_asks_58 (by decide) (fun _ => ?_) (fun c => absurd c (by decide))
  refine lv_iload_n B.hx B.hb dL_asks_70 rfl (lv_at hl 1 rfl) ?_
  refine lv_iconst (v := nI 5) B.hx B.hb dL_asks_71 (by decide) ?_
  refine lv_icmp_ne (tgt := 94) B.hx B.hb dL_asks_72 (by decide) (fun _ => ?_) (fun c => absurd c (by decide))
  refine lv_iload_n B.hx B.hb dL_asks_94 rfl (lv_at hl 1 rfl) ?_
  refine lv_bipush (v := nI 6) B.hx B.hb dL_asks_95 (by decide) ?_
  refine lv_icmp_ne (tgt := 109) B.hx B.hb dL_asks_97 (by decide) (fun _ => ?_) (fun c => absurd c (by decide))
  refine lv_iload_n B.hx B.hb dL_asks_109 rfl (lv_at hl 1 rfl) ?_
  refine lv_bipush (v := nI 7) B.hx B.hb dL_asks_110 (by decide) ?_
  refine lv_icmp_ne (tgt := 126) B.hx B.hb dL_asks_112 (by decide) (fun c => absurd c (by decide)) (fun _ => ?_)
  refine lv_aload_n B.hx B.hb dL_asks_115 rfl (lv_at hl 0 rfl) ?_
  refine lv_iload_n B.hx B.hb dL_asks_116 rfl (lv_at hl 2 rfl) ?_
  refine lv_iload_n B.hx B.hb dL_asks_117 rfl (lv_at hl 3 rfl) ?_
  refine lv_iload B.hx B.hb dL_asks_118 (lv_at hl 4 rfl) ?_
  refine q_callS (As := [.ref b, .int x, .int y, .int z]) (rest := []) B hP hD hS h (cwS 4 B.hts gL_asks_L_approves rfl rfl rfl (by decide +kernel) ⟨(Nat.le_of_ble_eq_true rfl), (Nat.le_of_ble_eq_true rfl)⟩) rfl hl.1 rfl (Nat.le_of_ble_eq_true rfl) dL_asks_120 ⟨(Nat.le_of_ble_eq_true rfl), (Nat.le_of_ble_eq_true rfl)⟩ (fun E ce q9 H locs hx hP hS hce hcv hcl => ?_) (fun v u H locs hp hP hD hS => ?_)
  · obtain ⟨e1, h9⟩ := hX E hx
    rw [e1] at hP hD
    rcases h9 with ⟨rfl, rfl⟩ | ⟨rfl, rfl⟩ | ⟨rfl, rfl⟩
    · refine q_hand1 B htb rfl (by decide) (by decide +kernel) (by decide) hce hcv hcl ?_
      refine lv_astore (lv' := [(5, .ref q9), (0, .ref b), (1, .int (nI 7)), (2, .int x), (3, .int y), (4, .int z)]) B.hx B.hb dL_asks_184 hl (by decide) rfl (fun ls hl => ?_)
      refine lv_bipush (v := (-7)) B.hx B.hb dL_asks_186 (by decide) ?_
      exact q_iret B hr hP hD hS (u := ()) rfl rfl (Nat.le_of_ble_eq_true rfl) (Nat.le_of_ble_eq_true rfl) dL_asks_188
    · refine q_hand2 (F := q_IOB) B htb (by decide) (by decide +kernel) (by decide) rfl (by decide) (by decide +kernel) (by decide) hce hcv hcl ?_
      refine lv_astore (lv' := [(5, .ref q9), (0, .ref b), (1, .int (nI 7)), (2, .int x), (3, .int y), (4, .int z)]) B.hx B.hb dL_asks_189 hl (by decide) rfl (fun ls hl => ?_)
      refine lv_bipush (v := (-8)) B.hx B.hb dL_asks_191 (by decide) ?_
      exact q_iret B hr hP hD hS (u := ()) rfl rfl (Nat.le_of_ble_eq_true rfl) (Nat.le_of_ble_eq_true rfl) dL_asks_193
    · refine q_hand3 (F := q_IOB) (G := q_ISE) B htb (by decide) (by decide +kernel) (by decide) (by decide) (by decide +kernel) (by decide) rfl (by decide) (by decide +kernel) (by decide) hce hcv hcl ?_
      refine lv_astore (lv' := [(5, .ref q9), (0, .ref b), (1, .int (nI 7)), (2, .int x), (3, .int y), (4, .int z)]) B.hx B.hb dL_asks_194 hl (by decide) rfl (fun ls hl => ?_)
      refine lv_bipush (v := (-9)) B.hx B.hb dL_asks_196 (by decide) ?_
      exact q_iret B hr hP hD hS (u := ()) rfl rfl (Nat.le_of_ble_eq_true rfl) (Nat.le_of_ble_eq_true rfl) dL_asks_198
  · obtain ⟨rfl, e1⟩ := hN v u hp
    rw [e1] at hP hD
    refine lv_goto (tgt := 183) B.hx B.hb dL_asks_123 (by decide) ?_
    exact q_iret B hr hP hD hS (u := ()) rfl rfl (Nat.le_of_ble_eq_true rfl) (Nat.le_of_ble_eq_true rfl) dL_asks_183

set_option maxHeartbeats 4000000 in
theorem cl_asks8 (l : Launch) (D : va_G) (cI cZ cP : ClassId) {S : Type} {post : Option Value → S → Prop} {W' : S → va_W} {xp : String → Prop} {q0 b : Nat} {w w1 : va_W} {fs : List Value} {a x y z : Int32} (hq : w[q0]? = some (b, .inr (3, fs))) (h : q_C l yX3_confirm wsX3_confirm ({ frames := 8, cells := 3, slots := 18, locals := 124 }) D cI cZ cP [.ref b, .int x, .int y] w post W' xp 3 18) (hN : ∀ v u, post v u → v = some (.int a) ∧ W' u = w1) (hX : ∀ E, xp E → w = w1 ∧ ((E = q_IOB ∧ a = -7) ∨ (E = q_ISE ∧ a = -8) ∨ (E = q_IAE ∧ a = -9))) : q_C l yL_asks wsL_asks ({ frames := 9, cells := 3, slots := 18, locals := 148 }) D cI cZ cP [.ref b, .int (nI 8), .int x, .int y, .int z] w (S := Unit) (fun v _ => v = some (.int a)) (fun _ => w1) (fun _ => False) 3 18 := by
  refine q_ofH (cc := cL_asks) (maxL := 6) (ret := (some .int)) (by decide +kernel) rfl (Nat.le_of_ble_eq_true rfl) ?_
  intro p e s m below meth c A ls B hr htb hP hD hS hl
  have hl : lv_has ls 6 [(0, .ref b), (1, .int (nI 8)), (2, .int x), (3, .int y), (4, .int z)] := hl
  refine lv_iload_n B.hx B.hb dL_asks_0 rfl (lv_at hl 1 rfl) ?_
  refine lv_if_ne (tgt := 15) B.hx B.hb dL_asks_1 (by decide) (fun _ => ?_) (fun c => absurd c (by decide))
  refine lv_iload_n B.hx B.hb dL_asks_15 rfl (lv_at hl 1 rfl) ?_
  refine lv_iconst (v := nI 1) B.hx B.hb dL_asks_16 (by decide) ?_
  refine lv_icmp_ne (tgt := 29) B.hx B.hb dL_asks_17 (by decide) (fun _ => ?_) (fun c => absurd c (by decide))
  refine lv_iload_n B.hx B.hb dL_asks_29 rfl (lv_at hl 1 rfl) ?_
  refine lv_iconst (v := nI 2) B.hx B.hb dL_asks_30 (by decide) ?_
  refine lv_icmp_ne (tgt := 42) B.hx B.hb dL_asks_31 (by decide) (fun _ => ?_) (fun c => absurd c (by decide))
  refine lv_iload_n B.hx B.hb dL_asks_42 rfl (lv_at hl 1 rfl) ?_
  refine lv_iconst (v := nI 3) B.hx B.hb dL_asks_43 (by decide) ?_
  refine lv_icmp_ne (tgt := 56) B.hx B.hb dL_asks_44 (by decide) (fun _ => ?_) (fun c => absurd c (by decide))
  refine lv_iload_n B.hx B.hb dL_asks_56 rfl (lv_at hl 1 rfl) ?_
  refine lv_iconst (v := nI 4) B.hx B.hb dL_asks_57 (by decide) ?_
  refine lv_icmp_ne (tgt := 70) B.hx B.hb dL_asks_58 (by decide) (fun _ => ?_) (fun c => absurd c (by decide))
  refine lv_iload_n B.hx B.hb dL_asks_70 rfl (lv_at hl 1 rfl) ?_
  refine lv_iconst (v := nI 5) B.hx B.hb dL_asks_71 (by decide) ?_
  refine lv_icmp_ne (tgt := 94) B.hx B.hb dL_asks_72 (by decide) (fun _ => ?_) (fun c => absurd c (by decide))
  refine lv_iload_n B.hx B.hb dL_asks_94 rfl (lv_at hl 1 rfl) ?_
  refine lv_bipush (v := nI 6) B.hx B.hb dL_asks_95 (by decide) ?_
  refine lv_icmp_ne (tgt := 109) B.hx B.hb dL_asks_97 (by decide) (fun _ => ?_) (fun c => absurd c (by decide))
  refine lv_iload_n B.hx B.hb dL_asks_109 rfl (lv_at hl 1 rfl) ?_
  refine lv_bipush (v := nI 7) B.hx B.hb dL_asks_110 (by decide) ?_
  refine lv_icmp_ne (tgt := 126) B.hx B.hb dL_asks_112 (by decide) (fun _ => ?_) (fun c => absurd c (by decide))
  refine lv_iload_n B.hx B.hb dL_asks_126 rfl (lv_at hl 1 rfl) ?_
  refine lv_bipush (v := nI 8) B.hx B.hb dL_asks_127 (by decide) ?_
  refine lv_icmp_ne (tgt := 141) B.hx B.hb dL_asks_129 (by decide) (fun c => absurd c (by decide)) (fun _ => ?_)
  refine lv_aload_n B.hx B.hb dL_asks_132 rfl (lv_at hl 0 rfl) ?_
  refine lv_iload_n B.hx B.hb dL_asks_133 rfl (lv_at hl 2 rfl) ?_
  refine lv_iload_n B.hx B.hb dL_asks_134 rfl (lv_at hl 3 rfl) ?_
  refine q_callV (As := [.int x, .int y]) (rest := []) B hP hD hS h (cwV 2 B.hts gL_asks_X3_confirm rfl rfl rfl (by decide +kernel) ⟨(Nat.le_of_ble_eq_true rfl), (Nat.le_of_ble_eq_true rfl)⟩) q0 3 hq rfl rfl rfl hl.1 rfl (Nat.le_of_ble_eq_true rfl) dL_asks_135 ⟨(Nat.le_of_ble_eq_true rfl), (Nat.le_of_ble_eq_true rfl)⟩ (fun E ce q9 H locs hx hP hS hce hcv hcl => ?_) (fun v u H locs hp hP hD hS => ?_)
  · obtain ⟨e1, h9⟩ := hX E hx
    rw [e1] at hP hD
    rcases h9 with ⟨rfl, rfl⟩ | ⟨rfl, rfl⟩ | ⟨rfl, rfl⟩
    · refine q_hand1 B htb rfl (by decide) (by decide +kernel) (by decide) hce hcv hcl ?_
      refine lv_astore (lv' := [(5, .ref q9), (0, .ref b), (1, .int (nI 8)), (2, .int x), (3, .int y), (4, .int z)]) B.hx B.hb dL_asks_184 hl (by decide) rfl (fun ls hl => ?_)
      refine lv_bipush (v := (-7)) B.hx B.hb dL_asks_186 (by decide) ?_
      exact q_iret B hr hP hD hS (u := ()) rfl rfl (Nat.le_of_ble_eq_true rfl) (Nat.le_of_ble_eq_true rfl) dL_asks_188
    · refine q_hand2 (F := q_IOB) B htb (by decide) (by decide +kernel) (by decide) rfl (by decide) (by decide +kernel) (by decide) hce hcv hcl ?_
      refine lv_astore (lv' := [(5, .ref q9), (0, .ref b), (1, .int (nI 8)), (2, .int x), (3, .int y), (4, .int z)]) B.hx B.hb dL_asks_189 hl (by decide) rfl (fun ls hl => ?_)
      refine lv_bipush (v := (-8)) B.hx B.hb dL_asks_191 (by decide) ?_
      exact q_iret B hr hP hD hS (u := ()) rfl rfl (Nat.le_of_ble_eq_true rfl) (Nat.le_of_ble_eq_true rfl) dL_asks_193
    · refine q_hand3 (F := q_IOB) (G := q_ISE) B htb (by decide) (by decide +kernel) (by decide) (by decide) (by decide +kernel) (by decide) rfl (by decide) (by decide +kernel) (by decide) hce hcv hcl ?_
      refine lv_astore (lv' := [(5, .ref q9), (0, .ref b), (1, .int (nI 8)), (2, .int x), (3, .int y), (4, .int z)]) B.hx B.hb dL_asks_194 hl (by decide) rfl (fun ls hl => ?_)
      refine lv_bipush (v := (-9)) B.hx B.hb dL_asks_196 (by decide) ?_
      exact q_iret B hr hP hD hS (u := ()) rfl rfl (Nat.le_of_ble_eq_true rfl) (Nat.le_of_ble_eq_true rfl) dL_asks_198
  · obtain ⟨rfl, e1⟩ := hN v u hp
    rw [e1] at hP hD
    refine lv_goto (tgt := 183) B.hx B.hb dL_asks_138 (by decide) ?_
    exact q_iret B hr hP hD hS (u := ()) rfl rfl (Nat.le_of_ble_eq_true rfl) (Nat.le_of_ble_eq_true rfl) dL_asks_183

set_option maxHeartbeats 4000000 in
theorem cl_asks9 (l : Launch) (D : va_G) (cI cZ cP : ClassId) {S : Type} {post : Option Value → S → Prop} {W' : S → va_W} {xp : String → Prop} {q0 b : Nat} {w w1 : va_W} {fs : List Value} {a x y z : Int32} (hq : w[q0]? = some (b, .inr (3, fs))) (h : q_C l yX3_look wsX3_look ({ frames := 7, cells := 1, slots := 6, locals := 102 }) D cI cZ cP [.ref b, .int x] w post W' xp 1 6) (hN : ∀ v u, post v u → ∃ r : Int32, v = some (.int r) ∧ (r = 0 → a = nI 0) ∧ (¬ r = 0 → a = nI 1) ∧ W' u = w1) (hX : ∀ E, xp E → w = w1 ∧ ((E = q_IOB ∧ a = -7) ∨ (E = q_ISE ∧ a = -8) ∨ (E = q_IAE ∧ a = -9))) : q_C l yL_asks wsL_asks ({ frames := 8, cells := 1, slots := 6, locals := 125 }) D cI cZ cP [.ref b, .int (nI 9), .int x, .int y, .int z] w (S := Unit) (fun v _ => v = some (.int a)) (fun _ => w1) (fun _ => False) 1 6 := by
  refine q_ofH (cc := cL_asks) (maxL := 6) (ret := (some .int)) (by decide +kernel) rfl (Nat.le_of_ble_eq_true rfl) ?_
  intro p e s m below meth c A ls B hr htb hP hD hS hl
  have hl : lv_has ls 6 [(0, .ref b), (1, .int (nI 9)), (2, .int x), (3, .int y), (4, .int z)] := hl
  refine lv_iload_n B.hx B.hb dL_asks_0 rfl (lv_at hl 1 rfl) ?_
  refine lv_if_ne (tgt := 15) B.hx B.hb dL_asks_1 (by decide) (fun _ => ?_) (fun c => absurd c (by decide))
  refine lv_iload_n B.hx B.hb dL_asks_15 rfl (lv_at hl 1 rfl) ?_
  refine lv_iconst (v := nI 1) B.hx B.hb dL_asks_16 (by decide) ?_
  refine lv_icmp_ne (tgt := 29) B.hx B.hb dL_asks_17 (by decide) (fun _ => ?_) (fun c => absurd c (by decide))
  refine lv_iload_n B.hx B.hb dL_asks_29 rfl (lv_at hl 1 rfl) ?_
  refine lv_iconst (v := nI 2) B.hx B.hb dL_asks_30 (by decide) ?_
  refine lv_icmp_ne (tgt := 42) B.hx B.hb dL_asks_31 (by decide) (fun _ => ?_) (fun c => absurd c (by decide))
  refine lv_iload_n B.hx B.hb dL_asks_42 rfl (lv_at hl 1 rfl) ?_
  refine lv_iconst (v := nI 3) B.hx B.hb dL_asks_43 (by decide) ?_
  refine lv_icmp_ne (tgt := 56) B.hx B.hb dL_asks_44 (by decide) (fun _ => ?_) (fun c => absurd c (by decide))
  refine lv_iload_n B.hx B.hb dL_asks_56 rfl (lv_at hl 1 rfl) ?_
  refine lv_iconst (v := nI 4) B.hx B.hb dL_asks_57 (by decide) ?_
  refine lv_icmp_ne (tgt := 70) B.hx B.hb dL_asks_58 (by decide) (fun _ => ?_) (fun c => absurd c (by decide))
  refine lv_iload_n B.hx B.hb dL_asks_70 rfl (lv_at hl 1 rfl) ?_
  refine lv_iconst (v := nI 5) B.hx B.hb dL_asks_71 (by decide) ?_
  refine lv_icmp_ne (tgt := 94) B.hx B.hb dL_asks_72 (by decide) (fun _ => ?_) (fun c => absurd c (by decide))
  refine lv_iload_n B.hx B.hb dL_asks_94 rfl (lv_at hl 1 rfl) ?_
  refine lv_bipush (v := nI 6) B.hx B.hb dL_asks_95 (by decide) ?_
  refine lv_icmp_ne (tgt := 109) B.hx B.hb dL_asks_97 (by decide) (fun _ => ?_) (fun c => absurd c (by decide))
  refine lv_iload_n B.hx B.hb dL_asks_109 rfl (lv_at hl 1 rfl) ?_
  refine lv_bipush (v := nI 7) B.hx B.hb dL_asks_110 (by decide) ?_
  refine lv_icmp_ne (tgt := 126) B.hx B.hb dL_asks_112 (by decide) (fun _ => ?_) (fun c => absurd c (by decide))
  refine lv_iload_n B.hx B.hb dL_asks_126 rfl (lv_at hl 1 rfl) ?_
  refine lv_bipush (v := nI 8) B.hx B.hb dL_asks_127 (by decide) ?_
  refine lv_icmp_ne (tgt := 141) B.hx B.hb dL_asks_129 (by decide) (fun _ => ?_) (fun c => absurd c (by decide))
  refine lv_iload_n B.hx B.hb dL_asks_141 rfl (lv_at hl 1 rfl) ?_
  refine lv_bipush (v := nI 9) B.hx B.hb dL_asks_142 (by decide) ?_
  refine lv_icmp_ne (tgt := 163) B.hx B.hb dL_asks_144 (by decide) (fun c => absurd c (by decide)) (fun _ => ?_)
  refine lv_aload_n B.hx B.hb dL_asks_147 rfl (lv_at hl 0 rfl) ?_
  refine lv_iload_n B.hx B.hb dL_asks_148 rfl (lv_at hl 2 rfl) ?_
  refine q_callV (As := [.int x]) (rest := []) B hP hD hS h (cwV 1 B.hts gL_asks_X3_look rfl rfl rfl (by decide +kernel) ⟨(Nat.le_of_ble_eq_true rfl), (Nat.le_of_ble_eq_true rfl)⟩) q0 3 hq rfl rfl rfl hl.1 rfl (Nat.le_of_ble_eq_true rfl) dL_asks_149 ⟨(Nat.le_of_ble_eq_true rfl), (Nat.le_of_ble_eq_true rfl)⟩ (fun E ce q9 H locs hx hP hS hce hcv hcl => ?_) (fun v u H locs hp hP hD hS => ?_)
  · obtain ⟨e1, h9⟩ := hX E hx
    rw [e1] at hP hD
    rcases h9 with ⟨rfl, rfl⟩ | ⟨rfl, rfl⟩ | ⟨rfl, rfl⟩
    · refine q_hand1 B htb rfl (by decide) (by decide +kernel) (by decide) hce hcv hcl ?_
      refine lv_astore (lv' := [(5, .ref q9), (0, .ref b), (1, .int (nI 9)), (2, .int x), (3, .int y), (4, .int z)]) B.hx B.hb dL_asks_184 hl (by decide) rfl (fun ls hl => ?_)
      refine lv_bipush (v := (-7)) B.hx B.hb dL_asks_186 (by decide) ?_
      exact q_iret B hr hP hD hS (u := ()) rfl rfl (Nat.le_of_ble_eq_true rfl) (Nat.le_of_ble_eq_true rfl) dL_asks_188
    · refine q_hand2 (F := q_IOB) B htb (by decide) (by decide +kernel) (by decide) rfl (by decide) (by decide +kernel) (by decide) hce hcv hcl ?_
      refine lv_astore (lv' := [(5, .ref q9), (0, .ref b), (1, .int (nI 9)), (2, .int x), (3, .int y), (4, .int z)]) B.hx B.hb dL_asks_189 hl (by decide) rfl (fun ls hl => ?_)
      refine lv_bipush (v := (-8)) B.hx B.hb dL_asks_191 (by decide) ?_
      exact q_iret B hr hP hD hS (u := ()) rfl rfl (Nat.le_of_ble_eq_true rfl) (Nat.le_of_ble_eq_true rfl) dL_asks_193
    · refine q_hand3 (F := q_IOB) (G := q_ISE) B htb (by decide) (by decide +kernel) (by decide) (by decide) (by decide +kernel) (by decide) rfl (by decide) (by decide +kernel) (by decide) hce hcv hcl ?_
      refine lv_astore (lv' := [(5, .ref q9), (0, .ref b), (1, .int (nI 9)), (2, .int x), (3, .int y), (4, .int z)]) B.hx B.hb dL_asks_194 hl (by decide) rfl (fun ls hl => ?_)
      refine lv_bipush (v := (-9)) B.hx B.hb dL_asks_196 (by decide) ?_
      exact q_iret B hr hP hD hS (u := ()) rfl rfl (Nat.le_of_ble_eq_true rfl) (Nat.le_of_ble_eq_true rfl) dL_asks_198
  · obtain ⟨r, rfl, h0, h1, e1⟩ := hN v u hp
    rw [e1] at hP hD
    refine lv_if_eq (tgt := 159) B.hx B.hb dL_asks_152 (by decide) (fun c => ?_) (fun c => ?_)
    · obtain rfl := h0 c
      refine lv_iconst (v := nI 0) B.hx B.hb dL_asks_159 (by decide) ?_
      refine lv_goto (tgt := 183) B.hx B.hb dL_asks_160 (by decide) ?_
      exact q_iret B hr hP hD hS (u := ()) rfl rfl (Nat.le_of_ble_eq_true rfl) (Nat.le_of_ble_eq_true rfl) dL_asks_183
    · obtain rfl := h1 c
      refine lv_iconst (v := nI 1) B.hx B.hb dL_asks_155 (by decide) ?_
      refine lv_goto (tgt := 183) B.hx B.hb dL_asks_156 (by decide) ?_
      exact q_iret B hr hP hD hS (u := ()) rfl rfl (Nat.le_of_ble_eq_true rfl) (Nat.le_of_ble_eq_true rfl) dL_asks_183

set_option maxHeartbeats 4000000 in
theorem cl_asks10 (l : Launch) (D : va_G) (cI cZ cP : ClassId) {S : Type} {post : Option Value → S → Prop} {W' : S → va_W} {xp : String → Prop} {q0 b : Nat} {w w1 : va_W} {fs : List Value} {a x y z : Int32} (hq : w[q0]? = some (b, .inr (3, fs))) (h : q_C l yX3_copy wsX3_copy ({ frames := 7, cells := 3, slots := 18, locals := 104 }) D cI cZ cP [.ref b, .int x, .int y] w post W' xp 3 18) (hN : ∀ v u, post v u → v = some (.int a) ∧ W' u = w1) (hX : ∀ E, xp E → w = w1 ∧ ((E = q_IOB ∧ a = -7) ∨ (E = q_ISE ∧ a = -8) ∨ (E = q_IAE ∧ a = -9))) : q_C l yL_asks wsL_asks ({ frames := 8, cells := 3, slots := 18, locals := 127 }) D cI cZ cP [.ref b, .int (nI 10), .int x, .int y, .int z] w (S := Unit) (fun v _ => v = some (.int a)) (fun _ => w1) (fun _ => False) 3 18 := by
  refine q_ofH (cc := cL_asks) (maxL := 6) (ret := (some .int)) (by decide +kernel) rfl (Nat.le_of_ble_eq_true rfl) ?_
  intro p e s m below meth c A ls B hr htb hP hD hS hl
  have hl : lv_has ls 6 [(0, .ref b), (1, .int (nI 10)), (2, .int x), (3, .int y), (4, .int z)] := hl
  refine lv_iload_n B.hx B.hb dL_asks_0 rfl (lv_at hl 1 rfl) ?_
  refine lv_if_ne (tgt := 15) B.hx B.hb dL_asks_1 (by decide) (fun _ => ?_) (fun c => absurd c (by decide))
  refine lv_iload_n B.hx B.hb dL_asks_15 rfl (lv_at hl 1 rfl) ?_
  refine lv_iconst (v := nI 1) B.hx B.hb dL_asks_16 (by decide) ?_
  refine lv_icmp_ne (tgt := 29) B.hx B.hb dL_asks_17 (by decide) (fun _ => ?_) (fun c => absurd c (by decide))
  refine lv_iload_n B.hx B.hb dL_asks_29 rfl (lv_at hl 1 rfl) ?_
  refine lv_iconst (v := nI 2) B.hx B.hb dL_asks_30 (by decide) ?_
  refine lv_icmp_ne (tgt := 42) B.hx B.hb dL_asks_31 (by decide) (fun _ => ?_) (fun c => absurd c (by decide))
  refine lv_iload_n B.hx B.hb dL_asks_42 rfl (lv_at hl 1 rfl) ?_
  refine lv_iconst (v := nI 3) B.hx B.hb dL_asks_43 (by decide) ?_
  refine lv_icmp_ne (tgt := 56) B.hx B.hb dL_asks_44 (by decide) (fun _ => ?_) (fun c => absurd c (by decide))
  refine lv_iload_n B.hx B.hb dL_asks_56 rfl (lv_at hl 1 rfl) ?_
  refine lv_iconst (v := nI 4) B.hx B.hb dL_asks_57 (by decide) ?_
  refine lv_icmp_ne (tgt := 70) B.hx B.hb dL_asks_58 (by decide) (fun _ => ?_) (fun c => absurd c (by decide))
  refine lv_iload_n B.hx B.hb dL_asks_70 rfl (lv_at hl 1 rfl) ?_
  refine lv_iconst (v := nI 5) B.hx B.hb dL_asks_71 (by decide) ?_
  refine lv_icmp_ne (tgt := 94) B.hx B.hb dL_asks_72 (by decide) (fun _ => ?_) (fun c => absurd c (by decide))
  refine lv_iload_n B.hx B.hb dL_asks_94 rfl (lv_at hl 1 rfl) ?_
  refine lv_bipush (v := nI 6) B.hx B.hb dL_asks_95 (by decide) ?_
  refine lv_icmp_ne (tgt := 109) B.hx B.hb dL_asks_97 (by decide) (fun _ => ?_) (fun c => absurd c (by decide))
  refine lv_iload_n B.hx B.hb dL_asks_109 rfl (lv_at hl 1 rfl) ?_
  refine lv_bipush (v := nI 7) B.hx B.hb dL_asks_110 (by decide) ?_
  refine lv_icmp_ne (tgt := 126) B.hx B.hb dL_asks_112 (by decide) (fun _ => ?_) (fun c => absurd c (by decide))
  refine lv_iload_n B.hx B.hb dL_asks_126 rfl (lv_at hl 1 rfl) ?_
  refine lv_bipush (v := nI 8) B.hx B.hb dL_asks_127 (by decide) ?_
  refine lv_icmp_ne (tgt := 141) B.hx B.hb dL_asks_129 (by decide) (fun _ => ?_) (fun c => absurd c (by decide))
  refine lv_iload_n B.hx B.hb dL_asks_141 rfl (lv_at hl 1 rfl) ?_
  refine lv_bipush (v := nI 9) B.hx B.hb dL_asks_142 (by decide) ?_
  refine lv_icmp_ne (tgt := 163) B.hx B.hb dL_asks_144 (by decide) (fun _ => ?_) (fun c => absurd c (by decide))
  refine lv_iload_n B.hx B.hb dL_asks_163 rfl (lv_at hl 1 rfl) ?_
  refine lv_bipush (v := nI 10) B.hx B.hb dL_asks_164 (by decide) ?_
  refine lv_icmp_ne (tgt := 178) B.hx B.hb dL_asks_166 (by decide) (fun c => absurd c (by decide)) (fun _ => ?_)
  refine lv_aload_n B.hx B.hb dL_asks_169 rfl (lv_at hl 0 rfl) ?_
  refine lv_iload_n B.hx B.hb dL_asks_170 rfl (lv_at hl 2 rfl) ?_
  refine lv_iload_n B.hx B.hb dL_asks_171 rfl (lv_at hl 3 rfl) ?_
  refine q_callV (As := [.int x, .int y]) (rest := []) B hP hD hS h (cwV 2 B.hts gL_asks_X3_copy rfl rfl rfl (by decide +kernel) ⟨(Nat.le_of_ble_eq_true rfl), (Nat.le_of_ble_eq_true rfl)⟩) q0 3 hq rfl rfl rfl hl.1 rfl (Nat.le_of_ble_eq_true rfl) dL_asks_172 ⟨(Nat.le_of_ble_eq_true rfl), (Nat.le_of_ble_eq_true rfl)⟩ (fun E ce q9 H locs hx hP hS hce hcv hcl => ?_) (fun v u H locs hp hP hD hS => ?_)
  · obtain ⟨e1, h9⟩ := hX E hx
    rw [e1] at hP hD
    rcases h9 with ⟨rfl, rfl⟩ | ⟨rfl, rfl⟩ | ⟨rfl, rfl⟩
    · refine q_hand1 B htb rfl (by decide) (by decide +kernel) (by decide) hce hcv hcl ?_
      refine lv_astore (lv' := [(5, .ref q9), (0, .ref b), (1, .int (nI 10)), (2, .int x), (3, .int y), (4, .int z)]) B.hx B.hb dL_asks_184 hl (by decide) rfl (fun ls hl => ?_)
      refine lv_bipush (v := (-7)) B.hx B.hb dL_asks_186 (by decide) ?_
      exact q_iret B hr hP hD hS (u := ()) rfl rfl (Nat.le_of_ble_eq_true rfl) (Nat.le_of_ble_eq_true rfl) dL_asks_188
    · refine q_hand2 (F := q_IOB) B htb (by decide) (by decide +kernel) (by decide) rfl (by decide) (by decide +kernel) (by decide) hce hcv hcl ?_
      refine lv_astore (lv' := [(5, .ref q9), (0, .ref b), (1, .int (nI 10)), (2, .int x), (3, .int y), (4, .int z)]) B.hx B.hb dL_asks_189 hl (by decide) rfl (fun ls hl => ?_)
      refine lv_bipush (v := (-8)) B.hx B.hb dL_asks_191 (by decide) ?_
      exact q_iret B hr hP hD hS (u := ()) rfl rfl (Nat.le_of_ble_eq_true rfl) (Nat.le_of_ble_eq_true rfl) dL_asks_193
    · refine q_hand3 (F := q_IOB) (G := q_ISE) B htb (by decide) (by decide +kernel) (by decide) (by decide) (by decide +kernel) (by decide) rfl (by decide) (by decide +kernel) (by decide) hce hcv hcl ?_
      refine lv_astore (lv' := [(5, .ref q9), (0, .ref b), (1, .int (nI 10)), (2, .int x), (3, .int y), (4, .int z)]) B.hx B.hb dL_asks_194 hl (by decide) rfl (fun ls hl => ?_)
      refine lv_bipush (v := (-9)) B.hx B.hb dL_asks_196 (by decide) ?_
      exact q_iret B hr hP hD hS (u := ()) rfl rfl (Nat.le_of_ble_eq_true rfl) (Nat.le_of_ble_eq_true rfl) dL_asks_198
  · obtain ⟨rfl, e1⟩ := hN v u hp
    rw [e1] at hP hD
    refine lv_goto (tgt := 183) B.hx B.hb dL_asks_175 (by decide) ?_
    exact q_iret B hr hP hD hS (u := ()) rfl rfl (Nat.le_of_ble_eq_true rfl) (Nat.le_of_ble_eq_true rfl) dL_asks_183

set_option maxHeartbeats 4000000 in
theorem cl_asks11 (l : Launch) (D : va_G) (cI cZ cP : ClassId) {S : Type} {post : Option Value → S → Prop} {W' : S → va_W} {xp : String → Prop} {q0 b : Nat} {w w1 : va_W} {fs : List Value} {a x y z : Int32} (hq : w[q0]? = some (b, .inr (3, fs))) (h : q_C l yX3_takeDown wsX3_takeDown ({ frames := 6, cells := 1, slots := 6, locals := 82 }) D cI cZ cP [.ref b, .int x] w post W' xp 1 6) (hN : ∀ v u, post v u → v = some (.int a) ∧ W' u = w1) (hX : ∀ E, xp E → w = w1 ∧ ((E = q_IOB ∧ a = -7) ∨ (E = q_ISE ∧ a = -8) ∨ (E = q_IAE ∧ a = -9))) : q_C l yL_asks wsL_asks ({ frames := 7, cells := 1, slots := 6, locals := 104 }) D cI cZ cP [.ref b, .int (nI 11), .int x, .int y, .int z] w (S := Unit) (fun v _ => v = some (.int a)) (fun _ => w1) (fun _ => False) 1 6 := by
  refine q_ofH (cc := cL_asks) (maxL := 6) (ret := (some .int)) (by decide +kernel) rfl (Nat.le_of_ble_eq_true rfl) ?_
  intro p e s m below meth c A ls B hr htb hP hD hS hl
  have hl : lv_has ls 6 [(0, .ref b), (1, .int (nI 11)), (2, .int x), (3, .int y), (4, .int z)] := hl
  refine lv_iload_n B.hx B.hb dL_asks_0 rfl (lv_at hl 1 rfl) ?_
  refine lv_if_ne (tgt := 15) B.hx B.hb dL_asks_1 (by decide) (fun _ => ?_) (fun c => absurd c (by decide))
  refine lv_iload_n B.hx B.hb dL_asks_15 rfl (lv_at hl 1 rfl) ?_
  refine lv_iconst (v := nI 1) B.hx B.hb dL_asks_16 (by decide) ?_
  refine lv_icmp_ne (tgt := 29) B.hx B.hb dL_asks_17 (by decide) (fun _ => ?_) (fun c => absurd c (by decide))
  refine lv_iload_n B.hx B.hb dL_asks_29 rfl (lv_at hl 1 rfl) ?_
  refine lv_iconst (v := nI 2) B.hx B.hb dL_asks_30 (by decide) ?_
  refine lv_icmp_ne (tgt := 42) B.hx B.hb dL_asks_31 (by decide) (fun _ => ?_) (fun c => absurd c (by decide))
  refine lv_iload_n B.hx B.hb dL_asks_42 rfl (lv_at hl 1 rfl) ?_
  refine lv_iconst (v := nI 3) B.hx B.hb dL_asks_43 (by decide) ?_
  refine lv_icmp_ne (tgt := 56) B.hx B.hb dL_asks_44 (by decide) (fun _ => ?_) (fun c => absurd c (by decide))
  refine lv_iload_n B.hx B.hb dL_asks_56 rfl (lv_at hl 1 rfl) ?_
  refine lv_iconst (v := nI 4) B.hx B.hb dL_asks_57 (by decide) ?_
  refine lv_icmp_ne (tgt := 70) B.hx B.hb dL_asks_58 (by decide) (fun _ => ?_) (fun c => absurd c (by decide))
  refine lv_iload_n B.hx B.hb dL_asks_70 rfl (lv_at hl 1 rfl) ?_
  refine lv_iconst (v := nI 5) B.hx B.hb dL_asks_71 (by decide) ?_
  refine lv_icmp_ne (tgt := 94) B.hx B.hb dL_asks_72 (by decide) (fun _ => ?_) (fun c => absurd c (by decide))
  refine lv_iload_n B.hx B.hb dL_asks_94 rfl (lv_at hl 1 rfl) ?_
  refine lv_bipush (v := nI 6) B.hx B.hb dL_asks_95 (by decide) ?_
  refine lv_icmp_ne (tgt := 109) B.hx B.hb dL_asks_97 (by decide) (fun _ => ?_) (fun c => absurd c (by decide))
  refine lv_iload_n B.hx B.hb dL_asks_109 rfl (lv_at hl 1 rfl) ?_
  refine lv_bipush (v := nI 7) B.hx B.hb dL_asks_110 (by decide) ?_
  refine lv_icmp_ne (tgt := 126) B.hx B.hb dL_asks_112 (by decide) (fun _ => ?_) (fun c => absurd c (by decide))
  refine lv_iload_n B.hx B.hb dL_asks_126 rfl (lv_at hl 1 rfl) ?_
  refine lv_bipush (v := nI 8) B.hx B.hb dL_asks_127 (by decide) ?_
  refine lv_icmp_ne (tgt := 141) B.hx B.hb dL_asks_129 (by decide) (fun _ => ?_) (fun c => absurd c (by decide))
  refine lv_iload_n B.hx B.hb dL_asks_141 rfl (lv_at hl 1 rfl) ?_
  refine lv_bipush (v := nI 9) B.hx B.hb dL_asks_142 (by decide) ?_
  refine lv_icmp_ne (tgt := 163) B.hx B.hb dL_asks_144 (by decide) (fun _ => ?_) (fun c => absurd c (by decide))
  refine lv_iload_n B.hx B.hb dL_asks_163 rfl (lv_at hl 1 rfl) ?_
  refine lv_bipush (v := nI 10) B.hx B.hb dL_asks_164 (by decide) ?_
  refine lv_icmp_ne (tgt := 178) B.hx B.hb dL_asks_166 (by decide) (fun _ => ?_) (fun c => absurd c (by decide))
  refine lv_aload_n B.hx B.hb dL_asks_178 rfl (lv_at hl 0 rfl) ?_
  refine lv_iload_n B.hx B.hb dL_asks_179 rfl (lv_at hl 2 rfl) ?_
  refine q_callV (As := [.int x]) (rest := []) B hP hD hS h (cwV 1 B.hts gL_asks_X3_takeDown rfl rfl rfl (by decide +kernel) ⟨(Nat.le_of_ble_eq_true rfl), (Nat.le_of_ble_eq_true rfl)⟩) q0 3 hq rfl rfl rfl hl.1 rfl (Nat.le_of_ble_eq_true rfl) dL_asks_180 ⟨(Nat.le_of_ble_eq_true rfl), (Nat.le_of_ble_eq_true rfl)⟩ (fun E ce q9 H locs hx hP hS hce hcv hcl => ?_) (fun v u H locs hp hP hD hS => ?_)
  · obtain ⟨e1, h9⟩ := hX E hx
    rw [e1] at hP hD
    rcases h9 with ⟨rfl, rfl⟩ | ⟨rfl, rfl⟩ | ⟨rfl, rfl⟩
    · refine q_hand1 B htb rfl (by decide) (by decide +kernel) (by decide) hce hcv hcl ?_
      refine lv_astore (lv' := [(5, .ref q9), (0, .ref b), (1, .int (nI 11)), (2, .int x), (3, .int y), (4, .int z)]) B.hx B.hb dL_asks_184 hl (by decide) rfl (fun ls hl => ?_)
      refine lv_bipush (v := (-7)) B.hx B.hb dL_asks_186 (by decide) ?_
      exact q_iret B hr hP hD hS (u := ()) rfl rfl (Nat.le_of_ble_eq_true rfl) (Nat.le_of_ble_eq_true rfl) dL_asks_188
    · refine q_hand2 (F := q_IOB) B htb (by decide) (by decide +kernel) (by decide) rfl (by decide) (by decide +kernel) (by decide) hce hcv hcl ?_
      refine lv_astore (lv' := [(5, .ref q9), (0, .ref b), (1, .int (nI 11)), (2, .int x), (3, .int y), (4, .int z)]) B.hx B.hb dL_asks_189 hl (by decide) rfl (fun ls hl => ?_)
      refine lv_bipush (v := (-8)) B.hx B.hb dL_asks_191 (by decide) ?_
      exact q_iret B hr hP hD hS (u := ()) rfl rfl (Nat.le_of_ble_eq_true rfl) (Nat.le_of_ble_eq_true rfl) dL_asks_193
    · refine q_hand3 (F := q_IOB) (G := q_ISE) B htb (by decide) (by decide +kernel) (by decide) (by decide) (by decide +kernel) (by decide) rfl (by decide) (by decide +kernel) (by decide) hce hcv hcl ?_
      refine lv_astore (lv' := [(5, .ref q9), (0, .ref b), (1, .int (nI 11)), (2, .int x), (3, .int y), (4, .int z)]) B.hx B.hb dL_asks_194 hl (by decide) rfl (fun ls hl => ?_)
      refine lv_bipush (v := (-9)) B.hx B.hb dL_asks_196 (by decide) ?_
      exact q_iret B hr hP hD hS (u := ()) rfl rfl (Nat.le_of_ble_eq_true rfl) (Nat.le_of_ble_eq_true rfl) dL_asks_198
  · obtain ⟨rfl, e1⟩ := hN v u hp
    rw [e1] at hP hD
    exact q_iret B hr hP hD hS (u := ()) rfl rfl (Nat.le_of_ble_eq_true rfl) (Nat.le_of_ble_eq_true rfl) dL_asks_183
