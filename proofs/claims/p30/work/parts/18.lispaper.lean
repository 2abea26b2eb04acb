/-! isPaper: over the answers of the class. -/
/-- an old copy of the paper, by the law's row q -/
def olf (F : Nat → Nat → Int32) (j : Nat) (ver : Int32) (k : Nat) : Bool := decide (F 3 (3 * k) = nI j) && decide (¬ F 3 (3 * k + 2) ≤ 0) && decide (¬ F 3 (3 * k + 1) = ver)
/-- how the step and the one it waits for go together -/
def stw (F : Nat → Nat → Int32) (j m0 m1 s0 : Nat) (wt : Int32) : Prop :=
  (s0 = 1 ∧ wt = -1 ∧ m0 = 0) ∨ (s0 = 1 ∧ ∃ p, p < 6 ∧ wt = nI p ∧ m0.testBit p = true) ∨ (s0 = 2 ∧ wt = F 0 (8 * j + 1)) ∨ (s0 = 4 ∧ ∃ p, p < 6 ∧ wt = nI p ∧ m1.testBit p = true) ∨ (s0 = 0 ∧ wt = -1) ∨ (s0 = 3 ∧ wt = -1) ∨ (s0 = 5 ∧ wt = -1)

set_option maxHeartbeats 4000000 in
set_option maxRecDepth 100000 in
theorem cl_isPaper0 (l : Launch) (D : va_G) (cI cZ cP : ClassId) (o : Nat → Nat) (F : Nat → Nat → Int32) (wk : va_W) {q0 b : Nat} {fs : List Value} (hq : wk[q0]? = some (b, .inr (3, fs))) (j td qn m0 m1 s0 : Nat) (wt : Int32) (du : Bool) (hj : j < 8) (hqn : qn ≤ 20) (htd : td ≤ 1000) (hs5 : s0 ≤ 5) (hm0 : m0 < 64) (hm1 : m1 < 64) (f5 : F 0 (8 * j + 5) = nI 0) (f43 : F 4 3 = nI qn) (f40 : F 4 0 = nI td) (f70 : F 7 (2 * j) = nI m0) (f71 : F 7 (2 * j + 1) = nI m1) (hst0 : nI s0 = 0 ↔ F 0 (8 * j) = 0) (hw : stw F j m0 m1 s0 wt) (h45 : 4 ≤ s0 → ¬ F 0 (8 * j + 4) ≤ 0) (h3 : s0 = 3 → F 0 (8 * j + 4) = 0) (hdu : du = false) (cs : q_C l yX3_step wsX3_step ({ frames := 2, cells := 0, slots := 0, locals := 42 }) D cI cZ cP [.ref b, .int (nI j)] wk (S := Unit) (fun v _ => v = some (.int (nI s0))) (fun _ => wk) (fun _ => False) 0 0) (cwt : q_C l yX3_waitsFor wsX3_waitsFor ({ frames := 3, cells := 0, slots := 0, locals := 62 }) D cI cZ cP [.ref b, .int (nI j)] wk (S := Unit) (fun v _ => v = some (.int wt)) (fun _ => wk) (fun _ => False) 0 0) (ci : q_C l yX3_inForce wsX3_inForce ({ frames := 1, cells := 0, slots := 0, locals := 22 }) D cI cZ cP [.ref b, .int (nI j)] wk (S := Unit) (fun v _ => v = some (.int (-1))) (fun _ => wk) (fun _ => False) 0 0) (co1 : q_C l yX3_inForceOn wsX3_inForceOn ({ frames := 7, cells := 1, slots := 6, locals := 104 }) D cI cZ cP [.ref b, .int (nI j), .int (nI td)] wk (S := Unit) (fun v _ => v = some (.int (-1))) (fun _ => wk) (fun _ => False) 1 6) (cd : q_C l yX3_isDue wsX3_isDue ({ frames := 1, cells := 0, slots := 0, locals := 22 }) D cI cZ cP [.ref b, .int (nI j)] wk (S := Unit) (fun v _ => v = some (.int (bI du))) (fun _ => wk) (fun _ => False) 0 0) (cod : q_C l yX3_outOfDate wsX3_outOfDate ({ frames := 1, cells := 0, slots := 0, locals := 24 }) D cI cZ cP [.ref b, .int (nI j)] wk (S := Unit) (fun v _ => v = some (.int (nI (pN (olf F j (-1)) qn)))) (fun _ => wk) (fun _ => False) 0 0) (ct : q_C l yX3_text wsX3_text ({ frames := 1, cells := 0, slots := 0, locals := 22 }) D cI cZ cP [.ref b, .int (nI j)] wk (S := Unit) (fun v _ => v = some (.int (-1))) (fun _ => wk) (fun _ => False) 0 0) : q_C l yL_isPaper wsL_isPaper ({ frames := 8, cells := 7, slots := 42, locals := 127 }) D cI cZ cP [.ref b, .ref (o 0), .ref (o 4), .ref (o 7), .ref (o 3), .int (nI j)] (lw cI o F ++ wk) (S := Unit) (fun v _ => v = some (.int (nI 1))) (fun _ => (lw cI o F ++ wk)) (fun _ => False) 7 42 := by
  refine q_of (cc := cL_isPaper) (maxL := 14) (ret := (some .boolean)) (by decide +kernel) rfl (Nat.le_of_ble_eq_true rfl) ?_
  intro p e s m below meth c A ls B hr htb hmn hP hD hS hl
  have hl : lv_has ls 14 [(0, .ref b), (1, .ref (o 0)), (2, .ref (o 4)), (3, .ref (o 7)), (4, .ref (o 3)), (5, .int (nI j))] := hl
  have hpn := pN_le (olf F j (-1)) qn
  subst hdu
  refine lv_bipush (v := (nI 8)) B.hx B.hb dL_isPaper_0 (by decide) ?_
  refine lv_iload B.hx B.hb dL_isPaper_2 (lv_at hl 5 rfl) ?_
  refine lv_imul B.hx B.hb dL_isPaper_4 ?_
  refine q_top (v2 := .int (nI (8 * j))) (congrArg Value.int (pk_mul _ _)) ?_
  refine lv_istore (lv' := [(6, .int (nI (8 * j))), (0, .ref b), (1, .ref (o 0)), (2, .ref (o 4)), (3, .ref (o 7)), (4, .ref (o 3)), (5, .int (nI j))]) B.hx B.hb dL_isPaper_5 hl (by decide) rfl (fun ls hl => ?_)
  refine lv_aload_n B.hx B.hb dL_isPaper_7 rfl (lv_at hl 2 rfl) ?_
  refine lv_iload B.hx B.hb dL_isPaper_8 (lv_at hl 0 rfl) ?_
  refine lv_iconst (v := (nI 5)) B.hx B.hb dL_isPaper_10 (by decide) ?_
  refine lv_iadd B.hx B.hb dL_isPaper_11 ?_
  refine q_top (v2 := .int (nI (8 * j + 5))) (congrArg Value.int (nI_add _ _)) ?_
  refine q_iald (f := (F 0)) B hP 0 rfl (j := 8 * j + 5) rfl (by omega) (by decide) dL_isPaper_12 ?_
  refine q_top (v2 := .int (nI 0)) (congrArg Value.int f5) ?_
  refine lv_iconst (v := (nI 1)) B.hx B.hb dL_isPaper_13 (by decide) ?_
  refine lv_isub B.hx B.hb dL_isPaper_14 ?_
  refine q_top (v2 := .int (-1)) (by decide) ?_
  refine lv_istore (lv' := [(7, .int (-1)), (6, .int (nI (8 * j))), (0, .ref b), (1, .ref (o 0)), (2, .ref (o 4)), (3, .ref (o 7)), (4, .ref (o 3)), (5, .int (nI j))]) B.hx B.hb dL_isPaper_15 hl (by decide) rfl (fun ls hl => ?_)
  refine lv_aload_n B.hx B.hb dL_isPaper_17 rfl (lv_at hl 2 rfl) ?_
  refine lv_iload B.hx B.hb dL_isPaper_18 (lv_at hl 7 rfl) ?_
  refine q_callV (As := [.int (nI j)]) (rest := []) B hP hD hS (cs.fl (lw cI o F)) (cwV 1 B.hts gL_isPaper_X3_step rfl rfl rfl (by decide +kernel) ⟨(Nat.le_of_ble_eq_true rfl), (Nat.le_of_ble_eq_true rfl)⟩) (q0 + 8) 3 hq rfl rfl rfl hl.1 rfl (Nat.le_of_ble_eq_true rfl) dL_isPaper_20 ⟨(Nat.le_of_ble_eq_true rfl), (Nat.le_of_ble_eq_true rfl)⟩ (fun E ce q9 H locs hx => False.elim hx) (fun v u H locs hp hP hD hS => ?_)
  obtain rfl := hp
  have hP : va_P D vwCl (lw cI o F ++ wk) H := hP
  have hD : va_D A (lw cI o F ++ wk) := hD
  refine lv_istore (lv' := [(8, .int (nI s0)), (7, .int (-1)), (6, .int (nI (8 * j))), (0, .ref b), (1, .ref (o 0)), (2, .ref (o 4)), (3, .ref (o 7)), (4, .ref (o 3)), (5, .int (nI j))]) B.hx B.hb dL_isPaper_23 hl (by decide) rfl (fun ls hl => ?_)
  refine lv_aload_n B.hx B.hb dL_isPaper_25 rfl (lv_at hl 3 rfl) ?_
  refine lv_iload B.hx B.hb dL_isPaper_26 (lv_at hl 8 rfl) ?_
  refine q_callV (As := [.int (nI j)]) (rest := []) B hP hD hS (cwt.fl (lw cI o F)) (cwV 1 B.hts gL_isPaper_X3_waitsFor rfl rfl rfl (by decide +kernel) ⟨(Nat.le_of_ble_eq_true rfl), (Nat.le_of_ble_eq_true rfl)⟩) (q0 + 8) 3 hq rfl rfl rfl hl.1 rfl (Nat.le_of_ble_eq_true rfl) dL_isPaper_28 ⟨(Nat.le_of_ble_eq_true rfl), (Nat.le_of_ble_eq_true rfl)⟩ (fun E ce q9 H locs hx => False.elim hx) (fun v u H locs hp hP hD hS => ?_)
  obtain rfl := hp
  have hP : va_P D vwCl (lw cI o F ++ wk) H := hP
  have hD : va_D A (lw cI o F ++ wk) := hD
  refine lv_istore (lv' := [(9, .int wt), (8, .int (nI s0)), (7, .int (-1)), (6, .int (nI (8 * j))), (0, .ref b), (1, .ref (o 0)), (2, .ref (o 4)), (3, .ref (o 7)), (4, .ref (o 3)), (5, .int (nI j))]) B.hx B.hb dL_isPaper_31 hl (by decide) rfl (fun ls hl => ?_)
  refine lv_iconst (v := (nI 0)) B.hx B.hb dL_isPaper_33 (by decide) ?_
  refine lv_istore (lv' := [(10, .int (nI 0)), (9, .int wt), (8, .int (nI s0)), (7, .int (-1)), (6, .int (nI (8 * j))), (0, .ref b), (1, .ref (o 0)), (2, .ref (o 4)), (3, .ref (o 7)), (4, .ref (o 3)), (5, .int (nI j))]) B.hx B.hb dL_isPaper_34 hl (by decide) rfl (fun ls hl => ?_)
  refine lv_iconst (v := (nI 0)) B.hx B.hb dL_isPaper_36 (by decide) ?_
  refine lv_istore (lv' := [(11, .int (nI 0)), (10, .int (nI 0)), (9, .int wt), (8, .int (nI s0)), (7, .int (-1)), (6, .int (nI (8 * j))), (0, .ref b), (1, .ref (o 0)), (2, .ref (o 4)), (3, .ref (o 7)), (4, .ref (o 3)), (5, .int (nI j))]) B.hx B.hb dL_isPaper_37 hl (by decide) rfl (fun ls hl => ?_)
  refine q_loop2 (nL := 14) (w := (lw cI o F ++ wk)) (fun i : Nat => i ≤ qn) (fun i : Nat => qn - i) (fun i : Nat => [(11, .int (nI i)), (10, .int (nI (pN (olf F j (-1)) i))), (9, .int wt), (8, .int (nI s0)), (7, .int (-1)), (6, .int (nI (8 * j))), (0, .ref b), (1, .ref (o 0)), (2, .ref (o 4)), (3, .ref (o 7)), (4, .ref (o 3)), (5, .int (nI j))]) (0) (Nat.zero_le _) (lv_sub hl [0, 1, 2, 3, 4, 5, 6, 7, 8, 9, 10, 11] rfl) hP hD hS ?_
  intro i1 hI2 ih3 ls H locs hl hP hD hS
  have hI2 : i1 ≤ qn := hI2
  have hl : lv_has ls 14 [(11, .int (nI i1)), (10, .int (nI (pN (olf F j (-1)) i1))), (9, .int wt), (8, .int (nI s0)), (7, .int (-1)), (6, .int (nI (8 * j))), (0, .ref b), (1, .ref (o 0)), (2, .ref (o 4)), (3, .ref (o 7)), (4, .ref (o 3)), (5, .int (nI j))] := hl
  refine lv_iload B.hx B.hb dL_isPaper_39 (lv_at hl 0 rfl) ?_
  refine lv_aload_n B.hx B.hb dL_isPaper_41 rfl (lv_at hl 8 rfl) ?_
  refine lv_iconst (v := (nI 3)) B.hx B.hb dL_isPaper_42 (by decide) ?_
  refine q_iald (f := (F 4)) B hP 4 rfl (j := 3) rfl (by decide) (by decide) dL_isPaper_43 ?_
  refine q_top (v2 := .int (nI qn)) (congrArg Value.int f43) ?_
  refine lv_icmp_ge (tgt := 101) B.hx B.hb dL_isPaper_44 (by decide) (fun c4 => ?_) (fun c4 => ?_)
  · replace c4 := (nI_leI (by omega) (by omega)).mp c4
    have e10 : i1 = qn := by omega
    have hl : lv_has ls 14 [(11, .int (nI i1)), (10, .int (nI (pN (olf F j (-1)) qn))), (9, .int wt), (8, .int (nI s0)), (7, .int (-1)), (6, .int (nI (8 * j))), (0, .ref b), (1, .ref (o 0)), (2, .ref (o 4)), (3, .ref (o 7)), (4, .ref (o 3)), (5, .int (nI j))] := by rw [← e10]; exact hl
    refine lv_iload B.hx B.hb dL_isPaper_101 (lv_at hl 4 rfl) ?_
    refine lv_if_lt (tgt := 138) B.hx B.hb dL_isPaper_103 (by decide) (fun _ => ?_) (fun c5 => False.elim (by exact absurd c5 (by decide)))
    refine lv_iconst (v := (nI 0)) B.hx B.hb dL_isPaper_138 (by decide) ?_
    refine lv_istore (lv' := [(11, .int (nI 0)), (10, .int (nI (pN (olf F j (-1)) qn))), (9, .int wt), (8, .int (nI s0)), (7, .int (-1)), (6, .int (nI (8 * j))), (0, .ref b), (1, .ref (o 0)), (2, .ref (o 4)), (3, .ref (o 7)), (4, .ref (o 3)), (5, .int (nI j))]) B.hx B.hb dL_isPaper_139 hl (by decide) rfl (fun ls hl => ?_)
    refine lv_aload_n B.hx B.hb dL_isPaper_141 rfl (lv_at hl 6 rfl) ?_
    refine lv_iload B.hx B.hb dL_isPaper_142 (lv_at hl 11 rfl) ?_
    refine q_callV (As := [.int (nI j)]) (rest := []) B hP hD hS (ci.fl (lw cI o F)) (cwV 1 B.hts gL_isPaper_X3_inForce rfl rfl rfl (by decide +kernel) ⟨(Nat.le_of_ble_eq_true rfl), (Nat.le_of_ble_eq_true rfl)⟩) (q0 + 8) 3 hq rfl rfl rfl hl.1 rfl (Nat.le_of_ble_eq_true rfl) dL_isPaper_144 ⟨(Nat.le_of_ble_eq_true rfl), (Nat.le_of_ble_eq_true rfl)⟩ (fun E ce q9 H locs hx => False.elim hx) (fun v u H locs hp hP hD hS => ?_)
    obtain rfl := hp
    have hP : va_P D vwCl (lw cI o F ++ wk) H := hP
    have hD : va_D A (lw cI o F ++ wk) := hD
    refine lv_iload B.hx B.hb dL_isPaper_147 (lv_at hl 4 rfl) ?_
    refine lv_icmp_ne (tgt := 228) B.hx B.hb dL_isPaper_149 (by decide) (fun c6 => False.elim (by exact absurd c6 (by decide))) (fun _ => ?_)
    refine lv_aload_n B.hx B.hb dL_isPaper_152 rfl (lv_at hl 6 rfl) ?_
    refine lv_iload B.hx B.hb dL_isPaper_153 (lv_at hl 11 rfl) ?_
    refine lv_aload_n B.hx B.hb dL_isPaper_155 rfl (lv_at hl 8 rfl) ?_
    refine lv_iconst (v := (nI 0)) B.hx B.hb dL_isPaper_156 (by decide) ?_
    refine q_iald (f := (F 4)) B hP 4 rfl (j := 0) rfl (by decide) (by decide) dL_isPaper_157 ?_
    refine q_top (v2 := .int (nI td)) (congrArg Value.int f40) ?_
    refine q_callV (As := [.int (nI j), .int (nI td)]) (rest := []) B hP hD hS (co1.fl (lw cI o F)) (cwV 2 B.hts gL_isPaper_X3_inForceOn rfl rfl rfl (by decide +kernel) ⟨(Nat.le_of_ble_eq_true rfl), (Nat.le_of_ble_eq_true rfl)⟩) (q0 + 8) 3 hq rfl rfl rfl hl.1 rfl (Nat.le_of_ble_eq_true rfl) dL_isPaper_158 ⟨(Nat.le_of_ble_eq_true rfl), (Nat.le_of_ble_eq_true rfl)⟩ (fun E ce q9 H locs hx => False.elim hx) (fun v u H locs hp hP hD hS => ?_)
    obtain rfl := hp
    have hP : va_P D vwCl (lw cI o F ++ wk) H := hP
    have hD : va_D A (lw cI o F ++ wk) := hD
    refine lv_iload B.hx B.hb dL_isPaper_161 (lv_at hl 4 rfl) ?_
    refine lv_icmp_ne (tgt := 228) B.hx B.hb dL_isPaper_163 (by decide) (fun c7 => False.elim (by exact absurd c7 (by decide))) (fun _ => ?_)
    refine lv_aload_n B.hx B.hb dL_isPaper_166 rfl (lv_at hl 6 rfl) ?_
    refine lv_iload B.hx B.hb dL_isPaper_167 (lv_at hl 11 rfl) ?_
    refine q_callV (As := [.int (nI j)]) (rest := []) B hP hD hS (cd.fl (lw cI o F)) (cwV 1 B.hts gL_isPaper_X3_isDue rfl rfl rfl (by decide +kernel) ⟨(Nat.le_of_ble_eq_true rfl), (Nat.le_of_ble_eq_true rfl)⟩) (q0 + 8) 3 hq rfl rfl rfl hl.1 rfl (Nat.le_of_ble_eq_true rfl) dL_isPaper_169 ⟨(Nat.le_of_ble_eq_true rfl), (Nat.le_of_ble_eq_true rfl)⟩ (fun E ce q9 H locs hx => False.elim hx) (fun v u H locs hp hP hD hS => ?_)
    obtain rfl := hp
    have hP : va_P D vwCl (lw cI o F ++ wk) H := hP
    have hD : va_D A (lw cI o F ++ wk) := hD
    refine lv_iload B.hx B.hb dL_isPaper_172 (lv_at hl 0 rfl) ?_
    refine lv_icmp_ne (tgt := 228) B.hx B.hb dL_isPaper_174 (by decide) (fun c8 => False.elim (by exact c8 rfl)) (fun _ => ?_)
    refine lv_aload_n B.hx B.hb dL_isPaper_177 rfl (lv_at hl 6 rfl) ?_
    refine lv_iload B.hx B.hb dL_isPaper_178 (lv_at hl 11 rfl) ?_
    refine q_callV (As := [.int (nI j)]) (rest := []) B hP hD hS (cod.fl (lw cI o F)) (cwV 1 B.hts gL_isPaper_X3_outOfDate rfl rfl rfl (by decide +kernel) ⟨(Nat.le_of_ble_eq_true rfl), (Nat.le_of_ble_eq_true rfl)⟩) (q0 + 8) 3 hq rfl rfl rfl hl.1 rfl (Nat.le_of_ble_eq_true rfl) dL_isPaper_180 ⟨(Nat.le_of_ble_eq_true rfl), (Nat.le_of_ble_eq_true rfl)⟩ (fun E ce q9 H locs hx => False.elim hx) (fun v u H locs hp hP hD hS => ?_)
    obtain rfl := hp
    have hP : va_P D vwCl (lw cI o F ++ wk) H := hP
    have hD : va_D A (lw cI o F ++ wk) := hD
    refine lv_iload B.hx B.hb dL_isPaper_183 (lv_at hl 1 rfl) ?_
    refine lv_icmp_ne (tgt := 228) B.hx B.hb dL_isPaper_185 (by decide) (fun c9 => False.elim (by replace c9 := mt (nI_eq (by omega) (by omega)).mpr c9; exact c9 rfl)) (fun _ => ?_)
    refine lv_iload B.hx B.hb dL_isPaper_188 (lv_at hl 3 rfl) ?_
    refine q_join0 (J := 198) (stk := [.int (bI (decide ((nI s0) = 0)))]) ?_ (fun kJ => ?_)
    · refine lv_aload_n B.hx B.hb dL_isPaper_198 rfl (lv_at hl 7 rfl) ?_
      refine lv_iload B.hx B.hb dL_isPaper_199 (lv_at hl 5 rfl) ?_
      refine q_iald (f := (F 0)) B hP 0 rfl (j := 8 * j) rfl (by omega) (by decide) dL_isPaper_201 ?_
      refine q_join0 (J := 210) (stk := [.int (bI (decide (((F 0) (8 * j)) = 0))), .int (bI (decide ((nI s0) = 0)))]) ?_ (fun kJ => ?_)
      · refine lv_icmp_ne (tgt := 228) B.hx B.hb dL_isPaper_210 (by decide) (fun c12 => False.elim (by exact c12 (congrArg bI (decide_eq_decide.mpr hst0)))) (fun _ => ?_)
        refine lv_iload B.hx B.hb dL_isPaper_213 (lv_at hl 3 rfl) ?_
        refine lv_if_lt (tgt := 228) B.hx B.hb dL_isPaper_215 (by decide) (fun c13 => False.elim (by replace c13 := (nI_lt0 (by omega)).mp c13; exact c13)) (fun _ => ?_)
        refine lv_iload B.hx B.hb dL_isPaper_218 (lv_at hl 3 rfl) ?_
        refine lv_iconst (v := (nI 5)) B.hx B.hb dL_isPaper_220 (by decide) ?_
        refine lv_icmp_gt (tgt := 228) B.hx B.hb dL_isPaper_221 (by decide) (fun c14 => False.elim (by replace c14 := (nI_ltI (by omega) (by omega)).mp c14; omega)) (fun _ => ?_)
        refine lv_iconst (v := (nI 1)) B.hx B.hb dL_isPaper_224 (by decide) ?_
        refine lv_goto (tgt := 229) B.hx B.hb dL_isPaper_225 (by decide) ?_
        refine lv_istore (lv' := [(12, .int (nI 1)), (11, .int (nI 0)), (10, .int (nI (pN (olf F j (-1)) qn))), (9, .int wt), (8, .int (nI s0)), (7, .int (-1)), (6, .int (nI (8 * j))), (0, .ref b), (1, .ref (o 0)), (2, .ref (o 4)), (3, .ref (o 7)), (4, .ref (o 3)), (5, .int (nI j))]) B.hx B.hb dL_isPaper_229 hl (by decide) rfl (fun ls hl => ?_)
        refine lv_iload B.hx B.hb dL_isPaper_231 (lv_at hl 0 rfl) ?_
        refine lv_if_eq (tgt := 325) B.hx B.hb dL_isPaper_233 (by decide) (fun c15 => False.elim (by exact absurd c15 (by decide))) (fun _ => ?_)
        refine lv_iload B.hx B.hb dL_isPaper_236 (lv_at hl 5 rfl) ?_
        refine lv_if_ge (tgt := 254) B.hx B.hb dL_isPaper_238 (by decide) (fun c16 => False.elim (by exact absurd c16 (by decide))) (fun _ => ?_)
        refine lv_aload_n B.hx B.hb dL_isPaper_241 rfl (lv_at hl 7 rfl) ?_
        refine lv_iload B.hx B.hb dL_isPaper_242 (lv_at hl 12 rfl) ?_
        refine q_callV (As := [.int (nI j)]) (rest := []) B hP hD hS (ct.fl (lw cI o F)) (cwV 1 B.hts gL_isPaper_X3_text rfl rfl rfl (by decide +kernel) ⟨(Nat.le_of_ble_eq_true rfl), (Nat.le_of_ble_eq_true rfl)⟩) (q0 + 8) 3 hq rfl rfl rfl hl.1 rfl (Nat.le_of_ble_eq_true rfl) dL_isPaper_244 ⟨(Nat.le_of_ble_eq_true rfl), (Nat.le_of_ble_eq_true rfl)⟩ (fun E ce q9 H locs hx => False.elim hx) (fun v u H locs hp hP hD hS => ?_)
        obtain rfl := hp
        have hP : va_P D vwCl (lw cI o F ++ wk) H := hP
        have hD : va_D A (lw cI o F ++ wk) := hD
        refine lv_iconst (v := (-1)) B.hx B.hb dL_isPaper_247 (by decide) ?_
        refine lv_icmp_ne (tgt := 325) B.hx B.hb dL_isPaper_248 (by decide) (fun c17 => False.elim (by exact absurd c17 (by decide))) (fun _ => ?_)
        refine lv_goto (tgt := 321) B.hx B.hb dL_isPaper_251 (by decide) ?_
        refine lv_iconst (v := (nI 1)) B.hx B.hb dL_isPaper_321 (by decide) ?_
        refine lv_goto (tgt := 326) B.hx B.hb dL_isPaper_322 (by decide) ?_
        refine lv_istore (lv' := [(12, .int (nI 1)), (11, .int (nI 0)), (10, .int (nI (pN (olf F j (-1)) qn))), (9, .int wt), (8, .int (nI s0)), (7, .int (-1)), (6, .int (nI (8 * j))), (0, .ref b), (1, .ref (o 0)), (2, .ref (o 4)), (3, .ref (o 7)), (4, .ref (o 3)), (5, .int (nI j))]) B.hx B.hb dL_isPaper_326 hl (by decide) rfl (fun ls hl => ?_)
        rcases hw with ⟨rfl, rfl, rfl⟩ | ⟨rfl, p9, hp9, rfl, hb9⟩ | ⟨rfl, rfl⟩ | ⟨rfl, p9, hp9, rfl, hb9⟩ | ⟨rfl, rfl⟩ | ⟨rfl, rfl⟩ | ⟨rfl, rfl⟩
        · refine lv_iload B.hx B.hb dL_isPaper_328 (lv_at hl 4 rfl) ?_
          refine lv_iconst (v := (nI 1)) B.hx B.hb dL_isPaper_330 (by decide) ?_
          refine lv_icmp_ne (tgt := 390) B.hx B.hb dL_isPaper_331 (by decide) (fun c18 => False.elim (by exact absurd c18 (by decide))) (fun _ => ?_)
          refine lv_iload B.hx B.hb dL_isPaper_334 (lv_at hl 3 rfl) ?_
          refine lv_iconst (v := (-1)) B.hx B.hb dL_isPaper_336 (by decide) ?_
          refine lv_icmp_ne (tgt := 344) B.hx B.hb dL_isPaper_337 (by decide) (fun c19 => False.elim (by exact absurd c19 (by decide))) (fun _ => ?_)
          refine lv_iconst (v := (nI 1)) B.hx B.hb dL_isPaper_340 (by decide) ?_
          refine lv_goto (tgt := 345) B.hx B.hb dL_isPaper_341 (by decide) ?_
          refine lv_aload_n B.hx B.hb dL_isPaper_345 rfl (lv_at hl 10 rfl) ?_
          refine lv_iconst (v := (nI 2)) B.hx B.hb dL_isPaper_346 (by decide) ?_
          refine lv_iload B.hx B.hb dL_isPaper_347 (lv_at hl 12 rfl) ?_
          refine lv_imul B.hx B.hb dL_isPaper_349 ?_
          refine q_top (v2 := .int (nI (2 * j))) (congrArg Value.int (pk_mul _ _)) ?_
          refine q_iald (f := (F 7)) B hP 7 rfl (j := 2 * j) rfl (by omega) (by decide) dL_isPaper_350 ?_
          refine q_top (v2 := .int (nI 0)) (congrArg Value.int f70) ?_
          refine lv_if_ne (tgt := 358) B.hx B.hb dL_isPaper_351 (by decide) (fun c20 => False.elim (by exact absurd c20 (by decide))) (fun _ => ?_)
          refine lv_iconst (v := (nI 1)) B.hx B.hb dL_isPaper_354 (by decide) ?_
          refine lv_goto (tgt := 359) B.hx B.hb dL_isPaper_355 (by decide) ?_
          refine lv_icmp_ne (tgt := 386) B.hx B.hb dL_isPaper_359 (by decide) (fun c21 => False.elim (by exact absurd c21 (by decide))) (fun _ => ?_)
          refine lv_iload B.hx B.hb dL_isPaper_362 (lv_at hl 3 rfl) ?_
          refine lv_iconst (v := (-1)) B.hx B.hb dL_isPaper_364 (by decide) ?_
          refine lv_icmp_eq (tgt := 382) B.hx B.hb dL_isPaper_365 (by decide) (fun _ => ?_) (fun c22 => False.elim (by exact absurd c22 (by decide)))
          refine lv_iconst (v := (nI 1)) B.hx B.hb dL_isPaper_382 (by decide) ?_
          refine lv_goto (tgt := 461) B.hx B.hb dL_isPaper_383 (by decide) ?_
          refine lv_istore (lv' := [(13, .int (nI 1)), (12, .int (nI 1)), (11, .int (nI 0)), (10, .int (nI (pN (olf F j (-1)) qn))), (9, .int (-1)), (8, .int (nI 1)), (7, .int (-1)), (6, .int (nI (8 * j))), (0, .ref b), (1, .ref (o 0)), (2, .ref (o 4)), (3, .ref (o 7)), (4, .ref (o 3)), (5, .int (nI j))]) B.hx B.hb dL_isPaper_461 hl (by decide) rfl (fun ls hl => ?_)
          refine lv_iload B.hx B.hb dL_isPaper_463 (lv_at hl 1 rfl) ?_
          refine lv_if_eq (tgt := 507) B.hx B.hb dL_isPaper_465 (by decide) (fun c23 => False.elim (by exact absurd c23 (by decide))) (fun _ => ?_)
          refine lv_iload B.hx B.hb dL_isPaper_468 (lv_at hl 0 rfl) ?_
          refine lv_if_eq (tgt := 507) B.hx B.hb dL_isPaper_470 (by decide) (fun c24 => False.elim (by exact absurd c24 (by decide))) (fun _ => ?_)
          refine lv_iload B.hx B.hb dL_isPaper_473 (lv_at hl 5 rfl) ?_
          refine lv_iconst (v := (nI 4)) B.hx B.hb dL_isPaper_475 (by decide) ?_
          refine lv_icmp_lt (tgt := 488) B.hx B.hb dL_isPaper_476 (by decide) (fun _ => ?_) (fun c25 => False.elim (by exact absurd c25 (by decide)))
          refine lv_iload B.hx B.hb dL_isPaper_488 (lv_at hl 5 rfl) ?_
          refine lv_iconst (v := (nI 3)) B.hx B.hb dL_isPaper_490 (by decide) ?_
          refine lv_icmp_ne (tgt := 503) B.hx B.hb dL_isPaper_491 (by decide) (fun _ => ?_) (fun c26 => False.elim (by exact absurd c26 (by decide)))
          refine lv_iconst (v := (nI 1)) B.hx B.hb dL_isPaper_503 (by decide) ?_
          refine lv_goto (tgt := 508) B.hx B.hb dL_isPaper_504 (by decide) ?_
          exact q_zret B hr hP hD hS (by decide) (u := ()) rfl rfl (Nat.le_of_ble_eq_true rfl) (Nat.le_of_ble_eq_true rfl) dL_isPaper_508
        · refine lv_iload B.hx B.hb dL_isPaper_328 (lv_at hl 4 rfl) ?_
          refine lv_iconst (v := (nI 1)) B.hx B.hb dL_isPaper_330 (by decide) ?_
          refine lv_icmp_ne (tgt := 390) B.hx B.hb dL_isPaper_331 (by decide) (fun c27 => False.elim (by exact absurd c27 (by decide))) (fun _ => ?_)
          refine lv_iload B.hx B.hb dL_isPaper_334 (lv_at hl 3 rfl) ?_
          refine lv_iconst (v := (-1)) B.hx B.hb dL_isPaper_336 (by decide) ?_
          refine lv_icmp_ne (tgt := 344) B.hx B.hb dL_isPaper_337 (by decide) (fun _ => ?_) (fun c28 => False.elim (by exact nI_nm1 (by omega) c28))
          refine lv_iconst (v := (nI 0)) B.hx B.hb dL_isPaper_344 (by decide) ?_
          refine lv_aload_n B.hx B.hb dL_isPaper_345 rfl (lv_at hl 10 rfl) ?_
          refine lv_iconst (v := (nI 2)) B.hx B.hb dL_isPaper_346 (by decide) ?_
          refine lv_iload B.hx B.hb dL_isPaper_347 (lv_at hl 12 rfl) ?_
          refine lv_imul B.hx B.hb dL_isPaper_349 ?_
          refine q_top (v2 := .int (nI (2 * j))) (congrArg Value.int (pk_mul _ _)) ?_
          refine q_iald (f := (F 7)) B hP 7 rfl (j := 2 * j) rfl (by omega) (by decide) dL_isPaper_350 ?_
          refine q_top (v2 := .int (nI m0)) (congrArg Value.int f70) ?_
          refine lv_if_ne (tgt := 358) B.hx B.hb dL_isPaper_351 (by decide) (fun _ => ?_) (fun c29 => False.elim (by replace c29 := (nI_eq0 (by omega)).mp c29; rw [c29] at hb9; simp at hb9))
          refine lv_iconst (v := (nI 0)) B.hx B.hb dL_isPaper_358 (by decide) ?_
          refine lv_icmp_ne (tgt := 386) B.hx B.hb dL_isPaper_359 (by decide) (fun c30 => False.elim (by exact absurd c30 (by decide))) (fun _ => ?_)
          refine lv_iload B.hx B.hb dL_isPaper_362 (lv_at hl 3 rfl) ?_
          refine lv_iconst (v := (-1)) B.hx B.hb dL_isPaper_364 (by decide) ?_
          refine lv_icmp_eq (tgt := 382) B.hx B.hb dL_isPaper_365 (by decide) (fun c31 => False.elim (by exact nI_nm1 (by omega) c31)) (fun _ => ?_)
          refine lv_aload_n B.hx B.hb dL_isPaper_368 rfl (lv_at hl 10 rfl) ?_
          refine lv_iconst (v := (nI 2)) B.hx B.hb dL_isPaper_369 (by decide) ?_
          refine lv_iload B.hx B.hb dL_isPaper_370 (lv_at hl 12 rfl) ?_
          refine lv_imul B.hx B.hb dL_isPaper_372 ?_
          refine q_top (v2 := .int (nI (2 * j))) (congrArg Value.int (pk_mul _ _)) ?_
          refine q_iald (f := (F 7)) B hP 7 rfl (j := 2 * j) rfl (by omega) (by decide) dL_isPaper_373 ?_
          refine q_top (v2 := .int (nI m0)) (congrArg Value.int f70) ?_
          refine lv_iload B.hx B.hb dL_isPaper_374 (lv_at hl 3 rfl) ?_
          refine q_callS (As := [.int (nI m0), .int (nI p9)]) (rest := []) B hP hD hS ((cl_has l D cI cZ cP m0 p9 (by omega) (by omega)).fr0 (lw cI o F ++ wk)) (cwS 2 B.hts gL_isPaper_L_has rfl rfl rfl (by decide +kernel) ⟨(Nat.le_of_ble_eq_true rfl), (Nat.le_of_ble_eq_true rfl)⟩) rfl hl.1 rfl (Nat.le_of_ble_eq_true rfl) dL_isPaper_376 ⟨(Nat.le_of_ble_eq_true rfl), (Nat.le_of_ble_eq_true rfl)⟩ (fun E ce q9 H locs hx => False.elim hx) (fun v u H locs hp hP hD hS => ?_)
          obtain rfl := hp
          have hP : va_P D vwCl (lw cI o F ++ wk) H := hP
          have hD : va_D A (lw cI o F ++ wk) := hD
          refine lv_if_eq (tgt := 386) B.hx B.hb dL_isPaper_379 (by decide) (fun c32 => False.elim (by replace c32 := bI_0.mp c32; exact absurd (hb9.symm.trans c32) (by decide))) (fun _ => ?_)
          refine lv_iconst (v := (nI 1)) B.hx B.hb dL_isPaper_382 (by decide) ?_
          refine lv_goto (tgt := 461) B.hx B.hb dL_isPaper_383 (by decide) ?_
          refine lv_istore (lv' := [(13, .int (nI 1)), (12, .int (nI 1)), (11, .int (nI 0)), (10, .int (nI (pN (olf F j (-1)) qn))), (9, .int (nI p9)), (8, .int (nI 1)), (7, .int (-1)), (6, .int (nI (8 * j))), (0, .ref b), (1, .ref (o 0)), (2, .ref (o 4)), (3, .ref (o 7)), (4, .ref (o 3)), (5, .int (nI j))]) B.hx B.hb dL_isPaper_461 hl (by decide) rfl (fun ls hl => ?_)
          refine lv_iload B.hx B.hb dL_isPaper_463 (lv_at hl 1 rfl) ?_
          refine lv_if_eq (tgt := 507) B.hx B.hb dL_isPaper_465 (by decide) (fun c33 => False.elim (by exact absurd c33 (by decide))) (fun _ => ?_)
          refine lv_iload B.hx B.hb dL_isPaper_468 (lv_at hl 0 rfl) ?_
          refine lv_if_eq (tgt := 507) B.hx B.hb dL_isPaper_470 (by decide) (fun c34 => False.elim (by exact absurd c34 (by decide))) (fun _ => ?_)
          refine lv_iload B.hx B.hb dL_isPaper_473 (lv_at hl 5 rfl) ?_
          refine lv_iconst (v := (nI 4)) B.hx B.hb dL_isPaper_475 (by decide) ?_
          refine lv_icmp_lt (tgt := 488) B.hx B.hb dL_isPaper_476 (by decide) (fun _ => ?_) (fun c35 => False.elim (by exact absurd c35 (by decide)))
          refine lv_iload B.hx B.hb dL_isPaper_488 (lv_at hl 5 rfl) ?_
          refine lv_iconst (v := (nI 3)) B.hx B.hb dL_isPaper_490 (by decide) ?_
          refine lv_icmp_ne (tgt := 503) B.hx B.hb dL_isPaper_491 (by decide) (fun _ => ?_) (fun c36 => False.elim (by exact absurd c36 (by decide)))
          refine lv_iconst (v := (nI 1)) B.hx B.hb dL_isPaper_503 (by decide) ?_
          refine lv_goto (tgt := 508) B.hx B.hb dL_isPaper_504 (by decide) ?_
          exact q_zret B hr hP hD hS (by decide) (u := ()) rfl rfl (Nat.le_of_ble_eq_true rfl) (Nat.le_of_ble_eq_true rfl) dL_isPaper_508
        · refine lv_iload B.hx B.hb dL_isPaper_328 (lv_at hl 4 rfl) ?_
          refine lv_iconst (v := (nI 1)) B.hx B.hb dL_isPaper_330 (by decide) ?_
          refine lv_icmp_ne (tgt := 390) B.hx B.hb dL_isPaper_331 (by decide) (fun _ => ?_) (fun c37 => False.elim (by exact absurd c37 (by decide)))
          refine lv_iload B.hx B.hb dL_isPaper_390 (lv_at hl 4 rfl) ?_
          refine lv_iconst (v := (nI 2)) B.hx B.hb dL_isPaper_392 (by decide) ?_
          refine lv_icmp_ne (tgt := 415) B.hx B.hb dL_isPaper_393 (by decide) (fun c38 => False.elim (by exact absurd c38 (by decide))) (fun _ => ?_)
          refine lv_iload B.hx B.hb dL_isPaper_396 (lv_at hl 3 rfl) ?_
          refine lv_aload_n B.hx B.hb dL_isPaper_398 rfl (lv_at hl 8 rfl) ?_
          refine lv_iload B.hx B.hb dL_isPaper_399 (lv_at hl 6 rfl) ?_
          refine lv_iconst (v := (nI 1)) B.hx B.hb dL_isPaper_401 (by decide) ?_
          refine lv_iadd B.hx B.hb dL_isPaper_402 ?_
          refine q_top (v2 := .int (nI (8 * j + 1))) (congrArg Value.int (nI_add _ _)) ?_
          refine q_iald (f := (F 0)) B hP 0 rfl (j := 8 * j + 1) rfl (by omega) (by decide) dL_isPaper_403 ?_
          refine lv_icmp_ne (tgt := 411) B.hx B.hb dL_isPaper_404 (by decide) (fun c39 => False.elim (by exact c39 rfl)) (fun _ => ?_)
          refine lv_iconst (v := (nI 1)) B.hx B.hb dL_isPaper_407 (by decide) ?_
          refine lv_goto (tgt := 461) B.hx B.hb dL_isPaper_408 (by decide) ?_
          refine lv_istore (lv' := [(13, .int (nI 1)), (12, .int (nI 1)), (11, .int (nI 0)), (10, .int (nI (pN (olf F j (-1)) qn))), (9, .int (F 0 (8 * j + 1))), (8, .int (nI 2)), (7, .int (-1)), (6, .int (nI (8 * j))), (0, .ref b), (1, .ref (o 0)), (2, .ref (o 4)), (3, .ref (o 7)), (4, .ref (o 3)), (5, .int (nI j))]) B.hx B.hb dL_isPaper_461 hl (by decide) rfl (fun ls hl => ?_)
          refine lv_iload B.hx B.hb dL_isPaper_463 (lv_at hl 1 rfl) ?_
          refine lv_if_eq (tgt := 507) B.hx B.hb dL_isPaper_465 (by decide) (fun c40 => False.elim (by exact absurd c40 (by decide))) (fun _ => ?_)
          refine lv_iload B.hx B.hb dL_isPaper_468 (lv_at hl 0 rfl) ?_
          refine lv_if_eq (tgt := 507) B.hx B.hb dL_isPaper_470 (by decide) (fun c41 => False.elim (by exact absurd c41 (by decide))) (fun _ => ?_)
          refine lv_iload B.hx B.hb dL_isPaper_473 (lv_at hl 5 rfl) ?_
          refine lv_iconst (v := (nI 4)) B.hx B.hb dL_isPaper_475 (by decide) ?_
          refine lv_icmp_lt (tgt := 488) B.hx B.hb dL_isPaper_476 (by decide) (fun _ => ?_) (fun c42 => False.elim (by exact absurd c42 (by decide)))
          refine lv_iload B.hx B.hb dL_isPaper_488 (lv_at hl 5 rfl) ?_
          refine lv_iconst (v := (nI 3)) B.hx B.hb dL_isPaper_490 (by decide) ?_
          refine lv_icmp_ne (tgt := 503) B.hx B.hb dL_isPaper_491 (by decide) (fun _ => ?_) (fun c43 => False.elim (by exact absurd c43 (by decide)))
          refine lv_iconst (v := (nI 1)) B.hx B.hb dL_isPaper_503 (by decide) ?_
          refine lv_goto (tgt := 508) B.hx B.hb dL_isPaper_504 (by decide) ?_
          exact q_zret B hr hP hD hS (by decide) (u := ()) rfl rfl (Nat.le_of_ble_eq_true rfl) (Nat.le_of_ble_eq_true rfl) dL_isPaper_508
        · refine lv_iload B.hx B.hb dL_isPaper_328 (lv_at hl 4 rfl) ?_
          refine lv_iconst (v := (nI 1)) B.hx B.hb dL_isPaper_330 (by decide) ?_
          refine lv_icmp_ne (tgt := 390) B.hx B.hb dL_isPaper_331 (by decide) (fun _ => ?_) (fun c44 => False.elim (by exact absurd c44 (by decide)))
          refine lv_iload B.hx B.hb dL_isPaper_390 (lv_at hl 4 rfl) ?_
          refine lv_iconst (v := (nI 2)) B.hx B.hb dL_isPaper_392 (by decide) ?_
          refine lv_icmp_ne (tgt := 415) B.hx B.hb dL_isPaper_393 (by decide) (fun _ => ?_) (fun c45 => False.elim (by exact absurd c45 (by decide)))
          refine lv_iload B.hx B.hb dL_isPaper_415 (lv_at hl 4 rfl) ?_
          refine lv_iconst (v := (nI 4)) B.hx B.hb dL_isPaper_417 (by decide) ?_
          refine lv_icmp_ne (tgt := 450) B.hx B.hb dL_isPaper_418 (by decide) (fun c46 => False.elim (by exact absurd c46 (by decide))) (fun _ => ?_)
          refine lv_iload B.hx B.hb dL_isPaper_421 (lv_at hl 3 rfl) ?_
          refine lv_if_lt (tgt := 446) B.hx B.hb dL_isPaper_423 (by decide) (fun c47 => False.elim (by replace c47 := (nI_lt0 (by omega)).mp c47; exact c47)) (fun _ => ?_)
          refine lv_aload_n B.hx B.hb dL_isPaper_426 rfl (lv_at hl 10 rfl) ?_
          refine lv_iconst (v := (nI 2)) B.hx B.hb dL_isPaper_427 (by decide) ?_
          refine lv_iload B.hx B.hb dL_isPaper_428 (lv_at hl 12 rfl) ?_
          refine lv_imul B.hx B.hb dL_isPaper_430 ?_
          refine q_top (v2 := .int (nI (2 * j))) (congrArg Value.int (pk_mul _ _)) ?_
          refine lv_iconst (v := (nI 1)) B.hx B.hb dL_isPaper_431 (by decide) ?_
          refine lv_iadd B.hx B.hb dL_isPaper_432 ?_
          refine q_top (v2 := .int (nI (2 * j + 1))) (congrArg Value.int (nI_add _ _)) ?_
          refine q_iald (f := (F 7)) B hP 7 rfl (j := 2 * j + 1) rfl (by omega) (by decide) dL_isPaper_433 ?_
          refine q_top (v2 := .int (nI m1)) (congrArg Value.int f71) ?_
          refine lv_iload B.hx B.hb dL_isPaper_434 (lv_at hl 3 rfl) ?_
          refine q_callS (As := [.int (nI m1), .int (nI p9)]) (rest := []) B hP hD hS ((cl_has l D cI cZ cP m1 p9 (by omega) (by omega)).fr0 (lw cI o F ++ wk)) (cwS 2 B.hts gL_isPaper_L_has rfl rfl rfl (by decide +kernel) ⟨(Nat.le_of_ble_eq_true rfl), (Nat.le_of_ble_eq_true rfl)⟩) rfl hl.1 rfl (Nat.le_of_ble_eq_true rfl) dL_isPaper_436 ⟨(Nat.le_of_ble_eq_true rfl), (Nat.le_of_ble_eq_true rfl)⟩ (fun E ce q9 H locs hx => False.elim hx) (fun v u H locs hp hP hD hS => ?_)
          obtain rfl := hp
          have hP : va_P D vwCl (lw cI o F ++ wk) H := hP
          have hD : va_D A (lw cI o F ++ wk) := hD
          refine lv_if_eq (tgt := 446) B.hx B.hb dL_isPaper_439 (by decide) (fun c48 => False.elim (by replace c48 := bI_0.mp c48; exact absurd (hb9.symm.trans c48) (by decide))) (fun _ => ?_)
          refine lv_iconst (v := (nI 1)) B.hx B.hb dL_isPaper_442 (by decide) ?_
          refine lv_goto (tgt := 461) B.hx B.hb dL_isPaper_443 (by decide) ?_
          refine lv_istore (lv' := [(13, .int (nI 1)), (12, .int (nI 1)), (11, .int (nI 0)), (10, .int (nI (pN (olf F j (-1)) qn))), (9, .int (nI p9)), (8, .int (nI 4)), (7, .int (-1)), (6, .int (nI (8 * j))), (0, .ref b), (1, .ref (o 0)), (2, .ref (o 4)), (3, .ref (o 7)), (4, .ref (o 3)), (5, .int (nI j))]) B.hx B.hb dL_isPaper_461 hl (by decide) rfl (fun ls hl => ?_)
          refine lv_iload B.hx B.hb dL_isPaper_463 (lv_at hl 1 rfl) ?_
          refine lv_if_eq (tgt := 507) B.hx B.hb dL_isPaper_465 (by decide) (fun c49 => False.elim (by exact absurd c49 (by decide))) (fun _ => ?_)
          refine lv_iload B.hx B.hb dL_isPaper_468 (lv_at hl 0 rfl) ?_
          refine lv_if_eq (tgt := 507) B.hx B.hb dL_isPaper_470 (by decide) (fun c50 => False.elim (by exact absurd c50 (by decide))) (fun _ => ?_)
          refine lv_iload B.hx B.hb dL_isPaper_473 (lv_at hl 5 rfl) ?_
          refine lv_iconst (v := (nI 4)) B.hx B.hb dL_isPaper_475 (by decide) ?_
          refine lv_icmp_lt (tgt := 488) B.hx B.hb dL_isPaper_476 (by decide) (fun c51 => False.elim (by exact absurd c51 (by decide))) (fun _ => ?_)
          refine lv_aload_n B.hx B.hb dL_isPaper_479 rfl (lv_at hl 9 rfl) ?_
          refine lv_iload B.hx B.hb dL_isPaper_480 (lv_at hl 7 rfl) ?_
          refine lv_iconst (v := (nI 4)) B.hx B.hb dL_isPaper_482 (by decide) ?_
          refine lv_iadd B.hx B.hb dL_isPaper_483 ?_
          refine q_top (v2 := .int (nI (8 * j + 4))) (congrArg Value.int (nI_add _ _)) ?_
          refine q_iald (f := (F 0)) B hP 0 rfl (j := 8 * j + 4) rfl (by omega) (by decide) dL_isPaper_484 ?_
          refine lv_if_le (tgt := 507) B.hx B.hb dL_isPaper_485 (by decide) (fun c52 => False.elim (by exact h45 (by omega) c52)) (fun _ => ?_)
          refine lv_iload B.hx B.hb dL_isPaper_488 (lv_at hl 5 rfl) ?_
          refine lv_iconst (v := (nI 3)) B.hx B.hb dL_isPaper_490 (by decide) ?_
          refine lv_icmp_ne (tgt := 503) B.hx B.hb dL_isPaper_491 (by decide) (fun _ => ?_) (fun c53 => False.elim (by exact absurd c53 (by decide)))
          refine lv_iconst (v := (nI 1)) B.hx B.hb dL_isPaper_503 (by decide) ?_
          refine lv_goto (tgt := 508) B.hx B.hb dL_isPaper_504 (by decide) ?_
          exact q_zret B hr hP hD hS (by decide) (u := ()) rfl rfl (Nat.le_of_ble_eq_true rfl) (Nat.le_of_ble_eq_true rfl) dL_isPaper_508
        · refine lv_iload B.hx B.hb dL_isPaper_328 (lv_at hl 4 rfl) ?_
          refine lv_iconst (v := (nI 1)) B.hx B.hb dL_isPaper_330 (by decide) ?_
          refine lv_icmp_ne (tgt := 390) B.hx B.hb dL_isPaper_331 (by decide) (fun _ => ?_) (fun c54 => False.elim (by exact absurd c54 (by decide)))
          refine lv_iload B.hx B.hb dL_isPaper_390 (lv_at hl 4 rfl) ?_
          refine lv_iconst (v := (nI 2)) B.hx B.hb dL_isPaper_392 (by decide) ?_
          refine lv_icmp_ne (tgt := 415) B.hx B.hb dL_isPaper_393 (by decide) (fun _ => ?_) (fun c55 => False.elim (by exact absurd c55 (by decide)))
          refine lv_iload B.hx B.hb dL_isPaper_415 (lv_at hl 4 rfl) ?_
          refine lv_iconst (v := (nI 4)) B.hx B.hb dL_isPaper_417 (by decide) ?_
          refine lv_icmp_ne (tgt := 450) B.hx B.hb dL_isPaper_418 (by decide) (fun _ => ?_) (fun c56 => False.elim (by exact absurd c56 (by decide)))
          refine lv_iload B.hx B.hb dL_isPaper_450 (lv_at hl 3 rfl) ?_
          refine lv_iconst (v := (-1)) B.hx B.hb dL_isPaper_452 (by decide) ?_
          refine lv_icmp_ne (tgt := 460) B.hx B.hb dL_isPaper_453 (by decide) (fun c57 => False.elim (by exact absurd c57 (by decide))) (fun _ => ?_)
          refine lv_iconst (v := (nI 1)) B.hx B.hb dL_isPaper_456 (by decide) ?_
          refine lv_goto (tgt := 461) B.hx B.hb dL_isPaper_457 (by decide) ?_
          refine lv_istore (lv' := [(13, .int (nI 1)), (12, .int (nI 1)), (11, .int (nI 0)), (10, .int (nI (pN (olf F j (-1)) qn))), (9, .int (-1)), (8, .int (nI 0)), (7, .int (-1)), (6, .int (nI (8 * j))), (0, .ref b), (1, .ref (o 0)), (2, .ref (o 4)), (3, .ref (o 7)), (4, .ref (o 3)), (5, .int (nI j))]) B.hx B.hb dL_isPaper_461 hl (by decide) rfl (fun ls hl => ?_)
          refine lv_iload B.hx B.hb dL_isPaper_463 (lv_at hl 1 rfl) ?_
          refine lv_if_eq (tgt := 507) B.hx B.hb dL_isPaper_465 (by decide) (fun c58 => False.elim (by exact absurd c58 (by decide))) (fun _ => ?_)
          refine lv_iload B.hx B.hb dL_isPaper_468 (lv_at hl 0 rfl) ?_
          refine lv_if_eq (tgt := 507) B.hx B.hb dL_isPaper_470 (by decide) (fun c59 => False.elim (by exact absurd c59 (by decide))) (fun _ => ?_)
          refine lv_iload B.hx B.hb dL_isPaper_473 (lv_at hl 5 rfl) ?_
          refine lv_iconst (v := (nI 4)) B.hx B.hb dL_isPaper_475 (by decide) ?_
          refine lv_icmp_lt (tgt := 488) B.hx B.hb dL_isPaper_476 (by decide) (fun _ => ?_) (fun c60 => False.elim (by exact absurd c60 (by decide)))
          refine lv_iload B.hx B.hb dL_isPaper_488 (lv_at hl 5 rfl) ?_
          refine lv_iconst (v := (nI 3)) B.hx B.hb dL_isPaper_490 (by decide) ?_
          refine lv_icmp_ne (tgt := 503) B.hx B.hb dL_isPaper_491 (by decide) (fun _ => ?_) (fun c61 => False.elim (by exact absurd c61 (by decide)))
          refine lv_iconst (v := (nI 1)) B.hx B.hb dL_isPaper_503 (by decide) ?_
          refine lv_goto (tgt := 508) B.hx B.hb dL_isPaper_504 (by decide) ?_
          exact q_zret B hr hP hD hS (by decide) (u := ()) rfl rfl (Nat.le_of_ble_eq_true rfl) (Nat.le_of_ble_eq_true rfl) dL_isPaper_508
        · refine lv_iload B.hx B.hb dL_isPaper_328 (lv_at hl 4 rfl) ?_
          refine lv_iconst (v := (nI 1)) B.hx B.hb dL_isPaper_330 (by decide) ?_
          refine lv_icmp_ne (tgt := 390) B.hx B.hb dL_isPaper_331 (by decide) (fun _ => ?_) (fun c62 => False.elim (by exact absurd c62 (by decide)))
          refine lv_iload B.hx B.hb dL_isPaper_390 (lv_at hl 4 rfl) ?_
          refine lv_iconst (v := (nI 2)) B.hx B.hb dL_isPaper_392 (by decide) ?_
          refine lv_icmp_ne (tgt := 415) B.hx B.hb dL_isPaper_393 (by decide) (fun _ => ?_) (fun c63 => False.elim (by exact absurd c63 (by decide)))
          refine lv_iload B.hx B.hb dL_isPaper_415 (lv_at hl 4 rfl) ?_
          refine lv_iconst (v := (nI 4)) B.hx B.hb dL_isPaper_417 (by decide) ?_
          refine lv_icmp_ne (tgt := 450) B.hx B.hb dL_isPaper_418 (by decide) (fun _ => ?_) (fun c64 => False.elim (by exact absurd c64 (by decide)))
          refine lv_iload B.hx B.hb dL_isPaper_450 (lv_at hl 3 rfl) ?_
          refine lv_iconst (v := (-1)) B.hx B.hb dL_isPaper_452 (by decide) ?_
          refine lv_icmp_ne (tgt := 460) B.hx B.hb dL_isPaper_453 (by decide) (fun c65 => False.elim (by exact absurd c65 (by decide))) (fun _ => ?_)
          refine lv_iconst (v := (nI 1)) B.hx B.hb dL_isPaper_456 (by decide) ?_
          refine lv_goto (tgt := 461) B.hx B.hb dL_isPaper_457 (by decide) ?_
          refine lv_istore (lv' := [(13, .int (nI 1)), (12, .int (nI 1)), (11, .int (nI 0)), (10, .int (nI (pN (olf F j (-1)) qn))), (9, .int (-1)), (8, .int (nI 3)), (7, .int (-1)), (6, .int (nI (8 * j))), (0, .ref b), (1, .ref (o 0)), (2, .ref (o 4)), (3, .ref (o 7)), (4, .ref (o 3)), (5, .int (nI j))]) B.hx B.hb dL_isPaper_461 hl (by decide) rfl (fun ls hl => ?_)
          refine lv_iload B.hx B.hb dL_isPaper_463 (lv_at hl 1 rfl) ?_
          refine lv_if_eq (tgt := 507) B.hx B.hb dL_isPaper_465 (by decide) (fun c66 => False.elim (by exact absurd c66 (by decide))) (fun _ => ?_)
          refine lv_iload B.hx B.hb dL_isPaper_468 (lv_at hl 0 rfl) ?_
          refine lv_if_eq (tgt := 507) B.hx B.hb dL_isPaper_470 (by decide) (fun c67 => False.elim (by exact absurd c67 (by decide))) (fun _ => ?_)
          refine lv_iload B.hx B.hb dL_isPaper_473 (lv_at hl 5 rfl) ?_
          refine lv_iconst (v := (nI 4)) B.hx B.hb dL_isPaper_475 (by decide) ?_
          refine lv_icmp_lt (tgt := 488) B.hx B.hb dL_isPaper_476 (by decide) (fun _ => ?_) (fun c68 => False.elim (by exact absurd c68 (by decide)))
          refine lv_iload B.hx B.hb dL_isPaper_488 (lv_at hl 5 rfl) ?_
          refine lv_iconst (v := (nI 3)) B.hx B.hb dL_isPaper_490 (by decide) ?_
          refine lv_icmp_ne (tgt := 503) B.hx B.hb dL_isPaper_491 (by decide) (fun c69 => False.elim (by exact absurd c69 (by decide))) (fun _ => ?_)
          refine lv_aload_n B.hx B.hb dL_isPaper_494 rfl (lv_at hl 9 rfl) ?_
          refine lv_iload B.hx B.hb dL_isPaper_495 (lv_at hl 7 rfl) ?_
          refine lv_iconst (v := (nI 4)) B.hx B.hb dL_isPaper_497 (by decide) ?_
          refine lv_iadd B.hx B.hb dL_isPaper_498 ?_
          refine q_top (v2 := .int (nI (8 * j + 4))) (congrArg Value.int (nI_add _ _)) ?_
          refine q_iald (f := (F 0)) B hP 0 rfl (j := 8 * j + 4) rfl (by omega) (by decide) dL_isPaper_499 ?_
          refine lv_if_ne (tgt := 507) B.hx B.hb dL_isPaper_500 (by decide) (fun c70 => False.elim (by exact c70 (h3 rfl))) (fun _ => ?_)
          refine lv_iconst (v := (nI 1)) B.hx B.hb dL_isPaper_503 (by decide) ?_
          refine lv_goto (tgt := 508) B.hx B.hb dL_isPaper_504 (by decide) ?_
          exact q_zret B hr hP hD hS (by decide) (u := ()) rfl rfl (Nat.le_of_ble_eq_true rfl) (Nat.le_of_ble_eq_true rfl) dL_isPaper_508
        · refine lv_iload B.hx B.hb dL_isPaper_328 (lv_at hl 4 rfl) ?_
          refine lv_iconst (v := (nI 1)) B.hx B.hb dL_isPaper_330 (by decide) ?_
          refine lv_icmp_ne (tgt := 390) B.hx B.hb dL_isPaper_331 (by decide) (fun _ => ?_) (fun c71 => False.elim (by exact absurd c71 (by decide)))
          refine lv_iload B.hx B.hb dL_isPaper_390 (lv_at hl 4 rfl) ?_
          refine lv_iconst (v := (nI 2)) B.hx B.hb dL_isPaper_392 (by decide) ?_
          refine lv_icmp_ne (tgt := 415) B.hx B.hb dL_isPaper_393 (by decide) (fun _ => ?_) (fun c72 => False.elim (by exact absurd c72 (by decide)))
          refine lv_iload B.hx B.hb dL_isPaper_415 (lv_at hl 4 rfl) ?_
          refine lv_iconst (v := (nI 4)) B.hx B.hb dL_isPaper_417 (by decide) ?_
          refine lv_icmp_ne (tgt := 450) B.hx B.hb dL_isPaper_418 (by decide) (fun _ => ?_) (fun c73 => False.elim (by exact absurd c73 (by decide)))
          refine lv_iload B.hx B.hb dL_isPaper_450 (lv_at hl 3 rfl) ?_
          refine lv_iconst (v := (-1)) B.hx B.hb dL_isPaper_452 (by decide) ?_
          refine lv_icmp_ne (tgt := 460) B.hx B.hb dL_isPaper_453 (by decide) (fun c74 => False.elim (by exact absurd c74 (by decide))) (fun _ => ?_)
          refine lv_iconst (v := (nI 1)) B.hx B.hb dL_isPaper_456 (by decide) ?_
          refine lv_goto (tgt := 461) B.hx B.hb dL_isPaper_457 (by decide) ?_
          refine lv_istore (lv' := [(13, .int (nI 1)), (12, .int (nI 1)), (11, .int (nI 0)), (10, .int (nI (pN (olf F j (-1)) qn))), (9, .int (-1)), (8, .int (nI 5)), (7, .int (-1)), (6, .int (nI (8 * j))), (0, .ref b), (1, .ref (o 0)), (2, .ref (o 4)), (3, .ref (o 7)), (4, .ref (o 3)), (5, .int (nI j))]) B.hx B.hb dL_isPaper_461 hl (by decide) rfl (fun ls hl => ?_)
          refine lv_iload B.hx B.hb dL_isPaper_463 (lv_at hl 1 rfl) ?_
          refine lv_if_eq (tgt := 507) B.hx B.hb dL_isPaper_465 (by decide) (fun c75 => False.elim (by exact absurd c75 (by decide))) (fun _ => ?_)
          refine lv_iload B.hx B.hb dL_isPaper_468 (lv_at hl 0 rfl) ?_
          refine lv_if_eq (tgt := 507) B.hx B.hb dL_isPaper_470 (by decide) (fun c76 => False.elim (by exact absurd c76 (by decide))) (fun _ => ?_)
          refine lv_iload B.hx B.hb dL_isPaper_473 (lv_at hl 5 rfl) ?_
          refine lv_iconst (v := (nI 4)) B.hx B.hb dL_isPaper_475 (by decide) ?_
          refine lv_icmp_lt (tgt := 488) B.hx B.hb dL_isPaper_476 (by decide) (fun c77 => False.elim (by exact absurd c77 (by decide))) (fun _ => ?_)
          refine lv_aload_n B.hx B.hb dL_isPaper_479 rfl (lv_at hl 9 rfl) ?_
          refine lv_iload B.hx B.hb dL_isPaper_480 (lv_at hl 7 rfl) ?_
          refine lv_iconst (v := (nI 4)) B.hx B.hb dL_isPaper_482 (by decide) ?_
          refine lv_iadd B.hx B.hb dL_isPaper_483 ?_
          refine q_top (v2 := .int (nI (8 * j + 4))) (congrArg Value.int (nI_add _ _)) ?_
          refine q_iald (f := (F 0)) B hP 0 rfl (j := 8 * j + 4) rfl (by omega) (by decide) dL_isPaper_484 ?_
          refine lv_if_le (tgt := 507) B.hx B.hb dL_isPaper_485 (by decide) (fun c78 => False.elim (by exact h45 (by omega) c78)) (fun _ => ?_)
          refine lv_iload B.hx B.hb dL_isPaper_488 (lv_at hl 5 rfl) ?_
          refine lv_iconst (v := (nI 3)) B.hx B.hb dL_isPaper_490 (by decide) ?_
          refine lv_icmp_ne (tgt := 503) B.hx B.hb dL_isPaper_491 (by decide) (fun _ => ?_) (fun c79 => False.elim (by exact absurd c79 (by decide)))
          refine lv_iconst (v := (nI 1)) B.hx B.hb dL_isPaper_503 (by decide) ?_
          refine lv_goto (tgt := 508) B.hx B.hb dL_isPaper_504 (by decide) ?_
          exact q_zret B hr hP hD hS (by decide) (u := ()) rfl rfl (Nat.le_of_ble_eq_true rfl) (Nat.le_of_ble_eq_true rfl) dL_isPaper_508
      · refine lv_if_ne (tgt := 209) B.hx B.hb dL_isPaper_202 (by decide) (fun c11 => ?_) (fun c11 => ?_)
        · refine lv_iconst (v := nI 0) B.hx B.hb dL_isPaper_209 (by decide) ?_
          refine q_top (v2 := .int (bI (decide (((F 0) (8 * j)) = 0)))) (congrArg Value.int (bI_f (decide_eq_false c11))) ?_
          exact kJ
        · refine lv_iconst (v := nI 1) B.hx B.hb dL_isPaper_205 (by decide) ?_
          refine lv_goto (tgt := 210) B.hx B.hb dL_isPaper_206 (by decide) ?_
          refine q_top (v2 := .int (bI (decide (((F 0) (8 * j)) = 0)))) (congrArg Value.int (bI_t (decide_eq_true c11))) ?_
          exact kJ
    · refine lv_if_ne (tgt := 197) B.hx B.hb dL_isPaper_190 (by decide) (fun c10 => ?_) (fun c10 => ?_)
      · refine lv_iconst (v := nI 0) B.hx B.hb dL_isPaper_197 (by decide) ?_
        refine q_top (v2 := .int (bI (decide ((nI s0) = 0)))) (congrArg Value.int (bI_f (decide_eq_false c10))) ?_
        exact kJ
      · refine lv_iconst (v := nI 1) B.hx B.hb dL_isPaper_193 (by decide) ?_
        refine lv_goto (tgt := 198) B.hx B.hb dL_isPaper_194 (by decide) ?_
        refine q_top (v2 := .int (bI (decide ((nI s0) = 0)))) (congrArg Value.int (bI_t (decide_eq_true c10))) ?_
        exact kJ
  · replace c4 := mt (nI_leI (by omega) (by omega)).mpr c4
    refine lv_iload B.hx B.hb dL_isPaper_47 (lv_at hl 1 rfl) ?_
    refine q_join (D := D) (A := A) (J := 92) (stk := [.int (bI (olf F j (-1) i1)), .int (nI (pN (olf F j (-1)) i1))]) (w := (lw cI o F ++ wk)) (fun H locs hP hD hS => ?_) (fun kJ80 => ?_)
    · refine lv_iadd B.hx B.hb dL_isPaper_92 ?_
      refine q_top (v2 := .int (nI (pN (olf F j (-1)) (i1 + 1)))) (congrArg Value.int (pN_bI (olf F j (-1)) i1)) ?_
      refine lv_istore (lv' := [(10, .int (nI (pN (olf F j (-1)) (i1 + 1)))), (11, .int (nI i1)), (9, .int wt), (8, .int (nI s0)), (7, .int (-1)), (6, .int (nI (8 * j))), (0, .ref b), (1, .ref (o 0)), (2, .ref (o 4)), (3, .ref (o 7)), (4, .ref (o 3)), (5, .int (nI j))]) B.hx B.hb dL_isPaper_93 hl (by decide) rfl (fun ls hl => ?_)
      refine lv_iinc (v := (nI (i1 + 1))) (lv' := [(11, .int (nI (i1 + 1))), (10, .int (nI (pN (olf F j (-1)) (i1 + 1)))), (9, .int wt), (8, .int (nI s0)), (7, .int (-1)), (6, .int (nI (8 * j))), (0, .ref b), (1, .ref (o 0)), (2, .ref (o 4)), (3, .ref (o 7)), (4, .ref (o 3)), (5, .int (nI j))]) B.hx B.hb dL_isPaper_95 hl (k := 1) rfl (nI_1 _) (by decide) rfl (fun ls hl => ?_)
      refine lv_goto (tgt := 39) B.hx B.hb dL_isPaper_98 (by decide) ?_
      exact ih3 (i1 + 1) (by omega) (by omega) ls H _ (lv_sub hl [0, 1, 2, 3, 4, 5, 6, 7, 8, 9, 10, 11] rfl) hP hD hS
    · refine lv_aload B.hx B.hb dL_isPaper_49 (lv_at hl 10 rfl) ?_
      refine lv_iconst (v := (nI 3)) B.hx B.hb dL_isPaper_51 (by decide) ?_
      refine lv_iload B.hx B.hb dL_isPaper_52 (lv_at hl 0 rfl) ?_
      refine lv_imul B.hx B.hb dL_isPaper_54 ?_
      refine q_top (v2 := .int (nI (3 * i1))) (congrArg Value.int (pk_mul _ _)) ?_
      refine q_iald (f := (F 3)) B hP 3 rfl (j := 3 * i1) rfl (by omega) (by decide) dL_isPaper_55 ?_
      refine lv_iload B.hx B.hb dL_isPaper_56 (lv_at hl 11 rfl) ?_
      refine lv_icmp_ne (tgt := 91) B.hx B.hb dL_isPaper_58 (by decide) (fun c81 => ?_) (fun c81 => ?_)
      · refine lv_iconst (v := (nI 0)) B.hx B.hb dL_isPaper_91 (by decide) ?_
        refine q_top (v2 := .int (bI (olf F j (-1) i1))) (congrArg Value.int (bI_f (by simp [olf, c81]))) ?_
        exact kJ80 _ _ hP hD hS
      · refine lv_aload B.hx B.hb dL_isPaper_61 (lv_at hl 10 rfl) ?_
        refine lv_iconst (v := (nI 3)) B.hx B.hb dL_isPaper_63 (by decide) ?_
        refine lv_iload B.hx B.hb dL_isPaper_64 (lv_at hl 0 rfl) ?_
        refine lv_imul B.hx B.hb dL_isPaper_66 ?_
        refine q_top (v2 := .int (nI (3 * i1))) (congrArg Value.int (pk_mul _ _)) ?_
        refine lv_iconst (v := (nI 2)) B.hx B.hb dL_isPaper_67 (by decide) ?_
        refine lv_iadd B.hx B.hb dL_isPaper_68 ?_
        refine q_top (v2 := .int (nI (3 * i1 + 2))) (congrArg Value.int (nI_add _ _)) ?_
        refine q_iald (f := (F 3)) B hP 3 rfl (j := 3 * i1 + 2) rfl (by omega) (by decide) dL_isPaper_69 ?_
        refine lv_if_le (tgt := 91) B.hx B.hb dL_isPaper_70 (by decide) (fun c82 => ?_) (fun c82 => ?_)
        · refine lv_iconst (v := (nI 0)) B.hx B.hb dL_isPaper_91 (by decide) ?_
          refine q_top (v2 := .int (bI (olf F j (-1) i1))) (congrArg Value.int (bI_f (by simp [olf, c81, c82]))) ?_
          exact kJ80 _ _ hP hD hS
        · refine lv_aload B.hx B.hb dL_isPaper_73 (lv_at hl 10 rfl) ?_
          refine lv_iconst (v := (nI 3)) B.hx B.hb dL_isPaper_75 (by decide) ?_
          refine lv_iload B.hx B.hb dL_isPaper_76 (lv_at hl 0 rfl) ?_
          refine lv_imul B.hx B.hb dL_isPaper_78 ?_
          refine q_top (v2 := .int (nI (3 * i1))) (congrArg Value.int (pk_mul _ _)) ?_
          refine lv_iconst (v := (nI 1)) B.hx B.hb dL_isPaper_79 (by decide) ?_
          refine lv_iadd B.hx B.hb dL_isPaper_80 ?_
          refine q_top (v2 := .int (nI (3 * i1 + 1))) (congrArg Value.int (nI_add _ _)) ?_
          refine q_iald (f := (F 3)) B hP 3 rfl (j := 3 * i1 + 1) rfl (by omega) (by decide) dL_isPaper_81 ?_
          refine lv_iload B.hx B.hb dL_isPaper_82 (lv_at hl 4 rfl) ?_
          refine lv_icmp_eq (tgt := 91) B.hx B.hb dL_isPaper_84 (by decide) (fun c83 => ?_) (fun c83 => ?_)
          · refine lv_iconst (v := (nI 0)) B.hx B.hb dL_isPaper_91 (by decide) ?_
            refine q_top (v2 := .int (bI (olf F j (-1) i1))) (congrArg Value.int (bI_f (by simp [olf, c81, c82, c83]))) ?_
            exact kJ80 _ _ hP hD hS
          · refine lv_iconst (v := (nI 1)) B.hx B.hb dL_isPaper_87 (by decide) ?_
            refine lv_goto (tgt := 92) B.hx B.hb dL_isPaper_88 (by decide) ?_
            refine q_top (v2 := .int (bI (olf F j (-1) i1))) (congrArg Value.int (bI_t (by simp [olf, c81, c82, c83]))) ?_
            exact kJ80 _ _ hP hD hS

set_option maxHeartbeats 4000000 in
set_option maxRecDepth 100000 in
theorem cl_isPaper1 (l : Launch) (D : va_G) (cI cZ cP : ClassId) (o : Nat → Nat) (F : Nat → Nat → Int32) (wk : va_W) {q0 b : Nat} {fs : List Value} (hq : wk[q0]? = some (b, .inr (3, fs))) (j td qn m0 m1 s0 : Nat) (wt : Int32) (du : Bool) (w0 d0 : Nat) (hj : j < 8) (hqn : qn ≤ 20) (htd : td ≤ 1000) (hs5 : s0 ≤ 5) (hm0 : m0 < 64) (hm1 : m1 < 64) (f5 : F 0 (8 * j + 5) = nI (w0 + 1)) (hw0 : w0 < 128) (hd0 : d0 + 1 ≤ td) (f43 : F 4 3 = nI qn) (f40 : F 4 0 = nI td) (f70 : F 7 (2 * j) = nI m0) (f71 : F 7 (2 * j + 1) = nI m1) (hst0 : nI s0 = 0 ↔ F 0 (8 * j) = 0) (hw : stw F j m0 m1 s0 wt) (h45 : 4 ≤ s0 → ¬ F 0 (8 * j + 4) ≤ 0) (h3 : s0 = 3 → F 0 (8 * j + 4) = 0) (hdu1 : F 0 (8 * j + 7) = nI 1 → du = true) (hdu2 : ¬ F 0 (8 * j + 7) = nI 1 → ¬ nI td - F 0 (8 * j + 6) < F 4 2 → du = true) (hdu3 : ¬ F 0 (8 * j + 7) = nI 1 → nI td - F 0 (8 * j + 6) < F 4 2 → du = false) (cs : q_C l yX3_step wsX3_step ({ frames := 2, cells := 0, slots := 0, locals := 42 }) D cI cZ cP [.ref b, .int (nI j)] wk (S := Unit) (fun v _ => v = some (.int (nI s0))) (fun _ => wk) (fun _ => False) 0 0) (cwt : q_C l yX3_waitsFor wsX3_waitsFor ({ frames := 3, cells := 0, slots := 0, locals := 62 }) D cI cZ cP [.ref b, .int (nI j)] wk (S := Unit) (fun v _ => v = some (.int wt)) (fun _ => wk) (fun _ => False) 0 0) (ci : q_C l yX3_inForce wsX3_inForce ({ frames := 1, cells := 0, slots := 0, locals := 22 }) D cI cZ cP [.ref b, .int (nI j)] wk (S := Unit) (fun v _ => v = some (.int (nI w0))) (fun _ => wk) (fun _ => False) 0 0) (co1 : q_C l yX3_inForceOn wsX3_inForceOn ({ frames := 7, cells := 1, slots := 6, locals := 104 }) D cI cZ cP [.ref b, .int (nI j), .int (nI td)] wk (S := Unit) (fun v _ => v = some (.int (nI w0))) (fun _ => wk) (fun _ => False) 1 6) (cd : q_C l yX3_isDue wsX3_isDue ({ frames := 1, cells := 0, slots := 0, locals := 22 }) D cI cZ cP [.ref b, .int (nI j)] wk (S := Unit) (fun v _ => v = some (.int (bI du))) (fun _ => wk) (fun _ => False) 0 0) (cod : q_C l yX3_outOfDate wsX3_outOfDate ({ frames := 1, cells := 0, slots := 0, locals := 24 }) D cI cZ cP [.ref b, .int (nI j)] wk (S := Unit) (fun v _ => v = some (.int (nI (pN (olf F j (nI w0)) qn)))) (fun _ => wk) (fun _ => False) 0 0) (csi : q_C l yX3_since wsX3_since ({ frames := 6, cells := 1, slots := 6, locals := 82 }) D cI cZ cP [.ref b, .int (nI j), .int (nI w0)] wk (S := Unit) (fun v _ => v = some (.int (nI (d0 + 1)))) (fun _ => wk) (fun _ => False) 1 6) (co2 : q_C l yX3_inForceOn wsX3_inForceOn ({ frames := 7, cells := 1, slots := 6, locals := 104 }) D cI cZ cP [.ref b, .int (nI j), .int (nI d0)] wk (S := Unit) (fun v _ => v = some (.int (vn w0))) (fun _ => wk) (fun _ => False) 1 6) (co3 : q_C l yX3_inForceOn wsX3_inForceOn ({ frames := 7, cells := 1, slots := 6, locals := 104 }) D cI cZ cP [.ref b, .int (nI j), .int (nI (d0 + 1))] wk (S := Unit) (fun v _ => v = some (.int (nI w0))) (fun _ => wk) (fun _ => False) 1 6) : q_C l yL_isPaper wsL_isPaper ({ frames := 8, cells := 7, slots := 42, locals := 127 }) D cI cZ cP [.ref b, .ref (o 0), .ref (o 4), .ref (o 7), .ref (o 3), .int (nI j)] (lw cI o F ++ wk) (S := Unit) (fun v _ => v = some (.int (nI 1))) (fun _ => (lw cI o F ++ wk)) (fun _ => False) 7 42 := by
  refine q_of (cc := cL_isPaper) (maxL := 14) (ret := (some .boolean)) (by decide +kernel) rfl (Nat.le_of_ble_eq_true rfl) ?_
  intro p e s m below meth c A ls B hr htb hmn hP hD hS hl
  have hl : lv_has ls 14 [(0, .ref b), (1, .ref (o 0)), (2, .ref (o 4)), (3, .ref (o 7)), (4, .ref (o 3)), (5, .int (nI j))] := hl
  have hpn := pN_le (olf F j (nI w0)) qn
  refine lv_bipush (v := (nI 8)) B.hx B.hb dL_isPaper_0 (by decide) ?_
  refine lv_iload B.hx B.hb dL_isPaper_2 (lv_at hl 5 rfl) ?_
  refine lv_imul B.hx B.hb dL_isPaper_4 ?_
  refine q_top (v2 := .int (nI (8 * j))) (congrArg Value.int (pk_mul _ _)) ?_
  refine lv_istore (lv' := [(6, .int (nI (8 * j))), (0, .ref b), (1, .ref (o 0)), (2, .ref (o 4)), (3, .ref (o 7)), (4, .ref (o 3)), (5, .int (nI j))]) B.hx B.hb dL_isPaper_5 hl (by decide) rfl (fun ls hl => ?_)
  refine lv_aload_n B.hx B.hb dL_isPaper_7 rfl (lv_at hl 2 rfl) ?_
  refine lv_iload B.hx B.hb dL_isPaper_8 (lv_at hl 0 rfl) ?_
  refine lv_iconst (v := (nI 5)) B.hx B.hb dL_isPaper_10 (by decide) ?_
  refine lv_iadd B.hx B.hb dL_isPaper_11 ?_
  refine q_top (v2 := .int (nI (8 * j + 5))) (congrArg Value.int (nI_add _ _)) ?_
  refine q_iald (f := (F 0)) B hP 0 rfl (j := 8 * j + 5) rfl (by omega) (by decide) dL_isPaper_12 ?_
  refine q_top (v2 := .int (nI (w0 + 1))) (congrArg Value.int f5) ?_
  refine lv_iconst (v := (nI 1)) B.hx B.hb dL_isPaper_13 (by decide) ?_
  refine lv_isub B.hx B.hb dL_isPaper_14 ?_
  refine q_top (v2 := .int (nI w0)) (congrArg Value.int (nI_pred1 _)) ?_
  refine lv_istore (lv' := [(7, .int (nI w0)), (6, .int (nI (8 * j))), (0, .ref b), (1, .ref (o 0)), (2, .ref (o 4)), (3, .ref (o 7)), (4, .ref (o 3)), (5, .int (nI j))]) B.hx B.hb dL_isPaper_15 hl (by decide) rfl (fun ls hl => ?_)
  refine lv_aload_n B.hx B.hb dL_isPaper_17 rfl (lv_at hl 2 rfl) ?_
  refine lv_iload B.hx B.hb dL_isPaper_18 (lv_at hl 7 rfl) ?_
  refine q_callV (As := [.int (nI j)]) (rest := []) B hP hD hS (cs.fl (lw cI o F)) (cwV 1 B.hts gL_isPaper_X3_step rfl rfl rfl (by decide +kernel) ⟨(Nat.le_of_ble_eq_true rfl), (Nat.le_of_ble_eq_true rfl)⟩) (q0 + 8) 3 hq rfl rfl rfl hl.1 rfl (Nat.le_of_ble_eq_true rfl) dL_isPaper_20 ⟨(Nat.le_of_ble_eq_true rfl), (Nat.le_of_ble_eq_true rfl)⟩ (fun E ce q9 H locs hx => False.elim hx) (fun v u H locs hp hP hD hS => ?_)
  obtain rfl := hp
  have hP : va_P D vwCl (lw cI o F ++ wk) H := hP
  have hD : va_D A (lw cI o F ++ wk) := hD
  refine lv_istore (lv' := [(8, .int (nI s0)), (7, .int (nI w0)), (6, .int (nI (8 * j))), (0, .ref b), (1, .ref (o 0)), (2, .ref (o 4)), (3, .ref (o 7)), (4, .ref (o 3)), (5, .int (nI j))]) B.hx B.hb dL_isPaper_23 hl (by decide) rfl (fun ls hl => ?_)
  refine lv_aload_n B.hx B.hb dL_isPaper_25 rfl (lv_at hl 3 rfl) ?_
  refine lv_iload B.hx B.hb dL_isPaper_26 (lv_at hl 8 rfl) ?_
  refine q_callV (As := [.int (nI j)]) (rest := []) B hP hD hS (cwt.fl (lw cI o F)) (cwV 1 B.hts gL_isPaper_X3_waitsFor rfl rfl rfl (by decide +kernel) ⟨(Nat.le_of_ble_eq_true rfl), (Nat.le_of_ble_eq_true rfl)⟩) (q0 + 8) 3 hq rfl rfl rfl hl.1 rfl (Nat.le_of_ble_eq_true rfl) dL_isPaper_28 ⟨(Nat.le_of_ble_eq_true rfl), (Nat.le_of_ble_eq_true rfl)⟩ (fun E ce q9 H locs hx => False.elim hx) (fun v u H locs hp hP hD hS => ?_)
  obtain rfl := hp
  have hP : va_P D vwCl (lw cI o F ++ wk) H := hP
  have hD : va_D A (lw cI o F ++ wk) := hD
  refine lv_istore (lv' := [(9, .int wt), (8, .int (nI s0)), (7, .int (nI w0)), (6, .int (nI (8 * j))), (0, .ref b), (1, .ref (o 0)), (2, .ref (o 4)), (3, .ref (o 7)), (4, .ref (o 3)), (5, .int (nI j))]) B.hx B.hb dL_isPaper_31 hl (by decide) rfl (fun ls hl => ?_)
  refine lv_iconst (v := (nI 0)) B.hx B.hb dL_isPaper_33 (by decide) ?_
  refine lv_istore (lv' := [(10, .int (nI 0)), (9, .int wt), (8, .int (nI s0)), (7, .int (nI w0)), (6, .int (nI (8 * j))), (0, .ref b), (1, .ref (o 0)), (2, .ref (o 4)), (3, .ref (o 7)), (4, .ref (o 3)), (5, .int (nI j))]) B.hx B.hb dL_isPaper_34 hl (by decide) rfl (fun ls hl => ?_)
  refine lv_iconst (v := (nI 0)) B.hx B.hb dL_isPaper_36 (by decide) ?_
  refine lv_istore (lv' := [(11, .int (nI 0)), (10, .int (nI 0)), (9, .int wt), (8, .int (nI s0)), (7, .int (nI w0)), (6, .int (nI (8 * j))), (0, .ref b), (1, .ref (o 0)), (2, .ref (o 4)), (3, .ref (o 7)), (4, .ref (o 3)), (5, .int (nI j))]) B.hx B.hb dL_isPaper_37 hl (by decide) rfl (fun ls hl => ?_)
  refine q_loop2 (nL := 14) (w := (lw cI o F ++ wk)) (fun i : Nat => i ≤ qn) (fun i : Nat => qn - i) (fun i : Nat => [(11, .int (nI i)), (10, .int (nI (pN (olf F j (nI w0)) i))), (9, .int wt), (8, .int (nI s0)), (7, .int (nI w0)), (6, .int (nI (8 * j))), (0, .ref b), (1, .ref (o 0)), (2, .ref (o 4)), (3, .ref (o 7)), (4, .ref (o 3)), (5, .int (nI j))]) (0) (Nat.zero_le _) (lv_sub hl [0, 1, 2, 3, 4, 5, 6, 7, 8, 9, 10, 11] rfl) hP hD hS ?_
  intro i1 hI2 ih3 ls H locs hl hP hD hS
  have hI2 : i1 ≤ qn := hI2
  have hl : lv_has ls 14 [(11, .int (nI i1)), (10, .int (nI (pN (olf F j (nI w0)) i1))), (9, .int wt), (8, .int (nI s0)), (7, .int (nI w0)), (6, .int (nI (8 * j))), (0, .ref b), (1, .ref (o 0)), (2, .ref (o 4)), (3, .ref (o 7)), (4, .ref (o 3)), (5, .int (nI j))] := hl
  refine lv_iload B.hx B.hb dL_isPaper_39 (lv_at hl 0 rfl) ?_
  refine lv_aload_n B.hx B.hb dL_isPaper_41 rfl (lv_at hl 8 rfl) ?_
  refine lv_iconst (v := (nI 3)) B.hx B.hb dL_isPaper_42 (by decide) ?_
  refine q_iald (f := (F 4)) B hP 4 rfl (j := 3) rfl (by decide) (by decide) dL_isPaper_43 ?_
  refine q_top (v2 := .int (nI qn)) (congrArg Value.int f43) ?_
  refine lv_icmp_ge (tgt := 101) B.hx B.hb dL_isPaper_44 (by decide) (fun c4 => ?_) (fun c4 => ?_)
  · replace c4 := (nI_leI (by omega) (by omega)).mp c4
    have e10 : i1 = qn := by omega
    have hl : lv_has ls 14 [(11, .int (nI i1)), (10, .int (nI (pN (olf F j (nI w0)) qn))), (9, .int wt), (8, .int (nI s0)), (7, .int (nI w0)), (6, .int (nI (8 * j))), (0, .ref b), (1, .ref (o 0)), (2, .ref (o 4)), (3, .ref (o 7)), (4, .ref (o 3)), (5, .int (nI j))] := by rw [← e10]; exact hl
    refine lv_iload B.hx B.hb dL_isPaper_101 (lv_at hl 4 rfl) ?_
    refine lv_if_lt (tgt := 138) B.hx B.hb dL_isPaper_103 (by decide) (fun c5 => False.elim (by replace c5 := (nI_lt0 (by omega)).mp c5; exact c5)) (fun _ => ?_)
    refine q_join (D := D) (A := A) (J := 139) (stk := [.int (bI du)]) (w := (lw cI o F ++ wk)) (fun H locs hP hD hS => ?_) (fun kJ6 => ?_)
    · refine lv_istore (lv' := [(11, .int (bI du)), (10, .int (nI (pN (olf F j (nI w0)) qn))), (9, .int wt), (8, .int (nI s0)), (7, .int (nI w0)), (6, .int (nI (8 * j))), (0, .ref b), (1, .ref (o 0)), (2, .ref (o 4)), (3, .ref (o 7)), (4, .ref (o 3)), (5, .int (nI j))]) B.hx B.hb dL_isPaper_139 hl (by decide) rfl (fun ls hl => ?_)
      refine lv_aload_n B.hx B.hb dL_isPaper_141 rfl (lv_at hl 6 rfl) ?_
      refine lv_iload B.hx B.hb dL_isPaper_142 (lv_at hl 11 rfl) ?_
      refine q_callV (As := [.int (nI j)]) (rest := []) B hP hD hS (ci.fl (lw cI o F)) (cwV 1 B.hts gL_isPaper_X3_inForce rfl rfl rfl (by decide +kernel) ⟨(Nat.le_of_ble_eq_true rfl), (Nat.le_of_ble_eq_true rfl)⟩) (q0 + 8) 3 hq rfl rfl rfl hl.1 rfl (Nat.le_of_ble_eq_true rfl) dL_isPaper_144 ⟨(Nat.le_of_ble_eq_true rfl), (Nat.le_of_ble_eq_true rfl)⟩ (fun E ce q9 H locs hx => False.elim hx) (fun v u H locs hp hP hD hS => ?_)
      obtain rfl := hp
      have hP : va_P D vwCl (lw cI o F ++ wk) H := hP
      have hD : va_D A (lw cI o F ++ wk) := hD
      refine lv_iload B.hx B.hb dL_isPaper_147 (lv_at hl 4 rfl) ?_
      refine lv_icmp_ne (tgt := 228) B.hx B.hb dL_isPaper_149 (by decide) (fun c7 => False.elim (by replace c7 := mt (nI_eq (by omega) (by omega)).mpr c7; exact c7 rfl)) (fun _ => ?_)
      refine lv_aload_n B.hx B.hb dL_isPaper_152 rfl (lv_at hl 6 rfl) ?_
      refine lv_iload B.hx B.hb dL_isPaper_153 (lv_at hl 11 rfl) ?_
      refine lv_aload_n B.hx B.hb dL_isPaper_155 rfl (lv_at hl 8 rfl) ?_
      refine lv_iconst (v := (nI 0)) B.hx B.hb dL_isPaper_156 (by decide) ?_
      refine q_iald (f := (F 4)) B hP 4 rfl (j := 0) rfl (by decide) (by decide) dL_isPaper_157 ?_
      refine q_top (v2 := .int (nI td)) (congrArg Value.int f40) ?_
      refine q_callV (As := [.int (nI j), .int (nI td)]) (rest := []) B hP hD hS (co1.fl (lw cI o F)) (cwV 2 B.hts gL_isPaper_X3_inForceOn rfl rfl rfl (by decide +kernel) ⟨(Nat.le_of_ble_eq_true rfl), (Nat.le_of_ble_eq_true rfl)⟩) (q0 + 8) 3 hq rfl rfl rfl hl.1 rfl (Nat.le_of_ble_eq_true rfl) dL_isPaper_158 ⟨(Nat.le_of_ble_eq_true rfl), (Nat.le_of_ble_eq_true rfl)⟩ (fun E ce q9 H locs hx => False.elim hx) (fun v u H locs hp hP hD hS => ?_)
      obtain rfl := hp
      have hP : va_P D vwCl (lw cI o F ++ wk) H := hP
      have hD : va_D A (lw cI o F ++ wk) := hD
      refine lv_iload B.hx B.hb dL_isPaper_161 (lv_at hl 4 rfl) ?_
      refine lv_icmp_ne (tgt := 228) B.hx B.hb dL_isPaper_163 (by decide) (fun c8 => False.elim (by replace c8 := mt (nI_eq (by omega) (by omega)).mpr c8; exact c8 rfl)) (fun _ => ?_)
      refine lv_aload_n B.hx B.hb dL_isPaper_166 rfl (lv_at hl 6 rfl) ?_
      refine lv_iload B.hx B.hb dL_isPaper_167 (lv_at hl 11 rfl) ?_
      refine q_callV (As := [.int (nI j)]) (rest := []) B hP hD hS (cd.fl (lw cI o F)) (cwV 1 B.hts gL_isPaper_X3_isDue rfl rfl rfl (by decide +kernel) ⟨(Nat.le_of_ble_eq_true rfl), (Nat.le_of_ble_eq_true rfl)⟩) (q0 + 8) 3 hq rfl rfl rfl hl.1 rfl (Nat.le_of_ble_eq_true rfl) dL_isPaper_169 ⟨(Nat.le_of_ble_eq_true rfl), (Nat.le_of_ble_eq_true rfl)⟩ (fun E ce q9 H locs hx => False.elim hx) (fun v u H locs hp hP hD hS => ?_)
      obtain rfl := hp
      have hP : va_P D vwCl (lw cI o F ++ wk) H := hP
      have hD : va_D A (lw cI o F ++ wk) := hD
      refine lv_iload B.hx B.hb dL_isPaper_172 (lv_at hl 0 rfl) ?_
      refine lv_icmp_ne (tgt := 228) B.hx B.hb dL_isPaper_174 (by decide) (fun c9 => False.elim (by exact c9 rfl)) (fun _ => ?_)
      refine lv_aload_n B.hx B.hb dL_isPaper_177 rfl (lv_at hl 6 rfl) ?_
      refine lv_iload B.hx B.hb dL_isPaper_178 (lv_at hl 11 rfl) ?_
      refine q_callV (As := [.int (nI j)]) (rest := []) B hP hD hS (cod.fl (lw cI o F)) (cwV 1 B.hts gL_isPaper_X3_outOfDate rfl rfl rfl (by decide +kernel) ⟨(Nat.le_of_ble_eq_true rfl), (Nat.le_of_ble_eq_true rfl)⟩) (q0 + 8) 3 hq rfl rfl rfl hl.1 rfl (Nat.le_of_ble_eq_true rfl) dL_isPaper_180 ⟨(Nat.le_of_ble_eq_true rfl), (Nat.le_of_ble_eq_true rfl)⟩ (fun E ce q9 H locs hx => False.elim hx) (fun v u H locs hp hP hD hS => ?_)
      obtain rfl := hp
      have hP : va_P D vwCl (lw cI o F ++ wk) H := hP
      have hD : va_D A (lw cI o F ++ wk) := hD
      refine lv_iload B.hx B.hb dL_isPaper_183 (lv_at hl 1 rfl) ?_
      refine lv_icmp_ne (tgt := 228) B.hx B.hb dL_isPaper_185 (by decide) (fun c10 => False.elim (by replace c10 := mt (nI_eq (by omega) (by omega)).mpr c10; exact c10 rfl)) (fun _ => ?_)
      refine lv_iload B.hx B.hb dL_isPaper_188 (lv_at hl 3 rfl) ?_
      refine q_join0 (J := 198) (stk := [.int (bI (decide ((nI s0) = 0)))]) ?_ (fun kJ => ?_)
      · refine lv_aload_n B.hx B.hb dL_isPaper_198 rfl (lv_at hl 7 rfl) ?_
        refine lv_iload B.hx B.hb dL_isPaper_199 (lv_at hl 5 rfl) ?_
        refine q_iald (f := (F 0)) B hP 0 rfl (j := 8 * j) rfl (by omega) (by decide) dL_isPaper_201 ?_
        refine q_join0 (J := 210) (stk := [.int (bI (decide (((F 0) (8 * j)) = 0))), .int (bI (decide ((nI s0) = 0)))]) ?_ (fun kJ => ?_)
        · refine lv_icmp_ne (tgt := 228) B.hx B.hb dL_isPaper_210 (by decide) (fun c13 => False.elim (by exact c13 (congrArg bI (decide_eq_decide.mpr hst0)))) (fun _ => ?_)
          refine lv_iload B.hx B.hb dL_isPaper_213 (lv_at hl 3 rfl) ?_
          refine lv_if_lt (tgt := 228) B.hx B.hb dL_isPaper_215 (by decide) (fun c14 => False.elim (by replace c14 := (nI_lt0 (by omega)).mp c14; exact c14)) (fun _ => ?_)
          refine lv_iload B.hx B.hb dL_isPaper_218 (lv_at hl 3 rfl) ?_
          refine lv_iconst (v := (nI 5)) B.hx B.hb dL_isPaper_220 (by decide) ?_
          refine lv_icmp_gt (tgt := 228) B.hx B.hb dL_isPaper_221 (by decide) (fun c15 => False.elim (by replace c15 := (nI_ltI (by omega) (by omega)).mp c15; omega)) (fun _ => ?_)
          refine lv_iconst (v := (nI 1)) B.hx B.hb dL_isPaper_224 (by decide) ?_
          refine lv_goto (tgt := 229) B.hx B.hb dL_isPaper_225 (by decide) ?_
          refine lv_istore (lv' := [(12, .int (nI 1)), (11, .int (bI du)), (10, .int (nI (pN (olf F j (nI w0)) qn))), (9, .int wt), (8, .int (nI s0)), (7, .int (nI w0)), (6, .int (nI (8 * j))), (0, .ref b), (1, .ref (o 0)), (2, .ref (o 4)), (3, .ref (o 7)), (4, .ref (o 3)), (5, .int (nI j))]) B.hx B.hb dL_isPaper_229 hl (by decide) rfl (fun ls hl => ?_)
          refine lv_iload B.hx B.hb dL_isPaper_231 (lv_at hl 0 rfl) ?_
          refine lv_if_eq (tgt := 325) B.hx B.hb dL_isPaper_233 (by decide) (fun c16 => False.elim (by exact absurd c16 (by decide))) (fun _ => ?_)
          refine lv_iload B.hx B.hb dL_isPaper_236 (lv_at hl 5 rfl) ?_
          refine lv_if_ge (tgt := 254) B.hx B.hb dL_isPaper_238 (by decide) (fun _ => ?_) (fun c17 => False.elim (by replace c17 := mt (nI_ge0 (by omega)).mpr c17; exact c17 trivial))
          refine lv_aload_n B.hx B.hb dL_isPaper_254 rfl (lv_at hl 7 rfl) ?_
          refine lv_iload B.hx B.hb dL_isPaper_255 (lv_at hl 12 rfl) ?_
          refine lv_iload B.hx B.hb dL_isPaper_257 (lv_at hl 5 rfl) ?_
          refine q_callV (As := [.int (nI j), .int (nI w0)]) (rest := []) B hP hD hS (csi.fl (lw cI o F)) (cwV 2 B.hts gL_isPaper_X3_since rfl rfl rfl (by decide +kernel) ⟨(Nat.le_of_ble_eq_true rfl), (Nat.le_of_ble_eq_true rfl)⟩) (q0 + 8) 3 hq rfl rfl rfl hl.1 rfl (Nat.le_of_ble_eq_true rfl) dL_isPaper_259 ⟨(Nat.le_of_ble_eq_true rfl), (Nat.le_of_ble_eq_true rfl)⟩ (fun E ce q9 H locs hx => False.elim hx) (fun v u H locs hp hP hD hS => ?_)
          obtain rfl := hp
          have hP : va_P D vwCl (lw cI o F ++ wk) H := hP
          have hD : va_D A (lw cI o F ++ wk) := hD
          refine lv_aload_n B.hx B.hb dL_isPaper_262 rfl (lv_at hl 9 rfl) ?_
          refine lv_iconst (v := (nI 0)) B.hx B.hb dL_isPaper_263 (by decide) ?_
          refine q_iald (f := (F 4)) B hP 4 rfl (j := 0) rfl (by decide) (by decide) dL_isPaper_264 ?_
          refine q_top (v2 := .int (nI td)) (congrArg Value.int f40) ?_
          refine lv_icmp_gt (tgt := 325) B.hx B.hb dL_isPaper_265 (by decide) (fun c18 => False.elim (by replace c18 := (nI_ltI (by omega) (by omega)).mp c18; omega)) (fun _ => ?_)
          refine lv_aload_n B.hx B.hb dL_isPaper_268 rfl (lv_at hl 7 rfl) ?_
          refine lv_iload B.hx B.hb dL_isPaper_269 (lv_at hl 12 rfl) ?_
          refine lv_iload B.hx B.hb dL_isPaper_271 (lv_at hl 5 rfl) ?_
          refine q_callV (As := [.int (nI j), .int (nI w0)]) (rest := []) B hP hD hS (csi.fl (lw cI o F)) (cwV 2 B.hts gL_isPaper_X3_since rfl rfl rfl (by decide +kernel) ⟨(Nat.le_of_ble_eq_true rfl), (Nat.le_of_ble_eq_true rfl)⟩) (q0 + 8) 3 hq rfl rfl rfl hl.1 rfl (Nat.le_of_ble_eq_true rfl) dL_isPaper_273 ⟨(Nat.le_of_ble_eq_true rfl), (Nat.le_of_ble_eq_true rfl)⟩ (fun E ce q9 H locs hx => False.elim hx) (fun v u H locs hp hP hD hS => ?_)
          obtain rfl := hp
          have hP : va_P D vwCl (lw cI o F ++ wk) H := hP
          have hD : va_D A (lw cI o F ++ wk) := hD
          refine lv_if_eq (tgt := 302) B.hx B.hb dL_isPaper_276 (by decide) (fun c19 => False.elim (by replace c19 := (nI_eq0 (by omega)).mp c19; omega)) (fun _ => ?_)
          refine lv_aload_n B.hx B.hb dL_isPaper_279 rfl (lv_at hl 7 rfl) ?_
          refine lv_iload B.hx B.hb dL_isPaper_280 (lv_at hl 12 rfl) ?_
          refine lv_aload_n B.hx B.hb dL_isPaper_282 rfl (lv_at hl 7 rfl) ?_
          refine lv_iload B.hx B.hb dL_isPaper_283 (lv_at hl 12 rfl) ?_
          refine lv_iload B.hx B.hb dL_isPaper_285 (lv_at hl 5 rfl) ?_
          refine q_callV (As := [.int (nI j), .int (nI w0)]) (rest := [.int (nI j), .ref b]) B hP hD hS (csi.fl (lw cI o F)) (cwV 2 B.hts gL_isPaper_X3_since rfl rfl rfl (by decide +kernel) ⟨(Nat.le_of_ble_eq_true rfl), (Nat.le_of_ble_eq_true rfl)⟩) (q0 + 8) 3 hq rfl rfl rfl hl.1 rfl (Nat.le_of_ble_eq_true rfl) dL_isPaper_287 ⟨(Nat.le_of_ble_eq_true rfl), (Nat.le_of_ble_eq_true rfl)⟩ (fun E ce q9 H locs hx => False.elim hx) (fun v u H locs hp hP hD hS => ?_)
          obtain rfl := hp
          have hP : va_P D vwCl (lw cI o F ++ wk) H := hP
          have hD : va_D A (lw cI o F ++ wk) := hD
          refine lv_iconst (v := (nI 1)) B.hx B.hb dL_isPaper_290 (by decide) ?_
          refine lv_isub B.hx B.hb dL_isPaper_291 ?_
          refine q_top (v2 := .int (nI d0)) (congrArg Value.int (nI_pred1 _)) ?_
          refine q_callV (As := [.int (nI j), .int (nI d0)]) (rest := []) B hP hD hS (co2.fl (lw cI o F)) (cwV 2 B.hts gL_isPaper_X3_inForceOn rfl rfl rfl (by decide +kernel) ⟨(Nat.le_of_ble_eq_true rfl), (Nat.le_of_ble_eq_true rfl)⟩) (q0 + 8) 3 hq rfl rfl rfl hl.1 rfl (Nat.le_of_ble_eq_true rfl) dL_isPaper_292 ⟨(Nat.le_of_ble_eq_true rfl), (Nat.le_of_ble_eq_true rfl)⟩ (fun E ce q9 H locs hx => False.elim hx) (fun v u H locs hp hP hD hS => ?_)
          obtain rfl := hp
          have hP : va_P D vwCl (lw cI o F ++ wk) H := hP
          have hD : va_D A (lw cI o F ++ wk) := hD
          refine lv_iload B.hx B.hb dL_isPaper_295 (lv_at hl 5 rfl) ?_
          refine lv_iconst (v := (nI 1)) B.hx B.hb dL_isPaper_297 (by decide) ?_
          refine lv_isub B.hx B.hb dL_isPaper_298 ?_
          refine lv_icmp_ne (tgt := 325) B.hx B.hb dL_isPaper_299 (by decide) (fun c20 => False.elim (by exact c20 (vn_eq w0).symm)) (fun _ => ?_)
          refine lv_aload_n B.hx B.hb dL_isPaper_302 rfl (lv_at hl 7 rfl) ?_
          refine lv_iload B.hx B.hb dL_isPaper_303 (lv_at hl 12 rfl) ?_
          refine lv_aload_n B.hx B.hb dL_isPaper_305 rfl (lv_at hl 7 rfl) ?_
          refine lv_iload B.hx B.hb dL_isPaper_306 (lv_at hl 12 rfl) ?_
          refine lv_iload B.hx B.hb dL_isPaper_308 (lv_at hl 5 rfl) ?_
          refine q_callV (As := [.int (nI j), .int (nI w0)]) (rest := [.int (nI j), .ref b]) B hP hD hS (csi.fl (lw cI o F)) (cwV 2 B.hts gL_isPaper_X3_since rfl rfl rfl (by decide +kernel) ⟨(Nat.le_of_ble_eq_true rfl), (Nat.le_of_ble_eq_true rfl)⟩) (q0 + 8) 3 hq rfl rfl rfl hl.1 rfl (Nat.le_of_ble_eq_true rfl) dL_isPaper_310 ⟨(Nat.le_of_ble_eq_true rfl), (Nat.le_of_ble_eq_true rfl)⟩ (fun E ce q9 H locs hx => False.elim hx) (fun v u H locs hp hP hD hS => ?_)
          obtain rfl := hp
          have hP : va_P D vwCl (lw cI o F ++ wk) H := hP
          have hD : va_D A (lw cI o F ++ wk) := hD
          refine q_callV (As := [.int (nI j), .int (nI (d0 + 1))]) (rest := []) B hP hD hS (co3.fl (lw cI o F)) (cwV 2 B.hts gL_isPaper_X3_inForceOn rfl rfl rfl (by decide +kernel) ⟨(Nat.le_of_ble_eq_true rfl), (Nat.le_of_ble_eq_true rfl)⟩) (q0 + 8) 3 hq rfl rfl rfl hl.1 rfl (Nat.le_of_ble_eq_true rfl) dL_isPaper_313 ⟨(Nat.le_of_ble_eq_true rfl), (Nat.le_of_ble_eq_true rfl)⟩ (fun E ce q9 H locs hx => False.elim hx) (fun v u H locs hp hP hD hS => ?_)
          obtain rfl := hp
          have hP : va_P D vwCl (lw cI o F ++ wk) H := hP
          have hD : va_D A (lw cI o F ++ wk) := hD
          refine lv_iload B.hx B.hb dL_isPaper_316 (lv_at hl 5 rfl) ?_
          refine lv_icmp_ne (tgt := 325) B.hx B.hb dL_isPaper_318 (by decide) (fun c21 => False.elim (by replace c21 := mt (nI_eq (by omega) (by omega)).mpr c21; exact c21 rfl)) (fun _ => ?_)
          refine lv_iconst (v := (nI 1)) B.hx B.hb dL_isPaper_321 (by decide) ?_
          refine lv_goto (tgt := 326) B.hx B.hb dL_isPaper_322 (by decide) ?_
          refine lv_istore (lv' := [(12, .int (nI 1)), (11, .int (bI du)), (10, .int (nI (pN (olf F j (nI w0)) qn))), (9, .int wt), (8, .int (nI s0)), (7, .int (nI w0)), (6, .int (nI (8 * j))), (0, .ref b), (1, .ref (o 0)), (2, .ref (o 4)), (3, .ref (o 7)), (4, .ref (o 3)), (5, .int (nI j))]) B.hx B.hb dL_isPaper_326 hl (by decide) rfl (fun ls hl => ?_)
          rcases hw with ⟨rfl, rfl, rfl⟩ | ⟨rfl, p9, hp9, rfl, hb9⟩ | ⟨rfl, rfl⟩ | ⟨rfl, p9, hp9, rfl, hb9⟩ | ⟨rfl, rfl⟩ | ⟨rfl, rfl⟩ | ⟨rfl, rfl⟩
          · refine lv_iload B.hx B.hb dL_isPaper_328 (lv_at hl 4 rfl) ?_
            refine lv_iconst (v := (nI 1)) B.hx B.hb dL_isPaper_330 (by decide) ?_
            refine lv_icmp_ne (tgt := 390) B.hx B.hb dL_isPaper_331 (by decide) (fun c22 => False.elim (by exact absurd c22 (by decide))) (fun _ => ?_)
            refine lv_iload B.hx B.hb dL_isPaper_334 (lv_at hl 3 rfl) ?_
            refine lv_iconst (v := (-1)) B.hx B.hb dL_isPaper_336 (by decide) ?_
            refine lv_icmp_ne (tgt := 344) B.hx B.hb dL_isPaper_337 (by decide) (fun c23 => False.elim (by exact absurd c23 (by decide))) (fun _ => ?_)
            refine lv_iconst (v := (nI 1)) B.hx B.hb dL_isPaper_340 (by decide) ?_
            refine lv_goto (tgt := 345) B.hx B.hb dL_isPaper_341 (by decide) ?_
            refine lv_aload_n B.hx B.hb dL_isPaper_345 rfl (lv_at hl 10 rfl) ?_
            refine lv_iconst (v := (nI 2)) B.hx B.hb dL_isPaper_346 (by decide) ?_
            refine lv_iload B.hx B.hb dL_isPaper_347 (lv_at hl 12 rfl) ?_
            refine lv_imul B.hx B.hb dL_isPaper_349 ?_
            refine q_top (v2 := .int (nI (2 * j))) (congrArg Value.int (pk_mul _ _)) ?_
            refine q_iald (f := (F 7)) B hP 7 rfl (j := 2 * j) rfl (by omega) (by decide) dL_isPaper_350 ?_
            refine q_top (v2 := .int (nI 0)) (congrArg Value.int f70) ?_
            refine lv_if_ne (tgt := 358) B.hx B.hb dL_isPaper_351 (by decide) (fun c24 => False.elim (by exact absurd c24 (by decide))) (fun _ => ?_)
            refine lv_iconst (v := (nI 1)) B.hx B.hb dL_isPaper_354 (by decide) ?_
            refine lv_goto (tgt := 359) B.hx B.hb dL_isPaper_355 (by decide) ?_
            refine lv_icmp_ne (tgt := 386) B.hx B.hb dL_isPaper_359 (by decide) (fun c25 => False.elim (by exact absurd c25 (by decide))) (fun _ => ?_)
            refine lv_iload B.hx B.hb dL_isPaper_362 (lv_at hl 3 rfl) ?_
            refine lv_iconst (v := (-1)) B.hx B.hb dL_isPaper_364 (by decide) ?_
            refine lv_icmp_eq (tgt := 382) B.hx B.hb dL_isPaper_365 (by decide) (fun _ => ?_) (fun c26 => False.elim (by exact absurd c26 (by decide)))
            refine lv_iconst (v := (nI 1)) B.hx B.hb dL_isPaper_382 (by decide) ?_
            refine lv_goto (tgt := 461) B.hx B.hb dL_isPaper_383 (by decide) ?_
            refine lv_istore (lv' := [(13, .int (nI 1)), (12, .int (nI 1)), (11, .int (bI du)), (10, .int (nI (pN (olf F j (nI w0)) qn))), (9, .int (-1)), (8, .int (nI 1)), (7, .int (nI w0)), (6, .int (nI (8 * j))), (0, .ref b), (1, .ref (o 0)), (2, .ref (o 4)), (3, .ref (o 7)), (4, .ref (o 3)), (5, .int (nI j))]) B.hx B.hb dL_isPaper_461 hl (by decide) rfl (fun ls hl => ?_)
            refine lv_iload B.hx B.hb dL_isPaper_463 (lv_at hl 1 rfl) ?_
            refine lv_if_eq (tgt := 507) B.hx B.hb dL_isPaper_465 (by decide) (fun c27 => False.elim (by exact absurd c27 (by decide))) (fun _ => ?_)
            refine lv_iload B.hx B.hb dL_isPaper_468 (lv_at hl 0 rfl) ?_
            refine lv_if_eq (tgt := 507) B.hx B.hb dL_isPaper_470 (by decide) (fun c28 => False.elim (by exact absurd c28 (by decide))) (fun _ => ?_)
            refine lv_iload B.hx B.hb dL_isPaper_473 (lv_at hl 5 rfl) ?_
            refine lv_iconst (v := (nI 4)) B.hx B.hb dL_isPaper_475 (by decide) ?_
            refine lv_icmp_lt (tgt := 488) B.hx B.hb dL_isPaper_476 (by decide) (fun _ => ?_) (fun c29 => False.elim (by exact absurd c29 (by decide)))
            refine lv_iload B.hx B.hb dL_isPaper_488 (lv_at hl 5 rfl) ?_
            refine lv_iconst (v := (nI 3)) B.hx B.hb dL_isPaper_490 (by decide) ?_
            refine lv_icmp_ne (tgt := 503) B.hx B.hb dL_isPaper_491 (by decide) (fun _ => ?_) (fun c30 => False.elim (by exact absurd c30 (by decide)))
            refine lv_iconst (v := (nI 1)) B.hx B.hb dL_isPaper_503 (by decide) ?_
            refine lv_goto (tgt := 508) B.hx B.hb dL_isPaper_504 (by decide) ?_
            exact q_zret B hr hP hD hS (by decide) (u := ()) rfl rfl (Nat.le_of_ble_eq_true rfl) (Nat.le_of_ble_eq_true rfl) dL_isPaper_508
          · refine lv_iload B.hx B.hb dL_isPaper_328 (lv_at hl 4 rfl) ?_
            refine lv_iconst (v := (nI 1)) B.hx B.hb dL_isPaper_330 (by decide) ?_
            refine lv_icmp_ne (tgt := 390) B.hx B.hb dL_isPaper_331 (by decide) (fun c31 => False.elim (by exact absurd c31 (by decide))) (fun _ => ?_)
            refine lv_iload B.hx B.hb dL_isPaper_334 (lv_at hl 3 rfl) ?_
            refine lv_iconst (v := (-1)) B.hx B.hb dL_isPaper_336 (by decide) ?_
            refine lv_icmp_ne (tgt := 344) B.hx B.hb dL_isPaper_337 (by decide) (fun _ => ?_) (fun c32 => False.elim (by exact nI_nm1 (by omega) c32))
            refine lv_iconst (v := (nI 0)) B.hx B.hb dL_isPaper_344 (by decide) ?_
            refine lv_aload_n B.hx B.hb dL_isPaper_345 rfl (lv_at hl 10 rfl) ?_
            refine lv_iconst (v := (nI 2)) B.hx B.hb dL_isPaper_346 (by decide) ?_
            refine lv_iload B.hx B.hb dL_isPaper_347 (lv_at hl 12 rfl) ?_
            refine lv_imul B.hx B.hb dL_isPaper_349 ?_
            refine q_top (v2 := .int (nI (2 * j))) (congrArg Value.int (pk_mul _ _)) ?_
            refine q_iald (f := (F 7)) B hP 7 rfl (j := 2 * j) rfl (by omega) (by decide) dL_isPaper_350 ?_
            refine q_top (v2 := .int (nI m0)) (congrArg Value.int f70) ?_
            refine lv_if_ne (tgt := 358) B.hx B.hb dL_isPaper_351 (by decide) (fun _ => ?_) (fun c33 => False.elim (by replace c33 := (nI_eq0 (by omega)).mp c33; rw [c33] at hb9; simp at hb9))
            refine lv_iconst (v := (nI 0)) B.hx B.hb dL_isPaper_358 (by decide) ?_
            refine lv_icmp_ne (tgt := 386) B.hx B.hb dL_isPaper_359 (by decide) (fun c34 => False.elim (by exact absurd c34 (by decide))) (fun _ => ?_)
            refine lv_iload B.hx B.hb dL_isPaper_362 (lv_at hl 3 rfl) ?_
            refine lv_iconst (v := (-1)) B.hx B.hb dL_isPaper_364 (by decide) ?_
            refine lv_icmp_eq (tgt := 382) B.hx B.hb dL_isPaper_365 (by decide) (fun c35 => False.elim (by exact nI_nm1 (by omega) c35)) (fun _ => ?_)
            refine lv_aload_n B.hx B.hb dL_isPaper_368 rfl (lv_at hl 10 rfl) ?_
            refine lv_iconst (v := (nI 2)) B.hx B.hb dL_isPaper_369 (by decide) ?_
            refine lv_iload B.hx B.hb dL_isPaper_370 (lv_at hl 12 rfl) ?_
            refine lv_imul B.hx B.hb dL_isPaper_372 ?_
            refine q_top (v2 := .int (nI (2 * j))) (congrArg Value.int (pk_mul _ _)) ?_
            refine q_iald (f := (F 7)) B hP 7 rfl (j := 2 * j) rfl (by omega) (by decide) dL_isPaper_373 ?_
            refine q_top (v2 := .int (nI m0)) (congrArg Value.int f70) ?_
            refine lv_iload B.hx B.hb dL_isPaper_374 (lv_at hl 3 rfl) ?_
            refine q_callS (As := [.int (nI m0), .int (nI p9)]) (rest := []) B hP hD hS ((cl_has l D cI cZ cP m0 p9 (by omega) (by omega)).fr0 (lw cI o F ++ wk)) (cwS 2 B.hts gL_isPaper_L_has rfl rfl rfl (by decide +kernel) ⟨(Nat.le_of_ble_eq_true rfl), (Nat.le_of_ble_eq_true rfl)⟩) rfl hl.1 rfl (Nat.le_of_ble_eq_true rfl) dL_isPaper_376 ⟨(Nat.le_of_ble_eq_true rfl), (Nat.le_of_ble_eq_true rfl)⟩ (fun E ce q9 H locs hx => False.elim hx) (fun v u H locs hp hP hD hS => ?_)
            obtain rfl := hp
            have hP : va_P D vwCl (lw cI o F ++ wk) H := hP
            have hD : va_D A (lw cI o F ++ wk) := hD
            refine lv_if_eq (tgt := 386) B.hx B.hb dL_isPaper_379 (by decide) (fun c36 => False.elim (by replace c36 := bI_0.mp c36; exact absurd (hb9.symm.trans c36) (by decide))) (fun _ => ?_)
            refine lv_iconst (v := (nI 1)) B.hx B.hb dL_isPaper_382 (by decide) ?_
            refine lv_goto (tgt := 461) B.hx B.hb dL_isPaper_383 (by decide) ?_
            refine lv_istore (lv' := [(13, .int (nI 1)), (12, .int (nI 1)), (11, .int (bI du)), (10, .int (nI (pN (olf F j (nI w0)) qn))), (9, .int (nI p9)), (8, .int (nI 1)), (7, .int (nI w0)), (6, .int (nI (8 * j))), (0, .ref b), (1, .ref (o 0)), (2, .ref (o 4)), (3, .ref (o 7)), (4, .ref (o 3)), (5, .int (nI j))]) B.hx B.hb dL_isPaper_461 hl (by decide) rfl (fun ls hl => ?_)
            refine lv_iload B.hx B.hb dL_isPaper_463 (lv_at hl 1 rfl) ?_
            refine lv_if_eq (tgt := 507) B.hx B.hb dL_isPaper_465 (by decide) (fun c37 => False.elim (by exact absurd c37 (by decide))) (fun _ => ?_)
            refine lv_iload B.hx B.hb dL_isPaper_468 (lv_at hl 0 rfl) ?_
            refine lv_if_eq (tgt := 507) B.hx B.hb dL_isPaper_470 (by decide) (fun c38 => False.elim (by exact absurd c38 (by decide))) (fun _ => ?_)
            refine lv_iload B.hx B.hb dL_isPaper_473 (lv_at hl 5 rfl) ?_
            refine lv_iconst (v := (nI 4)) B.hx B.hb dL_isPaper_475 (by decide) ?_
            refine lv_icmp_lt (tgt := 488) B.hx B.hb dL_isPaper_476 (by decide) (fun _ => ?_) (fun c39 => False.elim (by exact absurd c39 (by decide)))
            refine lv_iload B.hx B.hb dL_isPaper_488 (lv_at hl 5 rfl) ?_
            refine lv_iconst (v := (nI 3)) B.hx B.hb dL_isPaper_490 (by decide) ?_
            refine lv_icmp_ne (tgt := 503) B.hx B.hb dL_isPaper_491 (by decide) (fun _ => ?_) (fun c40 => False.elim (by exact absurd c40 (by decide)))
            refine lv_iconst (v := (nI 1)) B.hx B.hb dL_isPaper_503 (by decide) ?_
            refine lv_goto (tgt := 508) B.hx B.hb dL_isPaper_504 (by decide) ?_
            exact q_zret B hr hP hD hS (by decide) (u := ()) rfl rfl (Nat.le_of_ble_eq_true rfl) (Nat.le_of_ble_eq_true rfl) dL_isPaper_508
          · refine lv_iload B.hx B.hb dL_isPaper_328 (lv_at hl 4 rfl) ?_
            refine lv_iconst (v := (nI 1)) B.hx B.hb dL_isPaper_330 (by decide) ?_
            refine lv_icmp_ne (tgt := 390) B.hx B.hb dL_isPaper_331 (by decide) (fun _ => ?_) (fun c41 => False.elim (by exact absurd c41 (by decide)))
            refine lv_iload B.hx B.hb dL_isPaper_390 (lv_at hl 4 rfl) ?_
            refine lv_iconst (v := (nI 2)) B.hx B.hb dL_isPaper_392 (by decide) ?_
            refine lv_icmp_ne (tgt := 415) B.hx B.hb dL_isPaper_393 (by decide) (fun c42 => False.elim (by exact absurd c42 (by decide))) (fun _ => ?_)
            refine lv_iload B.hx B.hb dL_isPaper_396 (lv_at hl 3 rfl) ?_
            refine lv_aload_n B.hx B.hb dL_isPaper_398 rfl (lv_at hl 8 rfl) ?_
            refine lv_iload B.hx B.hb dL_isPaper_399 (lv_at hl 6 rfl) ?_
            refine lv_iconst (v := (nI 1)) B.hx B.hb dL_isPaper_401 (by decide) ?_
            refine lv_iadd B.hx B.hb dL_isPaper_402 ?_
            refine q_top (v2 := .int (nI (8 * j + 1))) (congrArg Value.int (nI_add _ _)) ?_
            refine q_iald (f := (F 0)) B hP 0 rfl (j := 8 * j + 1) rfl (by omega) (by decide) dL_isPaper_403 ?_
            refine lv_icmp_ne (tgt := 411) B.hx B.hb dL_isPaper_404 (by decide) (fun c43 => False.elim (by exact c43 rfl)) (fun _ => ?_)
            refine lv_iconst (v := (nI 1)) B.hx B.hb dL_isPaper_407 (by decide) ?_
            refine lv_goto (tgt := 461) B.hx B.hb dL_isPaper_408 (by decide) ?_
            refine lv_istore (lv' := [(13, .int (nI 1)), (12, .int (nI 1)), (11, .int (bI du)), (10, .int (nI (pN (olf F j (nI w0)) qn))), (9, .int (F 0 (8 * j + 1))), (8, .int (nI 2)), (7, .int (nI w0)), (6, .int (nI (8 * j))), (0, .ref b), (1, .ref (o 0)), (2, .ref (o 4)), (3, .ref (o 7)), (4, .ref (o 3)), (5, .int (nI j))]) B.hx B.hb dL_isPaper_461 hl (by decide) rfl (fun ls hl => ?_)
            refine lv_iload B.hx B.hb dL_isPaper_463 (lv_at hl 1 rfl) ?_
            refine lv_if_eq (tgt := 507) B.hx B.hb dL_isPaper_465 (by decide) (fun c44 => False.elim (by exact absurd c44 (by decide))) (fun _ => ?_)
            refine lv_iload B.hx B.hb dL_isPaper_468 (lv_at hl 0 rfl) ?_
            refine lv_if_eq (tgt := 507) B.hx B.hb dL_isPaper_470 (by decide) (fun c45 => False.elim (by exact absurd c45 (by decide))) (fun _ => ?_)
            refine lv_iload B.hx B.hb dL_isPaper_473 (lv_at hl 5 rfl) ?_
            refine lv_iconst (v := (nI 4)) B.hx B.hb dL_isPaper_475 (by decide) ?_
            refine lv_icmp_lt (tgt := 488) B.hx B.hb dL_isPaper_476 (by decide) (fun _ => ?_) (fun c46 => False.elim (by exact absurd c46 (by decide)))
            refine lv_iload B.hx B.hb dL_isPaper_488 (lv_at hl 5 rfl) ?_
            refine lv_iconst (v := (nI 3)) B.hx B.hb dL_isPaper_490 (by decide) ?_
            refine lv_icmp_ne (tgt := 503) B.hx B.hb dL_isPaper_491 (by decide) (fun _ => ?_) (fun c47 => False.elim (by exact absurd c47 (by decide)))
            refine lv_iconst (v := (nI 1)) B.hx B.hb dL_isPaper_503 (by decide) ?_
            refine lv_goto (tgt := 508) B.hx B.hb dL_isPaper_504 (by decide) ?_
            exact q_zret B hr hP hD hS (by decide) (u := ()) rfl rfl (Nat.le_of_ble_eq_true rfl) (Nat.le_of_ble_eq_true rfl) dL_isPaper_508
          · refine lv_iload B.hx B.hb dL_isPaper_328 (lv_at hl 4 rfl) ?_
            refine lv_iconst (v := (nI 1)) B.hx B.hb dL_isPaper_330 (by decide) ?_
            refine lv_icmp_ne (tgt := 390) B.hx B.hb dL_isPaper_331 (by decide) (fun _ => ?_) (fun c48 => False.elim (by exact absurd c48 (by decide)))
            refine lv_iload B.hx B.hb dL_isPaper_390 (lv_at hl 4 rfl) ?_
            refine lv_iconst (v := (nI 2)) B.hx B.hb dL_isPaper_392 (by decide) ?_
            refine lv_icmp_ne (tgt := 415) B.hx B.hb dL_isPaper_393 (by decide) (fun _ => ?_) (fun c49 => False.elim (by exact absurd c49 (by decide)))
            refine lv_iload B.hx B.hb dL_isPaper_415 (lv_at hl 4 rfl) ?_
            refine lv_iconst (v := (nI 4)) B.hx B.hb dL_isPaper_417 (by decide) ?_
            refine lv_icmp_ne (tgt := 450) B.hx B.hb dL_isPaper_418 (by decide) (fun c50 => False.elim (by exact absurd c50 (by decide))) (fun _ => ?_)
            refine lv_iload B.hx B.hb dL_isPaper_421 (lv_at hl 3 rfl) ?_
            refine lv_if_lt (tgt := 446) B.hx B.hb dL_isPaper_423 (by decide) (fun c51 => False.elim (by replace c51 := (nI_lt0 (by omega)).mp c51; exact c51)) (fun _ => ?_)
            refine lv_aload_n B.hx B.hb dL_isPaper_426 rfl (lv_at hl 10 rfl) ?_
            refine lv_iconst (v := (nI 2)) B.hx B.hb dL_isPaper_427 (by decide) ?_
            refine lv_iload B.hx B.hb dL_isPaper_428 (lv_at hl 12 rfl) ?_
            refine lv_imul B.hx B.hb dL_isPaper_430 ?_
            refine q_top (v2 := .int (nI (2 * j))) (congrArg Value.int (pk_mul _ _)) ?_
            refine lv_iconst (v := (nI 1)) B.hx B.hb dL_isPaper_431 (by decide) ?_
            refine lv_iadd B.hx B.hb dL_isPaper_432 ?_
            refine q_top (v2 := .int (nI (2 * j + 1))) (congrArg Value.int (nI_add _ _)) ?_
            refine q_iald (f := (F 7)) B hP 7 rfl (j := 2 * j + 1) rfl (by omega) (by decide) dL_isPaper_433 ?_
            refine q_top (v2 := .int (nI m1)) (congrArg Value.int f71) ?_
            refine lv_iload B.hx B.hb dL_isPaper_434 (lv_at hl 3 rfl) ?_
            refine q_callS (As := [.int (nI m1), .int (nI p9)]) (rest := []) B hP hD hS ((cl_has l D cI cZ cP m1 p9 (by omega) (by omega)).fr0 (lw cI o F ++ wk)) (cwS 2 B.hts gL_isPaper_L_has rfl rfl rfl (by decide +kernel) ⟨(Nat.le_of_ble_eq_true rfl), (Nat.le_of_ble_eq_true rfl)⟩) rfl hl.1 rfl (Nat.le_of_ble_eq_true rfl) dL_isPaper_436 ⟨(Nat.le_of_ble_eq_true rfl), (Nat.le_of_ble_eq_true rfl)⟩ (fun E ce q9 H locs hx => False.elim hx) (fun v u H locs hp hP hD hS => ?_)
            obtain rfl := hp
            have hP : va_P D vwCl (lw cI o F ++ wk) H := hP
            have hD : va_D A (lw cI o F ++ wk) := hD
            refine lv_if_eq (tgt := 446) B.hx B.hb dL_isPaper_439 (by decide) (fun c52 => False.elim (by replace c52 := bI_0.mp c52; exact absurd (hb9.symm.trans c52) (by decide))) (fun _ => ?_)
            refine lv_iconst (v := (nI 1)) B.hx B.hb dL_isPaper_442 (by decide) ?_
            refine lv_goto (tgt := 461) B.hx B.hb dL_isPaper_443 (by decide) ?_
            refine lv_istore (lv' := [(13, .int (nI 1)), (12, .int (nI 1)), (11, .int (bI du)), (10, .int (nI (pN (olf F j (nI w0)) qn))), (9, .int (nI p9)), (8, .int (nI 4)), (7, .int (nI w0)), (6, .int (nI (8 * j))), (0, .ref b), (1, .ref (o 0)), (2, .ref (o 4)), (3, .ref (o 7)), (4, .ref (o 3)), (5, .int (nI j))]) B.hx B.hb dL_isPaper_461 hl (by decide) rfl (fun ls hl => ?_)
            refine lv_iload B.hx B.hb dL_isPaper_463 (lv_at hl 1 rfl) ?_
            refine lv_if_eq (tgt := 507) B.hx B.hb dL_isPaper_465 (by decide) (fun c53 => False.elim (by exact absurd c53 (by decide))) (fun _ => ?_)
            refine lv_iload B.hx B.hb dL_isPaper_468 (lv_at hl 0 rfl) ?_
            refine lv_if_eq (tgt := 507) B.hx B.hb dL_isPaper_470 (by decide) (fun c54 => False.elim (by exact absurd c54 (by decide))) (fun _ => ?_)
            refine lv_iload B.hx B.hb dL_isPaper_473 (lv_at hl 5 rfl) ?_
            refine lv_iconst (v := (nI 4)) B.hx B.hb dL_isPaper_475 (by decide) ?_
            refine lv_icmp_lt (tgt := 488) B.hx B.hb dL_isPaper_476 (by decide) (fun c55 => False.elim (by exact absurd c55 (by decide))) (fun _ => ?_)
            refine lv_aload_n B.hx B.hb dL_isPaper_479 rfl (lv_at hl 9 rfl) ?_
            refine lv_iload B.hx B.hb dL_isPaper_480 (lv_at hl 7 rfl) ?_
            refine lv_iconst (v := (nI 4)) B.hx B.hb dL_isPaper_482 (by decide) ?_
            refine lv_iadd B.hx B.hb dL_isPaper_483 ?_
            refine q_top (v2 := .int (nI (8 * j + 4))) (congrArg Value.int (nI_add _ _)) ?_
            refine q_iald (f := (F 0)) B hP 0 rfl (j := 8 * j + 4) rfl (by omega) (by decide) dL_isPaper_484 ?_
            refine lv_if_le (tgt := 507) B.hx B.hb dL_isPaper_485 (by decide) (fun c56 => False.elim (by exact h45 (by omega) c56)) (fun _ => ?_)
            refine lv_iload B.hx B.hb dL_isPaper_488 (lv_at hl 5 rfl) ?_
            refine lv_iconst (v := (nI 3)) B.hx B.hb dL_isPaper_490 (by decide) ?_
            refine lv_icmp_ne (tgt := 503) B.hx B.hb dL_isPaper_491 (by decide) (fun _ => ?_) (fun c57 => False.elim (by exact absurd c57 (by decide)))
            refine lv_iconst (v := (nI 1)) B.hx B.hb dL_isPaper_503 (by decide) ?_
            refine lv_goto (tgt := 508) B.hx B.hb dL_isPaper_504 (by decide) ?_
            exact q_zret B hr hP hD hS (by decide) (u := ()) rfl rfl (Nat.le_of_ble_eq_true rfl) (Nat.le_of_ble_eq_true rfl) dL_isPaper_508
          · refine lv_iload B.hx B.hb dL_isPaper_328 (lv_at hl 4 rfl) ?_
            refine lv_iconst (v := (nI 1)) B.hx B.hb dL_isPaper_330 (by decide) ?_
            refine lv_icmp_ne (tgt := 390) B.hx B.hb dL_isPaper_331 (by decide) (fun _ => ?_) (fun c58 => False.elim (by exact absurd c58 (by decide)))
            refine lv_iload B.hx B.hb dL_isPaper_390 (lv_at hl 4 rfl) ?_
            refine lv_iconst (v := (nI 2)) B.hx B.hb dL_isPaper_392 (by decide) ?_
            refine lv_icmp_ne (tgt := 415) B.hx B.hb dL_isPaper_393 (by decide) (fun _ => ?_) (fun c59 => False.elim (by exact absurd c59 (by decide)))
            refine lv_iload B.hx B.hb dL_isPaper_415 (lv_at hl 4 rfl) ?_
            refine lv_iconst (v := (nI 4)) B.hx B.hb dL_isPaper_417 (by decide) ?_
            refine lv_icmp_ne (tgt := 450) B.hx B.hb dL_isPaper_418 (by decide) (fun _ => ?_) (fun c60 => False.elim (by exact absurd c60 (by decide)))
            refine lv_iload B.hx B.hb dL_isPaper_450 (lv_at hl 3 rfl) ?_
            refine lv_iconst (v := (-1)) B.hx B.hb dL_isPaper_452 (by decide) ?_
            refine lv_icmp_ne (tgt := 460) B.hx B.hb dL_isPaper_453 (by decide) (fun c61 => False.elim (by exact absurd c61 (by decide))) (fun _ => ?_)
            refine lv_iconst (v := (nI 1)) B.hx B.hb dL_isPaper_456 (by decide) ?_
            refine lv_goto (tgt := 461) B.hx B.hb dL_isPaper_457 (by decide) ?_
            refine lv_istore (lv' := [(13, .int (nI 1)), (12, .int (nI 1)), (11, .int (bI du)), (10, .int (nI (pN (olf F j (nI w0)) qn))), (9, .int (-1)), (8, .int (nI 0)), (7, .int (nI w0)), (6, .int (nI (8 * j))), (0, .ref b), (1, .ref (o 0)), (2, .ref (o 4)), (3, .ref (o 7)), (4, .ref (o 3)), (5, .int (nI j))]) B.hx B.hb dL_isPaper_461 hl (by decide) rfl (fun ls hl => ?_)
            refine lv_iload B.hx B.hb dL_isPaper_463 (lv_at hl 1 rfl) ?_
            refine lv_if_eq (tgt := 507) B.hx B.hb dL_isPaper_465 (by decide) (fun c62 => False.elim (by exact absurd c62 (by decide))) (fun _ => ?_)
            refine lv_iload B.hx B.hb dL_isPaper_468 (lv_at hl 0 rfl) ?_
            refine lv_if_eq (tgt := 507) B.hx B.hb dL_isPaper_470 (by decide) (fun c63 => False.elim (by exact absurd c63 (by decide))) (fun _ => ?_)
            refine lv_iload B.hx B.hb dL_isPaper_473 (lv_at hl 5 rfl) ?_
            refine lv_iconst (v := (nI 4)) B.hx B.hb dL_isPaper_475 (by decide) ?_
            refine lv_icmp_lt (tgt := 488) B.hx B.hb dL_isPaper_476 (by decide) (fun _ => ?_) (fun c64 => False.elim (by exact absurd c64 (by decide)))
            refine lv_iload B.hx B.hb dL_isPaper_488 (lv_at hl 5 rfl) ?_
            refine lv_iconst (v := (nI 3)) B.hx B.hb dL_isPaper_490 (by decide) ?_
            refine lv_icmp_ne (tgt := 503) B.hx B.hb dL_isPaper_491 (by decide) (fun _ => ?_) (fun c65 => False.elim (by exact absurd c65 (by decide)))
            refine lv_iconst (v := (nI 1)) B.hx B.hb dL_isPaper_503 (by decide) ?_
            refine lv_goto (tgt := 508) B.hx B.hb dL_isPaper_504 (by decide) ?_
            exact q_zret B hr hP hD hS (by decide) (u := ()) rfl rfl (Nat.le_of_ble_eq_true rfl) (Nat.le_of_ble_eq_true rfl) dL_isPaper_508
          · refine lv_iload B.hx B.hb dL_isPaper_328 (lv_at hl 4 rfl) ?_
            refine lv_iconst (v := (nI 1)) B.hx B.hb dL_isPaper_330 (by decide) ?_
            refine lv_icmp_ne (tgt := 390) B.hx B.hb dL_isPaper_331 (by decide) (fun _ => ?_) (fun c66 => False.elim (by exact absurd c66 (by decide)))
            refine lv_iload B.hx B.hb dL_isPaper_390 (lv_at hl 4 rfl) ?_
            refine lv_iconst (v := (nI 2)) B.hx B.hb dL_isPaper_392 (by decide) ?_
            refine lv_icmp_ne (tgt := 415) B.hx B.hb dL_isPaper_393 (by decide) (fun _ => ?_) (fun c67 => False.elim (by exact absurd c67 (by decide)))
            refine lv_iload B.hx B.hb dL_isPaper_415 (lv_at hl 4 rfl) ?_
            refine lv_iconst (v := (nI 4)) B.hx B.hb dL_isPaper_417 (by decide) ?_
            refine lv_icmp_ne (tgt := 450) B.hx B.hb dL_isPaper_418 (by decide) (fun _ => ?_) (fun c68 => False.elim (by exact absurd c68 (by decide)))
            refine lv_iload B.hx B.hb dL_isPaper_450 (lv_at hl 3 rfl) ?_
            refine lv_iconst (v := (-1)) B.hx B.hb dL_isPaper_452 (by decide) ?_
            refine lv_icmp_ne (tgt := 460) B.hx B.hb dL_isPaper_453 (by decide) (fun c69 => False.elim (by exact absurd c69 (by decide))) (fun _ => ?_)
            refine lv_iconst (v := (nI 1)) B.hx B.hb dL_isPaper_456 (by decide) ?_
            refine lv_goto (tgt := 461) B.hx B.hb dL_isPaper_457 (by decide) ?_
            refine lv_istore (lv' := [(13, .int (nI 1)), (12, .int (nI 1)), (11, .int (bI du)), (10, .int (nI (pN (olf F j (nI w0)) qn))), (9, .int (-1)), (8, .int (nI 3)), (7, .int (nI w0)), (6, .int (nI (8 * j))), (0, .ref b), (1, .ref (o 0)), (2, .ref (o 4)), (3, .ref (o 7)), (4, .ref (o 3)), (5, .int (nI j))]) B.hx B.hb dL_isPaper_461 hl (by decide) rfl (fun ls hl => ?_)
            refine lv_iload B.hx B.hb dL_isPaper_463 (lv_at hl 1 rfl) ?_
            refine lv_if_eq (tgt := 507) B.hx B.hb dL_isPaper_465 (by decide) (fun c70 => False.elim (by exact absurd c70 (by decide))) (fun _ => ?_)
            refine lv_iload B.hx B.hb dL_isPaper_468 (lv_at hl 0 rfl) ?_
            refine lv_if_eq (tgt := 507) B.hx B.hb dL_isPaper_470 (by decide) (fun c71 => False.elim (by exact absurd c71 (by decide))) (fun _ => ?_)
            refine lv_iload B.hx B.hb dL_isPaper_473 (lv_at hl 5 rfl) ?_
            refine lv_iconst (v := (nI 4)) B.hx B.hb dL_isPaper_475 (by decide) ?_
            refine lv_icmp_lt (tgt := 488) B.hx B.hb dL_isPaper_476 (by decide) (fun _ => ?_) (fun c72 => False.elim (by exact absurd c72 (by decide)))
            refine lv_iload B.hx B.hb dL_isPaper_488 (lv_at hl 5 rfl) ?_
            refine lv_iconst (v := (nI 3)) B.hx B.hb dL_isPaper_490 (by decide) ?_
            refine lv_icmp_ne (tgt := 503) B.hx B.hb dL_isPaper_491 (by decide) (fun c73 => False.elim (by exact absurd c73 (by decide))) (fun _ => ?_)
            refine lv_aload_n B.hx B.hb dL_isPaper_494 rfl (lv_at hl 9 rfl) ?_
            refine lv_iload B.hx B.hb dL_isPaper_495 (lv_at hl 7 rfl) ?_
            refine lv_iconst (v := (nI 4)) B.hx B.hb dL_isPaper_497 (by decide) ?_
            refine lv_iadd B.hx B.hb dL_isPaper_498 ?_
            refine q_top (v2 := .int (nI (8 * j + 4))) (congrArg Value.int (nI_add _ _)) ?_
            refine q_iald (f := (F 0)) B hP 0 rfl (j := 8 * j + 4) rfl (by omega) (by decide) dL_isPaper_499 ?_
            refine lv_if_ne (tgt := 507) B.hx B.hb dL_isPaper_500 (by decide) (fun c74 => False.elim (by exact c74 (h3 rfl))) (fun _ => ?_)
            refine lv_iconst (v := (nI 1)) B.hx B.hb dL_isPaper_503 (by decide) ?_
            refine lv_goto (tgt := 508) B.hx B.hb dL_isPaper_504 (by decide) ?_
            exact q_zret B hr hP hD hS (by decide) (u := ()) rfl rfl (Nat.le_of_ble_eq_true rfl) (Nat.le_of_ble_eq_true rfl) dL_isPaper_508
          · refine lv_iload B.hx B.hb dL_isPaper_328 (lv_at hl 4 rfl) ?_
            refine lv_iconst (v := (nI 1)) B.hx B.hb dL_isPaper_330 (by decide) ?_
            refine lv_icmp_ne (tgt := 390) B.hx B.hb dL_isPaper_331 (by decide) (fun _ => ?_) (fun c75 => False.elim (by exact absurd c75 (by decide)))
            refine lv_iload B.hx B.hb dL_isPaper_390 (lv_at hl 4 rfl) ?_
            refine lv_iconst (v := (nI 2)) B.hx B.hb dL_isPaper_392 (by decide) ?_
            refine lv_icmp_ne (tgt := 415) B.hx B.hb dL_isPaper_393 (by decide) (fun _ => ?_) (fun c76 => False.elim (by exact absurd c76 (by decide)))
            refine lv_iload B.hx B.hb dL_isPaper_415 (lv_at hl 4 rfl) ?_
            refine lv_iconst (v := (nI 4)) B.hx B.hb dL_isPaper_417 (by decide) ?_
            refine lv_icmp_ne (tgt := 450) B.hx B.hb dL_isPaper_418 (by decide) (fun _ => ?_) (fun c77 => False.elim (by exact absurd c77 (by decide)))
            refine lv_iload B.hx B.hb dL_isPaper_450 (lv_at hl 3 rfl) ?_
            refine lv_iconst (v := (-1)) B.hx B.hb dL_isPaper_452 (by decide) ?_
            refine lv_icmp_ne (tgt := 460) B.hx B.hb dL_isPaper_453 (by decide) (fun c78 => False.elim (by exact absurd c78 (by decide))) (fun _ => ?_)
            refine lv_iconst (v := (nI 1)) B.hx B.hb dL_isPaper_456 (by decide) ?_
            refine lv_goto (tgt := 461) B.hx B.hb dL_isPaper_457 (by decide) ?_
            refine lv_istore (lv' := [(13, .int (nI 1)), (12, .int (nI 1)), (11, .int (bI du)), (10, .int (nI (pN (olf F j (nI w0)) qn))), (9, .int (-1)), (8, .int (nI 5)), (7, .int (nI w0)), (6, .int (nI (8 * j))), (0, .ref b), (1, .ref (o 0)), (2, .ref (o 4)), (3, .ref (o 7)), (4, .ref (o 3)), (5, .int (nI j))]) B.hx B.hb dL_isPaper_461 hl (by decide) rfl (fun ls hl => ?_)
            refine lv_iload B.hx B.hb dL_isPaper_463 (lv_at hl 1 rfl) ?_
            refine lv_if_eq (tgt := 507) B.hx B.hb dL_isPaper_465 (by decide) (fun c79 => False.elim (by exact absurd c79 (by decide))) (fun _ => ?_)
            refine lv_iload B.hx B.hb dL_isPaper_468 (lv_at hl 0 rfl) ?_
            refine lv_if_eq (tgt := 507) B.hx B.hb dL_isPaper_470 (by decide) (fun c80 => False.elim (by exact absurd c80 (by decide))) (fun _ => ?_)
            refine lv_iload B.hx B.hb dL_isPaper_473 (lv_at hl 5 rfl) ?_
            refine lv_iconst (v := (nI 4)) B.hx B.hb dL_isPaper_475 (by decide) ?_
            refine lv_icmp_lt (tgt := 488) B.hx B.hb dL_isPaper_476 (by decide) (fun c81 => False.elim (by exact absurd c81 (by decide))) (fun _ => ?_)
            refine lv_aload_n B.hx B.hb dL_isPaper_479 rfl (lv_at hl 9 rfl) ?_
            refine lv_iload B.hx B.hb dL_isPaper_480 (lv_at hl 7 rfl) ?_
            refine lv_iconst (v := (nI 4)) B.hx B.hb dL_isPaper_482 (by decide) ?_
            refine lv_iadd B.hx B.hb dL_isPaper_483 ?_
            refine q_top (v2 := .int (nI (8 * j + 4))) (congrArg Value.int (nI_add _ _)) ?_
            refine q_iald (f := (F 0)) B hP 0 rfl (j := 8 * j + 4) rfl (by omega) (by decide) dL_isPaper_484 ?_
            refine lv_if_le (tgt := 507) B.hx B.hb dL_isPaper_485 (by decide) (fun c82 => False.elim (by exact h45 (by omega) c82)) (fun _ => ?_)
            refine lv_iload B.hx B.hb dL_isPaper_488 (lv_at hl 5 rfl) ?_
            refine lv_iconst (v := (nI 3)) B.hx B.hb dL_isPaper_490 (by decide) ?_
            refine lv_icmp_ne (tgt := 503) B.hx B.hb dL_isPaper_491 (by decide) (fun _ => ?_) (fun c83 => False.elim (by exact absurd c83 (by decide)))
            refine lv_iconst (v := (nI 1)) B.hx B.hb dL_isPaper_503 (by decide) ?_
            refine lv_goto (tgt := 508) B.hx B.hb dL_isPaper_504 (by decide) ?_
            exact q_zret B hr hP hD hS (by decide) (u := ()) rfl rfl (Nat.le_of_ble_eq_true rfl) (Nat.le_of_ble_eq_true rfl) dL_isPaper_508
        · refine lv_if_ne (tgt := 209) B.hx B.hb dL_isPaper_202 (by decide) (fun c12 => ?_) (fun c12 => ?_)
          · refine lv_iconst (v := nI 0) B.hx B.hb dL_isPaper_209 (by decide) ?_
            refine q_top (v2 := .int (bI (decide (((F 0) (8 * j)) = 0)))) (congrArg Value.int (bI_f (decide_eq_false c12))) ?_
            exact kJ
          · refine lv_iconst (v := nI 1) B.hx B.hb dL_isPaper_205 (by decide) ?_
            refine lv_goto (tgt := 210) B.hx B.hb dL_isPaper_206 (by decide) ?_
            refine q_top (v2 := .int (bI (decide (((F 0) (8 * j)) = 0)))) (congrArg Value.int (bI_t (decide_eq_true c12))) ?_
            exact kJ
      · refine lv_if_ne (tgt := 197) B.hx B.hb dL_isPaper_190 (by decide) (fun c11 => ?_) (fun c11 => ?_)
        · refine lv_iconst (v := nI 0) B.hx B.hb dL_isPaper_197 (by decide) ?_
          refine q_top (v2 := .int (bI (decide ((nI s0) = 0)))) (congrArg Value.int (bI_f (decide_eq_false c11))) ?_
          exact kJ
        · refine lv_iconst (v := nI 1) B.hx B.hb dL_isPaper_193 (by decide) ?_
          refine lv_goto (tgt := 198) B.hx B.hb dL_isPaper_194 (by decide) ?_
          refine q_top (v2 := .int (bI (decide ((nI s0) = 0)))) (congrArg Value.int (bI_t (decide_eq_true c11))) ?_
          exact kJ
    · refine lv_aload_n B.hx B.hb dL_isPaper_106 rfl (lv_at hl 7 rfl) ?_
      refine lv_iload B.hx B.hb dL_isPaper_107 (lv_at hl 5 rfl) ?_
      refine lv_bipush (v := (nI 7)) B.hx B.hb dL_isPaper_109 (by decide) ?_
      refine lv_iadd B.hx B.hb dL_isPaper_111 ?_
      refine q_top (v2 := .int (nI (8 * j + 7))) (congrArg Value.int (nI_add _ _)) ?_
      refine q_iald (f := (F 0)) B hP 0 rfl (j := 8 * j + 7) rfl (by omega) (by decide) dL_isPaper_112 ?_
      refine lv_iconst (v := (nI 1)) B.hx B.hb dL_isPaper_113 (by decide) ?_
      refine lv_icmp_eq (tgt := 134) B.hx B.hb dL_isPaper_114 (by decide) (fun c84 => ?_) (fun c84 => ?_)
      · refine lv_iconst (v := (nI 1)) B.hx B.hb dL_isPaper_134 (by decide) ?_
        refine lv_goto (tgt := 139) B.hx B.hb dL_isPaper_135 (by decide) ?_
        refine q_top (v2 := .int (bI du)) (congrArg Value.int (bI_t (hdu1 c84))) ?_
        exact kJ6 _ _ hP hD hS
      · refine lv_aload_n B.hx B.hb dL_isPaper_117 rfl (lv_at hl 8 rfl) ?_
        refine lv_iconst (v := (nI 0)) B.hx B.hb dL_isPaper_118 (by decide) ?_
        refine q_iald (f := (F 4)) B hP 4 rfl (j := 0) rfl (by decide) (by decide) dL_isPaper_119 ?_
        refine q_top (v2 := .int (nI td)) (congrArg Value.int f40) ?_
        refine lv_aload_n B.hx B.hb dL_isPaper_120 rfl (lv_at hl 7 rfl) ?_
        refine lv_iload B.hx B.hb dL_isPaper_121 (lv_at hl 5 rfl) ?_
        refine lv_bipush (v := (nI 6)) B.hx B.hb dL_isPaper_123 (by decide) ?_
        refine lv_iadd B.hx B.hb dL_isPaper_125 ?_
        refine q_top (v2 := .int (nI (8 * j + 6))) (congrArg Value.int (nI_add _ _)) ?_
        refine q_iald (f := (F 0)) B hP 0 rfl (j := 8 * j + 6) rfl (by omega) (by decide) dL_isPaper_126 ?_
        refine lv_isub B.hx B.hb dL_isPaper_127 ?_
        refine lv_aload_n B.hx B.hb dL_isPaper_128 rfl (lv_at hl 8 rfl) ?_
        refine lv_iconst (v := (nI 2)) B.hx B.hb dL_isPaper_129 (by decide) ?_
        refine q_iald (f := (F 4)) B hP 4 rfl (j := 2) rfl (by decide) (by decide) dL_isPaper_130 ?_
        refine lv_icmp_lt (tgt := 138) B.hx B.hb dL_isPaper_131 (by decide) (fun c85 => ?_) (fun c85 => ?_)
        · refine lv_iconst (v := (nI 0)) B.hx B.hb dL_isPaper_138 (by decide) ?_
          refine q_top (v2 := .int (bI du)) (congrArg Value.int (bI_f (hdu3 c84 c85))) ?_
          exact kJ6 _ _ hP hD hS
        · refine lv_iconst (v := (nI 1)) B.hx B.hb dL_isPaper_134 (by decide) ?_
          refine lv_goto (tgt := 139) B.hx B.hb dL_isPaper_135 (by decide) ?_
          refine q_top (v2 := .int (bI du)) (congrArg Value.int (bI_t (hdu2 c84 c85))) ?_
          exact kJ6 _ _ hP hD hS
  · replace c4 := mt (nI_leI (by omega) (by omega)).mpr c4
    refine lv_iload B.hx B.hb dL_isPaper_47 (lv_at hl 1 rfl) ?_
    refine q_join (D := D) (A := A) (J := 92) (stk := [.int (bI (olf F j (nI w0) i1)), .int (nI (pN (olf F j (nI w0)) i1))]) (w := (lw cI o F ++ wk)) (fun H locs hP hD hS => ?_) (fun kJ86 => ?_)
    · refine lv_iadd B.hx B.hb dL_isPaper_92 ?_
      refine q_top (v2 := .int (nI (pN (olf F j (nI w0)) (i1 + 1)))) (congrArg Value.int (pN_bI (olf F j (nI w0)) i1)) ?_
      refine lv_istore (lv' := [(10, .int (nI (pN (olf F j (nI w0)) (i1 + 1)))), (11, .int (nI i1)), (9, .int wt), (8, .int (nI s0)), (7, .int (nI w0)), (6, .int (nI (8 * j))), (0, .ref b), (1, .ref (o 0)), (2, .ref (o 4)), (3, .ref (o 7)), (4, .ref (o 3)), (5, .int (nI j))]) B.hx B.hb dL_isPaper_93 hl (by decide) rfl (fun ls hl => ?_)
      refine lv_iinc (v := (nI (i1 + 1))) (lv' := [(11, .int (nI (i1 + 1))), (10, .int (nI (pN (olf F j (nI w0)) (i1 + 1)))), (9, .int wt), (8, .int (nI s0)), (7, .int (nI w0)), (6, .int (nI (8 * j))), (0, .ref b), (1, .ref (o 0)), (2, .ref (o 4)), (3, .ref (o 7)), (4, .ref (o 3)), (5, .int (nI j))]) B.hx B.hb dL_isPaper_95 hl (k := 1) rfl (nI_1 _) (by decide) rfl (fun ls hl => ?_)
      refine lv_goto (tgt := 39) B.hx B.hb dL_isPaper_98 (by decide) ?_
      exact ih3 (i1 + 1) (by omega) (by omega) ls H _ (lv_sub hl [0, 1, 2, 3, 4, 5, 6, 7, 8, 9, 10, 11] rfl) hP hD hS
    · refine lv_aload B.hx B.hb dL_isPaper_49 (lv_at hl 10 rfl) ?_
      refine lv_iconst (v := (nI 3)) B.hx B.hb dL_isPaper_51 (by decide) ?_
      refine lv_iload B.hx B.hb dL_isPaper_52 (lv_at hl 0 rfl) ?_
      refine lv_imul B.hx B.hb dL_isPaper_54 ?_
      refine q_top (v2 := .int (nI (3 * i1))) (congrArg Value.int (pk_mul _ _)) ?_
      refine q_iald (f := (F 3)) B hP 3 rfl (j := 3 * i1) rfl (by omega) (by decide) dL_isPaper_55 ?_
      refine lv_iload B.hx B.hb dL_isPaper_56 (lv_at hl 11 rfl) ?_
      refine lv_icmp_ne (tgt := 91) B.hx B.hb dL_isPaper_58 (by decide) (fun c87 => ?_) (fun c87 => ?_)
      · refine lv_iconst (v := (nI 0)) B.hx B.hb dL_isPaper_91 (by decide) ?_
        refine q_top (v2 := .int (bI (olf F j (nI w0) i1))) (congrArg Value.int (bI_f (by simp [olf, c87]))) ?_
        exact kJ86 _ _ hP hD hS
      · refine lv_aload B.hx B.hb dL_isPaper_61 (lv_at hl 10 rfl) ?_
        refine lv_iconst (v := (nI 3)) B.hx B.hb dL_isPaper_63 (by decide) ?_
        refine lv_iload B.hx B.hb dL_isPaper_64 (lv_at hl 0 rfl) ?_
        refine lv_imul B.hx B.hb dL_isPaper_66 ?_
        refine q_top (v2 := .int (nI (3 * i1))) (congrArg Value.int (pk_mul _ _)) ?_
        refine lv_iconst (v := (nI 2)) B.hx B.hb dL_isPaper_67 (by decide) ?_
        refine lv_iadd B.hx B.hb dL_isPaper_68 ?_
        refine q_top (v2 := .int (nI (3 * i1 + 2))) (congrArg Value.int (nI_add _ _)) ?_
        refine q_iald (f := (F 3)) B hP 3 rfl (j := 3 * i1 + 2) rfl (by omega) (by decide) dL_isPaper_69 ?_
        refine lv_if_le (tgt := 91) B.hx B.hb dL_isPaper_70 (by decide) (fun c88 => ?_) (fun c88 => ?_)
        · refine lv_iconst (v := (nI 0)) B.hx B.hb dL_isPaper_91 (by decide) ?_
          refine q_top (v2 := .int (bI (olf F j (nI w0) i1))) (congrArg Value.int (bI_f (by simp [olf, c87, c88]))) ?_
          exact kJ86 _ _ hP hD hS
        · refine lv_aload B.hx B.hb dL_isPaper_73 (lv_at hl 10 rfl) ?_
          refine lv_iconst (v := (nI 3)) B.hx B.hb dL_isPaper_75 (by decide) ?_
          refine lv_iload B.hx B.hb dL_isPaper_76 (lv_at hl 0 rfl) ?_
          refine lv_imul B.hx B.hb dL_isPaper_78 ?_
          refine q_top (v2 := .int (nI (3 * i1))) (congrArg Value.int (pk_mul _ _)) ?_
          refine lv_iconst (v := (nI 1)) B.hx B.hb dL_isPaper_79 (by decide) ?_
          refine lv_iadd B.hx B.hb dL_isPaper_80 ?_
          refine q_top (v2 := .int (nI (3 * i1 + 1))) (congrArg Value.int (nI_add _ _)) ?_
          refine q_iald (f := (F 3)) B hP 3 rfl (j := 3 * i1 + 1) rfl (by omega) (by decide) dL_isPaper_81 ?_
          refine lv_iload B.hx B.hb dL_isPaper_82 (lv_at hl 4 rfl) ?_
          refine lv_icmp_eq (tgt := 91) B.hx B.hb dL_isPaper_84 (by decide) (fun c89 => ?_) (fun c89 => ?_)
          · refine lv_iconst (v := (nI 0)) B.hx B.hb dL_isPaper_91 (by decide) ?_
            refine q_top (v2 := .int (bI (olf F j (nI w0) i1))) (congrArg Value.int (bI_f (by simp [olf, c87, c88, c89]))) ?_
            exact kJ86 _ _ hP hD hS
          · refine lv_iconst (v := (nI 1)) B.hx B.hb dL_isPaper_87 (by decide) ?_
            refine lv_goto (tgt := 92) B.hx B.hb dL_isPaper_88 (by decide) ?_
            refine q_top (v2 := .int (bI (olf F j (nI w0) i1))) (congrArg Value.int (bI_t (by simp [olf, c87, c88, c89]))) ?_
            exact kJ86 _ _ hP hD hS
