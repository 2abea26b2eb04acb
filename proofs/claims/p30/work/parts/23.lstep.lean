/-! step, case by case: over any contracts of what it calls. -/
theorem nI_m1 : nI 0 - nI 1 = -1 := by decide
theorem nI_m1p : -1 + nI 1 = nI 0 := by decide
theorem bw_dub {M p : Nat} (hM : M < 64) (hp : p < 6) (b : Bool) : nI M &&& (nI (2 ^ p) ^^^ (-1)) ||| nI (dub b p) = nI (bw M p b) := by
  cases b
  · exact (bw_0 M hM p hp).2.1
  · exact (bw_0 M hM p hp).1
theorem bw_lt {M p : Nat} (hM : M < 64) (hp : p < 6) (b : Bool) : bw M p b < 64 := by
  cases b
  · exact (bw_0 M hM p hp).2.2.2.1
  · exact (bw_0 M hM p hp).2.2.1
theorem bw_bit {M p : Nat} (hM : M < 64) (hp : p < 6) (b : Bool) {i : Nat} (hi : i < 6) : (bw M p b).testBit i = if i = p then b else M.testBit i := by
  have h := (bw_0 M hM p hp).2.2.2.2 i hi
  by_cases e : i = p
  · subst e; cases b
    · rw [h.2]; simp
    · rw [h.1]; simp
  · rw [if_neg e]; cases b
    · rw [h.2]; simp [e]
    · rw [h.1]; simp [e]

set_option maxHeartbeats 4000000 in
set_option maxRecDepth 100000 in
theorem ls0f (l : Launch) (D : va_G) (cI cZ cP : ClassId) (o : Nat → Nat) (F : Nat → Nat → Int32) (wk : va_W) {q0 b : Nat} {fs : List Value} (hq : wk[q0]? = some (b, .inr (3, fs))) (xx yy : Nat) (hx : xx < 2 ^ 30) (hy : yy < 2 ^ 30) (f41 : F 4 1 = nI 8) (wh : Nat) (hw : wh = 0) (hwh : wh < 25) : q_C l yL_step wsL_step ({ frames := 12, cells := 294, slots := 1764, locals := 231 }) D cI cZ cP [.ref b, .int (nI wh), .int (nI xx), .int (nI yy), .ref (o 0), .ref (o 1), .ref (o 2), .ref (o 3), .ref (o 4), .ref (o 5), .ref (o 6), .ref (o 7)] (lw cI o F ++ wk) (S := Unit) (fun v _ => v = some (.int (nI 1))) (fun _ => (lw cI o F ++ wk)) (fun _ => False) 294 1764 := by
  refine q_of (cc := cL_step) (maxL := 16) (ret := (some .boolean)) (by decide +kernel) rfl (Nat.le_of_ble_eq_true rfl) ?_
  intro p e s m below meth c A ls B hr htb hmn hP hD hS hl
  have hl : lv_has ls 16 [(0, .ref b), (1, .int (nI wh)), (2, .int (nI xx)), (3, .int (nI yy)), (4, .ref (o 0)), (5, .ref (o 1)), (6, .ref (o 2)), (7, .ref (o 3)), (8, .ref (o 4)), (9, .ref (o 5)), (10, .ref (o 6)), (11, .ref (o 7))] := hl
  refine lv_iload_n B.hx B.hb dL_step_0 rfl (lv_at hl 1 rfl) ?_
  refine lv_if_eq (tgt := 11) B.hx B.hb dL_step_1 (by decide) (fun _ => ?_) (fun c1 => False.elim (by replace c1 := mt (nI_eq0 (by omega)).mpr c1; omega))
  refine lv_aload B.hx B.hb dL_step_11 (lv_at hl 8 rfl) ?_
  refine lv_iconst (v := (nI 1)) B.hx B.hb dL_step_13 (by decide) ?_
  refine q_iald (f := (F 4)) B hP 4 rfl (j := 1) rfl (by decide) (by decide) dL_step_14 ?_
  refine q_top (v2 := .int (nI 8)) (congrArg Value.int f41) ?_
  refine lv_bipush (v := (nI 8)) B.hx B.hb dL_step_15 (by decide) ?_
  refine lv_icmp_ne (tgt := 22) B.hx B.hb dL_step_17 (by decide) (fun c2 => False.elim (by exact absurd c2 (by decide))) (fun _ => ?_)
  refine lv_iconst (v := (nI 1)) B.hx B.hb dL_step_20 (by decide) ?_
  exact q_zret B hr hP hD hS (by decide) (u := ()) rfl rfl (Nat.le_of_ble_eq_true rfl) (Nat.le_of_ble_eq_true rfl) dL_step_21

set_option maxHeartbeats 4000000 in
set_option maxRecDepth 100000 in
theorem ls0n (l : Launch) (D : va_G) (cI cZ cP : ClassId) (o : Nat → Nat) (F : Nat → Nat → Int32) (wk : va_W) (wk2 : (Nat → Nat) → va_W) {q0 b : Nat} {fs : List Value} (hq : wk[q0]? = some (b, .inr (3, fs))) {q2 : (Nat → Nat) → Nat} {fs2 : (Nat → Nat) → List Value} (hq2 : ∀ a, (wk2 a)[q2 a]? = some (b, .inr (3, fs2 a))) (xx yy : Nat) (hx : xx < 2 ^ 30) (hy : yy < 2 ^ 30) (n : Nat) (f41 : F 4 1 = nI n) (wh : Nat) (hw : wh = 0 ∨ n = 0) (hwh : wh < 25) (hn8 : n < 8) (co : q_C l yX3_open wsX3_open ({ frames := 6, cells := 11, slots := 320, locals := 82 }) D cI cZ cP [.ref b, .int (bI (decide ((nI (xx % 2)) = 0)))] wk (S := Nat → Nat) (fun v _ => v = some (.int (nI n))) wk2 (fun _ => False) 11 320) (cs : ∀ a, q_C l yX3_step wsX3_step ({ frames := 2, cells := 0, slots := 0, locals := 42 }) D cI cZ cP [.ref b, .int (nI n)] (wk2 a) (S := Unit) (fun v _ => v = some (.int (nI 0))) (fun _ => (wk2 a)) (fun _ => False) 0 0) (ci : ∀ a, q_C l yX3_inForce wsX3_inForce ({ frames := 1, cells := 0, slots := 0, locals := 22 }) D cI cZ cP [.ref b, .int (nI n)] (wk2 a) (S := Unit) (fun v _ => v = some (.int (-1))) (fun _ => (wk2 a)) (fun _ => False) 0 0) : q_C l yL_step wsL_step ({ frames := 12, cells := 294, slots := 1764, locals := 231 }) D cI cZ cP [.ref b, .int (nI wh), .int (nI xx), .int (nI yy), .ref (o 0), .ref (o 1), .ref (o 2), .ref (o 3), .ref (o 4), .ref (o 5), .ref (o 6), .ref (o 7)] (lw cI o F ++ wk) (S := (Nat → Nat)) (fun v _ => v = some (.int (nI 1))) (fun a9 => (lw cI o (va_up F 4 (upd (F 4) 1 (nI (n + 1)))) ++ (wk2 a9))) (fun _ => False) 294 1764 := by
  refine q_of (cc := cL_step) (maxL := 16) (ret := (some .boolean)) (by decide +kernel) rfl (Nat.le_of_ble_eq_true rfl) ?_
  intro p e s m below meth c A ls B hr htb hmn hP hD hS hl
  have hl : lv_has ls 16 [(0, .ref b), (1, .int (nI wh)), (2, .int (nI xx)), (3, .int (nI yy)), (4, .ref (o 0)), (5, .ref (o 1)), (6, .ref (o 2)), (7, .ref (o 3)), (8, .ref (o 4)), (9, .ref (o 5)), (10, .ref (o 6)), (11, .ref (o 7))] := hl
  refine q_join (D := D) (A := A) (J := 11) (stk := []) (w := (lw cI o F ++ wk)) (fun H locs hP hD hS => ?_) (fun kJ1 => ?_)
  · refine lv_aload B.hx B.hb dL_step_11 (lv_at hl 8 rfl) ?_
    refine lv_iconst (v := (nI 1)) B.hx B.hb dL_step_13 (by decide) ?_
    refine q_iald (f := (F 4)) B hP 4 rfl (j := 1) rfl (by decide) (by decide) dL_step_14 ?_
    refine q_top (v2 := .int (nI n)) (congrArg Value.int f41) ?_
    refine lv_bipush (v := (nI 8)) B.hx B.hb dL_step_15 (by decide) ?_
    refine lv_icmp_ne (tgt := 22) B.hx B.hb dL_step_17 (by decide) (fun _ => ?_) (fun c2 => False.elim (by replace c2 := (nI_eq (by omega) (by omega)).mp c2; omega))
    refine lv_aload B.hx B.hb dL_step_22 (lv_at hl 8 rfl) ?_
    refine lv_iconst (v := (nI 1)) B.hx B.hb dL_step_24 (by decide) ?_
    refine lv_dup2_11 B.hx B.hb dL_step_25 rfl rfl ?_
    refine q_iald (f := (F 4)) B hP 4 rfl (j := 1) rfl (by decide) (by decide) dL_step_26 ?_
    refine q_top (v2 := .int (nI n)) (congrArg Value.int f41) ?_
    refine lv_iconst (v := (nI 1)) B.hx B.hb dL_step_27 (by decide) ?_
    refine lv_iadd B.hx B.hb dL_step_28 ?_
    refine q_top (v2 := .int (nI (n + 1))) (congrArg Value.int (nI_add _ _)) ?_
    refine q_iast (f := (F 4)) B hP hD hS 4 rfl (j := 1) rfl (by decide) (by decide) dL_step_29 (w' := (lw cI o (va_up F 4 (upd (F 4) 1 (nI (n + 1)))) ++ wk)) rfl (fun H locs hP hD hS => ?_)
    refine lv_aload_n B.hx B.hb dL_step_30 rfl (lv_at hl 0 rfl) ?_
    refine lv_iload_n B.hx B.hb dL_step_31 rfl (lv_at hl 2 rfl) ?_
    refine lv_iconst (v := (nI 2)) B.hx B.hb dL_step_32 (by decide) ?_
    refine lv_irem B.hx B.hb dL_step_33 (by decide) ?_
    refine q_top (v2 := .int (nI (xx % 2))) (congrArg Value.int (pk_rem (by omega) (by omega) (by omega))) ?_
    refine q_join0 (J := 42) (stk := [.int (bI (decide ((nI (xx % 2)) = 0))), .ref b]) ?_ (fun kJ => ?_)
    · refine q_callV (As := [.int (bI (decide ((nI (xx % 2)) = 0)))]) (rest := []) B hP hD hS (co.fl (lw cI o (va_up F 4 (upd (F 4) 1 (nI (n + 1)))))) (cwV 1 B.hts gL_step_X3_open rfl rfl rfl (by decide +kernel) ⟨(Nat.le_of_ble_eq_true rfl), (Nat.le_of_ble_eq_true rfl)⟩) (q0 + 8) 3 hq rfl rfl rfl hl.1 rfl (Nat.le_of_ble_eq_true rfl) dL_step_42 ⟨(Nat.le_of_ble_eq_true rfl), (Nat.le_of_ble_eq_true rfl)⟩ (fun E ce q9 H locs hx => False.elim hx) (fun v u H locs hp hP hD hS => ?_)
      obtain rfl := hp
      have hP : va_P D vwCl (lw cI o (va_up F 4 (upd (F 4) 1 (nI (n + 1)))) ++ (wk2 u)) H := hP
      have hD : va_D A (lw cI o (va_up F 4 (upd (F 4) 1 (nI (n + 1)))) ++ (wk2 u)) := hD
      obtain ⟨a9, rfl⟩ : ∃ a9, a9 = u := ⟨u, rfl⟩
      have hP : va_P D vwCl (lw cI o (va_up F 4 (upd (F 4) 1 (nI (n + 1)))) ++ (wk2 a9)) H := hP
      have hD : va_D A (lw cI o (va_up F 4 (upd (F 4) 1 (nI (n + 1)))) ++ (wk2 a9)) := hD
      refine lv_aload B.hx B.hb dL_step_45 (lv_at hl 8 rfl) ?_
      refine lv_iconst (v := (nI 1)) B.hx B.hb dL_step_47 (by decide) ?_
      refine q_iald (f := (upd (F 4) 1 (nI (n + 1)))) B hP 4 rfl (j := 1) rfl (by decide) (by decide) dL_step_48 ?_
      refine q_top (v2 := .int (nI (n + 1))) (congrArg Value.int pk_us) ?_
      refine lv_iconst (v := (nI 1)) B.hx B.hb dL_step_49 (by decide) ?_
      refine lv_isub B.hx B.hb dL_step_50 ?_
      refine q_top (v2 := .int (nI n)) (congrArg Value.int (nI_pred1 _)) ?_
      refine lv_icmp_ne (tgt := 85) B.hx B.hb dL_step_51 (by decide) (fun c4 => False.elim (by replace c4 := mt (nI_eq (by omega) (by omega)).mpr c4; omega)) (fun _ => ?_)
      refine lv_aload_n B.hx B.hb dL_step_54 rfl (lv_at hl 0 rfl) ?_
      refine lv_aload B.hx B.hb dL_step_55 (lv_at hl 8 rfl) ?_
      refine lv_iconst (v := (nI 1)) B.hx B.hb dL_step_57 (by decide) ?_
      refine q_iald (f := (upd (F 4) 1 (nI (n + 1)))) B hP 4 rfl (j := 1) rfl (by decide) (by decide) dL_step_58 ?_
      refine q_top (v2 := .int (nI (n + 1))) (congrArg Value.int pk_us) ?_
      refine lv_iconst (v := (nI 1)) B.hx B.hb dL_step_59 (by decide) ?_
      refine lv_isub B.hx B.hb dL_step_60 ?_
      refine q_top (v2 := .int (nI n)) (congrArg Value.int (nI_pred1 _)) ?_
      refine q_callV (As := [.int (nI n)]) (rest := []) B hP hD hS ((cs a9).fl (lw cI o (va_up F 4 (upd (F 4) 1 (nI (n + 1)))))) (cwV 1 B.hts gL_step_X3_step rfl rfl rfl (by decide +kernel) ⟨(Nat.le_of_ble_eq_true rfl), (Nat.le_of_ble_eq_true rfl)⟩) ((q2 a9) + 8) 3 (hq2 a9) rfl rfl rfl hl.1 rfl (Nat.le_of_ble_eq_true rfl) dL_step_61 ⟨(Nat.le_of_ble_eq_true rfl), (Nat.le_of_ble_eq_true rfl)⟩ (fun E ce q9 H locs hx => False.elim hx) (fun v u H locs hp hP hD hS => ?_)
      obtain rfl := hp
      have hP : va_P D vwCl (lw cI o (va_up F 4 (upd (F 4) 1 (nI (n + 1)))) ++ (wk2 a9)) H := hP
      have hD : va_D A (lw cI o (va_up F 4 (upd (F 4) 1 (nI (n + 1)))) ++ (wk2 a9)) := hD
      refine lv_if_ne (tgt := 85) B.hx B.hb dL_step_64 (by decide) (fun c5 => False.elim (by exact absurd c5 (by decide))) (fun _ => ?_)
      refine lv_aload_n B.hx B.hb dL_step_67 rfl (lv_at hl 0 rfl) ?_
      refine lv_aload B.hx B.hb dL_step_68 (lv_at hl 8 rfl) ?_
      refine lv_iconst (v := (nI 1)) B.hx B.hb dL_step_70 (by decide) ?_
      refine q_iald (f := (upd (F 4) 1 (nI (n + 1)))) B hP 4 rfl (j := 1) rfl (by decide) (by decide) dL_step_71 ?_
      refine q_top (v2 := .int (nI (n + 1))) (congrArg Value.int pk_us) ?_
      refine lv_iconst (v := (nI 1)) B.hx B.hb dL_step_72 (by decide) ?_
      refine lv_isub B.hx B.hb dL_step_73 ?_
      refine q_top (v2 := .int (nI n)) (congrArg Value.int (nI_pred1 _)) ?_
      refine q_callV (As := [.int (nI n)]) (rest := []) B hP hD hS ((ci a9).fl (lw cI o (va_up F 4 (upd (F 4) 1 (nI (n + 1)))))) (cwV 1 B.hts gL_step_X3_inForce rfl rfl rfl (by decide +kernel) ⟨(Nat.le_of_ble_eq_true rfl), (Nat.le_of_ble_eq_true rfl)⟩) ((q2 a9) + 8) 3 (hq2 a9) rfl rfl rfl hl.1 rfl (Nat.le_of_ble_eq_true rfl) dL_step_74 ⟨(Nat.le_of_ble_eq_true rfl), (Nat.le_of_ble_eq_true rfl)⟩ (fun E ce q9 H locs hx => False.elim hx) (fun v u H locs hp hP hD hS => ?_)
      obtain rfl := hp
      have hP : va_P D vwCl (lw cI o (va_up F 4 (upd (F 4) 1 (nI (n + 1)))) ++ (wk2 a9)) H := hP
      have hD : va_D A (lw cI o (va_up F 4 (upd (F 4) 1 (nI (n + 1)))) ++ (wk2 a9)) := hD
      refine lv_iconst (v := (-1)) B.hx B.hb dL_step_77 (by decide) ?_
      refine lv_icmp_ne (tgt := 85) B.hx B.hb dL_step_78 (by decide) (fun c6 => False.elim (by exact absurd c6 (by decide))) (fun _ => ?_)
      refine lv_iconst (v := (nI 1)) B.hx B.hb dL_step_81 (by decide) ?_
      refine lv_goto (tgt := 86) B.hx B.hb dL_step_82 (by decide) ?_
      exact q_zret B hr hP hD hS (by decide) (u := a9) rfl rfl (Nat.le_of_ble_eq_true rfl) (Nat.le_of_ble_eq_true rfl) dL_step_86
    · refine lv_if_ne (tgt := 41) B.hx B.hb dL_step_34 (by decide) (fun c3 => ?_) (fun c3 => ?_)
      · refine lv_iconst (v := nI 0) B.hx B.hb dL_step_41 (by decide) ?_
        refine q_top (v2 := .int (bI (decide ((nI (xx % 2)) = 0)))) (congrArg Value.int (bI_f (decide_eq_false c3))) ?_
        exact kJ
      · refine lv_iconst (v := nI 1) B.hx B.hb dL_step_37 (by decide) ?_
        refine lv_goto (tgt := 42) B.hx B.hb dL_step_38 (by decide) ?_
        refine q_top (v2 := .int (bI (decide ((nI (xx % 2)) = 0)))) (congrArg Value.int (bI_t (decide_eq_true c3))) ?_
        exact kJ
  · refine lv_iload_n B.hx B.hb dL_step_0 rfl (lv_at hl 1 rfl) ?_
    refine lv_if_eq (tgt := 11) B.hx B.hb dL_step_1 (by decide) (fun c7 => ?_) (fun c7 => ?_)
    · replace c7 := (nI_eq0 (by omega)).mp c7
      exact kJ1 _ _ hP hD hS
    · replace c7 := mt (nI_eq0 (by omega)).mpr c7
      refine lv_aload B.hx B.hb dL_step_4 (lv_at hl 8 rfl) ?_
      refine lv_iconst (v := (nI 1)) B.hx B.hb dL_step_6 (by decide) ?_
      refine q_iald (f := (F 4)) B hP 4 rfl (j := 1) rfl (by decide) (by decide) dL_step_7 ?_
      refine q_top (v2 := .int (nI n)) (congrArg Value.int f41) ?_
      refine lv_if_ne (tgt := 87) B.hx B.hb dL_step_8 (by decide) (fun c8 => False.elim (by replace c8 := mt (nI_eq0 (by omega)).mpr c8; omega)) (fun _ => ?_)
      exact kJ1 _ _ hP hD hS

set_option maxHeartbeats 4000000 in
set_option maxRecDepth 100000 in
theorem ls1e (l : Launch) (D : va_G) (cI cZ cP : ClassId) (o : Nat → Nat) (F : Nat → Nat → Int32) (wk : va_W) {q0 b : Nat} {fs : List Value} (hq : wk[q0]? = some (b, .inr (3, fs))) (xx yy : Nat) (hx : xx < 2 ^ 30) (hy : yy < 2 ^ 30) (n : Nat) (hn1 : 1 ≤ n) (hn8 : n ≤ 8) (f41 : F 4 1 = nI n) (j : Nat) (ej : xx % n = j) (hj : j < 8) (ei : yy % n = j) (M : Nat) (hM : M < 256) (f1 : F 1 j = nI M) : q_C l yL_step wsL_step ({ frames := 12, cells := 294, slots := 1764, locals := 231 }) D cI cZ cP [.ref b, .int (nI 1), .int (nI xx), .int (nI yy), .ref (o 0), .ref (o 1), .ref (o 2), .ref (o 3), .ref (o 4), .ref (o 5), .ref (o 6), .ref (o 7)] (lw cI o F ++ wk) (S := Unit) (fun v _ => v = some (.int (nI 1))) (fun _ => (lw cI o (va_up F 1 (upd (F 1) j (nI M))) ++ wk)) (fun _ => False) 294 1764 := by
  refine q_of (cc := cL_step) (maxL := 16) (ret := (some .boolean)) (by decide +kernel) rfl (Nat.le_of_ble_eq_true rfl) ?_
  intro p e s m below meth c A ls B hr htb hmn hP hD hS hl
  have hl : lv_has ls 16 [(0, .ref b), (1, .int (nI 1)), (2, .int (nI xx)), (3, .int (nI yy)), (4, .ref (o 0)), (5, .ref (o 1)), (6, .ref (o 2)), (7, .ref (o 3)), (8, .ref (o 4)), (9, .ref (o 5)), (10, .ref (o 6)), (11, .ref (o 7))] := hl
  refine lv_iload_n B.hx B.hb dL_step_0 rfl (lv_at hl 1 rfl) ?_
  refine lv_if_eq (tgt := 11) B.hx B.hb dL_step_1 (by decide) (fun c1 => False.elim (by exact absurd c1 (by decide))) (fun _ => ?_)
  refine lv_aload B.hx B.hb dL_step_4 (lv_at hl 8 rfl) ?_
  refine lv_iconst (v := (nI 1)) B.hx B.hb dL_step_6 (by decide) ?_
  refine q_iald (f := (F 4)) B hP 4 rfl (j := 1) rfl (by decide) (by decide) dL_step_7 ?_
  refine q_top (v2 := .int (nI n)) (congrArg Value.int f41) ?_
  refine lv_if_ne (tgt := 87) B.hx B.hb dL_step_8 (by decide) (fun _ => ?_) (fun c2 => False.elim (by replace c2 := (nI_eq0 (by omega)).mp c2; omega))
  refine lv_iload_n B.hx B.hb dL_step_87 rfl (lv_at hl 2 rfl) ?_
  refine lv_aload B.hx B.hb dL_step_88 (lv_at hl 8 rfl) ?_
  refine lv_iconst (v := (nI 1)) B.hx B.hb dL_step_90 (by decide) ?_
  refine q_iald (f := (F 4)) B hP 4 rfl (j := 1) rfl (by decide) (by decide) dL_step_91 ?_
  refine q_top (v2 := .int (nI n)) (congrArg Value.int f41) ?_
  refine lv_irem B.hx B.hb dL_step_92 (fun h => absurd ((nI_eq0 (by omega)).mp h) (by omega)) ?_
  refine q_top (v2 := .int (nI (xx % n))) (congrArg Value.int (pk_rem (by omega) (by omega) (by omega))) ?_
  refine q_top (v2 := .int (nI j)) (congrArg Value.int (congrArg nI ej)) ?_
  refine lv_istore (lv' := [(12, .int (nI j)), (0, .ref b), (1, .int (nI 1)), (2, .int (nI xx)), (3, .int (nI yy)), (4, .ref (o 0)), (5, .ref (o 1)), (6, .ref (o 2)), (7, .ref (o 3)), (8, .ref (o 4)), (9, .ref (o 5)), (10, .ref (o 6)), (11, .ref (o 7))]) B.hx B.hb dL_step_93 hl (by decide) rfl (fun ls hl => ?_)
  refine lv_iload_n B.hx B.hb dL_step_95 rfl (lv_at hl 2 rfl) ?_
  refine lv_iconst (v := (nI 1)) B.hx B.hb dL_step_96 (by decide) ?_
  refine lv_icmp_ne (tgt := 163) B.hx B.hb dL_step_97 (by decide) (fun c3 => False.elim (by exact absurd c3 (by decide))) (fun _ => ?_)
  refine lv_iload_n B.hx B.hb dL_step_100 rfl (lv_at hl 4 rfl) ?_
  refine lv_aload B.hx B.hb dL_step_101 (lv_at hl 9 rfl) ?_
  refine lv_iconst (v := (nI 1)) B.hx B.hb dL_step_103 (by decide) ?_
  refine q_iald (f := (F 4)) B hP 4 rfl (j := 1) rfl (by decide) (by decide) dL_step_104 ?_
  refine q_top (v2 := .int (nI n)) (congrArg Value.int f41) ?_
  refine lv_irem B.hx B.hb dL_step_105 (fun h => absurd ((nI_eq0 (by omega)).mp h) (by omega)) ?_
  refine q_top (v2 := .int (nI (yy % n))) (congrArg Value.int (pk_rem (by omega) (by omega) (by omega))) ?_
  refine q_top (v2 := .int (nI j)) (congrArg Value.int (congrArg nI ei)) ?_
  refine lv_istore (lv' := [(13, .int (nI j)), (12, .int (nI j)), (0, .ref b), (1, .int (nI 1)), (2, .int (nI xx)), (3, .int (nI yy)), (4, .ref (o 0)), (5, .ref (o 1)), (6, .ref (o 2)), (7, .ref (o 3)), (8, .ref (o 4)), (9, .ref (o 5)), (10, .ref (o 6)), (11, .ref (o 7))]) B.hx B.hb dL_step_106 hl (by decide) rfl (fun ls hl => ?_)
  refine lv_aload B.hx B.hb dL_step_108 (lv_at hl 7 rfl) ?_
  refine lv_iload B.hx B.hb dL_step_110 (lv_at hl 1 rfl) ?_
  refine lv_dup2_11 B.hx B.hb dL_step_112 rfl rfl ?_
  refine q_iald (f := (F 1)) B hP 1 rfl (j := j) rfl (by omega) (by decide) dL_step_113 ?_
  refine q_top (v2 := .int (nI M)) (congrArg Value.int f1) ?_
  refine lv_iload B.hx B.hb dL_step_114 (lv_at hl 0 rfl) ?_
  refine lv_iload B.hx B.hb dL_step_116 (lv_at hl 1 rfl) ?_
  refine lv_icmp_ne (tgt := 125) B.hx B.hb dL_step_118 (by decide) (fun c4 => False.elim (by replace c4 := mt (nI_eq (by omega) (by omega)).mpr c4; omega)) (fun _ => ?_)
  refine lv_iconst (v := (nI 0)) B.hx B.hb dL_step_121 (by decide) ?_
  refine lv_goto (tgt := 129) B.hx B.hb dL_step_122 (by decide) ?_
  refine lv_ior B.hx B.hb dL_step_129 ?_
  refine q_top (v2 := .int (nI M)) (congrArg Value.int or_0) ?_
  refine q_iast (f := (F 1)) B hP hD hS 1 rfl (j := j) rfl (by omega) (by decide) dL_step_130 (w' := (lw cI o (va_up F 1 (upd (F 1) j (nI M))) ++ wk)) rfl (fun H locs hP hD hS => ?_)
  refine lv_iload B.hx B.hb dL_step_131 (lv_at hl 0 rfl) ?_
  refine lv_iload B.hx B.hb dL_step_133 (lv_at hl 1 rfl) ?_
  refine lv_icmp_eq (tgt := 157) B.hx B.hb dL_step_135 (by decide) (fun _ => ?_) (fun c5 => False.elim (by replace c5 := mt (nI_eq (by omega) (by omega)).mpr c5; omega))
  refine lv_iconst (v := (nI 1)) B.hx B.hb dL_step_157 (by decide) ?_
  refine lv_goto (tgt := 162) B.hx B.hb dL_step_158 (by decide) ?_
  exact q_zret B hr hP hD hS (by decide) (u := ()) rfl rfl (Nat.le_of_ble_eq_true rfl) (Nat.le_of_ble_eq_true rfl) dL_step_162

set_option maxHeartbeats 4000000 in
set_option maxRecDepth 100000 in
theorem ls1n (l : Launch) (D : va_G) (cI cZ cP : ClassId) (o : Nat → Nat) (F : Nat → Nat → Int32) (wk wk2 : va_W) {q0 b : Nat} {fs : List Value} (hq : wk[q0]? = some (b, .inr (3, fs))) {q2 : Nat} {fs2 : List Value} (hq2 : wk2[q2]? = some (b, .inr (3, fs2))) (xx yy : Nat) (hx : xx < 2 ^ 30) (hy : yy < 2 ^ 30) (n : Nat) (hn1 : 1 ≤ n) (hn8 : n ≤ 8) (f41 : F 4 1 = nI n) (j : Nat) (ej : xx % n = j) (hj : j < 8) (i : Nat) (ei : yy % n = i) (hi : i < 8) (hij : ¬ i = j) (M : Nat) (hM : M < 256) (f1 : F 1 j = nI M) (ch : q_C l yX3_hang wsX3_hang ({ frames := 6, cells := 1, slots := 6, locals := 82 }) D cI cZ cP [.ref b, .int (nI j), .int (nI i)] wk (S := Unit) (fun v _ => v = some (.int (nI (pc8 (bs M i))))) (fun _ => wk2) (fun _ => False) 1 6) : q_C l yL_step wsL_step ({ frames := 12, cells := 294, slots := 1764, locals := 231 }) D cI cZ cP [.ref b, .int (nI 1), .int (nI xx), .int (nI yy), .ref (o 0), .ref (o 1), .ref (o 2), .ref (o 3), .ref (o 4), .ref (o 5), .ref (o 6), .ref (o 7)] (lw cI o F ++ wk) (S := Unit) (fun v _ => v = some (.int (nI 1))) (fun _ => (lw cI o (va_up F 1 (upd (F 1) j (nI (bs M i)))) ++ wk2)) (fun _ => False) 294 1764 := by
  refine q_of (cc := cL_step) (maxL := 16) (ret := (some .boolean)) (by decide +kernel) rfl (Nat.le_of_ble_eq_true rfl) ?_
  intro p e s m below meth c A ls B hr htb hmn hP hD hS hl
  have hl : lv_has ls 16 [(0, .ref b), (1, .int (nI 1)), (2, .int (nI xx)), (3, .int (nI yy)), (4, .ref (o 0)), (5, .ref (o 1)), (6, .ref (o 2)), (7, .ref (o 3)), (8, .ref (o 4)), (9, .ref (o 5)), (10, .ref (o 6)), (11, .ref (o 7))] := hl
  have hb9 : bs M i < 256 := bs_lt hM hi
  have hp9 := pc8_le (bs M i)
  refine lv_iload_n B.hx B.hb dL_step_0 rfl (lv_at hl 1 rfl) ?_
  refine lv_if_eq (tgt := 11) B.hx B.hb dL_step_1 (by decide) (fun c1 => False.elim (by exact absurd c1 (by decide))) (fun _ => ?_)
  refine lv_aload B.hx B.hb dL_step_4 (lv_at hl 8 rfl) ?_
  refine lv_iconst (v := (nI 1)) B.hx B.hb dL_step_6 (by decide) ?_
  refine q_iald (f := (F 4)) B hP 4 rfl (j := 1) rfl (by decide) (by decide) dL_step_7 ?_
  refine q_top (v2 := .int (nI n)) (congrArg Value.int f41) ?_
  refine lv_if_ne (tgt := 87) B.hx B.hb dL_step_8 (by decide) (fun _ => ?_) (fun c2 => False.elim (by replace c2 := (nI_eq0 (by omega)).mp c2; omega))
  refine lv_iload_n B.hx B.hb dL_step_87 rfl (lv_at hl 2 rfl) ?_
  refine lv_aload B.hx B.hb dL_step_88 (lv_at hl 8 rfl) ?_
  refine lv_iconst (v := (nI 1)) B.hx B.hb dL_step_90 (by decide) ?_
  refine q_iald (f := (F 4)) B hP 4 rfl (j := 1) rfl (by decide) (by decide) dL_step_91 ?_
  refine q_top (v2 := .int (nI n)) (congrArg Value.int f41) ?_
  refine lv_irem B.hx B.hb dL_step_92 (fun h => absurd ((nI_eq0 (by omega)).mp h) (by omega)) ?_
  refine q_top (v2 := .int (nI (xx % n))) (congrArg Value.int (pk_rem (by omega) (by omega) (by omega))) ?_
  refine q_top (v2 := .int (nI j)) (congrArg Value.int (congrArg nI ej)) ?_
  refine lv_istore (lv' := [(12, .int (nI j)), (0, .ref b), (1, .int (nI 1)), (2, .int (nI xx)), (3, .int (nI yy)), (4, .ref (o 0)), (5, .ref (o 1)), (6, .ref (o 2)), (7, .ref (o 3)), (8, .ref (o 4)), (9, .ref (o 5)), (10, .ref (o 6)), (11, .ref (o 7))]) B.hx B.hb dL_step_93 hl (by decide) rfl (fun ls hl => ?_)
  refine lv_iload_n B.hx B.hb dL_step_95 rfl (lv_at hl 2 rfl) ?_
  refine lv_iconst (v := (nI 1)) B.hx B.hb dL_step_96 (by decide) ?_
  refine lv_icmp_ne (tgt := 163) B.hx B.hb dL_step_97 (by decide) (fun c3 => False.elim (by exact absurd c3 (by decide))) (fun _ => ?_)
  refine lv_iload_n B.hx B.hb dL_step_100 rfl (lv_at hl 4 rfl) ?_
  refine lv_aload B.hx B.hb dL_step_101 (lv_at hl 9 rfl) ?_
  refine lv_iconst (v := (nI 1)) B.hx B.hb dL_step_103 (by decide) ?_
  refine q_iald (f := (F 4)) B hP 4 rfl (j := 1) rfl (by decide) (by decide) dL_step_104 ?_
  refine q_top (v2 := .int (nI n)) (congrArg Value.int f41) ?_
  refine lv_irem B.hx B.hb dL_step_105 (fun h => absurd ((nI_eq0 (by omega)).mp h) (by omega)) ?_
  refine q_top (v2 := .int (nI (yy % n))) (congrArg Value.int (pk_rem (by omega) (by omega) (by omega))) ?_
  refine q_top (v2 := .int (nI i)) (congrArg Value.int (congrArg nI ei)) ?_
  refine lv_istore (lv' := [(13, .int (nI i)), (12, .int (nI j)), (0, .ref b), (1, .int (nI 1)), (2, .int (nI xx)), (3, .int (nI yy)), (4, .ref (o 0)), (5, .ref (o 1)), (6, .ref (o 2)), (7, .ref (o 3)), (8, .ref (o 4)), (9, .ref (o 5)), (10, .ref (o 6)), (11, .ref (o 7))]) B.hx B.hb dL_step_106 hl (by decide) rfl (fun ls hl => ?_)
  refine lv_aload B.hx B.hb dL_step_108 (lv_at hl 7 rfl) ?_
  refine lv_iload B.hx B.hb dL_step_110 (lv_at hl 1 rfl) ?_
  refine lv_dup2_11 B.hx B.hb dL_step_112 rfl rfl ?_
  refine q_iald (f := (F 1)) B hP 1 rfl (j := j) rfl (by omega) (by decide) dL_step_113 ?_
  refine q_top (v2 := .int (nI M)) (congrArg Value.int f1) ?_
  refine lv_iload B.hx B.hb dL_step_114 (lv_at hl 0 rfl) ?_
  refine lv_iload B.hx B.hb dL_step_116 (lv_at hl 1 rfl) ?_
  refine lv_icmp_ne (tgt := 125) B.hx B.hb dL_step_118 (by decide) (fun _ => ?_) (fun c4 => False.elim (by replace c4 := (nI_eq (by omega) (by omega)).mp c4; omega))
  refine lv_iconst (v := (nI 1)) B.hx B.hb dL_step_125 (by decide) ?_
  refine lv_iload B.hx B.hb dL_step_126 (lv_at hl 0 rfl) ?_
  refine lv_ishl B.hx B.hb dL_step_128 ?_
  refine q_top (v2 := .int (nI (2 ^ i))) (congrArg Value.int (msk_shl (by omega))) ?_
  refine lv_ior B.hx B.hb dL_step_129 ?_
  refine q_top (v2 := .int (nI (bs M i))) (congrArg Value.int (bs_or hM hi)) ?_
  refine q_iast (f := (F 1)) B hP hD hS 1 rfl (j := j) rfl (by omega) (by decide) dL_step_130 (w' := (lw cI o (va_up F 1 (upd (F 1) j (nI (bs M i)))) ++ wk)) rfl (fun H locs hP hD hS => ?_)
  refine lv_iload B.hx B.hb dL_step_131 (lv_at hl 0 rfl) ?_
  refine lv_iload B.hx B.hb dL_step_133 (lv_at hl 1 rfl) ?_
  refine lv_icmp_eq (tgt := 157) B.hx B.hb dL_step_135 (by decide) (fun c5 => False.elim (by replace c5 := (nI_eq (by omega) (by omega)).mp c5; omega)) (fun _ => ?_)
  refine lv_aload_n B.hx B.hb dL_step_138 rfl (lv_at hl 2 rfl) ?_
  refine lv_iload B.hx B.hb dL_step_139 (lv_at hl 1 rfl) ?_
  refine lv_iload B.hx B.hb dL_step_141 (lv_at hl 0 rfl) ?_
  refine q_callV (As := [.int (nI j), .int (nI i)]) (rest := []) B hP hD hS (ch.fl (lw cI o (va_up F 1 (upd (F 1) j (nI (bs M i)))))) (cwV 2 B.hts gL_step_X3_hang rfl rfl rfl (by decide +kernel) ⟨(Nat.le_of_ble_eq_true rfl), (Nat.le_of_ble_eq_true rfl)⟩) (q0 + 8) 3 hq rfl rfl rfl hl.1 rfl (Nat.le_of_ble_eq_true rfl) dL_step_143 ⟨(Nat.le_of_ble_eq_true rfl), (Nat.le_of_ble_eq_true rfl)⟩ (fun E ce q9 H locs hx => False.elim hx) (fun v u H locs hp hP hD hS => ?_)
  obtain rfl := hp
  have hP : va_P D vwCl (lw cI o (va_up F 1 (upd (F 1) j (nI (bs M i)))) ++ wk2) H := hP
  have hD : va_D A (lw cI o (va_up F 1 (upd (F 1) j (nI (bs M i)))) ++ wk2) := hD
  refine lv_aload B.hx B.hb dL_step_146 (lv_at hl 7 rfl) ?_
  refine lv_iload B.hx B.hb dL_step_148 (lv_at hl 1 rfl) ?_
  refine q_iald (f := (upd (F 1) j (nI (bs M i)))) B hP 1 rfl (j := j) rfl (by omega) (by decide) dL_step_150 ?_
  refine q_top (v2 := .int (nI (bs M i))) (congrArg Value.int pk_us) ?_
  refine q_callS (As := [.int (nI (bs M i))]) (rest := [.int (nI (pc8 (bs M i)))]) B hP hD hS ((cl_size l D cI cZ cP (bs M i) (by omega)).fr0 (lw cI o (va_up F 1 (upd (F 1) j (nI (bs M i)))) ++ wk2)) (cwS 1 B.hts gL_step_L_size rfl rfl rfl (by decide +kernel) ⟨(Nat.le_of_ble_eq_true rfl), (Nat.le_of_ble_eq_true rfl)⟩) rfl hl.1 rfl (Nat.le_of_ble_eq_true rfl) dL_step_151 ⟨(Nat.le_of_ble_eq_true rfl), (Nat.le_of_ble_eq_true rfl)⟩ (fun E ce q9 H locs hx => False.elim hx) (fun v u H locs hp hP hD hS => ?_)
  obtain rfl := hp
  have hP : va_P D vwCl (lw cI o (va_up F 1 (upd (F 1) j (nI (bs M i)))) ++ wk2) H := hP
  have hD : va_D A (lw cI o (va_up F 1 (upd (F 1) j (nI (bs M i)))) ++ wk2) := hD
  refine lv_icmp_ne (tgt := 161) B.hx B.hb dL_step_154 (by decide) (fun c6 => False.elim (by replace c6 := mt (nI_eq (by omega) (by omega)).mpr c6; omega)) (fun _ => ?_)
  refine lv_iconst (v := (nI 1)) B.hx B.hb dL_step_157 (by decide) ?_
  refine lv_goto (tgt := 162) B.hx B.hb dL_step_158 (by decide) ?_
  exact q_zret B hr hP hD hS (by decide) (u := ()) rfl rfl (Nat.le_of_ble_eq_true rfl) (Nat.le_of_ble_eq_true rfl) dL_step_162

set_option maxHeartbeats 4000000 in
set_option maxRecDepth 100000 in
theorem ls2m (l : Launch) (D : va_G) (cI cZ cP : ClassId) (o : Nat → Nat) (F : Nat → Nat → Int32) (wk wk2 : va_W) {q0 b : Nat} {fs : List Value} (hq : wk[q0]? = some (b, .inr (3, fs))) {q2 : Nat} {fs2 : List Value} (hq2 : wk2[q2]? = some (b, .inr (3, fs2))) (xx yy : Nat) (hx : xx < 2 ^ 30) (hy : yy < 2 ^ 30) (n : Nat) (hn1 : 1 ≤ n) (hn8 : n ≤ 8) (f41 : F 4 1 = nI n) (j : Nat) (ej : xx % n = j) (hj : j < 8) (pp : Nat) (ep : xx / 8 % 6 = pp) (hpp : pp < 6) (r0 r1 zp : Nat) (hr0 : r0 < 64) (hr1 : r1 < 64) (f50 : F 5 0 = nI r0) (f51 : F 5 1 = nI r1) (f6 : F 6 pp = nI zp) (ed : yy / 4 % 7 = 0) {q3 : Nat} {fs3 : List Value} (wk3 : va_W) (hq3 : wk3[q3]? = some (b, .inr (3, fs3))) (csr : q_C l yX3_setRoles wsX3_setRoles ({ frames := 8, cells := 1, slots := 6, locals := 124 }) D cI cZ cP [.ref b, .int (nI pp), .int (bI ((bw r0 pp (decide (0 < yy % 4))).testBit pp)), .int (bI ((bw r1 pp (decide (yy / 28 % 2 = 0))).testBit pp))] wk (S := Unit) (fun v _ => v = none) (fun _ => wk2) (fun _ => False) 1 6) (csd : q_C l yX3_setDeputy wsX3_setDeputy ({ frames := 8, cells := 3, slots := 18, locals := 124 }) D cI cZ cP [.ref b, .int (nI pp), .int (-1)] wk2 (S := Unit) (fun v _ => v = some (.int (nI zp - nI 1))) (fun _ => wk3) (fun _ => False) 3 18) : q_C l yL_step wsL_step ({ frames := 12, cells := 294, slots := 1764, locals := 231 }) D cI cZ cP [.ref b, .int (nI 2), .int (nI xx), .int (nI yy), .ref (o 0), .ref (o 1), .ref (o 2), .ref (o 3), .ref (o 4), .ref (o 5), .ref (o 6), .ref (o 7)] (lw cI o F ++ wk) (S := Unit) (fun v _ => v = some (.int (nI 1))) (fun _ => (lw cI o (va_up (va_up F 5 (upd (upd (F 5) 0 (nI (bw r0 pp (decide (0 < yy % 4))))) 1 (nI (bw r1 pp (decide (yy / 28 % 2 = 0)))))) 6 (upd (F 6) pp (nI 0))) ++ wk3)) (fun _ => False) 294 1764 := by
  refine q_of (cc := cL_step) (maxL := 16) (ret := (some .boolean)) (by decide +kernel) rfl (Nat.le_of_ble_eq_true rfl) ?_
  intro p e s m below meth c A ls B hr htb hmn hP hD hS hl
  have hl : lv_has ls 16 [(0, .ref b), (1, .int (nI 2)), (2, .int (nI xx)), (3, .int (nI yy)), (4, .ref (o 0)), (5, .ref (o 1)), (6, .ref (o 2)), (7, .ref (o 3)), (8, .ref (o 4)), (9, .ref (o 5)), (10, .ref (o 6)), (11, .ref (o 7))] := hl
  have hb0 : bw r0 pp (decide (0 < yy % 4)) < 64 := bw_lt hr0 hpp _
  have hb1 : bw r1 pp (decide (yy / 28 % 2 = 0)) < 64 := bw_lt hr1 hpp _
  refine lv_iload_n B.hx B.hb dL_step_0 rfl (lv_at hl 1 rfl) ?_
  refine lv_if_eq (tgt := 11) B.hx B.hb dL_step_1 (by decide) (fun c1 => False.elim (by exact absurd c1 (by decide))) (fun _ => ?_)
  refine lv_aload B.hx B.hb dL_step_4 (lv_at hl 8 rfl) ?_
  refine lv_iconst (v := (nI 1)) B.hx B.hb dL_step_6 (by decide) ?_
  refine q_iald (f := (F 4)) B hP 4 rfl (j := 1) rfl (by decide) (by decide) dL_step_7 ?_
  refine q_top (v2 := .int (nI n)) (congrArg Value.int f41) ?_
  refine lv_if_ne (tgt := 87) B.hx B.hb dL_step_8 (by decide) (fun _ => ?_) (fun c2 => False.elim (by replace c2 := (nI_eq0 (by omega)).mp c2; omega))
  refine lv_iload_n B.hx B.hb dL_step_87 rfl (lv_at hl 2 rfl) ?_
  refine lv_aload B.hx B.hb dL_step_88 (lv_at hl 8 rfl) ?_
  refine lv_iconst (v := (nI 1)) B.hx B.hb dL_step_90 (by decide) ?_
  refine q_iald (f := (F 4)) B hP 4 rfl (j := 1) rfl (by decide) (by decide) dL_step_91 ?_
  refine q_top (v2 := .int (nI n)) (congrArg Value.int f41) ?_
  refine lv_irem B.hx B.hb dL_step_92 (fun h => absurd ((nI_eq0 (by omega)).mp h) (by omega)) ?_
  refine q_top (v2 := .int (nI (xx % n))) (congrArg Value.int (pk_rem (by omega) (by omega) (by omega))) ?_
  refine q_top (v2 := .int (nI j)) (congrArg Value.int (congrArg nI ej)) ?_
  refine lv_istore (lv' := [(12, .int (nI j)), (0, .ref b), (1, .int (nI 2)), (2, .int (nI xx)), (3, .int (nI yy)), (4, .ref (o 0)), (5, .ref (o 1)), (6, .ref (o 2)), (7, .ref (o 3)), (8, .ref (o 4)), (9, .ref (o 5)), (10, .ref (o 6)), (11, .ref (o 7))]) B.hx B.hb dL_step_93 hl (by decide) rfl (fun ls hl => ?_)
  refine lv_iload_n B.hx B.hb dL_step_95 rfl (lv_at hl 2 rfl) ?_
  refine lv_iconst (v := (nI 1)) B.hx B.hb dL_step_96 (by decide) ?_
  refine lv_icmp_ne (tgt := 163) B.hx B.hb dL_step_97 (by decide) (fun _ => ?_) (fun c3 => False.elim (by exact absurd c3 (by decide)))
  refine lv_iload_n B.hx B.hb dL_step_163 rfl (lv_at hl 2 rfl) ?_
  refine lv_iconst (v := (nI 2)) B.hx B.hb dL_step_164 (by decide) ?_
  refine lv_icmp_ne (tgt := 332) B.hx B.hb dL_step_165 (by decide) (fun c4 => False.elim (by exact absurd c4 (by decide))) (fun _ => ?_)
  refine lv_iload_n B.hx B.hb dL_step_168 rfl (lv_at hl 3 rfl) ?_
  refine lv_bipush (v := (nI 8)) B.hx B.hb dL_step_169 (by decide) ?_
  refine lv_idiv B.hx B.hb dL_step_171 (by decide) ?_
  refine q_top (v2 := .int (nI (xx / 8))) (congrArg Value.int (pk_div (by omega) (by omega) (by omega))) ?_
  refine lv_bipush (v := (nI 6)) B.hx B.hb dL_step_172 (by decide) ?_
  refine lv_irem B.hx B.hb dL_step_174 (by decide) ?_
  refine q_top (v2 := .int (nI ((xx / 8) % 6))) (congrArg Value.int (pk_rem (by omega) (by omega) (by omega))) ?_
  refine q_top (v2 := .int (nI pp)) (congrArg Value.int (congrArg nI ep)) ?_
  refine lv_istore (lv' := [(13, .int (nI pp)), (12, .int (nI j)), (0, .ref b), (1, .int (nI 2)), (2, .int (nI xx)), (3, .int (nI yy)), (4, .ref (o 0)), (5, .ref (o 1)), (6, .ref (o 2)), (7, .ref (o 3)), (8, .ref (o 4)), (9, .ref (o 5)), (10, .ref (o 6)), (11, .ref (o 7))]) B.hx B.hb dL_step_175 hl (by decide) rfl (fun ls hl => ?_)
  refine lv_iload_n B.hx B.hb dL_step_177 rfl (lv_at hl 5 rfl) ?_
  refine lv_iconst (v := (nI 4)) B.hx B.hb dL_step_178 (by decide) ?_
  refine lv_idiv B.hx B.hb dL_step_179 (by decide) ?_
  refine q_top (v2 := .int (nI (yy / 4))) (congrArg Value.int (pk_div (by omega) (by omega) (by omega))) ?_
  refine lv_bipush (v := (nI 7)) B.hx B.hb dL_step_180 (by decide) ?_
  refine lv_irem B.hx B.hb dL_step_182 (by decide) ?_
  refine q_top (v2 := .int (nI ((yy / 4) % 7))) (congrArg Value.int (pk_rem (by omega) (by omega) (by omega))) ?_
  refine lv_iconst (v := (nI 1)) B.hx B.hb dL_step_183 (by decide) ?_
  refine lv_isub B.hx B.hb dL_step_184 ?_
  refine q_top (v2 := .int (-1)) (congrArg Value.int ((congrArg (fun q => nI q - nI 1) ed).trans nI_m1)) ?_
  refine lv_istore (lv' := [(14, .int (-1)), (13, .int (nI pp)), (12, .int (nI j)), (0, .ref b), (1, .int (nI 2)), (2, .int (nI xx)), (3, .int (nI yy)), (4, .ref (o 0)), (5, .ref (o 1)), (6, .ref (o 2)), (7, .ref (o 3)), (8, .ref (o 4)), (9, .ref (o 5)), (10, .ref (o 6)), (11, .ref (o 7))]) B.hx B.hb dL_step_185 hl (by decide) rfl (fun ls hl => ?_)
  refine lv_aload B.hx B.hb dL_step_187 (lv_at hl 12 rfl) ?_
  refine lv_iconst (v := (nI 0)) B.hx B.hb dL_step_189 (by decide) ?_
  refine lv_aload B.hx B.hb dL_step_190 (lv_at hl 12 rfl) ?_
  refine lv_iconst (v := (nI 0)) B.hx B.hb dL_step_192 (by decide) ?_
  refine q_iald (f := (F 5)) B hP 5 rfl (j := 0) rfl (by decide) (by decide) dL_step_193 ?_
  refine q_top (v2 := .int (nI r0)) (congrArg Value.int f50) ?_
  refine lv_iconst (v := (nI 1)) B.hx B.hb dL_step_194 (by decide) ?_
  refine lv_iload B.hx B.hb dL_step_195 (lv_at hl 1 rfl) ?_
  refine lv_ishl B.hx B.hb dL_step_197 ?_
  refine q_top (v2 := .int (nI (2 ^ pp))) (congrArg Value.int (msk_shl (by omega))) ?_
  refine lv_iconst (v := (-1)) B.hx B.hb dL_step_198 (by decide) ?_
  refine lv_ixor B.hx B.hb dL_step_199 ?_
  refine lv_iand B.hx B.hb dL_step_200 ?_
  refine q_join (D := D) (A := A) (J := 215) (stk := [.int (nI (dub (decide (0 < yy % 4)) pp)), .int ((nI r0) &&& ((nI (2 ^ pp)) ^^^ (-1))), .int (nI 0), .ref (o 5)]) (w := (lw cI o F ++ wk)) (fun H locs hP hD hS => ?_) (fun kJ5 => ?_)
  · refine lv_ior B.hx B.hb dL_step_215 ?_
    refine q_top (v2 := .int (nI (bw r0 pp (decide (0 < yy % 4))))) (congrArg Value.int (bw_dub hr0 hpp _)) ?_
    refine q_iast (f := (F 5)) B hP hD hS 5 rfl (j := 0) rfl (by decide) (by decide) dL_step_216 (w' := (lw cI o (va_up F 5 (upd (F 5) 0 (nI (bw r0 pp (decide (0 < yy % 4)))))) ++ wk)) rfl (fun H locs hP hD hS => ?_)
    refine lv_aload B.hx B.hb dL_step_217 (lv_at hl 12 rfl) ?_
    refine lv_iconst (v := (nI 1)) B.hx B.hb dL_step_219 (by decide) ?_
    refine lv_aload B.hx B.hb dL_step_220 (lv_at hl 12 rfl) ?_
    refine lv_iconst (v := (nI 1)) B.hx B.hb dL_step_222 (by decide) ?_
    refine q_iald (f := (upd (F 5) 0 (nI (bw r0 pp (decide (0 < yy % 4)))))) B hP 5 rfl (j := 1) rfl (by decide) (by decide) dL_step_223 ?_
    refine q_top (v2 := .int (nI r1)) (congrArg Value.int ((pk_un (by omega)).trans f51)) ?_
    refine lv_iconst (v := (nI 1)) B.hx B.hb dL_step_224 (by decide) ?_
    refine lv_iload B.hx B.hb dL_step_225 (lv_at hl 1 rfl) ?_
    refine lv_ishl B.hx B.hb dL_step_227 ?_
    refine q_top (v2 := .int (nI (2 ^ pp))) (congrArg Value.int (msk_shl (by omega))) ?_
    refine lv_iconst (v := (-1)) B.hx B.hb dL_step_228 (by decide) ?_
    refine lv_ixor B.hx B.hb dL_step_229 ?_
    refine lv_iand B.hx B.hb dL_step_230 ?_
    refine q_join (D := D) (A := A) (J := 248) (stk := [.int (nI (dub (decide (yy / 28 % 2 = 0)) pp)), .int ((nI r1) &&& ((nI (2 ^ pp)) ^^^ (-1))), .int (nI 1), .ref (o 5)]) (w := (lw cI o (va_up F 5 (upd (F 5) 0 (nI (bw r0 pp (decide (0 < yy % 4)))))) ++ wk)) (fun H locs hP hD hS => ?_) (fun kJ6 => ?_)
    · refine lv_ior B.hx B.hb dL_step_248 ?_
      refine q_top (v2 := .int (nI (bw r1 pp (decide (yy / 28 % 2 = 0))))) (congrArg Value.int (bw_dub hr1 hpp _)) ?_
      refine q_iast (f := (upd (F 5) 0 (nI (bw r0 pp (decide (0 < yy % 4)))))) B hP hD hS 5 rfl (j := 1) rfl (by decide) (by decide) dL_step_249 (w' := (lw cI o (va_up F 5 (upd (upd (F 5) 0 (nI (bw r0 pp (decide (0 < yy % 4))))) 1 (nI (bw r1 pp (decide (yy / 28 % 2 = 0)))))) ++ wk)) rfl (fun H locs hP hD hS => ?_)
      refine lv_aload_n B.hx B.hb dL_step_250 rfl (lv_at hl 3 rfl) ?_
      refine lv_iload B.hx B.hb dL_step_251 (lv_at hl 1 rfl) ?_
      refine lv_aload B.hx B.hb dL_step_253 (lv_at hl 12 rfl) ?_
      refine lv_iconst (v := (nI 0)) B.hx B.hb dL_step_255 (by decide) ?_
      refine q_iald (f := (upd (upd (F 5) 0 (nI (bw r0 pp (decide (0 < yy % 4))))) 1 (nI (bw r1 pp (decide (yy / 28 % 2 = 0)))))) B hP 5 rfl (j := 0) rfl (by decide) (by decide) dL_step_256 ?_
      refine q_top (v2 := .int (nI (bw r0 pp (decide (0 < yy % 4))))) (congrArg Value.int ((pk_un (by omega)).trans pk_us)) ?_
      refine lv_iload B.hx B.hb dL_step_257 (lv_at hl 1 rfl) ?_
      refine q_callS (As := [.int (nI (bw r0 pp (decide (0 < yy % 4)))), .int (nI pp)]) (rest := [.int (nI pp), .ref b]) B hP hD hS ((cl_has l D cI cZ cP (bw r0 pp (decide (0 < yy % 4))) pp (by omega) (by omega)).fr0 (lw cI o (va_up F 5 (upd (upd (F 5) 0 (nI (bw r0 pp (decide (0 < yy % 4))))) 1 (nI (bw r1 pp (decide (yy / 28 % 2 = 0)))))) ++ wk)) (cwS 2 B.hts gL_step_L_has rfl rfl rfl (by decide +kernel) ⟨(Nat.le_of_ble_eq_true rfl), (Nat.le_of_ble_eq_true rfl)⟩) rfl hl.1 rfl (Nat.le_of_ble_eq_true rfl) dL_step_259 ⟨(Nat.le_of_ble_eq_true rfl), (Nat.le_of_ble_eq_true rfl)⟩ (fun E ce q9 H locs hx => False.elim hx) (fun v u H locs hp hP hD hS => ?_)
      obtain rfl := hp
      have hP : va_P D vwCl (lw cI o (va_up F 5 (upd (upd (F 5) 0 (nI (bw r0 pp (decide (0 < yy % 4))))) 1 (nI (bw r1 pp (decide (yy / 28 % 2 = 0)))))) ++ wk) H := hP
      have hD : va_D A (lw cI o (va_up F 5 (upd (upd (F 5) 0 (nI (bw r0 pp (decide (0 < yy % 4))))) 1 (nI (bw r1 pp (decide (yy / 28 % 2 = 0)))))) ++ wk) := hD
      refine lv_aload B.hx B.hb dL_step_262 (lv_at hl 12 rfl) ?_
      refine lv_iconst (v := (nI 1)) B.hx B.hb dL_step_264 (by decide) ?_
      refine q_iald (f := (upd (upd (F 5) 0 (nI (bw r0 pp (decide (0 < yy % 4))))) 1 (nI (bw r1 pp (decide (yy / 28 % 2 = 0)))))) B hP 5 rfl (j := 1) rfl (by decide) (by decide) dL_step_265 ?_
      refine q_top (v2 := .int (nI (bw r1 pp (decide (yy / 28 % 2 = 0))))) (congrArg Value.int pk_us) ?_
      refine lv_iload B.hx B.hb dL_step_266 (lv_at hl 1 rfl) ?_
      refine q_callS (As := [.int (nI (bw r1 pp (decide (yy / 28 % 2 = 0)))), .int (nI pp)]) (rest := [.int (bI (Nat.testBit (bw r0 pp (decide (0 < yy % 4))) pp)), .int (nI pp), .ref b]) B hP hD hS ((cl_has l D cI cZ cP (bw r1 pp (decide (yy / 28 % 2 = 0))) pp (by omega) (by omega)).fr0 (lw cI o (va_up F 5 (upd (upd (F 5) 0 (nI (bw r0 pp (decide (0 < yy % 4))))) 1 (nI (bw r1 pp (decide (yy / 28 % 2 = 0)))))) ++ wk)) (cwS 2 B.hts gL_step_L_has rfl rfl rfl (by decide +kernel) ⟨(Nat.le_of_ble_eq_true rfl), (Nat.le_of_ble_eq_true rfl)⟩) rfl hl.1 rfl (Nat.le_of_ble_eq_true rfl) dL_step_268 ⟨(Nat.le_of_ble_eq_true rfl), (Nat.le_of_ble_eq_true rfl)⟩ (fun E ce q9 H locs hx => False.elim hx) (fun v u H locs hp hP hD hS => ?_)
      obtain rfl := hp
      have hP : va_P D vwCl (lw cI o (va_up F 5 (upd (upd (F 5) 0 (nI (bw r0 pp (decide (0 < yy % 4))))) 1 (nI (bw r1 pp (decide (yy / 28 % 2 = 0)))))) ++ wk) H := hP
      have hD : va_D A (lw cI o (va_up F 5 (upd (upd (F 5) 0 (nI (bw r0 pp (decide (0 < yy % 4))))) 1 (nI (bw r1 pp (decide (yy / 28 % 2 = 0)))))) ++ wk) := hD
      refine q_callV (As := [.int (nI pp), .int (bI (Nat.testBit (bw r0 pp (decide (0 < yy % 4))) pp)), .int (bI (Nat.testBit (bw r1 pp (decide (yy / 28 % 2 = 0))) pp))]) (rest := []) B hP hD hS (csr.fl (lw cI o (va_up F 5 (upd (upd (F 5) 0 (nI (bw r0 pp (decide (0 < yy % 4))))) 1 (nI (bw r1 pp (decide (yy / 28 % 2 = 0)))))))) (cwV 3 B.hts gL_step_X3_setRoles rfl rfl rfl (by decide +kernel) ⟨(Nat.le_of_ble_eq_true rfl), (Nat.le_of_ble_eq_true rfl)⟩) (q0 + 8) 3 hq rfl rfl rfl hl.1 rfl (Nat.le_of_ble_eq_true rfl) dL_step_271 ⟨(Nat.le_of_ble_eq_true rfl), (Nat.le_of_ble_eq_true rfl)⟩ (fun E ce q9 H locs hx => False.elim hx) (fun v u H locs hp hP hD hS => ?_)
      obtain rfl := hp
      have hP : va_P D vwCl (lw cI o (va_up F 5 (upd (upd (F 5) 0 (nI (bw r0 pp (decide (0 < yy % 4))))) 1 (nI (bw r1 pp (decide (yy / 28 % 2 = 0)))))) ++ wk2) H := hP
      have hD : va_D A (lw cI o (va_up F 5 (upd (upd (F 5) 0 (nI (bw r0 pp (decide (0 < yy % 4))))) 1 (nI (bw r1 pp (decide (yy / 28 % 2 = 0)))))) ++ wk2) := hD
      refine lv_aload B.hx B.hb dL_step_274 (lv_at hl 13 rfl) ?_
      refine lv_iload B.hx B.hb dL_step_276 (lv_at hl 1 rfl) ?_
      refine q_iald (f := (F 6)) B hP 6 rfl (j := pp) rfl (by omega) (by decide) dL_step_278 ?_
      refine q_top (v2 := .int (nI zp)) (congrArg Value.int f6) ?_
      refine lv_iconst (v := (nI 1)) B.hx B.hb dL_step_279 (by decide) ?_
      refine lv_isub B.hx B.hb dL_step_280 ?_
      refine lv_istore (lv' := [(15, .int ((nI zp) - (nI 1))), (14, .int (-1)), (13, .int (nI pp)), (12, .int (nI j)), (0, .ref b), (1, .int (nI 2)), (2, .int (nI xx)), (3, .int (nI yy)), (4, .ref (o 0)), (5, .ref (o 1)), (6, .ref (o 2)), (7, .ref (o 3)), (8, .ref (o 4)), (9, .ref (o 5)), (10, .ref (o 6)), (11, .ref (o 7))]) B.hx B.hb dL_step_281 hl (by decide) rfl (fun ls hl => ?_)
      refine lv_aload B.hx B.hb dL_step_283 (lv_at hl 14 rfl) ?_
      refine lv_iload B.hx B.hb dL_step_285 (lv_at hl 2 rfl) ?_
      refine lv_iload B.hx B.hb dL_step_287 (lv_at hl 1 rfl) ?_
      refine lv_iload B.hx B.hb dL_step_289 (lv_at hl 2 rfl) ?_
      refine lv_icmp_ne (tgt := 301) B.hx B.hb dL_step_291 (by decide) (fun _ => ?_) (fun c7 => False.elim (by exact nI_nm1 (by omega) c7.symm))
      refine lv_iload B.hx B.hb dL_step_301 (lv_at hl 1 rfl) ?_
      refine lv_iconst (v := (nI 1)) B.hx B.hb dL_step_303 (by decide) ?_
      refine lv_iadd B.hx B.hb dL_step_304 ?_
      refine q_top (v2 := .int (nI 0)) (congrArg Value.int nI_m1p) ?_
      refine q_iast (f := (F 6)) B hP hD hS 6 rfl (j := pp) rfl (by omega) (by decide) dL_step_305 (w' := (lw cI o (va_up (va_up F 5 (upd (upd (F 5) 0 (nI (bw r0 pp (decide (0 < yy % 4))))) 1 (nI (bw r1 pp (decide (yy / 28 % 2 = 0)))))) 6 (upd (F 6) pp (nI 0))) ++ wk2)) rfl (fun H locs hP hD hS => ?_)
      refine lv_iload B.hx B.hb dL_step_306 (lv_at hl 1 rfl) ?_
      refine lv_iload B.hx B.hb dL_step_308 (lv_at hl 2 rfl) ?_
      refine lv_icmp_eq (tgt := 326) B.hx B.hb dL_step_310 (by decide) (fun c8 => False.elim (by exact nI_nm1 (by omega) c8.symm)) (fun _ => ?_)
      refine lv_aload_n B.hx B.hb dL_step_313 rfl (lv_at hl 4 rfl) ?_
      refine lv_iload B.hx B.hb dL_step_314 (lv_at hl 2 rfl) ?_
      refine lv_iload B.hx B.hb dL_step_316 (lv_at hl 1 rfl) ?_
      refine q_callV (As := [.int (nI pp), .int (-1)]) (rest := []) B hP hD hS (csd.fl (lw cI o (va_up (va_up F 5 (upd (upd (F 5) 0 (nI (bw r0 pp (decide (0 < yy % 4))))) 1 (nI (bw r1 pp (decide (yy / 28 % 2 = 0)))))) 6 (upd (F 6) pp (nI 0))))) (cwV 2 B.hts gL_step_X3_setDeputy rfl rfl rfl (by decide +kernel) ⟨(Nat.le_of_ble_eq_true rfl), (Nat.le_of_ble_eq_true rfl)⟩) (q2 + 8) 3 hq2 rfl rfl rfl hl.1 rfl (Nat.le_of_ble_eq_true rfl) dL_step_318 ⟨(Nat.le_of_ble_eq_true rfl), (Nat.le_of_ble_eq_true rfl)⟩ (fun E ce q9 H locs hx => False.elim hx) (fun v u H locs hp hP hD hS => ?_)
      obtain rfl := hp
      have hP : va_P D vwCl (lw cI o (va_up (va_up F 5 (upd (upd (F 5) 0 (nI (bw r0 pp (decide (0 < yy % 4))))) 1 (nI (bw r1 pp (decide (yy / 28 % 2 = 0)))))) 6 (upd (F 6) pp (nI 0))) ++ wk3) H := hP
      have hD : va_D A (lw cI o (va_up (va_up F 5 (upd (upd (F 5) 0 (nI (bw r0 pp (decide (0 < yy % 4))))) 1 (nI (bw r1 pp (decide (yy / 28 % 2 = 0)))))) 6 (upd (F 6) pp (nI 0))) ++ wk3) := hD
      refine lv_iload B.hx B.hb dL_step_321 (lv_at hl 0 rfl) ?_
      refine lv_icmp_ne (tgt := 330) B.hx B.hb dL_step_323 (by decide) (fun c9 => False.elim (by exact c9 rfl)) (fun _ => ?_)
      refine lv_iconst (v := (nI 1)) B.hx B.hb dL_step_326 (by decide) ?_
      refine lv_goto (tgt := 331) B.hx B.hb dL_step_327 (by decide) ?_
      exact q_zret B hr hP hD hS (by decide) (u := ()) rfl rfl (Nat.le_of_ble_eq_true rfl) (Nat.le_of_ble_eq_true rfl) dL_step_331
    · refine lv_iload_n B.hx B.hb dL_step_231 rfl (lv_at hl 6 rfl) ?_
      refine lv_bipush (v := (nI 28)) B.hx B.hb dL_step_232 (by decide) ?_
      refine lv_idiv B.hx B.hb dL_step_234 (by decide) ?_
      refine q_top (v2 := .int (nI (yy / 28))) (congrArg Value.int (pk_div (by omega) (by omega) (by omega))) ?_
      refine lv_iconst (v := (nI 2)) B.hx B.hb dL_step_235 (by decide) ?_
      refine lv_irem B.hx B.hb dL_step_236 (by decide) ?_
      refine q_top (v2 := .int (nI ((yy / 28) % 2))) (congrArg Value.int (pk_rem (by omega) (by omega) (by omega))) ?_
      refine lv_if_ne (tgt := 247) B.hx B.hb dL_step_237 (by decide) (fun c10 => ?_) (fun c10 => ?_)
      · replace c10 := mt (nI_eq0 (by omega)).mpr c10
        refine lv_iconst (v := (nI 0)) B.hx B.hb dL_step_247 (by decide) ?_
        refine q_top (v2 := .int (nI (dub (decide (yy / 28 % 2 = 0)) pp))) (congrArg Value.int (congrArg nI (by simp [dub, c10]))) ?_
        exact kJ6 _ _ hP hD hS
      · replace c10 := (nI_eq0 (by omega)).mp c10
        refine lv_iconst (v := (nI 1)) B.hx B.hb dL_step_240 (by decide) ?_
        refine lv_iload B.hx B.hb dL_step_241 (lv_at hl 1 rfl) ?_
        refine lv_ishl B.hx B.hb dL_step_243 ?_
        refine q_top (v2 := .int (nI (2 ^ pp))) (congrArg Value.int (msk_shl (by omega))) ?_
        refine lv_goto (tgt := 248) B.hx B.hb dL_step_244 (by decide) ?_
        refine q_top (v2 := .int (nI (dub (decide (yy / 28 % 2 = 0)) pp))) (congrArg Value.int (congrArg nI (by simp [dub, c10]))) ?_
        exact kJ6 _ _ hP hD hS
  · refine lv_iload_n B.hx B.hb dL_step_201 rfl (lv_at hl 6 rfl) ?_
    refine lv_iconst (v := (nI 4)) B.hx B.hb dL_step_202 (by decide) ?_
    refine lv_irem B.hx B.hb dL_step_203 (by decide) ?_
    refine q_top (v2 := .int (nI (yy % 4))) (congrArg Value.int (pk_rem (by omega) (by omega) (by omega))) ?_
    refine lv_if_le (tgt := 214) B.hx B.hb dL_step_204 (by decide) (fun c11 => ?_) (fun c11 => ?_)
    · replace c11 := (nI_le0 (by omega)).mp c11
      refine lv_iconst (v := (nI 0)) B.hx B.hb dL_step_214 (by decide) ?_
      refine q_top (v2 := .int (nI (dub (decide (0 < yy % 4)) pp))) (congrArg Value.int (congrArg nI (by simp [dub, c11]))) ?_
      exact kJ5 _ _ hP hD hS
    · replace c11 := mt (nI_le0 (by omega)).mpr c11
      refine lv_iconst (v := (nI 1)) B.hx B.hb dL_step_207 (by decide) ?_
      refine lv_iload B.hx B.hb dL_step_208 (lv_at hl 1 rfl) ?_
      refine lv_ishl B.hx B.hb dL_step_210 ?_
      refine q_top (v2 := .int (nI (2 ^ pp))) (congrArg Value.int (msk_shl (by omega))) ?_
      refine lv_goto (tgt := 215) B.hx B.hb dL_step_211 (by decide) ?_
      refine q_top (v2 := .int (nI (dub (decide (0 < yy % 4)) pp))) (congrArg Value.int (congrArg nI (by simp [dub, c11]))) ?_
      exact kJ5 _ _ hP hD hS

set_option maxHeartbeats 4000000 in
set_option maxRecDepth 100000 in
theorem ls2d (l : Launch) (D : va_G) (cI cZ cP : ClassId) (o : Nat → Nat) (F : Nat → Nat → Int32) (wk wk2 : va_W) {q0 b : Nat} {fs : List Value} (hq : wk[q0]? = some (b, .inr (3, fs))) {q2 : Nat} {fs2 : List Value} (hq2 : wk2[q2]? = some (b, .inr (3, fs2))) (xx yy : Nat) (hx : xx < 2 ^ 30) (hy : yy < 2 ^ 30) (n : Nat) (hn1 : 1 ≤ n) (hn8 : n ≤ 8) (f41 : F 4 1 = nI n) (j : Nat) (ej : xx % n = j) (hj : j < 8) (pp : Nat) (ep : xx / 8 % 6 = pp) (hpp : pp < 6) (r0 r1 zp : Nat) (hr0 : r0 < 64) (hr1 : r1 < 64) (f50 : F 5 0 = nI r0) (f51 : F 5 1 = nI r1) (f6 : F 6 pp = nI zp) (dq : Nat) (ed : yy / 4 % 7 = dq + 1) (hdq : ¬ dq = pp) {q3 : Nat} {fs3 : List Value} (wk3 : va_W) (hq3 : wk3[q3]? = some (b, .inr (3, fs3))) (csr : q_C l yX3_setRoles wsX3_setRoles ({ frames := 8, cells := 1, slots := 6, locals := 124 }) D cI cZ cP [.ref b, .int (nI pp), .int (bI ((bw r0 pp (decide (0 < yy % 4))).testBit pp)), .int (bI ((bw r1 pp (decide (yy / 28 % 2 = 0))).testBit pp))] wk (S := Unit) (fun v _ => v = none) (fun _ => wk2) (fun _ => False) 1 6) (csd : q_C l yX3_setDeputy wsX3_setDeputy ({ frames := 8, cells := 3, slots := 18, locals := 124 }) D cI cZ cP [.ref b, .int (nI pp), .int (nI dq)] wk2 (S := Unit) (fun v _ => v = some (.int (nI zp - nI 1))) (fun _ => wk3) (fun _ => False) 3 18) : q_C l yL_step wsL_step ({ frames := 12, cells := 294, slots := 1764, locals := 231 }) D cI cZ cP [.ref b, .int (nI 2), .int (nI xx), .int (nI yy), .ref (o 0), .ref (o 1), .ref (o 2), .ref (o 3), .ref (o 4), .ref (o 5), .ref (o 6), .ref (o 7)] (lw cI o F ++ wk) (S := Unit) (fun v _ => v = some (.int (nI 1))) (fun _ => (lw cI o (va_up (va_up F 5 (upd (upd (F 5) 0 (nI (bw r0 pp (decide (0 < yy % 4))))) 1 (nI (bw r1 pp (decide (yy / 28 % 2 = 0)))))) 6 (upd (F 6) pp (nI (dq + 1)))) ++ wk3)) (fun _ => False) 294 1764 := by
  refine q_of (cc := cL_step) (maxL := 16) (ret := (some .boolean)) (by decide +kernel) rfl (Nat.le_of_ble_eq_true rfl) ?_
  intro p e s m below meth c A ls B hr htb hmn hP hD hS hl
  have hl : lv_has ls 16 [(0, .ref b), (1, .int (nI 2)), (2, .int (nI xx)), (3, .int (nI yy)), (4, .ref (o 0)), (5, .ref (o 1)), (6, .ref (o 2)), (7, .ref (o 3)), (8, .ref (o 4)), (9, .ref (o 5)), (10, .ref (o 6)), (11, .ref (o 7))] := hl
  have hb0 : bw r0 pp (decide (0 < yy % 4)) < 64 := bw_lt hr0 hpp _
  have hb1 : bw r1 pp (decide (yy / 28 % 2 = 0)) < 64 := bw_lt hr1 hpp _
  refine lv_iload_n B.hx B.hb dL_step_0 rfl (lv_at hl 1 rfl) ?_
  refine lv_if_eq (tgt := 11) B.hx B.hb dL_step_1 (by decide) (fun c1 => False.elim (by exact absurd c1 (by decide))) (fun _ => ?_)
  refine lv_aload B.hx B.hb dL_step_4 (lv_at hl 8 rfl) ?_
  refine lv_iconst (v := (nI 1)) B.hx B.hb dL_step_6 (by decide) ?_
  refine q_iald (f := (F 4)) B hP 4 rfl (j := 1) rfl (by decide) (by decide) dL_step_7 ?_
  refine q_top (v2 := .int (nI n)) (congrArg Value.int f41) ?_
  refine lv_if_ne (tgt := 87) B.hx B.hb dL_step_8 (by decide) (fun _ => ?_) (fun c2 => False.elim (by replace c2 := (nI_eq0 (by omega)).mp c2; omega))
  refine lv_iload_n B.hx B.hb dL_step_87 rfl (lv_at hl 2 rfl) ?_
  refine lv_aload B.hx B.hb dL_step_88 (lv_at hl 8 rfl) ?_
  refine lv_iconst (v := (nI 1)) B.hx B.hb dL_step_90 (by decide) ?_
  refine q_iald (f := (F 4)) B hP 4 rfl (j := 1) rfl (by decide) (by decide) dL_step_91 ?_
  refine q_top (v2 := .int (nI n)) (congrArg Value.int f41) ?_
  refine lv_irem B.hx B.hb dL_step_92 (fun h => absurd ((nI_eq0 (by omega)).mp h) (by omega)) ?_
  refine q_top (v2 := .int (nI (xx % n))) (congrArg Value.int (pk_rem (by omega) (by omega) (by omega))) ?_
  refine q_top (v2 := .int (nI j)) (congrArg Value.int (congrArg nI ej)) ?_
  refine lv_istore (lv' := [(12, .int (nI j)), (0, .ref b), (1, .int (nI 2)), (2, .int (nI xx)), (3, .int (nI yy)), (4, .ref (o 0)), (5, .ref (o 1)), (6, .ref (o 2)), (7, .ref (o 3)), (8, .ref (o 4)), (9, .ref (o 5)), (10, .ref (o 6)), (11, .ref (o 7))]) B.hx B.hb dL_step_93 hl (by decide) rfl (fun ls hl => ?_)
  refine lv_iload_n B.hx B.hb dL_step_95 rfl (lv_at hl 2 rfl) ?_
  refine lv_iconst (v := (nI 1)) B.hx B.hb dL_step_96 (by decide) ?_
  refine lv_icmp_ne (tgt := 163) B.hx B.hb dL_step_97 (by decide) (fun _ => ?_) (fun c3 => False.elim (by exact absurd c3 (by decide)))
  refine lv_iload_n B.hx B.hb dL_step_163 rfl (lv_at hl 2 rfl) ?_
  refine lv_iconst (v := (nI 2)) B.hx B.hb dL_step_164 (by decide) ?_
  refine lv_icmp_ne (tgt := 332) B.hx B.hb dL_step_165 (by decide) (fun c4 => False.elim (by exact absurd c4 (by decide))) (fun _ => ?_)
  refine lv_iload_n B.hx B.hb dL_step_168 rfl (lv_at hl 3 rfl) ?_
  refine lv_bipush (v := (nI 8)) B.hx B.hb dL_step_169 (by decide) ?_
  refine lv_idiv B.hx B.hb dL_step_171 (by decide) ?_
  refine q_top (v2 := .int (nI (xx / 8))) (congrArg Value.int (pk_div (by omega) (by omega) (by omega))) ?_
  refine lv_bipush (v := (nI 6)) B.hx B.hb dL_step_172 (by decide) ?_
  refine lv_irem B.hx B.hb dL_step_174 (by decide) ?_
  refine q_top (v2 := .int (nI ((xx / 8) % 6))) (congrArg Value.int (pk_rem (by omega) (by omega) (by omega))) ?_
  refine q_top (v2 := .int (nI pp)) (congrArg Value.int (congrArg nI ep)) ?_
  refine lv_istore (lv' := [(13, .int (nI pp)), (12, .int (nI j)), (0, .ref b), (1, .int (nI 2)), (2, .int (nI xx)), (3, .int (nI yy)), (4, .ref (o 0)), (5, .ref (o 1)), (6, .ref (o 2)), (7, .ref (o 3)), (8, .ref (o 4)), (9, .ref (o 5)), (10, .ref (o 6)), (11, .ref (o 7))]) B.hx B.hb dL_step_175 hl (by decide) rfl (fun ls hl => ?_)
  refine lv_iload_n B.hx B.hb dL_step_177 rfl (lv_at hl 5 rfl) ?_
  refine lv_iconst (v := (nI 4)) B.hx B.hb dL_step_178 (by decide) ?_
  refine lv_idiv B.hx B.hb dL_step_179 (by decide) ?_
  refine q_top (v2 := .int (nI (yy / 4))) (congrArg Value.int (pk_div (by omega) (by omega) (by omega))) ?_
  refine lv_bipush (v := (nI 7)) B.hx B.hb dL_step_180 (by decide) ?_
  refine lv_irem B.hx B.hb dL_step_182 (by decide) ?_
  refine q_top (v2 := .int (nI ((yy / 4) % 7))) (congrArg Value.int (pk_rem (by omega) (by omega) (by omega))) ?_
  refine lv_iconst (v := (nI 1)) B.hx B.hb dL_step_183 (by decide) ?_
  refine lv_isub B.hx B.hb dL_step_184 ?_
  refine q_top (v2 := .int (nI dq)) (congrArg Value.int (by rw [ed]; exact nI_pred1 _)) ?_
  refine lv_istore (lv' := [(14, .int (nI dq)), (13, .int (nI pp)), (12, .int (nI j)), (0, .ref b), (1, .int (nI 2)), (2, .int (nI xx)), (3, .int (nI yy)), (4, .ref (o 0)), (5, .ref (o 1)), (6, .ref (o 2)), (7, .ref (o 3)), (8, .ref (o 4)), (9, .ref (o 5)), (10, .ref (o 6)), (11, .ref (o 7))]) B.hx B.hb dL_step_185 hl (by decide) rfl (fun ls hl => ?_)
  refine lv_aload B.hx B.hb dL_step_187 (lv_at hl 12 rfl) ?_
  refine lv_iconst (v := (nI 0)) B.hx B.hb dL_step_189 (by decide) ?_
  refine lv_aload B.hx B.hb dL_step_190 (lv_at hl 12 rfl) ?_
  refine lv_iconst (v := (nI 0)) B.hx B.hb dL_step_192 (by decide) ?_
  refine q_iald (f := (F 5)) B hP 5 rfl (j := 0) rfl (by decide) (by decide) dL_step_193 ?_
  refine q_top (v2 := .int (nI r0)) (congrArg Value.int f50) ?_
  refine lv_iconst (v := (nI 1)) B.hx B.hb dL_step_194 (by decide) ?_
  refine lv_iload B.hx B.hb dL_step_195 (lv_at hl 1 rfl) ?_
  refine lv_ishl B.hx B.hb dL_step_197 ?_
  refine q_top (v2 := .int (nI (2 ^ pp))) (congrArg Value.int (msk_shl (by omega))) ?_
  refine lv_iconst (v := (-1)) B.hx B.hb dL_step_198 (by decide) ?_
  refine lv_ixor B.hx B.hb dL_step_199 ?_
  refine lv_iand B.hx B.hb dL_step_200 ?_
  refine q_join (D := D) (A := A) (J := 215) (stk := [.int (nI (dub (decide (0 < yy % 4)) pp)), .int ((nI r0) &&& ((nI (2 ^ pp)) ^^^ (-1))), .int (nI 0), .ref (o 5)]) (w := (lw cI o F ++ wk)) (fun H locs hP hD hS => ?_) (fun kJ5 => ?_)
  · refine lv_ior B.hx B.hb dL_step_215 ?_
    refine q_top (v2 := .int (nI (bw r0 pp (decide (0 < yy % 4))))) (congrArg Value.int (bw_dub hr0 hpp _)) ?_
    refine q_iast (f := (F 5)) B hP hD hS 5 rfl (j := 0) rfl (by decide) (by decide) dL_step_216 (w' := (lw cI o (va_up F 5 (upd (F 5) 0 (nI (bw r0 pp (decide (0 < yy % 4)))))) ++ wk)) rfl (fun H locs hP hD hS => ?_)
    refine lv_aload B.hx B.hb dL_step_217 (lv_at hl 12 rfl) ?_
    refine lv_iconst (v := (nI 1)) B.hx B.hb dL_step_219 (by decide) ?_
    refine lv_aload B.hx B.hb dL_step_220 (lv_at hl 12 rfl) ?_
    refine lv_iconst (v := (nI 1)) B.hx B.hb dL_step_222 (by decide) ?_
    refine q_iald (f := (upd (F 5) 0 (nI (bw r0 pp (decide (0 < yy % 4)))))) B hP 5 rfl (j := 1) rfl (by decide) (by decide) dL_step_223 ?_
    refine q_top (v2 := .int (nI r1)) (congrArg Value.int ((pk_un (by omega)).trans f51)) ?_
    refine lv_iconst (v := (nI 1)) B.hx B.hb dL_step_224 (by decide) ?_
    refine lv_iload B.hx B.hb dL_step_225 (lv_at hl 1 rfl) ?_
    refine lv_ishl B.hx B.hb dL_step_227 ?_
    refine q_top (v2 := .int (nI (2 ^ pp))) (congrArg Value.int (msk_shl (by omega))) ?_
    refine lv_iconst (v := (-1)) B.hx B.hb dL_step_228 (by decide) ?_
    refine lv_ixor B.hx B.hb dL_step_229 ?_
    refine lv_iand B.hx B.hb dL_step_230 ?_
    refine q_join (D := D) (A := A) (J := 248) (stk := [.int (nI (dub (decide (yy / 28 % 2 = 0)) pp)), .int ((nI r1) &&& ((nI (2 ^ pp)) ^^^ (-1))), .int (nI 1), .ref (o 5)]) (w := (lw cI o (va_up F 5 (upd (F 5) 0 (nI (bw r0 pp (decide (0 < yy % 4)))))) ++ wk)) (fun H locs hP hD hS => ?_) (fun kJ6 => ?_)
    · refine lv_ior B.hx B.hb dL_step_248 ?_
      refine q_top (v2 := .int (nI (bw r1 pp (decide (yy / 28 % 2 = 0))))) (congrArg Value.int (bw_dub hr1 hpp _)) ?_
      refine q_iast (f := (upd (F 5) 0 (nI (bw r0 pp (decide (0 < yy % 4)))))) B hP hD hS 5 rfl (j := 1) rfl (by decide) (by decide) dL_step_249 (w' := (lw cI o (va_up F 5 (upd (upd (F 5) 0 (nI (bw r0 pp (decide (0 < yy % 4))))) 1 (nI (bw r1 pp (decide (yy / 28 % 2 = 0)))))) ++ wk)) rfl (fun H locs hP hD hS => ?_)
      refine lv_aload_n B.hx B.hb dL_step_250 rfl (lv_at hl 3 rfl) ?_
      refine lv_iload B.hx B.hb dL_step_251 (lv_at hl 1 rfl) ?_
      refine lv_aload B.hx B.hb dL_step_253 (lv_at hl 12 rfl) ?_
      refine lv_iconst (v := (nI 0)) B.hx B.hb dL_step_255 (by decide) ?_
      refine q_iald (f := (upd (upd (F 5) 0 (nI (bw r0 pp (decide (0 < yy % 4))))) 1 (nI (bw r1 pp (decide (yy / 28 % 2 = 0)))))) B hP 5 rfl (j := 0) rfl (by decide) (by decide) dL_step_256 ?_
      refine q_top (v2 := .int (nI (bw r0 pp (decide (0 < yy % 4))))) (congrArg Value.int ((pk_un (by omega)).trans pk_us)) ?_
      refine lv_iload B.hx B.hb dL_step_257 (lv_at hl 1 rfl) ?_
      refine q_callS (As := [.int (nI (bw r0 pp (decide (0 < yy % 4)))), .int (nI pp)]) (rest := [.int (nI pp), .ref b]) B hP hD hS ((cl_has l D cI cZ cP (bw r0 pp (decide (0 < yy % 4))) pp (by omega) (by omega)).fr0 (lw cI o (va_up F 5 (upd (upd (F 5) 0 (nI (bw r0 pp (decide (0 < yy % 4))))) 1 (nI (bw r1 pp (decide (yy / 28 % 2 = 0)))))) ++ wk)) (cwS 2 B.hts gL_step_L_has rfl rfl rfl (by decide +kernel) ⟨(Nat.le_of_ble_eq_true rfl), (Nat.le_of_ble_eq_true rfl)⟩) rfl hl.1 rfl (Nat.le_of_ble_eq_true rfl) dL_step_259 ⟨(Nat.le_of_ble_eq_true rfl), (Nat.le_of_ble_eq_true rfl)⟩ (fun E ce q9 H locs hx => False.elim hx) (fun v u H locs hp hP hD hS => ?_)
      obtain rfl := hp
      have hP : va_P D vwCl (lw cI o (va_up F 5 (upd (upd (F 5) 0 (nI (bw r0 pp (decide (0 < yy % 4))))) 1 (nI (bw r1 pp (decide (yy / 28 % 2 = 0)))))) ++ wk) H := hP
      have hD : va_D A (lw cI o (va_up F 5 (upd (upd (F 5) 0 (nI (bw r0 pp (decide (0 < yy % 4))))) 1 (nI (bw r1 pp (decide (yy / 28 % 2 = 0)))))) ++ wk) := hD
      refine lv_aload B.hx B.hb dL_step_262 (lv_at hl 12 rfl) ?_
      refine lv_iconst (v := (nI 1)) B.hx B.hb dL_step_264 (by decide) ?_
      refine q_iald (f := (upd (upd (F 5) 0 (nI (bw r0 pp (decide (0 < yy % 4))))) 1 (nI (bw r1 pp (decide (yy / 28 % 2 = 0)))))) B hP 5 rfl (j := 1) rfl (by decide) (by decide) dL_step_265 ?_
      refine q_top (v2 := .int (nI (bw r1 pp (decide (yy / 28 % 2 = 0))))) (congrArg Value.int pk_us) ?_
      refine lv_iload B.hx B.hb dL_step_266 (lv_at hl 1 rfl) ?_
      refine q_callS (As := [.int (nI (bw r1 pp (decide (yy / 28 % 2 = 0)))), .int (nI pp)]) (rest := [.int (bI (Nat.testBit (bw r0 pp (decide (0 < yy % 4))) pp)), .int (nI pp), .ref b]) B hP hD hS ((cl_has l D cI cZ cP (bw r1 pp (decide (yy / 28 % 2 = 0))) pp (by omega) (by omega)).fr0 (lw cI o (va_up F 5 (upd (upd (F 5) 0 (nI (bw r0 pp (decide (0 < yy % 4))))) 1 (nI (bw r1 pp (decide (yy / 28 % 2 = 0)))))) ++ wk)) (cwS 2 B.hts gL_step_L_has rfl rfl rfl (by decide +kernel) ⟨(Nat.le_of_ble_eq_true rfl), (Nat.le_of_ble_eq_true rfl)⟩) rfl hl.1 rfl (Nat.le_of_ble_eq_true rfl) dL_step_268 ⟨(Nat.le_of_ble_eq_true rfl), (Nat.le_of_ble_eq_true rfl)⟩ (fun E ce q9 H locs hx => False.elim hx) (fun v u H locs hp hP hD hS => ?_)
      obtain rfl := hp
      have hP : va_P D vwCl (lw cI o (va_up F 5 (upd (upd (F 5) 0 (nI (bw r0 pp (decide (0 < yy % 4))))) 1 (nI (bw r1 pp (decide (yy / 28 % 2 = 0)))))) ++ wk) H := hP
      have hD : va_D A (lw cI o (va_up F 5 (upd (upd (F 5) 0 (nI (bw r0 pp (decide (0 < yy % 4))))) 1 (nI (bw r1 pp (decide (yy / 28 % 2 = 0)))))) ++ wk) := hD
      refine q_callV (As := [.int (nI pp), .int (bI (Nat.testBit (bw r0 pp (decide (0 < yy % 4))) pp)), .int (bI (Nat.testBit (bw r1 pp (decide (yy / 28 % 2 = 0))) pp))]) (rest := []) B hP hD hS (csr.fl (lw cI o (va_up F 5 (upd (upd (F 5) 0 (nI (bw r0 pp (decide (0 < yy % 4))))) 1 (nI (bw r1 pp (decide (yy / 28 % 2 = 0)))))))) (cwV 3 B.hts gL_step_X3_setRoles rfl rfl rfl (by decide +kernel) ⟨(Nat.le_of_ble_eq_true rfl), (Nat.le_of_ble_eq_true rfl)⟩) (q0 + 8) 3 hq rfl rfl rfl hl.1 rfl (Nat.le_of_ble_eq_true rfl) dL_step_271 ⟨(Nat.le_of_ble_eq_true rfl), (Nat.le_of_ble_eq_true rfl)⟩ (fun E ce q9 H locs hx => False.elim hx) (fun v u H locs hp hP hD hS => ?_)
      obtain rfl := hp
      have hP : va_P D vwCl (lw cI o (va_up F 5 (upd (upd (F 5) 0 (nI (bw r0 pp (decide (0 < yy % 4))))) 1 (nI (bw r1 pp (decide (yy / 28 % 2 = 0)))))) ++ wk2) H := hP
      have hD : va_D A (lw cI o (va_up F 5 (upd (upd (F 5) 0 (nI (bw r0 pp (decide (0 < yy % 4))))) 1 (nI (bw r1 pp (decide (yy / 28 % 2 = 0)))))) ++ wk2) := hD
      refine lv_aload B.hx B.hb dL_step_274 (lv_at hl 13 rfl) ?_
      refine lv_iload B.hx B.hb dL_step_276 (lv_at hl 1 rfl) ?_
      refine q_iald (f := (F 6)) B hP 6 rfl (j := pp) rfl (by omega) (by decide) dL_step_278 ?_
      refine q_top (v2 := .int (nI zp)) (congrArg Value.int f6) ?_
      refine lv_iconst (v := (nI 1)) B.hx B.hb dL_step_279 (by decide) ?_
      refine lv_isub B.hx B.hb dL_step_280 ?_
      refine lv_istore (lv' := [(15, .int ((nI zp) - (nI 1))), (14, .int (nI dq)), (13, .int (nI pp)), (12, .int (nI j)), (0, .ref b), (1, .int (nI 2)), (2, .int (nI xx)), (3, .int (nI yy)), (4, .ref (o 0)), (5, .ref (o 1)), (6, .ref (o 2)), (7, .ref (o 3)), (8, .ref (o 4)), (9, .ref (o 5)), (10, .ref (o 6)), (11, .ref (o 7))]) B.hx B.hb dL_step_281 hl (by decide) rfl (fun ls hl => ?_)
      refine lv_aload B.hx B.hb dL_step_283 (lv_at hl 14 rfl) ?_
      refine lv_iload B.hx B.hb dL_step_285 (lv_at hl 2 rfl) ?_
      refine lv_iload B.hx B.hb dL_step_287 (lv_at hl 1 rfl) ?_
      refine lv_iload B.hx B.hb dL_step_289 (lv_at hl 2 rfl) ?_
      refine lv_icmp_ne (tgt := 301) B.hx B.hb dL_step_291 (by decide) (fun _ => ?_) (fun c7 => False.elim (by replace c7 := (nI_eq (by omega) (by omega)).mp c7; omega))
      refine lv_iload B.hx B.hb dL_step_301 (lv_at hl 1 rfl) ?_
      refine lv_iconst (v := (nI 1)) B.hx B.hb dL_step_303 (by decide) ?_
      refine lv_iadd B.hx B.hb dL_step_304 ?_
      refine q_top (v2 := .int (nI (dq + 1))) (congrArg Value.int (nI_add _ _)) ?_
      refine q_iast (f := (F 6)) B hP hD hS 6 rfl (j := pp) rfl (by omega) (by decide) dL_step_305 (w' := (lw cI o (va_up (va_up F 5 (upd (upd (F 5) 0 (nI (bw r0 pp (decide (0 < yy % 4))))) 1 (nI (bw r1 pp (decide (yy / 28 % 2 = 0)))))) 6 (upd (F 6) pp (nI (dq + 1)))) ++ wk2)) rfl (fun H locs hP hD hS => ?_)
      refine lv_iload B.hx B.hb dL_step_306 (lv_at hl 1 rfl) ?_
      refine lv_iload B.hx B.hb dL_step_308 (lv_at hl 2 rfl) ?_
      refine lv_icmp_eq (tgt := 326) B.hx B.hb dL_step_310 (by decide) (fun c8 => False.elim (by replace c8 := (nI_eq (by omega) (by omega)).mp c8; omega)) (fun _ => ?_)
      refine lv_aload_n B.hx B.hb dL_step_313 rfl (lv_at hl 4 rfl) ?_
      refine lv_iload B.hx B.hb dL_step_314 (lv_at hl 2 rfl) ?_
      refine lv_iload B.hx B.hb dL_step_316 (lv_at hl 1 rfl) ?_
      refine q_callV (As := [.int (nI pp), .int (nI dq)]) (rest := []) B hP hD hS (csd.fl (lw cI o (va_up (va_up F 5 (upd (upd (F 5) 0 (nI (bw r0 pp (decide (0 < yy % 4))))) 1 (nI (bw r1 pp (decide (yy / 28 % 2 = 0)))))) 6 (upd (F 6) pp (nI (dq + 1)))))) (cwV 2 B.hts gL_step_X3_setDeputy rfl rfl rfl (by decide +kernel) ⟨(Nat.le_of_ble_eq_true rfl), (Nat.le_of_ble_eq_true rfl)⟩) (q2 + 8) 3 hq2 rfl rfl rfl hl.1 rfl (Nat.le_of_ble_eq_true rfl) dL_step_318 ⟨(Nat.le_of_ble_eq_true rfl), (Nat.le_of_ble_eq_true rfl)⟩ (fun E ce q9 H locs hx => False.elim hx) (fun v u H locs hp hP hD hS => ?_)
      obtain rfl := hp
      have hP : va_P D vwCl (lw cI o (va_up (va_up F 5 (upd (upd (F 5) 0 (nI (bw r0 pp (decide (0 < yy % 4))))) 1 (nI (bw r1 pp (decide (yy / 28 % 2 = 0)))))) 6 (upd (F 6) pp (nI (dq + 1)))) ++ wk3) H := hP
      have hD : va_D A (lw cI o (va_up (va_up F 5 (upd (upd (F 5) 0 (nI (bw r0 pp (decide (0 < yy % 4))))) 1 (nI (bw r1 pp (decide (yy / 28 % 2 = 0)))))) 6 (upd (F 6) pp (nI (dq + 1)))) ++ wk3) := hD
      refine lv_iload B.hx B.hb dL_step_321 (lv_at hl 0 rfl) ?_
      refine lv_icmp_ne (tgt := 330) B.hx B.hb dL_step_323 (by decide) (fun c9 => False.elim (by exact c9 rfl)) (fun _ => ?_)
      refine lv_iconst (v := (nI 1)) B.hx B.hb dL_step_326 (by decide) ?_
      refine lv_goto (tgt := 331) B.hx B.hb dL_step_327 (by decide) ?_
      exact q_zret B hr hP hD hS (by decide) (u := ()) rfl rfl (Nat.le_of_ble_eq_true rfl) (Nat.le_of_ble_eq_true rfl) dL_step_331
    · refine lv_iload_n B.hx B.hb dL_step_231 rfl (lv_at hl 6 rfl) ?_
      refine lv_bipush (v := (nI 28)) B.hx B.hb dL_step_232 (by decide) ?_
      refine lv_idiv B.hx B.hb dL_step_234 (by decide) ?_
      refine q_top (v2 := .int (nI (yy / 28))) (congrArg Value.int (pk_div (by omega) (by omega) (by omega))) ?_
      refine lv_iconst (v := (nI 2)) B.hx B.hb dL_step_235 (by decide) ?_
      refine lv_irem B.hx B.hb dL_step_236 (by decide) ?_
      refine q_top (v2 := .int (nI ((yy / 28) % 2))) (congrArg Value.int (pk_rem (by omega) (by omega) (by omega))) ?_
      refine lv_if_ne (tgt := 247) B.hx B.hb dL_step_237 (by decide) (fun c10 => ?_) (fun c10 => ?_)
      · replace c10 := mt (nI_eq0 (by omega)).mpr c10
        refine lv_iconst (v := (nI 0)) B.hx B.hb dL_step_247 (by decide) ?_
        refine q_top (v2 := .int (nI (dub (decide (yy / 28 % 2 = 0)) pp))) (congrArg Value.int (congrArg nI (by simp [dub, c10]))) ?_
        exact kJ6 _ _ hP hD hS
      · replace c10 := (nI_eq0 (by omega)).mp c10
        refine lv_iconst (v := (nI 1)) B.hx B.hb dL_step_240 (by decide) ?_
        refine lv_iload B.hx B.hb dL_step_241 (lv_at hl 1 rfl) ?_
        refine lv_ishl B.hx B.hb dL_step_243 ?_
        refine q_top (v2 := .int (nI (2 ^ pp))) (congrArg Value.int (msk_shl (by omega))) ?_
        refine lv_goto (tgt := 248) B.hx B.hb dL_step_244 (by decide) ?_
        refine q_top (v2 := .int (nI (dub (decide (yy / 28 % 2 = 0)) pp))) (congrArg Value.int (congrArg nI (by simp [dub, c10]))) ?_
        exact kJ6 _ _ hP hD hS
  · refine lv_iload_n B.hx B.hb dL_step_201 rfl (lv_at hl 6 rfl) ?_
    refine lv_iconst (v := (nI 4)) B.hx B.hb dL_step_202 (by decide) ?_
    refine lv_irem B.hx B.hb dL_step_203 (by decide) ?_
    refine q_top (v2 := .int (nI (yy % 4))) (congrArg Value.int (pk_rem (by omega) (by omega) (by omega))) ?_
    refine lv_if_le (tgt := 214) B.hx B.hb dL_step_204 (by decide) (fun c11 => ?_) (fun c11 => ?_)
    · replace c11 := (nI_le0 (by omega)).mp c11
      refine lv_iconst (v := (nI 0)) B.hx B.hb dL_step_214 (by decide) ?_
      refine q_top (v2 := .int (nI (dub (decide (0 < yy % 4)) pp))) (congrArg Value.int (congrArg nI (by simp [dub, c11]))) ?_
      exact kJ5 _ _ hP hD hS
    · replace c11 := mt (nI_le0 (by omega)).mpr c11
      refine lv_iconst (v := (nI 1)) B.hx B.hb dL_step_207 (by decide) ?_
      refine lv_iload B.hx B.hb dL_step_208 (lv_at hl 1 rfl) ?_
      refine lv_ishl B.hx B.hb dL_step_210 ?_
      refine q_top (v2 := .int (nI (2 ^ pp))) (congrArg Value.int (msk_shl (by omega))) ?_
      refine lv_goto (tgt := 215) B.hx B.hb dL_step_211 (by decide) ?_
      refine q_top (v2 := .int (nI (dub (decide (0 < yy % 4)) pp))) (congrArg Value.int (congrArg nI (by simp [dub, c11]))) ?_
      exact kJ5 _ _ hP hD hS

set_option maxHeartbeats 4000000 in
set_option maxRecDepth 100000 in
theorem ls2e (l : Launch) (D : va_G) (cI cZ cP : ClassId) (o : Nat → Nat) (F : Nat → Nat → Int32) (wk wk2 : va_W) {q0 b : Nat} {fs : List Value} (hq : wk[q0]? = some (b, .inr (3, fs))) {q2 : Nat} {fs2 : List Value} (hq2 : wk2[q2]? = some (b, .inr (3, fs2))) (xx yy : Nat) (hx : xx < 2 ^ 30) (hy : yy < 2 ^ 30) (n : Nat) (hn1 : 1 ≤ n) (hn8 : n ≤ 8) (f41 : F 4 1 = nI n) (j : Nat) (ej : xx % n = j) (hj : j < 8) (pp : Nat) (ep : xx / 8 % 6 = pp) (hpp : pp < 6) (r0 r1 zp : Nat) (hr0 : r0 < 64) (hr1 : r1 < 64) (f50 : F 5 0 = nI r0) (f51 : F 5 1 = nI r1) (f6 : F 6 pp = nI zp) (ed : yy / 4 % 7 = pp + 1) {q3 : Nat} {fs3 : List Value} (wk3 : va_W) (hq3 : wk3[q3]? = some (b, .inr (3, fs3))) (csr : q_C l yX3_setRoles wsX3_setRoles ({ frames := 8, cells := 1, slots := 6, locals := 124 }) D cI cZ cP [.ref b, .int (nI pp), .int (bI ((bw r0 pp (decide (0 < yy % 4))).testBit pp)), .int (bI ((bw r1 pp (decide (yy / 28 % 2 = 0))).testBit pp))] wk (S := Unit) (fun v _ => v = none) (fun _ => wk2) (fun _ => False) 1 6) : q_C l yL_step wsL_step ({ frames := 12, cells := 294, slots := 1764, locals := 231 }) D cI cZ cP [.ref b, .int (nI 2), .int (nI xx), .int (nI yy), .ref (o 0), .ref (o 1), .ref (o 2), .ref (o 3), .ref (o 4), .ref (o 5), .ref (o 6), .ref (o 7)] (lw cI o F ++ wk) (S := Unit) (fun v _ => v = some (.int (nI 1))) (fun _ => (lw cI o (va_up (va_up F 5 (upd (upd (F 5) 0 (nI (bw r0 pp (decide (0 < yy % 4))))) 1 (nI (bw r1 pp (decide (yy / 28 % 2 = 0)))))) 6 (upd (F 6) pp (((nI zp) - (nI 1)) + (nI 1)))) ++ wk2)) (fun _ => False) 294 1764 := by
  refine q_of (cc := cL_step) (maxL := 16) (ret := (some .boolean)) (by decide +kernel) rfl (Nat.le_of_ble_eq_true rfl) ?_
  intro p e s m below meth c A ls B hr htb hmn hP hD hS hl
  have hl : lv_has ls 16 [(0, .ref b), (1, .int (nI 2)), (2, .int (nI xx)), (3, .int (nI yy)), (4, .ref (o 0)), (5, .ref (o 1)), (6, .ref (o 2)), (7, .ref (o 3)), (8, .ref (o 4)), (9, .ref (o 5)), (10, .ref (o 6)), (11, .ref (o 7))] := hl
  have hb0 : bw r0 pp (decide (0 < yy % 4)) < 64 := bw_lt hr0 hpp _
  have hb1 : bw r1 pp (decide (yy / 28 % 2 = 0)) < 64 := bw_lt hr1 hpp _
  refine lv_iload_n B.hx B.hb dL_step_0 rfl (lv_at hl 1 rfl) ?_
  refine lv_if_eq (tgt := 11) B.hx B.hb dL_step_1 (by decide) (fun c1 => False.elim (by exact absurd c1 (by decide))) (fun _ => ?_)
  refine lv_aload B.hx B.hb dL_step_4 (lv_at hl 8 rfl) ?_
  refine lv_iconst (v := (nI 1)) B.hx B.hb dL_step_6 (by decide) ?_
  refine q_iald (f := (F 4)) B hP 4 rfl (j := 1) rfl (by decide) (by decide) dL_step_7 ?_
  refine q_top (v2 := .int (nI n)) (congrArg Value.int f41) ?_
  refine lv_if_ne (tgt := 87) B.hx B.hb dL_step_8 (by decide) (fun _ => ?_) (fun c2 => False.elim (by replace c2 := (nI_eq0 (by omega)).mp c2; omega))
  refine lv_iload_n B.hx B.hb dL_step_87 rfl (lv_at hl 2 rfl) ?_
  refine lv_aload B.hx B.hb dL_step_88 (lv_at hl 8 rfl) ?_
  refine lv_iconst (v := (nI 1)) B.hx B.hb dL_step_90 (by decide) ?_
  refine q_iald (f := (F 4)) B hP 4 rfl (j := 1) rfl (by decide) (by decide) dL_step_91 ?_
  refine q_top (v2 := .int (nI n)) (congrArg Value.int f41) ?_
  refine lv_irem B.hx B.hb dL_step_92 (fun h => absurd ((nI_eq0 (by omega)).mp h) (by omega)) ?_
  refine q_top (v2 := .int (nI (xx % n))) (congrArg Value.int (pk_rem (by omega) (by omega) (by omega))) ?_
  refine q_top (v2 := .int (nI j)) (congrArg Value.int (congrArg nI ej)) ?_
  refine lv_istore (lv' := [(12, .int (nI j)), (0, .ref b), (1, .int (nI 2)), (2, .int (nI xx)), (3, .int (nI yy)), (4, .ref (o 0)), (5, .ref (o 1)), (6, .ref (o 2)), (7, .ref (o 3)), (8, .ref (o 4)), (9, .ref (o 5)), (10, .ref (o 6)), (11, .ref (o 7))]) B.hx B.hb dL_step_93 hl (by decide) rfl (fun ls hl => ?_)
  refine lv_iload_n B.hx B.hb dL_step_95 rfl (lv_at hl 2 rfl) ?_
  refine lv_iconst (v := (nI 1)) B.hx B.hb dL_step_96 (by decide) ?_
  refine lv_icmp_ne (tgt := 163) B.hx B.hb dL_step_97 (by decide) (fun _ => ?_) (fun c3 => False.elim (by exact absurd c3 (by decide)))
  refine lv_iload_n B.hx B.hb dL_step_163 rfl (lv_at hl 2 rfl) ?_
  refine lv_iconst (v := (nI 2)) B.hx B.hb dL_step_164 (by decide) ?_
  refine lv_icmp_ne (tgt := 332) B.hx B.hb dL_step_165 (by decide) (fun c4 => False.elim (by exact absurd c4 (by decide))) (fun _ => ?_)
  refine lv_iload_n B.hx B.hb dL_step_168 rfl (lv_at hl 3 rfl) ?_
  refine lv_bipush (v := (nI 8)) B.hx B.hb dL_step_169 (by decide) ?_
  refine lv_idiv B.hx B.hb dL_step_171 (by decide) ?_
  refine q_top (v2 := .int (nI (xx / 8))) (congrArg Value.int (pk_div (by omega) (by omega) (by omega))) ?_
  refine lv_bipush (v := (nI 6)) B.hx B.hb dL_step_172 (by decide) ?_
  refine lv_irem B.hx B.hb dL_step_174 (by decide) ?_
  refine q_top (v2 := .int (nI ((xx / 8) % 6))) (congrArg Value.int (pk_rem (by omega) (by omega) (by omega))) ?_
  refine q_top (v2 := .int (nI pp)) (congrArg Value.int (congrArg nI ep)) ?_
  refine lv_istore (lv' := [(13, .int (nI pp)), (12, .int (nI j)), (0, .ref b), (1, .int (nI 2)), (2, .int (nI xx)), (3, .int (nI yy)), (4, .ref (o 0)), (5, .ref (o 1)), (6, .ref (o 2)), (7, .ref (o 3)), (8, .ref (o 4)), (9, .ref (o 5)), (10, .ref (o 6)), (11, .ref (o 7))]) B.hx B.hb dL_step_175 hl (by decide) rfl (fun ls hl => ?_)
  refine lv_iload_n B.hx B.hb dL_step_177 rfl (lv_at hl 5 rfl) ?_
  refine lv_iconst (v := (nI 4)) B.hx B.hb dL_step_178 (by decide) ?_
  refine lv_idiv B.hx B.hb dL_step_179 (by decide) ?_
  refine q_top (v2 := .int (nI (yy / 4))) (congrArg Value.int (pk_div (by omega) (by omega) (by omega))) ?_
  refine lv_bipush (v := (nI 7)) B.hx B.hb dL_step_180 (by decide) ?_
  refine lv_irem B.hx B.hb dL_step_182 (by decide) ?_
  refine q_top (v2 := .int (nI ((yy / 4) % 7))) (congrArg Value.int (pk_rem (by omega) (by omega) (by omega))) ?_
  refine lv_iconst (v := (nI 1)) B.hx B.hb dL_step_183 (by decide) ?_
  refine lv_isub B.hx B.hb dL_step_184 ?_
  refine q_top (v2 := .int (nI pp)) (congrArg Value.int (by rw [ed]; exact nI_pred1 _)) ?_
  refine lv_istore (lv' := [(14, .int (nI pp)), (13, .int (nI pp)), (12, .int (nI j)), (0, .ref b), (1, .int (nI 2)), (2, .int (nI xx)), (3, .int (nI yy)), (4, .ref (o 0)), (5, .ref (o 1)), (6, .ref (o 2)), (7, .ref (o 3)), (8, .ref (o 4)), (9, .ref (o 5)), (10, .ref (o 6)), (11, .ref (o 7))]) B.hx B.hb dL_step_185 hl (by decide) rfl (fun ls hl => ?_)
  refine lv_aload B.hx B.hb dL_step_187 (lv_at hl 12 rfl) ?_
  refine lv_iconst (v := (nI 0)) B.hx B.hb dL_step_189 (by decide) ?_
  refine lv_aload B.hx B.hb dL_step_190 (lv_at hl 12 rfl) ?_
  refine lv_iconst (v := (nI 0)) B.hx B.hb dL_step_192 (by decide) ?_
  refine q_iald (f := (F 5)) B hP 5 rfl (j := 0) rfl (by decide) (by decide) dL_step_193 ?_
  refine q_top (v2 := .int (nI r0)) (congrArg Value.int f50) ?_
  refine lv_iconst (v := (nI 1)) B.hx B.hb dL_step_194 (by decide) ?_
  refine lv_iload B.hx B.hb dL_step_195 (lv_at hl 1 rfl) ?_
  refine lv_ishl B.hx B.hb dL_step_197 ?_
  refine q_top (v2 := .int (nI (2 ^ pp))) (congrArg Value.int (msk_shl (by omega))) ?_
  refine lv_iconst (v := (-1)) B.hx B.hb dL_step_198 (by decide) ?_
  refine lv_ixor B.hx B.hb dL_step_199 ?_
  refine lv_iand B.hx B.hb dL_step_200 ?_
  refine q_join (D := D) (A := A) (J := 215) (stk := [.int (nI (dub (decide (0 < yy % 4)) pp)), .int ((nI r0) &&& ((nI (2 ^ pp)) ^^^ (-1))), .int (nI 0), .ref (o 5)]) (w := (lw cI o F ++ wk)) (fun H locs hP hD hS => ?_) (fun kJ5 => ?_)
  · refine lv_ior B.hx B.hb dL_step_215 ?_
    refine q_top (v2 := .int (nI (bw r0 pp (decide (0 < yy % 4))))) (congrArg Value.int (bw_dub hr0 hpp _)) ?_
    refine q_iast (f := (F 5)) B hP hD hS 5 rfl (j := 0) rfl (by decide) (by decide) dL_step_216 (w' := (lw cI o (va_up F 5 (upd (F 5) 0 (nI (bw r0 pp (decide (0 < yy % 4)))))) ++ wk)) rfl (fun H locs hP hD hS => ?_)
    refine lv_aload B.hx B.hb dL_step_217 (lv_at hl 12 rfl) ?_
    refine lv_iconst (v := (nI 1)) B.hx B.hb dL_step_219 (by decide) ?_
    refine lv_aload B.hx B.hb dL_step_220 (lv_at hl 12 rfl) ?_
    refine lv_iconst (v := (nI 1)) B.hx B.hb dL_step_222 (by decide) ?_
    refine q_iald (f := (upd (F 5) 0 (nI (bw r0 pp (decide (0 < yy % 4)))))) B hP 5 rfl (j := 1) rfl (by decide) (by decide) dL_step_223 ?_
    refine q_top (v2 := .int (nI r1)) (congrArg Value.int ((pk_un (by omega)).trans f51)) ?_
    refine lv_iconst (v := (nI 1)) B.hx B.hb dL_step_224 (by decide) ?_
    refine lv_iload B.hx B.hb dL_step_225 (lv_at hl 1 rfl) ?_
    refine lv_ishl B.hx B.hb dL_step_227 ?_
    refine q_top (v2 := .int (nI (2 ^ pp))) (congrArg Value.int (msk_shl (by omega))) ?_
    refine lv_iconst (v := (-1)) B.hx B.hb dL_step_228 (by decide) ?_
    refine lv_ixor B.hx B.hb dL_step_229 ?_
    refine lv_iand B.hx B.hb dL_step_230 ?_
    refine q_join (D := D) (A := A) (J := 248) (stk := [.int (nI (dub (decide (yy / 28 % 2 = 0)) pp)), .int ((nI r1) &&& ((nI (2 ^ pp)) ^^^ (-1))), .int (nI 1), .ref (o 5)]) (w := (lw cI o (va_up F 5 (upd (F 5) 0 (nI (bw r0 pp (decide (0 < yy % 4)))))) ++ wk)) (fun H locs hP hD hS => ?_) (fun kJ6 => ?_)
    · refine lv_ior B.hx B.hb dL_step_248 ?_
      refine q_top (v2 := .int (nI (bw r1 pp (decide (yy / 28 % 2 = 0))))) (congrArg Value.int (bw_dub hr1 hpp _)) ?_
      refine q_iast (f := (upd (F 5) 0 (nI (bw r0 pp (decide (0 < yy % 4)))))) B hP hD hS 5 rfl (j := 1) rfl (by decide) (by decide) dL_step_249 (w' := (lw cI o (va_up F 5 (upd (upd (F 5) 0 (nI (bw r0 pp (decide (0 < yy % 4))))) 1 (nI (bw r1 pp (decide (yy / 28 % 2 = 0)))))) ++ wk)) rfl (fun H locs hP hD hS => ?_)
      refine lv_aload_n B.hx B.hb dL_step_250 rfl (lv_at hl 3 rfl) ?_
      refine lv_iload B.hx B.hb dL_step_251 (lv_at hl 1 rfl) ?_
      refine lv_aload B.hx B.hb dL_step_253 (lv_at hl 12 rfl) ?_
      refine lv_iconst (v := (nI 0)) B.hx B.hb dL_step_255 (by decide) ?_
      refine q_iald (f := (upd (upd (F 5) 0 (nI (bw r0 pp (decide (0 < yy % 4))))) 1 (nI (bw r1 pp (decide (yy / 28 % 2 = 0)))))) B hP 5 rfl (j := 0) rfl (by decide) (by decide) dL_step_256 ?_
      refine q_top (v2 := .int (nI (bw r0 pp (decide (0 < yy % 4))))) (congrArg Value.int ((pk_un (by omega)).trans pk_us)) ?_
      refine lv_iload B.hx B.hb dL_step_257 (lv_at hl 1 rfl) ?_
      refine q_callS (As := [.int (nI (bw r0 pp (decide (0 < yy % 4)))), .int (nI pp)]) (rest := [.int (nI pp), .ref b]) B hP hD hS ((cl_has l D cI cZ cP (bw r0 pp (decide (0 < yy % 4))) pp (by omega) (by omega)).fr0 (lw cI o (va_up F 5 (upd (upd (F 5) 0 (nI (bw r0 pp (decide (0 < yy % 4))))) 1 (nI (bw r1 pp (decide (yy / 28 % 2 = 0)))))) ++ wk)) (cwS 2 B.hts gL_step_L_has rfl rfl rfl (by decide +kernel) ⟨(Nat.le_of_ble_eq_true rfl), (Nat.le_of_ble_eq_true rfl)⟩) rfl hl.1 rfl (Nat.le_of_ble_eq_true rfl) dL_step_259 ⟨(Nat.le_of_ble_eq_true rfl), (Nat.le_of_ble_eq_true rfl)⟩ (fun E ce q9 H locs hx => False.elim hx) (fun v u H locs hp hP hD hS => ?_)
      obtain rfl := hp
      have hP : va_P D vwCl (lw cI o (va_up F 5 (upd (upd (F 5) 0 (nI (bw r0 pp (decide (0 < yy % 4))))) 1 (nI (bw r1 pp (decide (yy / 28 % 2 = 0)))))) ++ wk) H := hP
      have hD : va_D A (lw cI o (va_up F 5 (upd (upd (F 5) 0 (nI (bw r0 pp (decide (0 < yy % 4))))) 1 (nI (bw r1 pp (decide (yy / 28 % 2 = 0)))))) ++ wk) := hD
      refine lv_aload B.hx B.hb dL_step_262 (lv_at hl 12 rfl) ?_
      refine lv_iconst (v := (nI 1)) B.hx B.hb dL_step_264 (by decide) ?_
      refine q_iald (f := (upd (upd (F 5) 0 (nI (bw r0 pp (decide (0 < yy % 4))))) 1 (nI (bw r1 pp (decide (yy / 28 % 2 = 0)))))) B hP 5 rfl (j := 1) rfl (by decide) (by decide) dL_step_265 ?_
      refine q_top (v2 := .int (nI (bw r1 pp (decide (yy / 28 % 2 = 0))))) (congrArg Value.int pk_us) ?_
      refine lv_iload B.hx B.hb dL_step_266 (lv_at hl 1 rfl) ?_
      refine q_callS (As := [.int (nI (bw r1 pp (decide (yy / 28 % 2 = 0)))), .int (nI pp)]) (rest := [.int (bI (Nat.testBit (bw r0 pp (decide (0 < yy % 4))) pp)), .int (nI pp), .ref b]) B hP hD hS ((cl_has l D cI cZ cP (bw r1 pp (decide (yy / 28 % 2 = 0))) pp (by omega) (by omega)).fr0 (lw cI o (va_up F 5 (upd (upd (F 5) 0 (nI (bw r0 pp (decide (0 < yy % 4))))) 1 (nI (bw r1 pp (decide (yy / 28 % 2 = 0)))))) ++ wk)) (cwS 2 B.hts gL_step_L_has rfl rfl rfl (by decide +kernel) ⟨(Nat.le_of_ble_eq_true rfl), (Nat.le_of_ble_eq_true rfl)⟩) rfl hl.1 rfl (Nat.le_of_ble_eq_true rfl) dL_step_268 ⟨(Nat.le_of_ble_eq_true rfl), (Nat.le_of_ble_eq_true rfl)⟩ (fun E ce q9 H locs hx => False.elim hx) (fun v u H locs hp hP hD hS => ?_)
      obtain rfl := hp
      have hP : va_P D vwCl (lw cI o (va_up F 5 (upd (upd (F 5) 0 (nI (bw r0 pp (decide (0 < yy % 4))))) 1 (nI (bw r1 pp (decide (yy / 28 % 2 = 0)))))) ++ wk) H := hP
      have hD : va_D A (lw cI o (va_up F 5 (upd (upd (F 5) 0 (nI (bw r0 pp (decide (0 < yy % 4))))) 1 (nI (bw r1 pp (decide (yy / 28 % 2 = 0)))))) ++ wk) := hD
      refine q_callV (As := [.int (nI pp), .int (bI (Nat.testBit (bw r0 pp (decide (0 < yy % 4))) pp)), .int (bI (Nat.testBit (bw r1 pp (decide (yy / 28 % 2 = 0))) pp))]) (rest := []) B hP hD hS (csr.fl (lw cI o (va_up F 5 (upd (upd (F 5) 0 (nI (bw r0 pp (decide (0 < yy % 4))))) 1 (nI (bw r1 pp (decide (yy / 28 % 2 = 0)))))))) (cwV 3 B.hts gL_step_X3_setRoles rfl rfl rfl (by decide +kernel) ⟨(Nat.le_of_ble_eq_true rfl), (Nat.le_of_ble_eq_true rfl)⟩) (q0 + 8) 3 hq rfl rfl rfl hl.1 rfl (Nat.le_of_ble_eq_true rfl) dL_step_271 ⟨(Nat.le_of_ble_eq_true rfl), (Nat.le_of_ble_eq_true rfl)⟩ (fun E ce q9 H locs hx => False.elim hx) (fun v u H locs hp hP hD hS => ?_)
      obtain rfl := hp
      have hP : va_P D vwCl (lw cI o (va_up F 5 (upd (upd (F 5) 0 (nI (bw r0 pp (decide (0 < yy % 4))))) 1 (nI (bw r1 pp (decide (yy / 28 % 2 = 0)))))) ++ wk2) H := hP
      have hD : va_D A (lw cI o (va_up F 5 (upd (upd (F 5) 0 (nI (bw r0 pp (decide (0 < yy % 4))))) 1 (nI (bw r1 pp (decide (yy / 28 % 2 = 0)))))) ++ wk2) := hD
      refine lv_aload B.hx B.hb dL_step_274 (lv_at hl 13 rfl) ?_
      refine lv_iload B.hx B.hb dL_step_276 (lv_at hl 1 rfl) ?_
      refine q_iald (f := (F 6)) B hP 6 rfl (j := pp) rfl (by omega) (by decide) dL_step_278 ?_
      refine q_top (v2 := .int (nI zp)) (congrArg Value.int f6) ?_
      refine lv_iconst (v := (nI 1)) B.hx B.hb dL_step_279 (by decide) ?_
      refine lv_isub B.hx B.hb dL_step_280 ?_
      refine lv_istore (lv' := [(15, .int ((nI zp) - (nI 1))), (14, .int (nI pp)), (13, .int (nI pp)), (12, .int (nI j)), (0, .ref b), (1, .int (nI 2)), (2, .int (nI xx)), (3, .int (nI yy)), (4, .ref (o 0)), (5, .ref (o 1)), (6, .ref (o 2)), (7, .ref (o 3)), (8, .ref (o 4)), (9, .ref (o 5)), (10, .ref (o 6)), (11, .ref (o 7))]) B.hx B.hb dL_step_281 hl (by decide) rfl (fun ls hl => ?_)
      refine lv_aload B.hx B.hb dL_step_283 (lv_at hl 14 rfl) ?_
      refine lv_iload B.hx B.hb dL_step_285 (lv_at hl 2 rfl) ?_
      refine lv_iload B.hx B.hb dL_step_287 (lv_at hl 1 rfl) ?_
      refine lv_iload B.hx B.hb dL_step_289 (lv_at hl 2 rfl) ?_
      refine lv_icmp_ne (tgt := 301) B.hx B.hb dL_step_291 (by decide) (fun c7 => False.elim (by replace c7 := mt (nI_eq (by omega) (by omega)).mpr c7; omega)) (fun _ => ?_)
      refine lv_iload B.hx B.hb dL_step_294 (lv_at hl 0 rfl) ?_
      refine lv_iconst (v := (nI 1)) B.hx B.hb dL_step_296 (by decide) ?_
      refine lv_iadd B.hx B.hb dL_step_297 ?_
      refine lv_goto (tgt := 305) B.hx B.hb dL_step_298 (by decide) ?_
      refine q_iast (f := (F 6)) B hP hD hS 6 rfl (j := pp) rfl (by omega) (by decide) dL_step_305 (w' := (lw cI o (va_up (va_up F 5 (upd (upd (F 5) 0 (nI (bw r0 pp (decide (0 < yy % 4))))) 1 (nI (bw r1 pp (decide (yy / 28 % 2 = 0)))))) 6 (upd (F 6) pp (((nI zp) - (nI 1)) + (nI 1)))) ++ wk2)) rfl (fun H locs hP hD hS => ?_)
      refine lv_iload B.hx B.hb dL_step_306 (lv_at hl 1 rfl) ?_
      refine lv_iload B.hx B.hb dL_step_308 (lv_at hl 2 rfl) ?_
      refine lv_icmp_eq (tgt := 326) B.hx B.hb dL_step_310 (by decide) (fun _ => ?_) (fun c8 => False.elim (by replace c8 := mt (nI_eq (by omega) (by omega)).mpr c8; omega))
      refine lv_iconst (v := (nI 1)) B.hx B.hb dL_step_326 (by decide) ?_
      refine lv_goto (tgt := 331) B.hx B.hb dL_step_327 (by decide) ?_
      exact q_zret B hr hP hD hS (by decide) (u := ()) rfl rfl (Nat.le_of_ble_eq_true rfl) (Nat.le_of_ble_eq_true rfl) dL_step_331
    · refine lv_iload_n B.hx B.hb dL_step_231 rfl (lv_at hl 6 rfl) ?_
      refine lv_bipush (v := (nI 28)) B.hx B.hb dL_step_232 (by decide) ?_
      refine lv_idiv B.hx B.hb dL_step_234 (by decide) ?_
      refine q_top (v2 := .int (nI (yy / 28))) (congrArg Value.int (pk_div (by omega) (by omega) (by omega))) ?_
      refine lv_iconst (v := (nI 2)) B.hx B.hb dL_step_235 (by decide) ?_
      refine lv_irem B.hx B.hb dL_step_236 (by decide) ?_
      refine q_top (v2 := .int (nI ((yy / 28) % 2))) (congrArg Value.int (pk_rem (by omega) (by omega) (by omega))) ?_
      refine lv_if_ne (tgt := 247) B.hx B.hb dL_step_237 (by decide) (fun c9 => ?_) (fun c9 => ?_)
      · replace c9 := mt (nI_eq0 (by omega)).mpr c9
        refine lv_iconst (v := (nI 0)) B.hx B.hb dL_step_247 (by decide) ?_
        refine q_top (v2 := .int (nI (dub (decide (yy / 28 % 2 = 0)) pp))) (congrArg Value.int (congrArg nI (by simp [dub, c9]))) ?_
        exact kJ6 _ _ hP hD hS
      · replace c9 := (nI_eq0 (by omega)).mp c9
        refine lv_iconst (v := (nI 1)) B.hx B.hb dL_step_240 (by decide) ?_
        refine lv_iload B.hx B.hb dL_step_241 (lv_at hl 1 rfl) ?_
        refine lv_ishl B.hx B.hb dL_step_243 ?_
        refine q_top (v2 := .int (nI (2 ^ pp))) (congrArg Value.int (msk_shl (by omega))) ?_
        refine lv_goto (tgt := 248) B.hx B.hb dL_step_244 (by decide) ?_
        refine q_top (v2 := .int (nI (dub (decide (yy / 28 % 2 = 0)) pp))) (congrArg Value.int (congrArg nI (by simp [dub, c9]))) ?_
        exact kJ6 _ _ hP hD hS
  · refine lv_iload_n B.hx B.hb dL_step_201 rfl (lv_at hl 6 rfl) ?_
    refine lv_iconst (v := (nI 4)) B.hx B.hb dL_step_202 (by decide) ?_
    refine lv_irem B.hx B.hb dL_step_203 (by decide) ?_
    refine q_top (v2 := .int (nI (yy % 4))) (congrArg Value.int (pk_rem (by omega) (by omega) (by omega))) ?_
    refine lv_if_le (tgt := 214) B.hx B.hb dL_step_204 (by decide) (fun c10 => ?_) (fun c10 => ?_)
    · replace c10 := (nI_le0 (by omega)).mp c10
      refine lv_iconst (v := (nI 0)) B.hx B.hb dL_step_214 (by decide) ?_
      refine q_top (v2 := .int (nI (dub (decide (0 < yy % 4)) pp))) (congrArg Value.int (congrArg nI (by simp [dub, c10]))) ?_
      exact kJ5 _ _ hP hD hS
    · replace c10 := mt (nI_le0 (by omega)).mpr c10
      refine lv_iconst (v := (nI 1)) B.hx B.hb dL_step_207 (by decide) ?_
      refine lv_iload B.hx B.hb dL_step_208 (lv_at hl 1 rfl) ?_
      refine lv_ishl B.hx B.hb dL_step_210 ?_
      refine q_top (v2 := .int (nI (2 ^ pp))) (congrArg Value.int (msk_shl (by omega))) ?_
      refine lv_goto (tgt := 215) B.hx B.hb dL_step_211 (by decide) ?_
      refine q_top (v2 := .int (nI (dub (decide (0 < yy % 4)) pp))) (congrArg Value.int (congrArg nI (by simp [dub, c10]))) ?_
      exact kJ5 _ _ hP hD hS

set_option maxHeartbeats 4000000 in
set_option maxRecDepth 100000 in
theorem ls3 (l : Launch) (D : va_G) (cI cZ cP : ClassId) (o : Nat → Nat) (F : Nat → Nat → Int32) (wk wk2 : va_W) {q0 b : Nat} {fs : List Value} (hq : wk[q0]? = some (b, .inr (3, fs))) {q2 : Nat} {fs2 : List Value} (hq2 : wk2[q2]? = some (b, .inr (3, fs2))) (xx yy : Nat) (hx : xx < 2 ^ 30) (hy : yy < 2 ^ 30) (n : Nat) (hn1 : 1 ≤ n) (hn8 : n ≤ 8) (f41 : F 4 1 = nI n) (j : Nat) (ej : xx % n = j) (hj : j < 8) (ci : q_C l yX3_setInterval wsX3_setInterval ({ frames := 7, cells := 1, slots := 6, locals := 104 }) D cI cZ cP [.ref b, .int (nI (1 + (yy % 40)))] wk (S := Unit) (fun v _ => v = some (.int (F 4 2))) (fun _ => wk2) (fun _ => False) 1 6) : q_C l yL_step wsL_step ({ frames := 12, cells := 294, slots := 1764, locals := 231 }) D cI cZ cP [.ref b, .int (nI 3), .int (nI xx), .int (nI yy), .ref (o 0), .ref (o 1), .ref (o 2), .ref (o 3), .ref (o 4), .ref (o 5), .ref (o 6), .ref (o 7)] (lw cI o F ++ wk) (S := Unit) (fun v _ => v = some (.int (nI 1))) (fun _ => (lw cI o (va_up F 4 (upd (F 4) 2 (nI (1 + (yy % 40))))) ++ wk2)) (fun _ => False) 294 1764 := by
  refine q_of (cc := cL_step) (maxL := 16) (ret := (some .boolean)) (by decide +kernel) rfl (Nat.le_of_ble_eq_true rfl) ?_
  intro p e s m below meth c A ls B hr htb hmn hP hD hS hl
  have hl : lv_has ls 16 [(0, .ref b), (1, .int (nI 3)), (2, .int (nI xx)), (3, .int (nI yy)), (4, .ref (o 0)), (5, .ref (o 1)), (6, .ref (o 2)), (7, .ref (o 3)), (8, .ref (o 4)), (9, .ref (o 5)), (10, .ref (o 6)), (11, .ref (o 7))] := hl
  refine lv_iload_n B.hx B.hb dL_step_0 rfl (lv_at hl 1 rfl) ?_
  refine lv_if_eq (tgt := 11) B.hx B.hb dL_step_1 (by decide) (fun c1 => False.elim (by exact absurd c1 (by decide))) (fun _ => ?_)
  refine lv_aload B.hx B.hb dL_step_4 (lv_at hl 8 rfl) ?_
  refine lv_iconst (v := (nI 1)) B.hx B.hb dL_step_6 (by decide) ?_
  refine q_iald (f := (F 4)) B hP 4 rfl (j := 1) rfl (by decide) (by decide) dL_step_7 ?_
  refine q_top (v2 := .int (nI n)) (congrArg Value.int f41) ?_
  refine lv_if_ne (tgt := 87) B.hx B.hb dL_step_8 (by decide) (fun _ => ?_) (fun c2 => False.elim (by replace c2 := (nI_eq0 (by omega)).mp c2; omega))
  refine lv_iload_n B.hx B.hb dL_step_87 rfl (lv_at hl 2 rfl) ?_
  refine lv_aload B.hx B.hb dL_step_88 (lv_at hl 8 rfl) ?_
  refine lv_iconst (v := (nI 1)) B.hx B.hb dL_step_90 (by decide) ?_
  refine q_iald (f := (F 4)) B hP 4 rfl (j := 1) rfl (by decide) (by decide) dL_step_91 ?_
  refine q_top (v2 := .int (nI n)) (congrArg Value.int f41) ?_
  refine lv_irem B.hx B.hb dL_step_92 (fun h => absurd ((nI_eq0 (by omega)).mp h) (by omega)) ?_
  refine q_top (v2 := .int (nI (xx % n))) (congrArg Value.int (pk_rem (by omega) (by omega) (by omega))) ?_
  refine q_top (v2 := .int (nI j)) (congrArg Value.int (congrArg nI ej)) ?_
  refine lv_istore (lv' := [(12, .int (nI j)), (0, .ref b), (1, .int (nI 3)), (2, .int (nI xx)), (3, .int (nI yy)), (4, .ref (o 0)), (5, .ref (o 1)), (6, .ref (o 2)), (7, .ref (o 3)), (8, .ref (o 4)), (9, .ref (o 5)), (10, .ref (o 6)), (11, .ref (o 7))]) B.hx B.hb dL_step_93 hl (by decide) rfl (fun ls hl => ?_)
  refine lv_iload_n B.hx B.hb dL_step_95 rfl (lv_at hl 2 rfl) ?_
  refine lv_iconst (v := (nI 1)) B.hx B.hb dL_step_96 (by decide) ?_
  refine lv_icmp_ne (tgt := 163) B.hx B.hb dL_step_97 (by decide) (fun _ => ?_) (fun c3 => False.elim (by exact absurd c3 (by decide)))
  refine lv_iload_n B.hx B.hb dL_step_163 rfl (lv_at hl 2 rfl) ?_
  refine lv_iconst (v := (nI 2)) B.hx B.hb dL_step_164 (by decide) ?_
  refine lv_icmp_ne (tgt := 332) B.hx B.hb dL_step_165 (by decide) (fun _ => ?_) (fun c4 => False.elim (by exact absurd c4 (by decide)))
  refine lv_iload_n B.hx B.hb dL_step_332 rfl (lv_at hl 2 rfl) ?_
  refine lv_iconst (v := (nI 3)) B.hx B.hb dL_step_333 (by decide) ?_
  refine lv_icmp_ne (tgt := 372) B.hx B.hb dL_step_334 (by decide) (fun c5 => False.elim (by exact absurd c5 (by decide))) (fun _ => ?_)
  refine lv_aload B.hx B.hb dL_step_337 (lv_at hl 9 rfl) ?_
  refine lv_iconst (v := (nI 2)) B.hx B.hb dL_step_339 (by decide) ?_
  refine q_iald (f := (F 4)) B hP 4 rfl (j := 2) rfl (by decide) (by decide) dL_step_340 ?_
  refine lv_istore (lv' := [(13, .int ((F 4) 2)), (12, .int (nI j)), (0, .ref b), (1, .int (nI 3)), (2, .int (nI xx)), (3, .int (nI yy)), (4, .ref (o 0)), (5, .ref (o 1)), (6, .ref (o 2)), (7, .ref (o 3)), (8, .ref (o 4)), (9, .ref (o 5)), (10, .ref (o 6)), (11, .ref (o 7))]) B.hx B.hb dL_step_341 hl (by decide) rfl (fun ls hl => ?_)
  refine lv_aload B.hx B.hb dL_step_343 (lv_at hl 10 rfl) ?_
  refine lv_iconst (v := (nI 2)) B.hx B.hb dL_step_345 (by decide) ?_
  refine lv_iconst (v := (nI 1)) B.hx B.hb dL_step_346 (by decide) ?_
  refine lv_iload_n B.hx B.hb dL_step_347 rfl (lv_at hl 5 rfl) ?_
  refine lv_bipush (v := (nI 40)) B.hx B.hb dL_step_348 (by decide) ?_
  refine lv_irem B.hx B.hb dL_step_350 (by decide) ?_
  refine q_top (v2 := .int (nI (yy % 40))) (congrArg Value.int (pk_rem (by omega) (by omega) (by omega))) ?_
  refine lv_iadd B.hx B.hb dL_step_351 ?_
  refine q_top (v2 := .int (nI (1 + (yy % 40)))) (congrArg Value.int (nI_add _ _)) ?_
  refine q_iast (f := (F 4)) B hP hD hS 4 rfl (j := 2) rfl (by decide) (by decide) dL_step_352 (w' := (lw cI o (va_up F 4 (upd (F 4) 2 (nI (1 + (yy % 40))))) ++ wk)) rfl (fun H locs hP hD hS => ?_)
  refine lv_aload_n B.hx B.hb dL_step_353 rfl (lv_at hl 2 rfl) ?_
  refine lv_aload B.hx B.hb dL_step_354 (lv_at hl 10 rfl) ?_
  refine lv_iconst (v := (nI 2)) B.hx B.hb dL_step_356 (by decide) ?_
  refine q_iald (f := (upd (F 4) 2 (nI (1 + (yy % 40))))) B hP 4 rfl (j := 2) rfl (by decide) (by decide) dL_step_357 ?_
  refine q_top (v2 := .int (nI (1 + (yy % 40)))) (congrArg Value.int pk_us) ?_
  refine q_callV (As := [.int (nI (1 + (yy % 40)))]) (rest := []) B hP hD hS (ci.fl (lw cI o (va_up F 4 (upd (F 4) 2 (nI (1 + (yy % 40))))))) (cwV 1 B.hts gL_step_X3_setInterval rfl rfl rfl (by decide +kernel) ⟨(Nat.le_of_ble_eq_true rfl), (Nat.le_of_ble_eq_true rfl)⟩) (q0 + 8) 3 hq rfl rfl rfl hl.1 rfl (Nat.le_of_ble_eq_true rfl) dL_step_358 ⟨(Nat.le_of_ble_eq_true rfl), (Nat.le_of_ble_eq_true rfl)⟩ (fun E ce q9 H locs hx => False.elim hx) (fun v u H locs hp hP hD hS => ?_)
  obtain rfl := hp
  have hP : va_P D vwCl (lw cI o (va_up F 4 (upd (F 4) 2 (nI (1 + (yy % 40))))) ++ wk2) H := hP
  have hD : va_D A (lw cI o (va_up F 4 (upd (F 4) 2 (nI (1 + (yy % 40))))) ++ wk2) := hD
  refine lv_iload B.hx B.hb dL_step_361 (lv_at hl 0 rfl) ?_
  refine lv_icmp_ne (tgt := 370) B.hx B.hb dL_step_363 (by decide) (fun c6 => False.elim (by exact c6 rfl)) (fun _ => ?_)
  refine lv_iconst (v := (nI 1)) B.hx B.hb dL_step_366 (by decide) ?_
  refine lv_goto (tgt := 371) B.hx B.hb dL_step_367 (by decide) ?_
  exact q_zret B hr hP hD hS (by decide) (u := ()) rfl rfl (Nat.le_of_ble_eq_true rfl) (Nat.le_of_ble_eq_true rfl) dL_step_371

set_option maxHeartbeats 4000000 in
set_option maxRecDepth 100000 in
theorem ls4 (l : Launch) (D : va_G) (cI cZ cP : ClassId) (o : Nat → Nat) (F : Nat → Nat → Int32) (wk : va_W) {q0 b : Nat} {fs : List Value} (hq : wk[q0]? = some (b, .inr (3, fs))) (xx yy : Nat) (hx : xx < 2 ^ 30) (hy : yy < 2 ^ 30) (n : Nat) (hn1 : 1 ≤ n) (hn8 : n ≤ 8) (f41 : F 4 1 = nI n) {Kp : va_W → Prop} (j : Nat) (ej : xx % n = j) (hj : j < 8) (wh : Nat) (h1 : 4 ≤ wh) (h2 : wh < 6) (cd : q_C l yL_drafts wsL_drafts ({ frames := 11, cells := 3, slots := 18, locals := 196 }) D cI cZ cP [.ref b, .int (nI 0), .int (nI j), .int (nI (xx / 8)), .int (nI yy), .ref (o 0), .ref (o 5), .ref (o 4), .ref (o 7)] (lw cI o F ++ wk) (S := va_W) (fun v u => v = some (.int (nI 1)) ∧ Kp u) (fun u => u) (fun _ => False) 3 18) : q_C l yL_step wsL_step ({ frames := 12, cells := 294, slots := 1764, locals := 231 }) D cI cZ cP [.ref b, .int (nI wh), .int (nI xx), .int (nI yy), .ref (o 0), .ref (o 1), .ref (o 2), .ref (o 3), .ref (o 4), .ref (o 5), .ref (o 6), .ref (o 7)] (lw cI o F ++ wk) (S := va_W) (fun v u => v = some (.int (nI 1)) ∧ Kp u) (fun u => u) (fun _ => False) 294 1764 := by
  refine q_of (cc := cL_step) (maxL := 16) (ret := (some .boolean)) (by decide +kernel) rfl (Nat.le_of_ble_eq_true rfl) ?_
  intro p e s m below meth c A ls B hr htb hmn hP hD hS hl
  have hl : lv_has ls 16 [(0, .ref b), (1, .int (nI wh)), (2, .int (nI xx)), (3, .int (nI yy)), (4, .ref (o 0)), (5, .ref (o 1)), (6, .ref (o 2)), (7, .ref (o 3)), (8, .ref (o 4)), (9, .ref (o 5)), (10, .ref (o 6)), (11, .ref (o 7))] := hl
  refine lv_iload_n B.hx B.hb dL_step_0 rfl (lv_at hl 1 rfl) ?_
  refine lv_if_eq (tgt := 11) B.hx B.hb dL_step_1 (by decide) (fun c1 => False.elim (by replace c1 := (nI_eq0 (by omega)).mp c1; omega)) (fun _ => ?_)
  refine lv_aload B.hx B.hb dL_step_4 (lv_at hl 8 rfl) ?_
  refine lv_iconst (v := (nI 1)) B.hx B.hb dL_step_6 (by decide) ?_
  refine q_iald (f := (F 4)) B hP 4 rfl (j := 1) rfl (by decide) (by decide) dL_step_7 ?_
  refine q_top (v2 := .int (nI n)) (congrArg Value.int f41) ?_
  refine lv_if_ne (tgt := 87) B.hx B.hb dL_step_8 (by decide) (fun _ => ?_) (fun c2 => False.elim (by replace c2 := (nI_eq0 (by omega)).mp c2; omega))
  refine lv_iload_n B.hx B.hb dL_step_87 rfl (lv_at hl 2 rfl) ?_
  refine lv_aload B.hx B.hb dL_step_88 (lv_at hl 8 rfl) ?_
  refine lv_iconst (v := (nI 1)) B.hx B.hb dL_step_90 (by decide) ?_
  refine q_iald (f := (F 4)) B hP 4 rfl (j := 1) rfl (by decide) (by decide) dL_step_91 ?_
  refine q_top (v2 := .int (nI n)) (congrArg Value.int f41) ?_
  refine lv_irem B.hx B.hb dL_step_92 (fun h => absurd ((nI_eq0 (by omega)).mp h) (by omega)) ?_
  refine q_top (v2 := .int (nI (xx % n))) (congrArg Value.int (pk_rem (by omega) (by omega) (by omega))) ?_
  refine q_top (v2 := .int (nI j)) (congrArg Value.int (congrArg nI ej)) ?_
  refine lv_istore (lv' := [(12, .int (nI j)), (0, .ref b), (1, .int (nI wh)), (2, .int (nI xx)), (3, .int (nI yy)), (4, .ref (o 0)), (5, .ref (o 1)), (6, .ref (o 2)), (7, .ref (o 3)), (8, .ref (o 4)), (9, .ref (o 5)), (10, .ref (o 6)), (11, .ref (o 7))]) B.hx B.hb dL_step_93 hl (by decide) rfl (fun ls hl => ?_)
  refine lv_iload_n B.hx B.hb dL_step_95 rfl (lv_at hl 2 rfl) ?_
  refine lv_iconst (v := (nI 1)) B.hx B.hb dL_step_96 (by decide) ?_
  refine lv_icmp_ne (tgt := 163) B.hx B.hb dL_step_97 (by decide) (fun _ => ?_) (fun c3 => False.elim (by replace c3 := (nI_eq (by omega) (by omega)).mp c3; omega))
  refine lv_iload_n B.hx B.hb dL_step_163 rfl (lv_at hl 2 rfl) ?_
  refine lv_iconst (v := (nI 2)) B.hx B.hb dL_step_164 (by decide) ?_
  refine lv_icmp_ne (tgt := 332) B.hx B.hb dL_step_165 (by decide) (fun _ => ?_) (fun c4 => False.elim (by replace c4 := (nI_eq (by omega) (by omega)).mp c4; omega))
  refine lv_iload_n B.hx B.hb dL_step_332 rfl (lv_at hl 2 rfl) ?_
  refine lv_iconst (v := (nI 3)) B.hx B.hb dL_step_333 (by decide) ?_
  refine lv_icmp_ne (tgt := 372) B.hx B.hb dL_step_334 (by decide) (fun _ => ?_) (fun c5 => False.elim (by replace c5 := (nI_eq (by omega) (by omega)).mp c5; omega))
  refine lv_iload_n B.hx B.hb dL_step_372 rfl (lv_at hl 2 rfl) ?_
  refine lv_bipush (v := (nI 6)) B.hx B.hb dL_step_373 (by decide) ?_
  refine lv_icmp_ge (tgt := 399) B.hx B.hb dL_step_375 (by decide) (fun c6 => False.elim (by replace c6 := (nI_leI (by omega) (by omega)).mp c6; omega)) (fun _ => ?_)
  refine lv_aload_n B.hx B.hb dL_step_378 rfl (lv_at hl 1 rfl) ?_
  refine lv_iconst (v := (nI 0)) B.hx B.hb dL_step_379 (by decide) ?_
  refine lv_iload B.hx B.hb dL_step_380 (lv_at hl 0 rfl) ?_
  refine lv_iload_n B.hx B.hb dL_step_382 rfl (lv_at hl 3 rfl) ?_
  refine lv_bipush (v := (nI 8)) B.hx B.hb dL_step_383 (by decide) ?_
  refine lv_idiv B.hx B.hb dL_step_385 (by decide) ?_
  refine q_top (v2 := .int (nI (xx / 8))) (congrArg Value.int (pk_div (by omega) (by omega) (by omega))) ?_
  refine lv_iload_n B.hx B.hb dL_step_386 rfl (lv_at hl 4 rfl) ?_
  refine lv_aload B.hx B.hb dL_step_387 (lv_at hl 5 rfl) ?_
  refine lv_aload B.hx B.hb dL_step_389 (lv_at hl 10 rfl) ?_
  refine lv_aload B.hx B.hb dL_step_391 (lv_at hl 9 rfl) ?_
  refine lv_aload B.hx B.hb dL_step_393 (lv_at hl 12 rfl) ?_
  refine q_callS (As := [.ref b, .int (nI 0), .int (nI j), .int (nI (xx / 8)), .int (nI yy), .ref (o 0), .ref (o 5), .ref (o 4), .ref (o 7)]) (rest := []) B hP hD hS cd (cwS 9 B.hts gL_step_L_drafts rfl rfl rfl (by decide +kernel) ⟨(Nat.le_of_ble_eq_true rfl), (Nat.le_of_ble_eq_true rfl)⟩) rfl hl.1 rfl (Nat.le_of_ble_eq_true rfl) dL_step_395 ⟨(Nat.le_of_ble_eq_true rfl), (Nat.le_of_ble_eq_true rfl)⟩ (fun E ce q9 H locs hx => False.elim hx) (fun v u H locs hp hP hD hS => ?_)
  obtain ⟨rfl, hK⟩ := hp
  have hP : va_P D vwCl u H := hP
  have hD : va_D A u := hD
  exact q_zret B hr hP hD hS (by decide) (u := u) rfl ⟨rfl, hK⟩ (Nat.le_of_ble_eq_true rfl) (Nat.le_of_ble_eq_true rfl) dL_step_398

set_option maxHeartbeats 4000000 in
set_option maxRecDepth 100000 in
theorem ls5a (l : Launch) (D : va_G) (cI cZ cP : ClassId) (o : Nat → Nat) (F : Nat → Nat → Int32) (wk : va_W) {q0 b : Nat} {fs : List Value} (hq : wk[q0]? = some (b, .inr (3, fs))) (xx yy : Nat) (hx : xx < 2 ^ 30) (hy : yy < 2 ^ 30) (n : Nat) (hn1 : 1 ≤ n) (hn8 : n ≤ 8) (f41 : F 4 1 = nI n) {Kp : va_W → Prop} (j : Nat) (ej : xx % n = j) (hj : j < 8) (wh : Nat) (h1 : 6 ≤ wh) (h2 : wh < 8) (cd : q_C l yL_drafts wsL_drafts ({ frames := 11, cells := 3, slots := 18, locals := 196 }) D cI cZ cP [.ref b, .int (nI 3), .int (nI j), .int (nI (xx / 8)), .int (nI (yy / 6)), .ref (o 0), .ref (o 5), .ref (o 4), .ref (o 7)] (lw cI o F ++ wk) (S := va_W) (fun v u => v = some (.int (nI 1)) ∧ Kp u) (fun u => u) (fun _ => False) 3 18) : q_C l yL_step wsL_step ({ frames := 12, cells := 294, slots := 1764, locals := 231 }) D cI cZ cP [.ref b, .int (nI wh), .int (nI xx), .int (nI yy), .ref (o 0), .ref (o 1), .ref (o 2), .ref (o 3), .ref (o 4), .ref (o 5), .ref (o 6), .ref (o 7)] (lw cI o F ++ wk) (S := va_W) (fun v u => v = some (.int (nI 1)) ∧ Kp u) (fun u => u) (fun _ => False) 294 1764 := by
  refine q_of (cc := cL_step) (maxL := 16) (ret := (some .boolean)) (by decide +kernel) rfl (Nat.le_of_ble_eq_true rfl) ?_
  intro p e s m below meth c A ls B hr htb hmn hP hD hS hl
  have hl : lv_has ls 16 [(0, .ref b), (1, .int (nI wh)), (2, .int (nI xx)), (3, .int (nI yy)), (4, .ref (o 0)), (5, .ref (o 1)), (6, .ref (o 2)), (7, .ref (o 3)), (8, .ref (o 4)), (9, .ref (o 5)), (10, .ref (o 6)), (11, .ref (o 7))] := hl
  refine lv_iload_n B.hx B.hb dL_step_0 rfl (lv_at hl 1 rfl) ?_
  refine lv_if_eq (tgt := 11) B.hx B.hb dL_step_1 (by decide) (fun c1 => False.elim (by replace c1 := (nI_eq0 (by omega)).mp c1; omega)) (fun _ => ?_)
  refine lv_aload B.hx B.hb dL_step_4 (lv_at hl 8 rfl) ?_
  refine lv_iconst (v := (nI 1)) B.hx B.hb dL_step_6 (by decide) ?_
  refine q_iald (f := (F 4)) B hP 4 rfl (j := 1) rfl (by decide) (by decide) dL_step_7 ?_
  refine q_top (v2 := .int (nI n)) (congrArg Value.int f41) ?_
  refine lv_if_ne (tgt := 87) B.hx B.hb dL_step_8 (by decide) (fun _ => ?_) (fun c2 => False.elim (by replace c2 := (nI_eq0 (by omega)).mp c2; omega))
  refine lv_iload_n B.hx B.hb dL_step_87 rfl (lv_at hl 2 rfl) ?_
  refine lv_aload B.hx B.hb dL_step_88 (lv_at hl 8 rfl) ?_
  refine lv_iconst (v := (nI 1)) B.hx B.hb dL_step_90 (by decide) ?_
  refine q_iald (f := (F 4)) B hP 4 rfl (j := 1) rfl (by decide) (by decide) dL_step_91 ?_
  refine q_top (v2 := .int (nI n)) (congrArg Value.int f41) ?_
  refine lv_irem B.hx B.hb dL_step_92 (fun h => absurd ((nI_eq0 (by omega)).mp h) (by omega)) ?_
  refine q_top (v2 := .int (nI (xx % n))) (congrArg Value.int (pk_rem (by omega) (by omega) (by omega))) ?_
  refine q_top (v2 := .int (nI j)) (congrArg Value.int (congrArg nI ej)) ?_
  refine lv_istore (lv' := [(12, .int (nI j)), (0, .ref b), (1, .int (nI wh)), (2, .int (nI xx)), (3, .int (nI yy)), (4, .ref (o 0)), (5, .ref (o 1)), (6, .ref (o 2)), (7, .ref (o 3)), (8, .ref (o 4)), (9, .ref (o 5)), (10, .ref (o 6)), (11, .ref (o 7))]) B.hx B.hb dL_step_93 hl (by decide) rfl (fun ls hl => ?_)
  refine lv_iload_n B.hx B.hb dL_step_95 rfl (lv_at hl 2 rfl) ?_
  refine lv_iconst (v := (nI 1)) B.hx B.hb dL_step_96 (by decide) ?_
  refine lv_icmp_ne (tgt := 163) B.hx B.hb dL_step_97 (by decide) (fun _ => ?_) (fun c3 => False.elim (by replace c3 := (nI_eq (by omega) (by omega)).mp c3; omega))
  refine lv_iload_n B.hx B.hb dL_step_163 rfl (lv_at hl 2 rfl) ?_
  refine lv_iconst (v := (nI 2)) B.hx B.hb dL_step_164 (by decide) ?_
  refine lv_icmp_ne (tgt := 332) B.hx B.hb dL_step_165 (by decide) (fun _ => ?_) (fun c4 => False.elim (by replace c4 := (nI_eq (by omega) (by omega)).mp c4; omega))
  refine lv_iload_n B.hx B.hb dL_step_332 rfl (lv_at hl 2 rfl) ?_
  refine lv_iconst (v := (nI 3)) B.hx B.hb dL_step_333 (by decide) ?_
  refine lv_icmp_ne (tgt := 372) B.hx B.hb dL_step_334 (by decide) (fun _ => ?_) (fun c5 => False.elim (by replace c5 := (nI_eq (by omega) (by omega)).mp c5; omega))
  refine lv_iload_n B.hx B.hb dL_step_372 rfl (lv_at hl 2 rfl) ?_
  refine lv_bipush (v := (nI 6)) B.hx B.hb dL_step_373 (by decide) ?_
  refine lv_icmp_ge (tgt := 399) B.hx B.hb dL_step_375 (by decide) (fun _ => ?_) (fun c6 => False.elim (by replace c6 := mt (nI_leI (by omega) (by omega)).mpr c6; omega))
  refine lv_iload_n B.hx B.hb dL_step_399 rfl (lv_at hl 2 rfl) ?_
  refine lv_bipush (v := (nI 10)) B.hx B.hb dL_step_400 (by decide) ?_
  refine lv_icmp_ge (tgt := 463) B.hx B.hb dL_step_402 (by decide) (fun c7 => False.elim (by replace c7 := (nI_leI (by omega) (by omega)).mp c7; omega)) (fun _ => ?_)
  refine lv_aload_n B.hx B.hb dL_step_405 rfl (lv_at hl 1 rfl) ?_
  refine lv_iload_n B.hx B.hb dL_step_406 rfl (lv_at hl 2 rfl) ?_
  refine lv_bipush (v := (nI 8)) B.hx B.hb dL_step_407 (by decide) ?_
  refine lv_icmp_ge (tgt := 416) B.hx B.hb dL_step_409 (by decide) (fun c8 => False.elim (by replace c8 := (nI_leI (by omega) (by omega)).mp c8; omega)) (fun _ => ?_)
  refine lv_iconst (v := (nI 3)) B.hx B.hb dL_step_412 (by decide) ?_
  refine lv_goto (tgt := 441) B.hx B.hb dL_step_413 (by decide) ?_
  refine lv_iload B.hx B.hb dL_step_441 (lv_at hl 0 rfl) ?_
  refine lv_iload_n B.hx B.hb dL_step_443 rfl (lv_at hl 3 rfl) ?_
  refine lv_bipush (v := (nI 8)) B.hx B.hb dL_step_444 (by decide) ?_
  refine lv_idiv B.hx B.hb dL_step_446 (by decide) ?_
  refine q_top (v2 := .int (nI (xx / 8))) (congrArg Value.int (pk_div (by omega) (by omega) (by omega))) ?_
  refine lv_iload_n B.hx B.hb dL_step_447 rfl (lv_at hl 4 rfl) ?_
  refine lv_bipush (v := (nI 6)) B.hx B.hb dL_step_448 (by decide) ?_
  refine lv_idiv B.hx B.hb dL_step_450 (by decide) ?_
  refine q_top (v2 := .int (nI (yy / 6))) (congrArg Value.int (pk_div (by omega) (by omega) (by omega))) ?_
  refine lv_aload B.hx B.hb dL_step_451 (lv_at hl 5 rfl) ?_
  refine lv_aload B.hx B.hb dL_step_453 (lv_at hl 10 rfl) ?_
  refine lv_aload B.hx B.hb dL_step_455 (lv_at hl 9 rfl) ?_
  refine lv_aload B.hx B.hb dL_step_457 (lv_at hl 12 rfl) ?_
  refine q_callS (As := [.ref b, .int (nI 3), .int (nI j), .int (nI (xx / 8)), .int (nI (yy / 6)), .ref (o 0), .ref (o 5), .ref (o 4), .ref (o 7)]) (rest := []) B hP hD hS cd (cwS 9 B.hts gL_step_L_drafts rfl rfl rfl (by decide +kernel) ⟨(Nat.le_of_ble_eq_true rfl), (Nat.le_of_ble_eq_true rfl)⟩) rfl hl.1 rfl (Nat.le_of_ble_eq_true rfl) dL_step_459 ⟨(Nat.le_of_ble_eq_true rfl), (Nat.le_of_ble_eq_true rfl)⟩ (fun E ce q9 H locs hx => False.elim hx) (fun v u H locs hp hP hD hS => ?_)
  obtain ⟨rfl, hK⟩ := hp
  have hP : va_P D vwCl u H := hP
  have hD : va_D A u := hD
  exact q_zret B hr hP hD hS (by decide) (u := u) rfl ⟨rfl, hK⟩ (Nat.le_of_ble_eq_true rfl) (Nat.le_of_ble_eq_true rfl) dL_step_462

set_option maxHeartbeats 4000000 in
set_option maxRecDepth 100000 in
theorem ls5b (l : Launch) (D : va_G) (cI cZ cP : ClassId) (o : Nat → Nat) (F : Nat → Nat → Int32) (wk : va_W) {q0 b : Nat} {fs : List Value} (hq : wk[q0]? = some (b, .inr (3, fs))) (xx yy : Nat) (hx : xx < 2 ^ 30) (hy : yy < 2 ^ 30) (n : Nat) (hn1 : 1 ≤ n) (hn8 : n ≤ 8) (f41 : F 4 1 = nI n) {Kp : va_W → Prop} (j : Nat) (ej : xx % n = j) (hj : j < 8)  (cd : q_C l yL_drafts wsL_drafts ({ frames := 11, cells := 3, slots := 18, locals := 196 }) D cI cZ cP [.ref b, .int (nI 4), .int (nI j), .int (nI (xx / 8)), .int (nI (yy / 6)), .ref (o 0), .ref (o 5), .ref (o 4), .ref (o 7)] (lw cI o F ++ wk) (S := va_W) (fun v u => v = some (.int (nI 1)) ∧ Kp u) (fun u => u) (fun _ => False) 3 18) : q_C l yL_step wsL_step ({ frames := 12, cells := 294, slots := 1764, locals := 231 }) D cI cZ cP [.ref b, .int (nI 8), .int (nI xx), .int (nI yy), .ref (o 0), .ref (o 1), .ref (o 2), .ref (o 3), .ref (o 4), .ref (o 5), .ref (o 6), .ref (o 7)] (lw cI o F ++ wk) (S := va_W) (fun v u => v = some (.int (nI 1)) ∧ Kp u) (fun u => u) (fun _ => False) 294 1764 := by
  refine q_of (cc := cL_step) (maxL := 16) (ret := (some .boolean)) (by decide +kernel) rfl (Nat.le_of_ble_eq_true rfl) ?_
  intro p e s m below meth c A ls B hr htb hmn hP hD hS hl
  have hl : lv_has ls 16 [(0, .ref b), (1, .int (nI 8)), (2, .int (nI xx)), (3, .int (nI yy)), (4, .ref (o 0)), (5, .ref (o 1)), (6, .ref (o 2)), (7, .ref (o 3)), (8, .ref (o 4)), (9, .ref (o 5)), (10, .ref (o 6)), (11, .ref (o 7))] := hl
  refine lv_iload_n B.hx B.hb dL_step_0 rfl (lv_at hl 1 rfl) ?_
  refine lv_if_eq (tgt := 11) B.hx B.hb dL_step_1 (by decide) (fun c1 => False.elim (by exact absurd c1 (by decide))) (fun _ => ?_)
  refine lv_aload B.hx B.hb dL_step_4 (lv_at hl 8 rfl) ?_
  refine lv_iconst (v := (nI 1)) B.hx B.hb dL_step_6 (by decide) ?_
  refine q_iald (f := (F 4)) B hP 4 rfl (j := 1) rfl (by decide) (by decide) dL_step_7 ?_
  refine q_top (v2 := .int (nI n)) (congrArg Value.int f41) ?_
  refine lv_if_ne (tgt := 87) B.hx B.hb dL_step_8 (by decide) (fun _ => ?_) (fun c2 => False.elim (by replace c2 := (nI_eq0 (by omega)).mp c2; omega))
  refine lv_iload_n B.hx B.hb dL_step_87 rfl (lv_at hl 2 rfl) ?_
  refine lv_aload B.hx B.hb dL_step_88 (lv_at hl 8 rfl) ?_
  refine lv_iconst (v := (nI 1)) B.hx B.hb dL_step_90 (by decide) ?_
  refine q_iald (f := (F 4)) B hP 4 rfl (j := 1) rfl (by decide) (by decide) dL_step_91 ?_
  refine q_top (v2 := .int (nI n)) (congrArg Value.int f41) ?_
  refine lv_irem B.hx B.hb dL_step_92 (fun h => absurd ((nI_eq0 (by omega)).mp h) (by omega)) ?_
  refine q_top (v2 := .int (nI (xx % n))) (congrArg Value.int (pk_rem (by omega) (by omega) (by omega))) ?_
  refine q_top (v2 := .int (nI j)) (congrArg Value.int (congrArg nI ej)) ?_
  refine lv_istore (lv' := [(12, .int (nI j)), (0, .ref b), (1, .int (nI 8)), (2, .int (nI xx)), (3, .int (nI yy)), (4, .ref (o 0)), (5, .ref (o 1)), (6, .ref (o 2)), (7, .ref (o 3)), (8, .ref (o 4)), (9, .ref (o 5)), (10, .ref (o 6)), (11, .ref (o 7))]) B.hx B.hb dL_step_93 hl (by decide) rfl (fun ls hl => ?_)
  refine lv_iload_n B.hx B.hb dL_step_95 rfl (lv_at hl 2 rfl) ?_
  refine lv_iconst (v := (nI 1)) B.hx B.hb dL_step_96 (by decide) ?_
  refine lv_icmp_ne (tgt := 163) B.hx B.hb dL_step_97 (by decide) (fun _ => ?_) (fun c3 => False.elim (by exact absurd c3 (by decide)))
  refine lv_iload_n B.hx B.hb dL_step_163 rfl (lv_at hl 2 rfl) ?_
  refine lv_iconst (v := (nI 2)) B.hx B.hb dL_step_164 (by decide) ?_
  refine lv_icmp_ne (tgt := 332) B.hx B.hb dL_step_165 (by decide) (fun _ => ?_) (fun c4 => False.elim (by exact absurd c4 (by decide)))
  refine lv_iload_n B.hx B.hb dL_step_332 rfl (lv_at hl 2 rfl) ?_
  refine lv_iconst (v := (nI 3)) B.hx B.hb dL_step_333 (by decide) ?_
  refine lv_icmp_ne (tgt := 372) B.hx B.hb dL_step_334 (by decide) (fun _ => ?_) (fun c5 => False.elim (by exact absurd c5 (by decide)))
  refine lv_iload_n B.hx B.hb dL_step_372 rfl (lv_at hl 2 rfl) ?_
  refine lv_bipush (v := (nI 6)) B.hx B.hb dL_step_373 (by decide) ?_
  refine lv_icmp_ge (tgt := 399) B.hx B.hb dL_step_375 (by decide) (fun _ => ?_) (fun c6 => False.elim (by exact absurd c6 (by decide)))
  refine lv_iload_n B.hx B.hb dL_step_399 rfl (lv_at hl 2 rfl) ?_
  refine lv_bipush (v := (nI 10)) B.hx B.hb dL_step_400 (by decide) ?_
  refine lv_icmp_ge (tgt := 463) B.hx B.hb dL_step_402 (by decide) (fun c7 => False.elim (by exact absurd c7 (by decide))) (fun _ => ?_)
  refine lv_aload_n B.hx B.hb dL_step_405 rfl (lv_at hl 1 rfl) ?_
  refine lv_iload_n B.hx B.hb dL_step_406 rfl (lv_at hl 2 rfl) ?_
  refine lv_bipush (v := (nI 8)) B.hx B.hb dL_step_407 (by decide) ?_
  refine lv_icmp_ge (tgt := 416) B.hx B.hb dL_step_409 (by decide) (fun _ => ?_) (fun c8 => False.elim (by exact absurd c8 (by decide)))
  refine lv_iload_n B.hx B.hb dL_step_416 rfl (lv_at hl 2 rfl) ?_
  refine lv_bipush (v := (nI 8)) B.hx B.hb dL_step_417 (by decide) ?_
  refine lv_icmp_ne (tgt := 426) B.hx B.hb dL_step_419 (by decide) (fun c9 => False.elim (by exact absurd c9 (by decide))) (fun _ => ?_)
  refine lv_iconst (v := (nI 4)) B.hx B.hb dL_step_422 (by decide) ?_
  refine lv_goto (tgt := 441) B.hx B.hb dL_step_423 (by decide) ?_
  refine lv_iload B.hx B.hb dL_step_441 (lv_at hl 0 rfl) ?_
  refine lv_iload_n B.hx B.hb dL_step_443 rfl (lv_at hl 3 rfl) ?_
  refine lv_bipush (v := (nI 8)) B.hx B.hb dL_step_444 (by decide) ?_
  refine lv_idiv B.hx B.hb dL_step_446 (by decide) ?_
  refine q_top (v2 := .int (nI (xx / 8))) (congrArg Value.int (pk_div (by omega) (by omega) (by omega))) ?_
  refine lv_iload_n B.hx B.hb dL_step_447 rfl (lv_at hl 4 rfl) ?_
  refine lv_bipush (v := (nI 6)) B.hx B.hb dL_step_448 (by decide) ?_
  refine lv_idiv B.hx B.hb dL_step_450 (by decide) ?_
  refine q_top (v2 := .int (nI (yy / 6))) (congrArg Value.int (pk_div (by omega) (by omega) (by omega))) ?_
  refine lv_aload B.hx B.hb dL_step_451 (lv_at hl 5 rfl) ?_
  refine lv_aload B.hx B.hb dL_step_453 (lv_at hl 10 rfl) ?_
  refine lv_aload B.hx B.hb dL_step_455 (lv_at hl 9 rfl) ?_
  refine lv_aload B.hx B.hb dL_step_457 (lv_at hl 12 rfl) ?_
  refine q_callS (As := [.ref b, .int (nI 4), .int (nI j), .int (nI (xx / 8)), .int (nI (yy / 6)), .ref (o 0), .ref (o 5), .ref (o 4), .ref (o 7)]) (rest := []) B hP hD hS cd (cwS 9 B.hts gL_step_L_drafts rfl rfl rfl (by decide +kernel) ⟨(Nat.le_of_ble_eq_true rfl), (Nat.le_of_ble_eq_true rfl)⟩) rfl hl.1 rfl (Nat.le_of_ble_eq_true rfl) dL_step_459 ⟨(Nat.le_of_ble_eq_true rfl), (Nat.le_of_ble_eq_true rfl)⟩ (fun E ce q9 H locs hx => False.elim hx) (fun v u H locs hp hP hD hS => ?_)
  obtain ⟨rfl, hK⟩ := hp
  have hP : va_P D vwCl u H := hP
  have hD : va_D A u := hD
  exact q_zret B hr hP hD hS (by decide) (u := u) rfl ⟨rfl, hK⟩ (Nat.le_of_ble_eq_true rfl) (Nat.le_of_ble_eq_true rfl) dL_step_462

set_option maxHeartbeats 4000000 in
set_option maxRecDepth 100000 in
theorem ls5c (l : Launch) (D : va_G) (cI cZ cP : ClassId) (o : Nat → Nat) (F : Nat → Nat → Int32) (wk : va_W) {q0 b : Nat} {fs : List Value} (hq : wk[q0]? = some (b, .inr (3, fs))) (xx yy : Nat) (hx : xx < 2 ^ 30) (hy : yy < 2 ^ 30) (n : Nat) (hn1 : 1 ≤ n) (hn8 : n ≤ 8) (f41 : F 4 1 = nI n) {Kp : va_W → Prop} (j : Nat) (ej : xx % n = j) (hj : j < 8) (hy3 : yy % 3 = 0) (cd : q_C l yL_drafts wsL_drafts ({ frames := 11, cells := 3, slots := 18, locals := 196 }) D cI cZ cP [.ref b, .int (nI (yy % 2 + 1)), .int (nI j), .int (nI (xx / 8)), .int (nI (yy / 6)), .ref (o 0), .ref (o 5), .ref (o 4), .ref (o 7)] (lw cI o F ++ wk) (S := va_W) (fun v u => v = some (.int (nI 1)) ∧ Kp u) (fun u => u) (fun _ => False) 3 18) : q_C l yL_step wsL_step ({ frames := 12, cells := 294, slots := 1764, locals := 231 }) D cI cZ cP [.ref b, .int (nI 9), .int (nI xx), .int (nI yy), .ref (o 0), .ref (o 1), .ref (o 2), .ref (o 3), .ref (o 4), .ref (o 5), .ref (o 6), .ref (o 7)] (lw cI o F ++ wk) (S := va_W) (fun v u => v = some (.int (nI 1)) ∧ Kp u) (fun u => u) (fun _ => False) 294 1764 := by
  refine q_of (cc := cL_step) (maxL := 16) (ret := (some .boolean)) (by decide +kernel) rfl (Nat.le_of_ble_eq_true rfl) ?_
  intro p e s m below meth c A ls B hr htb hmn hP hD hS hl
  have hl : lv_has ls 16 [(0, .ref b), (1, .int (nI 9)), (2, .int (nI xx)), (3, .int (nI yy)), (4, .ref (o 0)), (5, .ref (o 1)), (6, .ref (o 2)), (7, .ref (o 3)), (8, .ref (o 4)), (9, .ref (o 5)), (10, .ref (o 6)), (11, .ref (o 7))] := hl
  refine lv_iload_n B.hx B.hb dL_step_0 rfl (lv_at hl 1 rfl) ?_
  refine lv_if_eq (tgt := 11) B.hx B.hb dL_step_1 (by decide) (fun c1 => False.elim (by exact absurd c1 (by decide))) (fun _ => ?_)
  refine lv_aload B.hx B.hb dL_step_4 (lv_at hl 8 rfl) ?_
  refine lv_iconst (v := (nI 1)) B.hx B.hb dL_step_6 (by decide) ?_
  refine q_iald (f := (F 4)) B hP 4 rfl (j := 1) rfl (by decide) (by decide) dL_step_7 ?_
  refine q_top (v2 := .int (nI n)) (congrArg Value.int f41) ?_
  refine lv_if_ne (tgt := 87) B.hx B.hb dL_step_8 (by decide) (fun _ => ?_) (fun c2 => False.elim (by replace c2 := (nI_eq0 (by omega)).mp c2; omega))
  refine lv_iload_n B.hx B.hb dL_step_87 rfl (lv_at hl 2 rfl) ?_
  refine lv_aload B.hx B.hb dL_step_88 (lv_at hl 8 rfl) ?_
  refine lv_iconst (v := (nI 1)) B.hx B.hb dL_step_90 (by decide) ?_
  refine q_iald (f := (F 4)) B hP 4 rfl (j := 1) rfl (by decide) (by decide) dL_step_91 ?_
  refine q_top (v2 := .int (nI n)) (congrArg Value.int f41) ?_
  refine lv_irem B.hx B.hb dL_step_92 (fun h => absurd ((nI_eq0 (by omega)).mp h) (by omega)) ?_
  refine q_top (v2 := .int (nI (xx % n))) (congrArg Value.int (pk_rem (by omega) (by omega) (by omega))) ?_
  refine q_top (v2 := .int (nI j)) (congrArg Value.int (congrArg nI ej)) ?_
  refine lv_istore (lv' := [(12, .int (nI j)), (0, .ref b), (1, .int (nI 9)), (2, .int (nI xx)), (3, .int (nI yy)), (4, .ref (o 0)), (5, .ref (o 1)), (6, .ref (o 2)), (7, .ref (o 3)), (8, .ref (o 4)), (9, .ref (o 5)), (10, .ref (o 6)), (11, .ref (o 7))]) B.hx B.hb dL_step_93 hl (by decide) rfl (fun ls hl => ?_)
  refine lv_iload_n B.hx B.hb dL_step_95 rfl (lv_at hl 2 rfl) ?_
  refine lv_iconst (v := (nI 1)) B.hx B.hb dL_step_96 (by decide) ?_
  refine lv_icmp_ne (tgt := 163) B.hx B.hb dL_step_97 (by decide) (fun _ => ?_) (fun c3 => False.elim (by exact absurd c3 (by decide)))
  refine lv_iload_n B.hx B.hb dL_step_163 rfl (lv_at hl 2 rfl) ?_
  refine lv_iconst (v := (nI 2)) B.hx B.hb dL_step_164 (by decide) ?_
  refine lv_icmp_ne (tgt := 332) B.hx B.hb dL_step_165 (by decide) (fun _ => ?_) (fun c4 => False.elim (by exact absurd c4 (by decide)))
  refine lv_iload_n B.hx B.hb dL_step_332 rfl (lv_at hl 2 rfl) ?_
  refine lv_iconst (v := (nI 3)) B.hx B.hb dL_step_333 (by decide) ?_
  refine lv_icmp_ne (tgt := 372) B.hx B.hb dL_step_334 (by decide) (fun _ => ?_) (fun c5 => False.elim (by exact absurd c5 (by decide)))
  refine lv_iload_n B.hx B.hb dL_step_372 rfl (lv_at hl 2 rfl) ?_
  refine lv_bipush (v := (nI 6)) B.hx B.hb dL_step_373 (by decide) ?_
  refine lv_icmp_ge (tgt := 399) B.hx B.hb dL_step_375 (by decide) (fun _ => ?_) (fun c6 => False.elim (by exact absurd c6 (by decide)))
  refine lv_iload_n B.hx B.hb dL_step_399 rfl (lv_at hl 2 rfl) ?_
  refine lv_bipush (v := (nI 10)) B.hx B.hb dL_step_400 (by decide) ?_
  refine lv_icmp_ge (tgt := 463) B.hx B.hb dL_step_402 (by decide) (fun c7 => False.elim (by exact absurd c7 (by decide))) (fun _ => ?_)
  refine lv_aload_n B.hx B.hb dL_step_405 rfl (lv_at hl 1 rfl) ?_
  refine lv_iload_n B.hx B.hb dL_step_406 rfl (lv_at hl 2 rfl) ?_
  refine lv_bipush (v := (nI 8)) B.hx B.hb dL_step_407 (by decide) ?_
  refine lv_icmp_ge (tgt := 416) B.hx B.hb dL_step_409 (by decide) (fun _ => ?_) (fun c8 => False.elim (by exact absurd c8 (by decide)))
  refine lv_iload_n B.hx B.hb dL_step_416 rfl (lv_at hl 2 rfl) ?_
  refine lv_bipush (v := (nI 8)) B.hx B.hb dL_step_417 (by decide) ?_
  refine lv_icmp_ne (tgt := 426) B.hx B.hb dL_step_419 (by decide) (fun _ => ?_) (fun c9 => False.elim (by exact absurd c9 (by decide)))
  refine lv_iload_n B.hx B.hb dL_step_426 rfl (lv_at hl 4 rfl) ?_
  refine lv_iconst (v := (nI 3)) B.hx B.hb dL_step_427 (by decide) ?_
  refine lv_irem B.hx B.hb dL_step_428 (by decide) ?_
  refine q_top (v2 := .int (nI (yy % 3))) (congrArg Value.int (pk_rem (by omega) (by omega) (by omega))) ?_
  refine lv_if_ne (tgt := 440) B.hx B.hb dL_step_429 (by decide) (fun c10 => False.elim (by replace c10 := mt (nI_eq0 (by omega)).mpr c10; exact c10 hy3)) (fun _ => ?_)
  refine lv_iload_n B.hx B.hb dL_step_432 rfl (lv_at hl 4 rfl) ?_
  refine lv_iconst (v := (nI 2)) B.hx B.hb dL_step_433 (by decide) ?_
  refine lv_irem B.hx B.hb dL_step_434 (by decide) ?_
  refine q_top (v2 := .int (nI (yy % 2))) (congrArg Value.int (pk_rem (by omega) (by omega) (by omega))) ?_
  refine lv_iconst (v := (nI 1)) B.hx B.hb dL_step_435 (by decide) ?_
  refine lv_iadd B.hx B.hb dL_step_436 ?_
  refine q_top (v2 := .int (nI ((yy % 2) + 1))) (congrArg Value.int (nI_add _ _)) ?_
  refine lv_goto (tgt := 441) B.hx B.hb dL_step_437 (by decide) ?_
  refine lv_iload B.hx B.hb dL_step_441 (lv_at hl 0 rfl) ?_
  refine lv_iload_n B.hx B.hb dL_step_443 rfl (lv_at hl 3 rfl) ?_
  refine lv_bipush (v := (nI 8)) B.hx B.hb dL_step_444 (by decide) ?_
  refine lv_idiv B.hx B.hb dL_step_446 (by decide) ?_
  refine q_top (v2 := .int (nI (xx / 8))) (congrArg Value.int (pk_div (by omega) (by omega) (by omega))) ?_
  refine lv_iload_n B.hx B.hb dL_step_447 rfl (lv_at hl 4 rfl) ?_
  refine lv_bipush (v := (nI 6)) B.hx B.hb dL_step_448 (by decide) ?_
  refine lv_idiv B.hx B.hb dL_step_450 (by decide) ?_
  refine q_top (v2 := .int (nI (yy / 6))) (congrArg Value.int (pk_div (by omega) (by omega) (by omega))) ?_
  refine lv_aload B.hx B.hb dL_step_451 (lv_at hl 5 rfl) ?_
  refine lv_aload B.hx B.hb dL_step_453 (lv_at hl 10 rfl) ?_
  refine lv_aload B.hx B.hb dL_step_455 (lv_at hl 9 rfl) ?_
  refine lv_aload B.hx B.hb dL_step_457 (lv_at hl 12 rfl) ?_
  refine q_callS (As := [.ref b, .int (nI ((yy % 2) + 1)), .int (nI j), .int (nI (xx / 8)), .int (nI (yy / 6)), .ref (o 0), .ref (o 5), .ref (o 4), .ref (o 7)]) (rest := []) B hP hD hS cd (cwS 9 B.hts gL_step_L_drafts rfl rfl rfl (by decide +kernel) ⟨(Nat.le_of_ble_eq_true rfl), (Nat.le_of_ble_eq_true rfl)⟩) rfl hl.1 rfl (Nat.le_of_ble_eq_true rfl) dL_step_459 ⟨(Nat.le_of_ble_eq_true rfl), (Nat.le_of_ble_eq_true rfl)⟩ (fun E ce q9 H locs hx => False.elim hx) (fun v u H locs hp hP hD hS => ?_)
  obtain ⟨rfl, hK⟩ := hp
  have hP : va_P D vwCl u H := hP
  have hD : va_D A u := hD
  exact q_zret B hr hP hD hS (by decide) (u := u) rfl ⟨rfl, hK⟩ (Nat.le_of_ble_eq_true rfl) (Nat.le_of_ble_eq_true rfl) dL_step_462

set_option maxHeartbeats 4000000 in
set_option maxRecDepth 100000 in
theorem ls5d (l : Launch) (D : va_G) (cI cZ cP : ClassId) (o : Nat → Nat) (F : Nat → Nat → Int32) (wk : va_W) {q0 b : Nat} {fs : List Value} (hq : wk[q0]? = some (b, .inr (3, fs))) (xx yy : Nat) (hx : xx < 2 ^ 30) (hy : yy < 2 ^ 30) (n : Nat) (hn1 : 1 ≤ n) (hn8 : n ≤ 8) (f41 : F 4 1 = nI n) {Kp : va_W → Prop} (j : Nat) (ej : xx % n = j) (hj : j < 8) (hy3 : ¬ yy % 3 = 0) (cd : q_C l yL_drafts wsL_drafts ({ frames := 11, cells := 3, slots := 18, locals := 196 }) D cI cZ cP [.ref b, .int (nI 3), .int (nI j), .int (nI (xx / 8)), .int (nI (yy / 6)), .ref (o 0), .ref (o 5), .ref (o 4), .ref (o 7)] (lw cI o F ++ wk) (S := va_W) (fun v u => v = some (.int (nI 1)) ∧ Kp u) (fun u => u) (fun _ => False) 3 18) : q_C l yL_step wsL_step ({ frames := 12, cells := 294, slots := 1764, locals := 231 }) D cI cZ cP [.ref b, .int (nI 9), .int (nI xx), .int (nI yy), .ref (o 0), .ref (o 1), .ref (o 2), .ref (o 3), .ref (o 4), .ref (o 5), .ref (o 6), .ref (o 7)] (lw cI o F ++ wk) (S := va_W) (fun v u => v = some (.int (nI 1)) ∧ Kp u) (fun u => u) (fun _ => False) 294 1764 := by
  refine q_of (cc := cL_step) (maxL := 16) (ret := (some .boolean)) (by decide +kernel) rfl (Nat.le_of_ble_eq_true rfl) ?_
  intro p e s m below meth c A ls B hr htb hmn hP hD hS hl
  have hl : lv_has ls 16 [(0, .ref b), (1, .int (nI 9)), (2, .int (nI xx)), (3, .int (nI yy)), (4, .ref (o 0)), (5, .ref (o 1)), (6, .ref (o 2)), (7, .ref (o 3)), (8, .ref (o 4)), (9, .ref (o 5)), (10, .ref (o 6)), (11, .ref (o 7))] := hl
  refine lv_iload_n B.hx B.hb dL_step_0 rfl (lv_at hl 1 rfl) ?_
  refine lv_if_eq (tgt := 11) B.hx B.hb dL_step_1 (by decide) (fun c1 => False.elim (by exact absurd c1 (by decide))) (fun _ => ?_)
  refine lv_aload B.hx B.hb dL_step_4 (lv_at hl 8 rfl) ?_
  refine lv_iconst (v := (nI 1)) B.hx B.hb dL_step_6 (by decide) ?_
  refine q_iald (f := (F 4)) B hP 4 rfl (j := 1) rfl (by decide) (by decide) dL_step_7 ?_
  refine q_top (v2 := .int (nI n)) (congrArg Value.int f41) ?_
  refine lv_if_ne (tgt := 87) B.hx B.hb dL_step_8 (by decide) (fun _ => ?_) (fun c2 => False.elim (by replace c2 := (nI_eq0 (by omega)).mp c2; omega))
  refine lv_iload_n B.hx B.hb dL_step_87 rfl (lv_at hl 2 rfl) ?_
  refine lv_aload B.hx B.hb dL_step_88 (lv_at hl 8 rfl) ?_
  refine lv_iconst (v := (nI 1)) B.hx B.hb dL_step_90 (by decide) ?_
  refine q_iald (f := (F 4)) B hP 4 rfl (j := 1) rfl (by decide) (by decide) dL_step_91 ?_
  refine q_top (v2 := .int (nI n)) (congrArg Value.int f41) ?_
  refine lv_irem B.hx B.hb dL_step_92 (fun h => absurd ((nI_eq0 (by omega)).mp h) (by omega)) ?_
  refine q_top (v2 := .int (nI (xx % n))) (congrArg Value.int (pk_rem (by omega) (by omega) (by omega))) ?_
  refine q_top (v2 := .int (nI j)) (congrArg Value.int (congrArg nI ej)) ?_
  refine lv_istore (lv' := [(12, .int (nI j)), (0, .ref b), (1, .int (nI 9)), (2, .int (nI xx)), (3, .int (nI yy)), (4, .ref (o 0)), (5, .ref (o 1)), (6, .ref (o 2)), (7, .ref (o 3)), (8, .ref (o 4)), (9, .ref (o 5)), (10, .ref (o 6)), (11, .ref (o 7))]) B.hx B.hb dL_step_93 hl (by decide) rfl (fun ls hl => ?_)
  refine lv_iload_n B.hx B.hb dL_step_95 rfl (lv_at hl 2 rfl) ?_
  refine lv_iconst (v := (nI 1)) B.hx B.hb dL_step_96 (by decide) ?_
  refine lv_icmp_ne (tgt := 163) B.hx B.hb dL_step_97 (by decide) (fun _ => ?_) (fun c3 => False.elim (by exact absurd c3 (by decide)))
  refine lv_iload_n B.hx B.hb dL_step_163 rfl (lv_at hl 2 rfl) ?_
  refine lv_iconst (v := (nI 2)) B.hx B.hb dL_step_164 (by decide) ?_
  refine lv_icmp_ne (tgt := 332) B.hx B.hb dL_step_165 (by decide) (fun _ => ?_) (fun c4 => False.elim (by exact absurd c4 (by decide)))
  refine lv_iload_n B.hx B.hb dL_step_332 rfl (lv_at hl 2 rfl) ?_
  refine lv_iconst (v := (nI 3)) B.hx B.hb dL_step_333 (by decide) ?_
  refine lv_icmp_ne (tgt := 372) B.hx B.hb dL_step_334 (by decide) (fun _ => ?_) (fun c5 => False.elim (by exact absurd c5 (by decide)))
  refine lv_iload_n B.hx B.hb dL_step_372 rfl (lv_at hl 2 rfl) ?_
  refine lv_bipush (v := (nI 6)) B.hx B.hb dL_step_373 (by decide) ?_
  refine lv_icmp_ge (tgt := 399) B.hx B.hb dL_step_375 (by decide) (fun _ => ?_) (fun c6 => False.elim (by exact absurd c6 (by decide)))
  refine lv_iload_n B.hx B.hb dL_step_399 rfl (lv_at hl 2 rfl) ?_
  refine lv_bipush (v := (nI 10)) B.hx B.hb dL_step_400 (by decide) ?_
  refine lv_icmp_ge (tgt := 463) B.hx B.hb dL_step_402 (by decide) (fun c7 => False.elim (by exact absurd c7 (by decide))) (fun _ => ?_)
  refine lv_aload_n B.hx B.hb dL_step_405 rfl (lv_at hl 1 rfl) ?_
  refine lv_iload_n B.hx B.hb dL_step_406 rfl (lv_at hl 2 rfl) ?_
  refine lv_bipush (v := (nI 8)) B.hx B.hb dL_step_407 (by decide) ?_
  refine lv_icmp_ge (tgt := 416) B.hx B.hb dL_step_409 (by decide) (fun _ => ?_) (fun c8 => False.elim (by exact absurd c8 (by decide)))
  refine lv_iload_n B.hx B.hb dL_step_416 rfl (lv_at hl 2 rfl) ?_
  refine lv_bipush (v := (nI 8)) B.hx B.hb dL_step_417 (by decide) ?_
  refine lv_icmp_ne (tgt := 426) B.hx B.hb dL_step_419 (by decide) (fun _ => ?_) (fun c9 => False.elim (by exact absurd c9 (by decide)))
  refine lv_iload_n B.hx B.hb dL_step_426 rfl (lv_at hl 4 rfl) ?_
  refine lv_iconst (v := (nI 3)) B.hx B.hb dL_step_427 (by decide) ?_
  refine lv_irem B.hx B.hb dL_step_428 (by decide) ?_
  refine q_top (v2 := .int (nI (yy % 3))) (congrArg Value.int (pk_rem (by omega) (by omega) (by omega))) ?_
  refine lv_if_ne (tgt := 440) B.hx B.hb dL_step_429 (by decide) (fun _ => ?_) (fun c10 => False.elim (by replace c10 := (nI_eq0 (by omega)).mp c10; exact hy3 c10))
  refine lv_iconst (v := (nI 3)) B.hx B.hb dL_step_440 (by decide) ?_
  refine lv_iload B.hx B.hb dL_step_441 (lv_at hl 0 rfl) ?_
  refine lv_iload_n B.hx B.hb dL_step_443 rfl (lv_at hl 3 rfl) ?_
  refine lv_bipush (v := (nI 8)) B.hx B.hb dL_step_444 (by decide) ?_
  refine lv_idiv B.hx B.hb dL_step_446 (by decide) ?_
  refine q_top (v2 := .int (nI (xx / 8))) (congrArg Value.int (pk_div (by omega) (by omega) (by omega))) ?_
  refine lv_iload_n B.hx B.hb dL_step_447 rfl (lv_at hl 4 rfl) ?_
  refine lv_bipush (v := (nI 6)) B.hx B.hb dL_step_448 (by decide) ?_
  refine lv_idiv B.hx B.hb dL_step_450 (by decide) ?_
  refine q_top (v2 := .int (nI (yy / 6))) (congrArg Value.int (pk_div (by omega) (by omega) (by omega))) ?_
  refine lv_aload B.hx B.hb dL_step_451 (lv_at hl 5 rfl) ?_
  refine lv_aload B.hx B.hb dL_step_453 (lv_at hl 10 rfl) ?_
  refine lv_aload B.hx B.hb dL_step_455 (lv_at hl 9 rfl) ?_
  refine lv_aload B.hx B.hb dL_step_457 (lv_at hl 12 rfl) ?_
  refine q_callS (As := [.ref b, .int (nI 3), .int (nI j), .int (nI (xx / 8)), .int (nI (yy / 6)), .ref (o 0), .ref (o 5), .ref (o 4), .ref (o 7)]) (rest := []) B hP hD hS cd (cwS 9 B.hts gL_step_L_drafts rfl rfl rfl (by decide +kernel) ⟨(Nat.le_of_ble_eq_true rfl), (Nat.le_of_ble_eq_true rfl)⟩) rfl hl.1 rfl (Nat.le_of_ble_eq_true rfl) dL_step_459 ⟨(Nat.le_of_ble_eq_true rfl), (Nat.le_of_ble_eq_true rfl)⟩ (fun E ce q9 H locs hx => False.elim hx) (fun v u H locs hp hP hD hS => ?_)
  obtain ⟨rfl, hK⟩ := hp
  have hP : va_P D vwCl u H := hP
  have hD : va_D A u := hD
  exact q_zret B hr hP hD hS (by decide) (u := u) rfl ⟨rfl, hK⟩ (Nat.le_of_ble_eq_true rfl) (Nat.le_of_ble_eq_true rfl) dL_step_462

set_option maxHeartbeats 4000000 in
set_option maxRecDepth 100000 in
theorem ls6 (l : Launch) (D : va_G) (cI cZ cP : ClassId) (o : Nat → Nat) (F : Nat → Nat → Int32) (wk : va_W) {q0 b : Nat} {fs : List Value} (hq : wk[q0]? = some (b, .inr (3, fs))) (xx yy : Nat) (hx : xx < 2 ^ 30) (hy : yy < 2 ^ 30) (n : Nat) (hn1 : 1 ≤ n) (hn8 : n ≤ 8) (f41 : F 4 1 = nI n) {Kp : va_W → Prop} (j : Nat) (ej : xx % n = j) (hj : j < 8) (wh : Nat) (h1 : 10 ≤ wh) (h2 : wh < 20) (cd : q_C l yL_goesOn wsL_goesOn ({ frames := 11, cells := 18, slots := 108, locals := 197 }) D cI cZ cP [.ref b, .int (nI j), .int (nI (xx / 8)), .int (nI yy), .ref (o 0), .ref (o 5), .ref (o 6), .ref (o 4)] (lw cI o F ++ wk) (S := va_W) (fun v u => v = some (.int (nI 1)) ∧ Kp u) (fun u => u) (fun _ => False) 18 108) : q_C l yL_step wsL_step ({ frames := 12, cells := 294, slots := 1764, locals := 231 }) D cI cZ cP [.ref b, .int (nI wh), .int (nI xx), .int (nI yy), .ref (o 0), .ref (o 1), .ref (o 2), .ref (o 3), .ref (o 4), .ref (o 5), .ref (o 6), .ref (o 7)] (lw cI o F ++ wk) (S := va_W) (fun v u => v = some (.int (nI 1)) ∧ Kp u) (fun u => u) (fun _ => False) 294 1764 := by
  refine q_of (cc := cL_step) (maxL := 16) (ret := (some .boolean)) (by decide +kernel) rfl (Nat.le_of_ble_eq_true rfl) ?_
  intro p e s m below meth c A ls B hr htb hmn hP hD hS hl
  have hl : lv_has ls 16 [(0, .ref b), (1, .int (nI wh)), (2, .int (nI xx)), (3, .int (nI yy)), (4, .ref (o 0)), (5, .ref (o 1)), (6, .ref (o 2)), (7, .ref (o 3)), (8, .ref (o 4)), (9, .ref (o 5)), (10, .ref (o 6)), (11, .ref (o 7))] := hl
  refine lv_iload_n B.hx B.hb dL_step_0 rfl (lv_at hl 1 rfl) ?_
  refine lv_if_eq (tgt := 11) B.hx B.hb dL_step_1 (by decide) (fun c1 => False.elim (by replace c1 := (nI_eq0 (by omega)).mp c1; omega)) (fun _ => ?_)
  refine lv_aload B.hx B.hb dL_step_4 (lv_at hl 8 rfl) ?_
  refine lv_iconst (v := (nI 1)) B.hx B.hb dL_step_6 (by decide) ?_
  refine q_iald (f := (F 4)) B hP 4 rfl (j := 1) rfl (by decide) (by decide) dL_step_7 ?_
  refine q_top (v2 := .int (nI n)) (congrArg Value.int f41) ?_
  refine lv_if_ne (tgt := 87) B.hx B.hb dL_step_8 (by decide) (fun _ => ?_) (fun c2 => False.elim (by replace c2 := (nI_eq0 (by omega)).mp c2; omega))
  refine lv_iload_n B.hx B.hb dL_step_87 rfl (lv_at hl 2 rfl) ?_
  refine lv_aload B.hx B.hb dL_step_88 (lv_at hl 8 rfl) ?_
  refine lv_iconst (v := (nI 1)) B.hx B.hb dL_step_90 (by decide) ?_
  refine q_iald (f := (F 4)) B hP 4 rfl (j := 1) rfl (by decide) (by decide) dL_step_91 ?_
  refine q_top (v2 := .int (nI n)) (congrArg Value.int f41) ?_
  refine lv_irem B.hx B.hb dL_step_92 (fun h => absurd ((nI_eq0 (by omega)).mp h) (by omega)) ?_
  refine q_top (v2 := .int (nI (xx % n))) (congrArg Value.int (pk_rem (by omega) (by omega) (by omega))) ?_
  refine q_top (v2 := .int (nI j)) (congrArg Value.int (congrArg nI ej)) ?_
  refine lv_istore (lv' := [(12, .int (nI j)), (0, .ref b), (1, .int (nI wh)), (2, .int (nI xx)), (3, .int (nI yy)), (4, .ref (o 0)), (5, .ref (o 1)), (6, .ref (o 2)), (7, .ref (o 3)), (8, .ref (o 4)), (9, .ref (o 5)), (10, .ref (o 6)), (11, .ref (o 7))]) B.hx B.hb dL_step_93 hl (by decide) rfl (fun ls hl => ?_)
  refine lv_iload_n B.hx B.hb dL_step_95 rfl (lv_at hl 2 rfl) ?_
  refine lv_iconst (v := (nI 1)) B.hx B.hb dL_step_96 (by decide) ?_
  refine lv_icmp_ne (tgt := 163) B.hx B.hb dL_step_97 (by decide) (fun _ => ?_) (fun c3 => False.elim (by replace c3 := (nI_eq (by omega) (by omega)).mp c3; omega))
  refine lv_iload_n B.hx B.hb dL_step_163 rfl (lv_at hl 2 rfl) ?_
  refine lv_iconst (v := (nI 2)) B.hx B.hb dL_step_164 (by decide) ?_
  refine lv_icmp_ne (tgt := 332) B.hx B.hb dL_step_165 (by decide) (fun _ => ?_) (fun c4 => False.elim (by replace c4 := (nI_eq (by omega) (by omega)).mp c4; omega))
  refine lv_iload_n B.hx B.hb dL_step_332 rfl (lv_at hl 2 rfl) ?_
  refine lv_iconst (v := (nI 3)) B.hx B.hb dL_step_333 (by decide) ?_
  refine lv_icmp_ne (tgt := 372) B.hx B.hb dL_step_334 (by decide) (fun _ => ?_) (fun c5 => False.elim (by replace c5 := (nI_eq (by omega) (by omega)).mp c5; omega))
  refine lv_iload_n B.hx B.hb dL_step_372 rfl (lv_at hl 2 rfl) ?_
  refine lv_bipush (v := (nI 6)) B.hx B.hb dL_step_373 (by decide) ?_
  refine lv_icmp_ge (tgt := 399) B.hx B.hb dL_step_375 (by decide) (fun _ => ?_) (fun c6 => False.elim (by replace c6 := mt (nI_leI (by omega) (by omega)).mpr c6; omega))
  refine lv_iload_n B.hx B.hb dL_step_399 rfl (lv_at hl 2 rfl) ?_
  refine lv_bipush (v := (nI 10)) B.hx B.hb dL_step_400 (by decide) ?_
  refine lv_icmp_ge (tgt := 463) B.hx B.hb dL_step_402 (by decide) (fun _ => ?_) (fun c7 => False.elim (by replace c7 := mt (nI_leI (by omega) (by omega)).mpr c7; omega))
  refine lv_iload_n B.hx B.hb dL_step_463 rfl (lv_at hl 2 rfl) ?_
  refine lv_bipush (v := (nI 20)) B.hx B.hb dL_step_464 (by decide) ?_
  refine lv_icmp_ge (tgt := 489) B.hx B.hb dL_step_466 (by decide) (fun c8 => False.elim (by replace c8 := (nI_leI (by omega) (by omega)).mp c8; omega)) (fun _ => ?_)
  refine lv_aload_n B.hx B.hb dL_step_469 rfl (lv_at hl 1 rfl) ?_
  refine lv_iload B.hx B.hb dL_step_470 (lv_at hl 0 rfl) ?_
  refine lv_iload_n B.hx B.hb dL_step_472 rfl (lv_at hl 3 rfl) ?_
  refine lv_bipush (v := (nI 8)) B.hx B.hb dL_step_473 (by decide) ?_
  refine lv_idiv B.hx B.hb dL_step_475 (by decide) ?_
  refine q_top (v2 := .int (nI (xx / 8))) (congrArg Value.int (pk_div (by omega) (by omega) (by omega))) ?_
  refine lv_iload_n B.hx B.hb dL_step_476 rfl (lv_at hl 4 rfl) ?_
  refine lv_aload B.hx B.hb dL_step_477 (lv_at hl 5 rfl) ?_
  refine lv_aload B.hx B.hb dL_step_479 (lv_at hl 10 rfl) ?_
  refine lv_aload B.hx B.hb dL_step_481 (lv_at hl 11 rfl) ?_
  refine lv_aload B.hx B.hb dL_step_483 (lv_at hl 9 rfl) ?_
  refine q_callS (As := [.ref b, .int (nI j), .int (nI (xx / 8)), .int (nI yy), .ref (o 0), .ref (o 5), .ref (o 6), .ref (o 4)]) (rest := []) B hP hD hS cd (cwS 8 B.hts gL_step_L_goesOn rfl rfl rfl (by decide +kernel) ⟨(Nat.le_of_ble_eq_true rfl), (Nat.le_of_ble_eq_true rfl)⟩) rfl hl.1 rfl (Nat.le_of_ble_eq_true rfl) dL_step_485 ⟨(Nat.le_of_ble_eq_true rfl), (Nat.le_of_ble_eq_true rfl)⟩ (fun E ce q9 H locs hx => False.elim hx) (fun v u H locs hp hP hD hS => ?_)
  obtain ⟨rfl, hK⟩ := hp
  have hP : va_P D vwCl u H := hP
  have hD : va_D A u := hD
  exact q_zret B hr hP hD hS (by decide) (u := u) rfl ⟨rfl, hK⟩ (Nat.le_of_ble_eq_true rfl) (Nat.le_of_ble_eq_true rfl) dL_step_488

set_option maxHeartbeats 4000000 in
set_option maxRecDepth 100000 in
theorem ls7a (l : Launch) (D : va_G) (cI cZ cP : ClassId) (o : Nat → Nat) (F : Nat → Nat → Int32) (wk : va_W) {q0 b : Nat} {fs : List Value} (hq : wk[q0]? = some (b, .inr (3, fs))) (xx yy : Nat) (hx : xx < 2 ^ 30) (hy : yy < 2 ^ 30) (n : Nat) (hn1 : 1 ≤ n) (hn8 : n ≤ 8) (f41 : F 4 1 = nI n) {Kp : va_W → Prop} (j : Nat) (ej : xx % n = j) (hj : j < 8) (wh : Nat) (h1 : 20 ≤ wh) (h2 : wh < 22) (hy4 : yy % 4 = 0) (cd : q_C l yL_copies wsL_copies ({ frames := 9, cells := 3, slots := 18, locals := 152 }) D cI cZ cP [.ref b, .int (nI 1), .int (nI j), .int (nI (yy / 4)), .ref (o 0), .ref (o 4), .ref (o 3)] (lw cI o F ++ wk) (S := va_W) (fun v u => v = some (.int (nI 1)) ∧ Kp u) (fun u => u) (fun _ => False) 3 18) : q_C l yL_step wsL_step ({ frames := 12, cells := 294, slots := 1764, locals := 231 }) D cI cZ cP [.ref b, .int (nI wh), .int (nI xx), .int (nI yy), .ref (o 0), .ref (o 1), .ref (o 2), .ref (o 3), .ref (o 4), .ref (o 5), .ref (o 6), .ref (o 7)] (lw cI o F ++ wk) (S := va_W) (fun v u => v = some (.int (nI 1)) ∧ Kp u) (fun u => u) (fun _ => False) 294 1764 := by
  refine q_of (cc := cL_step) (maxL := 16) (ret := (some .boolean)) (by decide +kernel) rfl (Nat.le_of_ble_eq_true rfl) ?_
  intro p e s m below meth c A ls B hr htb hmn hP hD hS hl
  have hl : lv_has ls 16 [(0, .ref b), (1, .int (nI wh)), (2, .int (nI xx)), (3, .int (nI yy)), (4, .ref (o 0)), (5, .ref (o 1)), (6, .ref (o 2)), (7, .ref (o 3)), (8, .ref (o 4)), (9, .ref (o 5)), (10, .ref (o 6)), (11, .ref (o 7))] := hl
  refine lv_iload_n B.hx B.hb dL_step_0 rfl (lv_at hl 1 rfl) ?_
  refine lv_if_eq (tgt := 11) B.hx B.hb dL_step_1 (by decide) (fun c1 => False.elim (by replace c1 := (nI_eq0 (by omega)).mp c1; omega)) (fun _ => ?_)
  refine lv_aload B.hx B.hb dL_step_4 (lv_at hl 8 rfl) ?_
  refine lv_iconst (v := (nI 1)) B.hx B.hb dL_step_6 (by decide) ?_
  refine q_iald (f := (F 4)) B hP 4 rfl (j := 1) rfl (by decide) (by decide) dL_step_7 ?_
  refine q_top (v2 := .int (nI n)) (congrArg Value.int f41) ?_
  refine lv_if_ne (tgt := 87) B.hx B.hb dL_step_8 (by decide) (fun _ => ?_) (fun c2 => False.elim (by replace c2 := (nI_eq0 (by omega)).mp c2; omega))
  refine lv_iload_n B.hx B.hb dL_step_87 rfl (lv_at hl 2 rfl) ?_
  refine lv_aload B.hx B.hb dL_step_88 (lv_at hl 8 rfl) ?_
  refine lv_iconst (v := (nI 1)) B.hx B.hb dL_step_90 (by decide) ?_
  refine q_iald (f := (F 4)) B hP 4 rfl (j := 1) rfl (by decide) (by decide) dL_step_91 ?_
  refine q_top (v2 := .int (nI n)) (congrArg Value.int f41) ?_
  refine lv_irem B.hx B.hb dL_step_92 (fun h => absurd ((nI_eq0 (by omega)).mp h) (by omega)) ?_
  refine q_top (v2 := .int (nI (xx % n))) (congrArg Value.int (pk_rem (by omega) (by omega) (by omega))) ?_
  refine q_top (v2 := .int (nI j)) (congrArg Value.int (congrArg nI ej)) ?_
  refine lv_istore (lv' := [(12, .int (nI j)), (0, .ref b), (1, .int (nI wh)), (2, .int (nI xx)), (3, .int (nI yy)), (4, .ref (o 0)), (5, .ref (o 1)), (6, .ref (o 2)), (7, .ref (o 3)), (8, .ref (o 4)), (9, .ref (o 5)), (10, .ref (o 6)), (11, .ref (o 7))]) B.hx B.hb dL_step_93 hl (by decide) rfl (fun ls hl => ?_)
  refine lv_iload_n B.hx B.hb dL_step_95 rfl (lv_at hl 2 rfl) ?_
  refine lv_iconst (v := (nI 1)) B.hx B.hb dL_step_96 (by decide) ?_
  refine lv_icmp_ne (tgt := 163) B.hx B.hb dL_step_97 (by decide) (fun _ => ?_) (fun c3 => False.elim (by replace c3 := (nI_eq (by omega) (by omega)).mp c3; omega))
  refine lv_iload_n B.hx B.hb dL_step_163 rfl (lv_at hl 2 rfl) ?_
  refine lv_iconst (v := (nI 2)) B.hx B.hb dL_step_164 (by decide) ?_
  refine lv_icmp_ne (tgt := 332) B.hx B.hb dL_step_165 (by decide) (fun _ => ?_) (fun c4 => False.elim (by replace c4 := (nI_eq (by omega) (by omega)).mp c4; omega))
  refine lv_iload_n B.hx B.hb dL_step_332 rfl (lv_at hl 2 rfl) ?_
  refine lv_iconst (v := (nI 3)) B.hx B.hb dL_step_333 (by decide) ?_
  refine lv_icmp_ne (tgt := 372) B.hx B.hb dL_step_334 (by decide) (fun _ => ?_) (fun c5 => False.elim (by replace c5 := (nI_eq (by omega) (by omega)).mp c5; omega))
  refine lv_iload_n B.hx B.hb dL_step_372 rfl (lv_at hl 2 rfl) ?_
  refine lv_bipush (v := (nI 6)) B.hx B.hb dL_step_373 (by decide) ?_
  refine lv_icmp_ge (tgt := 399) B.hx B.hb dL_step_375 (by decide) (fun _ => ?_) (fun c6 => False.elim (by replace c6 := mt (nI_leI (by omega) (by omega)).mpr c6; omega))
  refine lv_iload_n B.hx B.hb dL_step_399 rfl (lv_at hl 2 rfl) ?_
  refine lv_bipush (v := (nI 10)) B.hx B.hb dL_step_400 (by decide) ?_
  refine lv_icmp_ge (tgt := 463) B.hx B.hb dL_step_402 (by decide) (fun _ => ?_) (fun c7 => False.elim (by replace c7 := mt (nI_leI (by omega) (by omega)).mpr c7; omega))
  refine lv_iload_n B.hx B.hb dL_step_463 rfl (lv_at hl 2 rfl) ?_
  refine lv_bipush (v := (nI 20)) B.hx B.hb dL_step_464 (by decide) ?_
  refine lv_icmp_ge (tgt := 489) B.hx B.hb dL_step_466 (by decide) (fun _ => ?_) (fun c8 => False.elim (by replace c8 := mt (nI_leI (by omega) (by omega)).mpr c8; omega))
  refine lv_iload_n B.hx B.hb dL_step_489 rfl (lv_at hl 2 rfl) ?_
  refine lv_bipush (v := (nI 22)) B.hx B.hb dL_step_490 (by decide) ?_
  refine lv_icmp_ge (tgt := 533) B.hx B.hb dL_step_492 (by decide) (fun c9 => False.elim (by replace c9 := (nI_leI (by omega) (by omega)).mp c9; omega)) (fun _ => ?_)
  refine lv_aload_n B.hx B.hb dL_step_495 rfl (lv_at hl 1 rfl) ?_
  refine lv_iload_n B.hx B.hb dL_step_496 rfl (lv_at hl 4 rfl) ?_
  refine lv_iconst (v := (nI 4)) B.hx B.hb dL_step_497 (by decide) ?_
  refine lv_irem B.hx B.hb dL_step_498 (by decide) ?_
  refine q_top (v2 := .int (nI (yy % 4))) (congrArg Value.int (pk_rem (by omega) (by omega) (by omega))) ?_
  refine lv_if_ne (tgt := 506) B.hx B.hb dL_step_499 (by decide) (fun c10 => False.elim (by replace c10 := mt (nI_eq0 (by omega)).mpr c10; exact c10 hy4)) (fun _ => ?_)
  refine lv_iconst (v := (nI 1)) B.hx B.hb dL_step_502 (by decide) ?_
  refine lv_goto (tgt := 518) B.hx B.hb dL_step_503 (by decide) ?_
  refine lv_iload B.hx B.hb dL_step_518 (lv_at hl 0 rfl) ?_
  refine lv_iload_n B.hx B.hb dL_step_520 rfl (lv_at hl 4 rfl) ?_
  refine lv_iconst (v := (nI 4)) B.hx B.hb dL_step_521 (by decide) ?_
  refine lv_idiv B.hx B.hb dL_step_522 (by decide) ?_
  refine q_top (v2 := .int (nI (yy / 4))) (congrArg Value.int (pk_div (by omega) (by omega) (by omega))) ?_
  refine lv_aload B.hx B.hb dL_step_523 (lv_at hl 5 rfl) ?_
  refine lv_aload B.hx B.hb dL_step_525 (lv_at hl 9 rfl) ?_
  refine lv_aload B.hx B.hb dL_step_527 (lv_at hl 8 rfl) ?_
  refine q_callS (As := [.ref b, .int (nI 1), .int (nI j), .int (nI (yy / 4)), .ref (o 0), .ref (o 4), .ref (o 3)]) (rest := []) B hP hD hS cd (cwS 7 B.hts gL_step_L_copies rfl rfl rfl (by decide +kernel) ⟨(Nat.le_of_ble_eq_true rfl), (Nat.le_of_ble_eq_true rfl)⟩) rfl hl.1 rfl (Nat.le_of_ble_eq_true rfl) dL_step_529 ⟨(Nat.le_of_ble_eq_true rfl), (Nat.le_of_ble_eq_true rfl)⟩ (fun E ce q9 H locs hx => False.elim hx) (fun v u H locs hp hP hD hS => ?_)
  obtain ⟨rfl, hK⟩ := hp
  have hP : va_P D vwCl u H := hP
  have hD : va_D A u := hD
  exact q_zret B hr hP hD hS (by decide) (u := u) rfl ⟨rfl, hK⟩ (Nat.le_of_ble_eq_true rfl) (Nat.le_of_ble_eq_true rfl) dL_step_532

set_option maxHeartbeats 4000000 in
set_option maxRecDepth 100000 in
theorem ls7b (l : Launch) (D : va_G) (cI cZ cP : ClassId) (o : Nat → Nat) (F : Nat → Nat → Int32) (wk : va_W) {q0 b : Nat} {fs : List Value} (hq : wk[q0]? = some (b, .inr (3, fs))) (xx yy : Nat) (hx : xx < 2 ^ 30) (hy : yy < 2 ^ 30) (n : Nat) (hn1 : 1 ≤ n) (hn8 : n ≤ 8) (f41 : F 4 1 = nI n) {Kp : va_W → Prop} (j : Nat) (ej : xx % n = j) (hj : j < 8) (wh : Nat) (h1 : 20 ≤ wh) (h2 : wh < 22) (hy4 : yy % 4 = 1) (cd : q_C l yL_copies wsL_copies ({ frames := 9, cells := 3, slots := 18, locals := 152 }) D cI cZ cP [.ref b, .int (nI 2), .int (nI j), .int (nI (yy / 4)), .ref (o 0), .ref (o 4), .ref (o 3)] (lw cI o F ++ wk) (S := va_W) (fun v u => v = some (.int (nI 1)) ∧ Kp u) (fun u => u) (fun _ => False) 3 18) : q_C l yL_step wsL_step ({ frames := 12, cells := 294, slots := 1764, locals := 231 }) D cI cZ cP [.ref b, .int (nI wh), .int (nI xx), .int (nI yy), .ref (o 0), .ref (o 1), .ref (o 2), .ref (o 3), .ref (o 4), .ref (o 5), .ref (o 6), .ref (o 7)] (lw cI o F ++ wk) (S := va_W) (fun v u => v = some (.int (nI 1)) ∧ Kp u) (fun u => u) (fun _ => False) 294 1764 := by
  refine q_of (cc := cL_step) (maxL := 16) (ret := (some .boolean)) (by decide +kernel) rfl (Nat.le_of_ble_eq_true rfl) ?_
  intro p e s m below meth c A ls B hr htb hmn hP hD hS hl
  have hl : lv_has ls 16 [(0, .ref b), (1, .int (nI wh)), (2, .int (nI xx)), (3, .int (nI yy)), (4, .ref (o 0)), (5, .ref (o 1)), (6, .ref (o 2)), (7, .ref (o 3)), (8, .ref (o 4)), (9, .ref (o 5)), (10, .ref (o 6)), (11, .ref (o 7))] := hl
  refine lv_iload_n B.hx B.hb dL_step_0 rfl (lv_at hl 1 rfl) ?_
  refine lv_if_eq (tgt := 11) B.hx B.hb dL_step_1 (by decide) (fun c1 => False.elim (by replace c1 := (nI_eq0 (by omega)).mp c1; omega)) (fun _ => ?_)
  refine lv_aload B.hx B.hb dL_step_4 (lv_at hl 8 rfl) ?_
  refine lv_iconst (v := (nI 1)) B.hx B.hb dL_step_6 (by decide) ?_
  refine q_iald (f := (F 4)) B hP 4 rfl (j := 1) rfl (by decide) (by decide) dL_step_7 ?_
  refine q_top (v2 := .int (nI n)) (congrArg Value.int f41) ?_
  refine lv_if_ne (tgt := 87) B.hx B.hb dL_step_8 (by decide) (fun _ => ?_) (fun c2 => False.elim (by replace c2 := (nI_eq0 (by omega)).mp c2; omega))
  refine lv_iload_n B.hx B.hb dL_step_87 rfl (lv_at hl 2 rfl) ?_
  refine lv_aload B.hx B.hb dL_step_88 (lv_at hl 8 rfl) ?_
  refine lv_iconst (v := (nI 1)) B.hx B.hb dL_step_90 (by decide) ?_
  refine q_iald (f := (F 4)) B hP 4 rfl (j := 1) rfl (by decide) (by decide) dL_step_91 ?_
  refine q_top (v2 := .int (nI n)) (congrArg Value.int f41) ?_
  refine lv_irem B.hx B.hb dL_step_92 (fun h => absurd ((nI_eq0 (by omega)).mp h) (by omega)) ?_
  refine q_top (v2 := .int (nI (xx % n))) (congrArg Value.int (pk_rem (by omega) (by omega) (by omega))) ?_
  refine q_top (v2 := .int (nI j)) (congrArg Value.int (congrArg nI ej)) ?_
  refine lv_istore (lv' := [(12, .int (nI j)), (0, .ref b), (1, .int (nI wh)), (2, .int (nI xx)), (3, .int (nI yy)), (4, .ref (o 0)), (5, .ref (o 1)), (6, .ref (o 2)), (7, .ref (o 3)), (8, .ref (o 4)), (9, .ref (o 5)), (10, .ref (o 6)), (11, .ref (o 7))]) B.hx B.hb dL_step_93 hl (by decide) rfl (fun ls hl => ?_)
  refine lv_iload_n B.hx B.hb dL_step_95 rfl (lv_at hl 2 rfl) ?_
  refine lv_iconst (v := (nI 1)) B.hx B.hb dL_step_96 (by decide) ?_
  refine lv_icmp_ne (tgt := 163) B.hx B.hb dL_step_97 (by decide) (fun _ => ?_) (fun c3 => False.elim (by replace c3 := (nI_eq (by omega) (by omega)).mp c3; omega))
  refine lv_iload_n B.hx B.hb dL_step_163 rfl (lv_at hl 2 rfl) ?_
  refine lv_iconst (v := (nI 2)) B.hx B.hb dL_step_164 (by decide) ?_
  refine lv_icmp_ne (tgt := 332) B.hx B.hb dL_step_165 (by decide) (fun _ => ?_) (fun c4 => False.elim (by replace c4 := (nI_eq (by omega) (by omega)).mp c4; omega))
  refine lv_iload_n B.hx B.hb dL_step_332 rfl (lv_at hl 2 rfl) ?_
  refine lv_iconst (v := (nI 3)) B.hx B.hb dL_step_333 (by decide) ?_
  refine lv_icmp_ne (tgt := 372) B.hx B.hb dL_step_334 (by decide) (fun _ => ?_) (fun c5 => False.elim (by replace c5 := (nI_eq (by omega) (by omega)).mp c5; omega))
  refine lv_iload_n B.hx B.hb dL_step_372 rfl (lv_at hl 2 rfl) ?_
  refine lv_bipush (v := (nI 6)) B.hx B.hb dL_step_373 (by decide) ?_
  refine lv_icmp_ge (tgt := 399) B.hx B.hb dL_step_375 (by decide) (fun _ => ?_) (fun c6 => False.elim (by replace c6 := mt (nI_leI (by omega) (by omega)).mpr c6; omega))
  refine lv_iload_n B.hx B.hb dL_step_399 rfl (lv_at hl 2 rfl) ?_
  refine lv_bipush (v := (nI 10)) B.hx B.hb dL_step_400 (by decide) ?_
  refine lv_icmp_ge (tgt := 463) B.hx B.hb dL_step_402 (by decide) (fun _ => ?_) (fun c7 => False.elim (by replace c7 := mt (nI_leI (by omega) (by omega)).mpr c7; omega))
  refine lv_iload_n B.hx B.hb dL_step_463 rfl (lv_at hl 2 rfl) ?_
  refine lv_bipush (v := (nI 20)) B.hx B.hb dL_step_464 (by decide) ?_
  refine lv_icmp_ge (tgt := 489) B.hx B.hb dL_step_466 (by decide) (fun _ => ?_) (fun c8 => False.elim (by replace c8 := mt (nI_leI (by omega) (by omega)).mpr c8; omega))
  refine lv_iload_n B.hx B.hb dL_step_489 rfl (lv_at hl 2 rfl) ?_
  refine lv_bipush (v := (nI 22)) B.hx B.hb dL_step_490 (by decide) ?_
  refine lv_icmp_ge (tgt := 533) B.hx B.hb dL_step_492 (by decide) (fun c9 => False.elim (by replace c9 := (nI_leI (by omega) (by omega)).mp c9; omega)) (fun _ => ?_)
  refine lv_aload_n B.hx B.hb dL_step_495 rfl (lv_at hl 1 rfl) ?_
  refine lv_iload_n B.hx B.hb dL_step_496 rfl (lv_at hl 4 rfl) ?_
  refine lv_iconst (v := (nI 4)) B.hx B.hb dL_step_497 (by decide) ?_
  refine lv_irem B.hx B.hb dL_step_498 (by decide) ?_
  refine q_top (v2 := .int (nI (yy % 4))) (congrArg Value.int (pk_rem (by omega) (by omega) (by omega))) ?_
  refine lv_if_ne (tgt := 506) B.hx B.hb dL_step_499 (by decide) (fun _ => ?_) (fun c10 => False.elim (by replace c10 := (nI_eq0 (by omega)).mp c10; omega))
  refine lv_iload_n B.hx B.hb dL_step_506 rfl (lv_at hl 4 rfl) ?_
  refine lv_iconst (v := (nI 4)) B.hx B.hb dL_step_507 (by decide) ?_
  refine lv_irem B.hx B.hb dL_step_508 (by decide) ?_
  refine q_top (v2 := .int (nI (yy % 4))) (congrArg Value.int (pk_rem (by omega) (by omega) (by omega))) ?_
  refine lv_iconst (v := (nI 1)) B.hx B.hb dL_step_509 (by decide) ?_
  refine lv_icmp_ne (tgt := 517) B.hx B.hb dL_step_510 (by decide) (fun c11 => False.elim (by replace c11 := mt (nI_eq (by omega) (by omega)).mpr c11; omega)) (fun _ => ?_)
  refine lv_iconst (v := (nI 2)) B.hx B.hb dL_step_513 (by decide) ?_
  refine lv_goto (tgt := 518) B.hx B.hb dL_step_514 (by decide) ?_
  refine lv_iload B.hx B.hb dL_step_518 (lv_at hl 0 rfl) ?_
  refine lv_iload_n B.hx B.hb dL_step_520 rfl (lv_at hl 4 rfl) ?_
  refine lv_iconst (v := (nI 4)) B.hx B.hb dL_step_521 (by decide) ?_
  refine lv_idiv B.hx B.hb dL_step_522 (by decide) ?_
  refine q_top (v2 := .int (nI (yy / 4))) (congrArg Value.int (pk_div (by omega) (by omega) (by omega))) ?_
  refine lv_aload B.hx B.hb dL_step_523 (lv_at hl 5 rfl) ?_
  refine lv_aload B.hx B.hb dL_step_525 (lv_at hl 9 rfl) ?_
  refine lv_aload B.hx B.hb dL_step_527 (lv_at hl 8 rfl) ?_
  refine q_callS (As := [.ref b, .int (nI 2), .int (nI j), .int (nI (yy / 4)), .ref (o 0), .ref (o 4), .ref (o 3)]) (rest := []) B hP hD hS cd (cwS 7 B.hts gL_step_L_copies rfl rfl rfl (by decide +kernel) ⟨(Nat.le_of_ble_eq_true rfl), (Nat.le_of_ble_eq_true rfl)⟩) rfl hl.1 rfl (Nat.le_of_ble_eq_true rfl) dL_step_529 ⟨(Nat.le_of_ble_eq_true rfl), (Nat.le_of_ble_eq_true rfl)⟩ (fun E ce q9 H locs hx => False.elim hx) (fun v u H locs hp hP hD hS => ?_)
  obtain ⟨rfl, hK⟩ := hp
  have hP : va_P D vwCl u H := hP
  have hD : va_D A u := hD
  exact q_zret B hr hP hD hS (by decide) (u := u) rfl ⟨rfl, hK⟩ (Nat.le_of_ble_eq_true rfl) (Nat.le_of_ble_eq_true rfl) dL_step_532

set_option maxHeartbeats 4000000 in
set_option maxRecDepth 100000 in
theorem ls7c (l : Launch) (D : va_G) (cI cZ cP : ClassId) (o : Nat → Nat) (F : Nat → Nat → Int32) (wk : va_W) {q0 b : Nat} {fs : List Value} (hq : wk[q0]? = some (b, .inr (3, fs))) (xx yy : Nat) (hx : xx < 2 ^ 30) (hy : yy < 2 ^ 30) (n : Nat) (hn1 : 1 ≤ n) (hn8 : n ≤ 8) (f41 : F 4 1 = nI n) {Kp : va_W → Prop} (j : Nat) (ej : xx % n = j) (hj : j < 8) (wh : Nat) (h1 : 20 ≤ wh) (h2 : wh < 22) (hy4 : 2 ≤ yy % 4) (cd : q_C l yL_copies wsL_copies ({ frames := 9, cells := 3, slots := 18, locals := 152 }) D cI cZ cP [.ref b, .int (nI 0), .int (nI j), .int (nI (yy / 4)), .ref (o 0), .ref (o 4), .ref (o 3)] (lw cI o F ++ wk) (S := va_W) (fun v u => v = some (.int (nI 1)) ∧ Kp u) (fun u => u) (fun _ => False) 3 18) : q_C l yL_step wsL_step ({ frames := 12, cells := 294, slots := 1764, locals := 231 }) D cI cZ cP [.ref b, .int (nI wh), .int (nI xx), .int (nI yy), .ref (o 0), .ref (o 1), .ref (o 2), .ref (o 3), .ref (o 4), .ref (o 5), .ref (o 6), .ref (o 7)] (lw cI o F ++ wk) (S := va_W) (fun v u => v = some (.int (nI 1)) ∧ Kp u) (fun u => u) (fun _ => False) 294 1764 := by
  refine q_of (cc := cL_step) (maxL := 16) (ret := (some .boolean)) (by decide +kernel) rfl (Nat.le_of_ble_eq_true rfl) ?_
  intro p e s m below meth c A ls B hr htb hmn hP hD hS hl
  have hl : lv_has ls 16 [(0, .ref b), (1, .int (nI wh)), (2, .int (nI xx)), (3, .int (nI yy)), (4, .ref (o 0)), (5, .ref (o 1)), (6, .ref (o 2)), (7, .ref (o 3)), (8, .ref (o 4)), (9, .ref (o 5)), (10, .ref (o 6)), (11, .ref (o 7))] := hl
  refine lv_iload_n B.hx B.hb dL_step_0 rfl (lv_at hl 1 rfl) ?_
  refine lv_if_eq (tgt := 11) B.hx B.hb dL_step_1 (by decide) (fun c1 => False.elim (by replace c1 := (nI_eq0 (by omega)).mp c1; omega)) (fun _ => ?_)
  refine lv_aload B.hx B.hb dL_step_4 (lv_at hl 8 rfl) ?_
  refine lv_iconst (v := (nI 1)) B.hx B.hb dL_step_6 (by decide) ?_
  refine q_iald (f := (F 4)) B hP 4 rfl (j := 1) rfl (by decide) (by decide) dL_step_7 ?_
  refine q_top (v2 := .int (nI n)) (congrArg Value.int f41) ?_
  refine lv_if_ne (tgt := 87) B.hx B.hb dL_step_8 (by decide) (fun _ => ?_) (fun c2 => False.elim (by replace c2 := (nI_eq0 (by omega)).mp c2; omega))
  refine lv_iload_n B.hx B.hb dL_step_87 rfl (lv_at hl 2 rfl) ?_
  refine lv_aload B.hx B.hb dL_step_88 (lv_at hl 8 rfl) ?_
  refine lv_iconst (v := (nI 1)) B.hx B.hb dL_step_90 (by decide) ?_
  refine q_iald (f := (F 4)) B hP 4 rfl (j := 1) rfl (by decide) (by decide) dL_step_91 ?_
  refine q_top (v2 := .int (nI n)) (congrArg Value.int f41) ?_
  refine lv_irem B.hx B.hb dL_step_92 (fun h => absurd ((nI_eq0 (by omega)).mp h) (by omega)) ?_
  refine q_top (v2 := .int (nI (xx % n))) (congrArg Value.int (pk_rem (by omega) (by omega) (by omega))) ?_
  refine q_top (v2 := .int (nI j)) (congrArg Value.int (congrArg nI ej)) ?_
  refine lv_istore (lv' := [(12, .int (nI j)), (0, .ref b), (1, .int (nI wh)), (2, .int (nI xx)), (3, .int (nI yy)), (4, .ref (o 0)), (5, .ref (o 1)), (6, .ref (o 2)), (7, .ref (o 3)), (8, .ref (o 4)), (9, .ref (o 5)), (10, .ref (o 6)), (11, .ref (o 7))]) B.hx B.hb dL_step_93 hl (by decide) rfl (fun ls hl => ?_)
  refine lv_iload_n B.hx B.hb dL_step_95 rfl (lv_at hl 2 rfl) ?_
  refine lv_iconst (v := (nI 1)) B.hx B.hb dL_step_96 (by decide) ?_
  refine lv_icmp_ne (tgt := 163) B.hx B.hb dL_step_97 (by decide) (fun _ => ?_) (fun c3 => False.elim (by replace c3 := (nI_eq (by omega) (by omega)).mp c3; omega))
  refine lv_iload_n B.hx B.hb dL_step_163 rfl (lv_at hl 2 rfl) ?_
  refine lv_iconst (v := (nI 2)) B.hx B.hb dL_step_164 (by decide) ?_
  refine lv_icmp_ne (tgt := 332) B.hx B.hb dL_step_165 (by decide) (fun _ => ?_) (fun c4 => False.elim (by replace c4 := (nI_eq (by omega) (by omega)).mp c4; omega))
  refine lv_iload_n B.hx B.hb dL_step_332 rfl (lv_at hl 2 rfl) ?_
  refine lv_iconst (v := (nI 3)) B.hx B.hb dL_step_333 (by decide) ?_
  refine lv_icmp_ne (tgt := 372) B.hx B.hb dL_step_334 (by decide) (fun _ => ?_) (fun c5 => False.elim (by replace c5 := (nI_eq (by omega) (by omega)).mp c5; omega))
  refine lv_iload_n B.hx B.hb dL_step_372 rfl (lv_at hl 2 rfl) ?_
  refine lv_bipush (v := (nI 6)) B.hx B.hb dL_step_373 (by decide) ?_
  refine lv_icmp_ge (tgt := 399) B.hx B.hb dL_step_375 (by decide) (fun _ => ?_) (fun c6 => False.elim (by replace c6 := mt (nI_leI (by omega) (by omega)).mpr c6; omega))
  refine lv_iload_n B.hx B.hb dL_step_399 rfl (lv_at hl 2 rfl) ?_
  refine lv_bipush (v := (nI 10)) B.hx B.hb dL_step_400 (by decide) ?_
  refine lv_icmp_ge (tgt := 463) B.hx B.hb dL_step_402 (by decide) (fun _ => ?_) (fun c7 => False.elim (by replace c7 := mt (nI_leI (by omega) (by omega)).mpr c7; omega))
  refine lv_iload_n B.hx B.hb dL_step_463 rfl (lv_at hl 2 rfl) ?_
  refine lv_bipush (v := (nI 20)) B.hx B.hb dL_step_464 (by decide) ?_
  refine lv_icmp_ge (tgt := 489) B.hx B.hb dL_step_466 (by decide) (fun _ => ?_) (fun c8 => False.elim (by replace c8 := mt (nI_leI (by omega) (by omega)).mpr c8; omega))
  refine lv_iload_n B.hx B.hb dL_step_489 rfl (lv_at hl 2 rfl) ?_
  refine lv_bipush (v := (nI 22)) B.hx B.hb dL_step_490 (by decide) ?_
  refine lv_icmp_ge (tgt := 533) B.hx B.hb dL_step_492 (by decide) (fun c9 => False.elim (by replace c9 := (nI_leI (by omega) (by omega)).mp c9; omega)) (fun _ => ?_)
  refine lv_aload_n B.hx B.hb dL_step_495 rfl (lv_at hl 1 rfl) ?_
  refine lv_iload_n B.hx B.hb dL_step_496 rfl (lv_at hl 4 rfl) ?_
  refine lv_iconst (v := (nI 4)) B.hx B.hb dL_step_497 (by decide) ?_
  refine lv_irem B.hx B.hb dL_step_498 (by decide) ?_
  refine q_top (v2 := .int (nI (yy % 4))) (congrArg Value.int (pk_rem (by omega) (by omega) (by omega))) ?_
  refine lv_if_ne (tgt := 506) B.hx B.hb dL_step_499 (by decide) (fun _ => ?_) (fun c10 => False.elim (by replace c10 := (nI_eq0 (by omega)).mp c10; omega))
  refine lv_iload_n B.hx B.hb dL_step_506 rfl (lv_at hl 4 rfl) ?_
  refine lv_iconst (v := (nI 4)) B.hx B.hb dL_step_507 (by decide) ?_
  refine lv_irem B.hx B.hb dL_step_508 (by decide) ?_
  refine q_top (v2 := .int (nI (yy % 4))) (congrArg Value.int (pk_rem (by omega) (by omega) (by omega))) ?_
  refine lv_iconst (v := (nI 1)) B.hx B.hb dL_step_509 (by decide) ?_
  refine lv_icmp_ne (tgt := 517) B.hx B.hb dL_step_510 (by decide) (fun _ => ?_) (fun c11 => False.elim (by replace c11 := (nI_eq (by omega) (by omega)).mp c11; omega))
  refine lv_iconst (v := (nI 0)) B.hx B.hb dL_step_517 (by decide) ?_
  refine lv_iload B.hx B.hb dL_step_518 (lv_at hl 0 rfl) ?_
  refine lv_iload_n B.hx B.hb dL_step_520 rfl (lv_at hl 4 rfl) ?_
  refine lv_iconst (v := (nI 4)) B.hx B.hb dL_step_521 (by decide) ?_
  refine lv_idiv B.hx B.hb dL_step_522 (by decide) ?_
  refine q_top (v2 := .int (nI (yy / 4))) (congrArg Value.int (pk_div (by omega) (by omega) (by omega))) ?_
  refine lv_aload B.hx B.hb dL_step_523 (lv_at hl 5 rfl) ?_
  refine lv_aload B.hx B.hb dL_step_525 (lv_at hl 9 rfl) ?_
  refine lv_aload B.hx B.hb dL_step_527 (lv_at hl 8 rfl) ?_
  refine q_callS (As := [.ref b, .int (nI 0), .int (nI j), .int (nI (yy / 4)), .ref (o 0), .ref (o 4), .ref (o 3)]) (rest := []) B hP hD hS cd (cwS 7 B.hts gL_step_L_copies rfl rfl rfl (by decide +kernel) ⟨(Nat.le_of_ble_eq_true rfl), (Nat.le_of_ble_eq_true rfl)⟩) rfl hl.1 rfl (Nat.le_of_ble_eq_true rfl) dL_step_529 ⟨(Nat.le_of_ble_eq_true rfl), (Nat.le_of_ble_eq_true rfl)⟩ (fun E ce q9 H locs hx => False.elim hx) (fun v u H locs hp hP hD hS => ?_)
  obtain ⟨rfl, hK⟩ := hp
  have hP : va_P D vwCl u H := hP
  have hD : va_D A u := hD
  exact q_zret B hr hP hD hS (by decide) (u := u) rfl ⟨rfl, hK⟩ (Nat.le_of_ble_eq_true rfl) (Nat.le_of_ble_eq_true rfl) dL_step_532

set_option maxHeartbeats 4000000 in
set_option maxRecDepth 100000 in
theorem ls8 (l : Launch) (D : va_G) (cI cZ cP : ClassId) (o : Nat → Nat) (F : Nat → Nat → Int32) (wk : va_W) {q0 b : Nat} {fs : List Value} (hq : wk[q0]? = some (b, .inr (3, fs))) (xx yy : Nat) (hx : xx < 2 ^ 30) (hy : yy < 2 ^ 30) (n : Nat) (hn1 : 1 ≤ n) (hn8 : n ≤ 8) (f41 : F 4 1 = nI n) {Kp : va_W → Prop} (Kq : (Nat → Nat → Int32) → va_W → Prop) (j : Nat) (ej : xx % n = j) (hj : j < 8) (wh : Nat) (h1 : 22 ≤ wh) (h2 : wh < 25) (hK0 : Kq F wk) (hK4 : ∀ F wk, Kq F wk → ∃ td, td ≤ 1000 ∧ F 4 0 = nI td) (hKp : ∀ F wk, Kq F wk → Kp (lw cI o F ++ wk)) (cpas : ∀ F wk, Kq F wk → ∀ td, F 4 0 = nI td → td < 1000 → q_C l yL_passes wsL_passes ({ frames := 8, cells := 42, slots := 252, locals := 130 }) D cI cZ cP [.ref b, .ref (o 0), .ref (o 1), .ref (o 2), .ref (o 4)] (lw cI o F ++ wk) (S := (Nat → Nat → Int32) × va_W) (fun v u => v = some (.int (nI 1)) ∧ Kq u.1 u.2) (fun u => lw cI o u.1 ++ u.2) (fun _ => False) 42 252) : q_C l yL_step wsL_step ({ frames := 12, cells := 294, slots := 1764, locals := 231 }) D cI cZ cP [.ref b, .int (nI wh), .int (nI xx), .int (nI yy), .ref (o 0), .ref (o 1), .ref (o 2), .ref (o 3), .ref (o 4), .ref (o 5), .ref (o 6), .ref (o 7)] (lw cI o F ++ wk) (S := va_W) (fun v u => v = some (.int (nI 1)) ∧ Kp u) (fun u => u) (fun _ => False) 294 1764 := by
  refine q_of (cc := cL_step) (maxL := 16) (ret := (some .boolean)) (by decide +kernel) rfl (Nat.le_of_ble_eq_true rfl) ?_
  intro p e s m below meth c A ls B hr htb hmn hP hD hS hl
  have hl : lv_has ls 16 [(0, .ref b), (1, .int (nI wh)), (2, .int (nI xx)), (3, .int (nI yy)), (4, .ref (o 0)), (5, .ref (o 1)), (6, .ref (o 2)), (7, .ref (o 3)), (8, .ref (o 4)), (9, .ref (o 5)), (10, .ref (o 6)), (11, .ref (o 7))] := hl
  refine lv_iload_n B.hx B.hb dL_step_0 rfl (lv_at hl 1 rfl) ?_
  refine lv_if_eq (tgt := 11) B.hx B.hb dL_step_1 (by decide) (fun c1 => False.elim (by replace c1 := (nI_eq0 (by omega)).mp c1; omega)) (fun _ => ?_)
  refine lv_aload B.hx B.hb dL_step_4 (lv_at hl 8 rfl) ?_
  refine lv_iconst (v := (nI 1)) B.hx B.hb dL_step_6 (by decide) ?_
  refine q_iald (f := (F 4)) B hP 4 rfl (j := 1) rfl (by decide) (by decide) dL_step_7 ?_
  refine q_top (v2 := .int (nI n)) (congrArg Value.int f41) ?_
  refine lv_if_ne (tgt := 87) B.hx B.hb dL_step_8 (by decide) (fun _ => ?_) (fun c2 => False.elim (by replace c2 := (nI_eq0 (by omega)).mp c2; omega))
  refine lv_iload_n B.hx B.hb dL_step_87 rfl (lv_at hl 2 rfl) ?_
  refine lv_aload B.hx B.hb dL_step_88 (lv_at hl 8 rfl) ?_
  refine lv_iconst (v := (nI 1)) B.hx B.hb dL_step_90 (by decide) ?_
  refine q_iald (f := (F 4)) B hP 4 rfl (j := 1) rfl (by decide) (by decide) dL_step_91 ?_
  refine q_top (v2 := .int (nI n)) (congrArg Value.int f41) ?_
  refine lv_irem B.hx B.hb dL_step_92 (fun h => absurd ((nI_eq0 (by omega)).mp h) (by omega)) ?_
  refine q_top (v2 := .int (nI (xx % n))) (congrArg Value.int (pk_rem (by omega) (by omega) (by omega))) ?_
  refine q_top (v2 := .int (nI j)) (congrArg Value.int (congrArg nI ej)) ?_
  refine lv_istore (lv' := [(12, .int (nI j)), (0, .ref b), (1, .int (nI wh)), (2, .int (nI xx)), (3, .int (nI yy)), (4, .ref (o 0)), (5, .ref (o 1)), (6, .ref (o 2)), (7, .ref (o 3)), (8, .ref (o 4)), (9, .ref (o 5)), (10, .ref (o 6)), (11, .ref (o 7))]) B.hx B.hb dL_step_93 hl (by decide) rfl (fun ls hl => ?_)
  refine lv_iload_n B.hx B.hb dL_step_95 rfl (lv_at hl 2 rfl) ?_
  refine lv_iconst (v := (nI 1)) B.hx B.hb dL_step_96 (by decide) ?_
  refine lv_icmp_ne (tgt := 163) B.hx B.hb dL_step_97 (by decide) (fun _ => ?_) (fun c3 => False.elim (by replace c3 := (nI_eq (by omega) (by omega)).mp c3; omega))
  refine lv_iload_n B.hx B.hb dL_step_163 rfl (lv_at hl 2 rfl) ?_
  refine lv_iconst (v := (nI 2)) B.hx B.hb dL_step_164 (by decide) ?_
  refine lv_icmp_ne (tgt := 332) B.hx B.hb dL_step_165 (by decide) (fun _ => ?_) (fun c4 => False.elim (by replace c4 := (nI_eq (by omega) (by omega)).mp c4; omega))
  refine lv_iload_n B.hx B.hb dL_step_332 rfl (lv_at hl 2 rfl) ?_
  refine lv_iconst (v := (nI 3)) B.hx B.hb dL_step_333 (by decide) ?_
  refine lv_icmp_ne (tgt := 372) B.hx B.hb dL_step_334 (by decide) (fun _ => ?_) (fun c5 => False.elim (by replace c5 := (nI_eq (by omega) (by omega)).mp c5; omega))
  refine lv_iload_n B.hx B.hb dL_step_372 rfl (lv_at hl 2 rfl) ?_
  refine lv_bipush (v := (nI 6)) B.hx B.hb dL_step_373 (by decide) ?_
  refine lv_icmp_ge (tgt := 399) B.hx B.hb dL_step_375 (by decide) (fun _ => ?_) (fun c6 => False.elim (by replace c6 := mt (nI_leI (by omega) (by omega)).mpr c6; omega))
  refine lv_iload_n B.hx B.hb dL_step_399 rfl (lv_at hl 2 rfl) ?_
  refine lv_bipush (v := (nI 10)) B.hx B.hb dL_step_400 (by decide) ?_
  refine lv_icmp_ge (tgt := 463) B.hx B.hb dL_step_402 (by decide) (fun _ => ?_) (fun c7 => False.elim (by replace c7 := mt (nI_leI (by omega) (by omega)).mpr c7; omega))
  refine lv_iload_n B.hx B.hb dL_step_463 rfl (lv_at hl 2 rfl) ?_
  refine lv_bipush (v := (nI 20)) B.hx B.hb dL_step_464 (by decide) ?_
  refine lv_icmp_ge (tgt := 489) B.hx B.hb dL_step_466 (by decide) (fun _ => ?_) (fun c8 => False.elim (by replace c8 := mt (nI_leI (by omega) (by omega)).mpr c8; omega))
  refine lv_iload_n B.hx B.hb dL_step_489 rfl (lv_at hl 2 rfl) ?_
  refine lv_bipush (v := (nI 22)) B.hx B.hb dL_step_490 (by decide) ?_
  refine lv_icmp_ge (tgt := 533) B.hx B.hb dL_step_492 (by decide) (fun _ => ?_) (fun c9 => False.elim (by replace c9 := mt (nI_leI (by omega) (by omega)).mpr c9; omega))
  refine lv_iconst (v := (nI 1)) B.hx B.hb dL_step_533 (by decide) ?_
  refine lv_istore (lv' := [(13, .int (nI 1)), (12, .int (nI j)), (0, .ref b), (1, .int (nI wh)), (2, .int (nI xx)), (3, .int (nI yy)), (4, .ref (o 0)), (5, .ref (o 1)), (6, .ref (o 2)), (7, .ref (o 3)), (8, .ref (o 4)), (9, .ref (o 5)), (10, .ref (o 6)), (11, .ref (o 7))]) B.hx B.hb dL_step_534 hl (by decide) rfl (fun ls hl => ?_)
  refine lv_iconst (v := (nI 0)) B.hx B.hb dL_step_536 (by decide) ?_
  refine lv_istore (lv' := [(14, .int (nI 0)), (13, .int (nI 1)), (12, .int (nI j)), (0, .ref b), (1, .int (nI wh)), (2, .int (nI xx)), (3, .int (nI yy)), (4, .ref (o 0)), (5, .ref (o 1)), (6, .ref (o 2)), (7, .ref (o 3)), (8, .ref (o 4)), (9, .ref (o 5)), (10, .ref (o 6)), (11, .ref (o 7))]) B.hx B.hb dL_step_537 hl (by decide) rfl (fun ls hl => ?_)
  refine q_loopG (nL := 16) (σ := Nat × (Nat → Nat → Int32) × va_W) (fun x => x.1 ≤ 7 ∧ Kq x.2.1 x.2.2) (fun x => 7 - x.1) (fun x => [(14, .int (nI x.1)), (13, .int (nI 1)), (0, .ref b), (1, .int (nI wh)), (2, .int (nI xx)), (3, .int (nI yy)), (4, .ref (o 0)), (5, .ref (o 1)), (6, .ref (o 2)), (7, .ref (o 3)), (8, .ref (o 4)), (9, .ref (o 5)), (10, .ref (o 6)), (11, .ref (o 7))]) (fun x => (lw cI o x.2.1 ++ x.2.2)) (fun x => 42 * x.1) (fun x => 252 * x.1) (0, F, wk) ⟨Nat.zero_le _, hK0⟩ (lv_sub hl [0, 1, 3, 4, 5, 6, 7, 8, 9, 10, 11, 12, 13, 14] rfl) hP hD hS ?_
  intro x8 hI8 ih8 ls H locs hl hP hD hS
  obtain ⟨i8, F8, w8⟩ := x8
  obtain ⟨hi8, hK8⟩ := hI8
  have hi8 : i8 ≤ 7 := hi8
  have hK8 : Kq F8 w8 := hK8
  obtain ⟨td, htd, f40⟩ := hK4 F8 w8 hK8
  have hl : lv_has ls 16 [(14, .int (nI i8)), (13, .int (nI 1)), (0, .ref b), (1, .int (nI wh)), (2, .int (nI xx)), (3, .int (nI yy)), (4, .ref (o 0)), (5, .ref (o 1)), (6, .ref (o 2)), (7, .ref (o 3)), (8, .ref (o 4)), (9, .ref (o 5)), (10, .ref (o 6)), (11, .ref (o 7))] := hl
  have hP : va_P D vwCl (lw cI o F8 ++ w8) H := hP
  have hD : va_D A (lw cI o F8 ++ w8) := hD
  refine lv_iload B.hx B.hb dL_step_539 (lv_at hl 0 rfl) ?_
  refine lv_iconst (v := (nI 1)) B.hx B.hb dL_step_541 (by decide) ?_
  refine lv_iload_n B.hx B.hb dL_step_542 rfl (lv_at hl 5 rfl) ?_
  refine lv_bipush (v := (nI 7)) B.hx B.hb dL_step_543 (by decide) ?_
  refine lv_irem B.hx B.hb dL_step_545 (by decide) ?_
  refine q_top (v2 := .int (nI (yy % 7))) (congrArg Value.int (pk_rem (by omega) (by omega) (by omega))) ?_
  refine lv_iadd B.hx B.hb dL_step_546 ?_
  refine q_top (v2 := .int (nI (1 + (yy % 7)))) (congrArg Value.int (nI_add _ _)) ?_
  refine lv_icmp_ge (tgt := 585) B.hx B.hb dL_step_547 (by decide) (fun c10 => ?_) (fun c10 => ?_)
  · replace c10 := (nI_leI (by omega) (by omega)).mp c10
    refine W.widen (show 42 * i8 + 0 ≤ 294 by omega) (show 252 * i8 + 0 ≤ 1764 by omega) ?_
    refine lv_iload B.hx B.hb dL_step_585 (lv_at hl 1 rfl) ?_
    exact q_zret B hr hP hD hS (by decide) (u := (lw cI o F8 ++ w8)) rfl ⟨rfl, hKp F8 w8 hK8⟩ (Nat.le_of_ble_eq_true rfl) (Nat.le_of_ble_eq_true rfl) dL_step_587
  · replace c10 := mt (nI_leI (by omega) (by omega)).mpr c10
    refine lv_iload B.hx B.hb dL_step_550 (lv_at hl 1 rfl) ?_
    refine lv_if_eq (tgt := 585) B.hx B.hb dL_step_552 (by decide) (fun c11 => False.elim (by exact absurd c11 (by decide))) (fun _ => ?_)
    refine lv_aload B.hx B.hb dL_step_555 (lv_at hl 10 rfl) ?_
    refine lv_iconst (v := (nI 0)) B.hx B.hb dL_step_557 (by decide) ?_
    refine q_iald (f := (F8 4)) B hP 4 rfl (j := 0) rfl (by decide) (by decide) dL_step_558 ?_
    refine q_top (v2 := .int (nI td)) (congrArg Value.int f40) ?_
    refine lv_sipush (v := (nI 1000)) B.hx B.hb dL_step_559 (by decide) ?_
    refine lv_icmp_ge (tgt := 585) B.hx B.hb dL_step_562 (by decide) (fun c12 => ?_) (fun c12 => ?_)
    · replace c12 := (nI_leI (by omega) (by omega)).mp c12
      refine W.widen (show 42 * i8 + 0 ≤ 294 by omega) (show 252 * i8 + 0 ≤ 1764 by omega) ?_
      refine lv_iload B.hx B.hb dL_step_585 (lv_at hl 1 rfl) ?_
      exact q_zret B hr hP hD hS (by decide) (u := (lw cI o F8 ++ w8)) rfl ⟨rfl, hKp F8 w8 hK8⟩ (Nat.le_of_ble_eq_true rfl) (Nat.le_of_ble_eq_true rfl) dL_step_587
    · replace c12 := mt (nI_leI (by omega) (by omega)).mpr c12
      refine lv_aload_n B.hx B.hb dL_step_565 rfl (lv_at hl 2 rfl) ?_
      refine lv_aload B.hx B.hb dL_step_566 (lv_at hl 6 rfl) ?_
      refine lv_aload B.hx B.hb dL_step_568 (lv_at hl 7 rfl) ?_
      refine lv_aload B.hx B.hb dL_step_570 (lv_at hl 8 rfl) ?_
      refine lv_aload B.hx B.hb dL_step_572 (lv_at hl 10 rfl) ?_
      refine q_callS (As := [.ref b, .ref (o 0), .ref (o 1), .ref (o 2), .ref (o 4)]) (rest := []) B hP hD hS (cpas F8 w8 hK8 td f40 (by omega)) (cwS 5 B.hts gL_step_L_passes rfl rfl rfl (by decide +kernel) ⟨(Nat.le_of_ble_eq_true rfl), (Nat.le_of_ble_eq_true rfl)⟩) rfl hl.1 rfl (Nat.le_of_ble_eq_true rfl) dL_step_574 ⟨show 42 * i8 + 42 ≤ 294 by omega, show 252 * i8 + 252 ≤ 1764 by omega⟩ (fun E ce q9 H locs hx => False.elim hx) (fun v u H locs hp hP hD hS => ?_)
      obtain ⟨rfl, hK9⟩ := hp
      have hP : va_P D vwCl (lw cI o u.1 ++ u.2) H := hP
      have hD : va_D A (lw cI o u.1 ++ u.2) := hD
      obtain ⟨u9, rfl⟩ : ∃ u9, u9 = u := ⟨u, rfl⟩
      have hP : va_P D vwCl (lw cI o u9.1 ++ u9.2) H := hP
      have hD : va_D A (lw cI o u9.1 ++ u9.2) := hD
      refine lv_istore (lv' := [(13, .int (nI 1)), (14, .int (nI i8)), (0, .ref b), (1, .int (nI wh)), (2, .int (nI xx)), (3, .int (nI yy)), (4, .ref (o 0)), (5, .ref (o 1)), (6, .ref (o 2)), (7, .ref (o 3)), (8, .ref (o 4)), (9, .ref (o 5)), (10, .ref (o 6)), (11, .ref (o 7))]) B.hx B.hb dL_step_577 hl (by decide) rfl (fun ls hl => ?_)
      refine lv_iinc (v := (nI (i8 + 1))) (lv' := [(14, .int (nI (i8 + 1))), (13, .int (nI 1)), (0, .ref b), (1, .int (nI wh)), (2, .int (nI xx)), (3, .int (nI yy)), (4, .ref (o 0)), (5, .ref (o 1)), (6, .ref (o 2)), (7, .ref (o 3)), (8, .ref (o 4)), (9, .ref (o 5)), (10, .ref (o 6)), (11, .ref (o 7))]) B.hx B.hb dL_step_579 hl (k := 1) rfl (nI_1 _) (by decide) rfl (fun ls hl => ?_)
      refine lv_goto (tgt := 539) B.hx B.hb dL_step_582 (by decide) ?_
      exact W.widen (show 42 * i8 + 42 ≤ 42 * (i8 + 1) by omega) (show 252 * i8 + 252 ≤ 252 * (i8 + 1) by omega) (ih8 (i8 + 1, u9) ⟨show i8 + 1 ≤ 7 by omega, hK9⟩ (show 7 - (i8 + 1) < 7 - i8 by omega) ls H _ (lv_sub hl [0, 1, 2, 3, 4, 5, 6, 7, 8, 9, 10, 11, 12, 13] rfl) hP hD hS)
