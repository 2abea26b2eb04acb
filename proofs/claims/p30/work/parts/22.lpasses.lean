/-! A day: over the answers of the class. -/
/-- is the paper k to come into force, as the law finds it? -/
def duf (F : Nat → Nat → Int32) (td : Nat) (sf : Nat → Nat) (k : Nat) : Bool := decide (sf k = 5) && decide (¬ nI (td + 1) < F 0 (8 * k + 4))
def dub (b : Bool) (k : Nat) : Nat := if b = true then 2 ^ k else 0
/-- the mask of those that are -/
def dueM (f : Nat → Bool) : Nat → Nat
  | 0 => 0
  | k + 1 => if f k = true then bs (dueM f k) k else dueM f k
theorem dueM_lt {f : Nat → Bool} : ∀ {k : Nat}, k ≤ 8 → dueM f k < 256
  | 0, _ => by show 0 < 256; omega
  | k + 1, h => by
    simp only [dueM]
    split
    · exact bs_lt (dueM_lt (by omega)) (by omega)
    · exact dueM_lt (by omega)
theorem dueM_s {f : Nat → Bool} {k : Nat} (h : k < 8) : nI (dueM f k) ||| nI (dub (f k) k) = nI (dueM f (k + 1)) := by
  simp only [dueM, dub]
  by_cases hf : f k = true
  · rw [if_pos hf, if_pos hf]; exact bs_or (dueM_lt (by omega)) h
  · rw [if_neg hf, if_neg hf]; exact or_0
theorem dueM_bit {f : Nat → Bool} : ∀ {n i : Nat}, (dueM f n).testBit i = (decide (i < n) && f i)
  | 0, i => by simp [dueM]
  | n + 1, i => by
    simp only [dueM]
    by_cases hf : f n = true
    · rw [if_pos hf, bs_bit, dueM_bit]
      by_cases h : i = n
      · subst h; simp [hf]
      · have : (i < n + 1) = (i < n) := by apply propext; omega
        simp [h, this]
    · rw [if_neg hf, dueM_bit]
      by_cases h : i = n
      · subst h; simp [hf]
      · have : (i < n + 1) = (i < n) := by apply propext; omega
        simp [this]
/-- what 'called for' is behind a paper k that came -/
def askv (A : Nat → Int32) (M k j : Nat) : Int32 := if M.testBit k = true ∧ ¬ A (8 * j + 5) ≤ 0 then nI 1 else A (8 * j + 7)
def askA (A : Nat → Int32) (hm : Nat → Nat) (k : Nat) : Nat → Nat → Int32
  | 0 => A
  | j + 1 => upd (askA A hm k j) (8 * j + 7) (askv (askA A hm k j) (hm j) k j)
/-- the law's row a behind the first k papers of a day -/
def comA (A : Nat → Int32) (td k : Nat) : Nat → Int32 := upd (upd (upd (upd A (8 * k) (nI 0)) (8 * k + 5) (A (8 * k + 5) + nI 1)) (8 * k + 6) (nI (td + 1))) (8 * k + 7) (nI 0)
def psA (F : Nat → Nat → Int32) (td n : Nat) (hm : Nat → Nat) (f : Nat → Bool) : Nat → Nat → Int32
  | 0 => F 0
  | k + 1 => if f k = true then askA (comA (psA F td n hm f k) td k) hm k n else psA F td n hm f k
/-- .. the row v -/
def psV (F : Nat → Nat → Int32) (td : Nat) (wv : Nat → Nat) (f : Nat → Bool) : Nat → Nat → Int32
  | 0 => F 2
  | k + 1 => if f k = true then upd (upd (psV F td wv f k) (8 * k + (wv k % 4) * 2) (nI (td + 1))) (8 * k + (wv k % 4) * 2 + 1) (nI (wv k + 1)) else psV F td wv f k
theorem psA_y {F : Nat → Nat → Int32} {td n k : Nat} {hm : Nat → Nat} {f : Nat → Bool} (h : f k = true) : psA F td n hm f (k + 1) = askA (comA (psA F td n hm f k) td k) hm k n := by rw [psA, if_pos h]
theorem psA_n {F : Nat → Nat → Int32} {td n k : Nat} {hm : Nat → Nat} {f : Nat → Bool} (h : f k = false) : psA F td n hm f (k + 1) = psA F td n hm f k := by rw [psA, if_neg (by rw [h]; decide)]
theorem psV_y {F : Nat → Nat → Int32} {td k : Nat} {wv : Nat → Nat} {f : Nat → Bool} (h : f k = true) : psV F td wv f (k + 1) = upd (upd (psV F td wv f k) (8 * k + (wv k % 4) * 2) (nI (td + 1))) (8 * k + (wv k % 4) * 2 + 1) (nI (wv k + 1)) := by rw [psV, if_pos h]
theorem psV_n {F : Nat → Nat → Int32} {td k : Nat} {wv : Nat → Nat} {f : Nat → Bool} (h : f k = false) : psV F td wv f (k + 1) = psV F td wv f k := by rw [psV, if_neg (by rw [h]; decide)]
/-- all but the places 8 j + 7 stay -/
theorem askA_ne {A : Nat → Int32} {hm : Nat → Nat} {k q : Nat} (h : ¬ q % 8 = 7) : ∀ {j : Nat}, askA A hm k j q = A q
  | 0 => rfl
  | j + 1 => by
    simp only [askA]
    rw [pk_un (by omega)]
    exact askA_ne h
/-- what the day leaves of the places 0 to 6 -/
theorem psA_ne {F : Nat → Nat → Int32} {td n : Nat} {hm : Nat → Nat} {f : Nat → Bool} {q : Nat} (h : ¬ q % 8 = 7) : ∀ {k : Nat}, (k ≤ q / 8 ∨ q % 8 = 1 ∨ q % 8 = 2 ∨ q % 8 = 3 ∨ q % 8 = 4) → psA F td n hm f k q = F 0 q
  | 0, _ => rfl
  | k + 1, h2 => by
    simp only [psA]
    split
    · rw [askA_ne h, comA, pk_un (by omega), pk_un (by omega), pk_un (by omega), pk_un (by omega)]
      exact psA_ne h (by omega)
    · exact psA_ne h (by omega)

set_option maxHeartbeats 4000000 in
set_option maxRecDepth 100000 in
theorem lpasses (l : Launch) (D : va_G) (cI cZ cP : ClassId) (o : Nat → Nat) (F : Nat → Nat → Int32) (wk wk2 : va_W) {q0 b : Nat} {fs : List Value} (hq : wk[q0]? = some (b, .inr (3, fs))) {q2 : Nat} {fs2 : List Value} (hq2 : wk2[q2]? = some (b, .inr (3, fs2))) (n td : Nat) (sf wv hm : Nat → Nat) (hn : n ≤ 8) (htd : td < 1000) (f40 : F 4 0 = nI td) (f41 : F 4 1 = nI n) (hsf : ∀ k, k < n → sf k ≤ 5) (hwv : ∀ k, k < n → F 0 (8 * k + 5) = nI (wv k) ∧ wv k < 128) (hhm : ∀ k, k < n → F 1 k = nI (hm k) ∧ hm k < 256) (hV : ∀ k, k < 32 → (psV F td wv (duf F td sf) n) (2 * k + 1) = 0 ∨ ∃ e, e < 128 ∧ (psV F td wv (duf F td sf) n) (2 * k + 1) = nI (e + 1)) (cs : ∀ k, k < n → q_C l yX3_step wsX3_step ({ frames := 2, cells := 0, slots := 0, locals := 42 }) D cI cZ cP [.ref b, .int (nI k)] wk (S := Unit) (fun v _ => v = some (.int (nI (sf k)))) (fun _ => wk) (fun _ => False) 0 0) (cp : q_C l yX3_pass wsX3_pass ({ frames := 7, cells := 2, slots := 12, locals := 107 }) D cI cZ cP [.ref b, .int (nI 1)] wk (S := Unit) (fun v _ => v = some (.int (nI (pc8 (dueM (duf F td sf) n))))) (fun _ => wk2) (fun _ => False) 2 12) (ct : ∀ k, k < n → duf F td sf k = true → q_C l yX3_text wsX3_text ({ frames := 1, cells := 0, slots := 0, locals := 22 }) D cI cZ cP [.ref b, .int (nI k)] wk2 (S := Unit) (fun v _ => v = some (.int (F 0 (8 * k + 2)))) (fun _ => wk2) (fun _ => False) 0 0) (csi : ∀ k, k < n → duf F td sf k = true → q_C l yX3_since wsX3_since ({ frames := 6, cells := 1, slots := 6, locals := 82 }) D cI cZ cP [.ref b, .int (nI k), .int (nI (wv k))] wk2 (S := Unit) (fun v _ => v = some (.int (nI (td + 1)))) (fun _ => wk2) (fun _ => False) 1 6) (csv : ∀ k e, k < 32 → e < 128 → (psV F td wv (duf F td sf) n) (2 * k + 1) = nI (e + 1) → q_C l yX3_since wsX3_since ({ frames := 6, cells := 1, slots := 6, locals := 82 }) D cI cZ cP [.ref b, .int (nI (k / 4)), .int (nI e)] wk2 (S := Unit) (fun v _ => v = some (.int ((psV F td wv (duf F td sf) n) (2 * k)))) (fun _ => wk2) (fun _ => False) 1 6) : q_C l yL_passes wsL_passes ({ frames := 8, cells := 42, slots := 252, locals := 130 }) D cI cZ cP [.ref b, .ref (o 0), .ref (o 1), .ref (o 2), .ref (o 4)] (lw cI o F ++ wk) (S := Unit) (fun v _ => v = some (.int (nI 1))) (fun _ => (lw cI o (va_up (va_up (va_up F 0 (psA F td n hm (duf F td sf) n)) 2 (psV F td wv (duf F td sf) n)) 4 (upd (F 4) 0 (nI (td + 1)))) ++ wk2)) (fun _ => False) 42 252 := by
  refine q_of (cc := cL_passes) (maxL := 10) (ret := (some .boolean)) (by decide +kernel) rfl (Nat.le_of_ble_eq_true rfl) ?_
  intro p e s m below meth c A ls B hr htb hmn hP hD hS hl
  have hl : lv_has ls 10 [(0, .ref b), (1, .ref (o 0)), (2, .ref (o 1)), (3, .ref (o 2)), (4, .ref (o 4))] := hl
  have hp9 := pc8_le (dueM (duf F td sf) n)
  refine lv_iconst (v := (nI 0)) B.hx B.hb dL_passes_0 (by decide) ?_
  refine lv_istore (lv' := [(5, .int (nI 0)), (0, .ref b), (1, .ref (o 0)), (2, .ref (o 1)), (3, .ref (o 2)), (4, .ref (o 4))]) B.hx B.hb dL_passes_1 hl (by decide) rfl (fun ls hl => ?_)
  refine lv_iconst (v := (nI 0)) B.hx B.hb dL_passes_3 (by decide) ?_
  refine lv_istore (lv' := [(6, .int (nI 0)), (5, .int (nI 0)), (0, .ref b), (1, .ref (o 0)), (2, .ref (o 1)), (3, .ref (o 2)), (4, .ref (o 4))]) B.hx B.hb dL_passes_4 hl (by decide) rfl (fun ls hl => ?_)
  refine lv_iconst (v := (nI 0)) B.hx B.hb dL_passes_6 (by decide) ?_
  refine lv_istore (lv' := [(7, .int (nI 0)), (6, .int (nI 0)), (5, .int (nI 0)), (0, .ref b), (1, .ref (o 0)), (2, .ref (o 1)), (3, .ref (o 2)), (4, .ref (o 4))]) B.hx B.hb dL_passes_7 hl (by decide) rfl (fun ls hl => ?_)
  refine q_loop2 (nL := 10) (w := (lw cI o F ++ wk)) (fun i : Nat => i ≤ n) (fun i : Nat => n - i) (fun i : Nat => [(7, .int (nI i)), (5, .int (nI (dueM (duf F td sf) i))), (0, .ref b), (1, .ref (o 0)), (2, .ref (o 1)), (3, .ref (o 2)), (4, .ref (o 4))]) (0) (Nat.zero_le _) (lv_sub hl [0, 2, 3, 4, 5, 6, 7] rfl) hP hD hS ?_
  intro i1 hI2 ih3 ls H locs hl hP hD hS
  have hI2 : i1 ≤ n := hI2
  have hl : lv_has ls 10 [(7, .int (nI i1)), (5, .int (nI (dueM (duf F td sf) i1))), (0, .ref b), (1, .ref (o 0)), (2, .ref (o 1)), (3, .ref (o 2)), (4, .ref (o 4))] := hl
  refine lv_iload B.hx B.hb dL_passes_9 (lv_at hl 0 rfl) ?_
  refine lv_aload B.hx B.hb dL_passes_11 (lv_at hl 6 rfl) ?_
  refine lv_iconst (v := (nI 1)) B.hx B.hb dL_passes_13 (by decide) ?_
  refine q_iald (f := (F 4)) B hP 4 rfl (j := 1) rfl (by decide) (by decide) dL_passes_14 ?_
  refine q_top (v2 := .int (nI n)) (congrArg Value.int f41) ?_
  refine lv_icmp_ge (tgt := 65) B.hx B.hb dL_passes_15 (by decide) (fun c4 => ?_) (fun c4 => ?_)
  · replace c4 := (nI_leI (by omega) (by omega)).mp c4
    have e5 : i1 = n := by omega
    have hl : lv_has ls 10 [(7, .int (nI i1)), (5, .int (nI (dueM (duf F td sf) n))), (0, .ref b), (1, .ref (o 0)), (2, .ref (o 1)), (3, .ref (o 2)), (4, .ref (o 4))] := by rw [← e5]; exact hl
    refine lv_aload_n B.hx B.hb dL_passes_65 rfl (lv_at hl 2 rfl) ?_
    refine lv_iconst (v := (nI 1)) B.hx B.hb dL_passes_66 (by decide) ?_
    refine q_callV (As := [.int (nI 1)]) (rest := []) B hP hD hS (cp.fl (lw cI o F)) (cwV 1 B.hts gL_passes_X3_pass rfl rfl rfl (by decide +kernel) ⟨(Nat.le_of_ble_eq_true rfl), (Nat.le_of_ble_eq_true rfl)⟩) (q0 + 8) 3 hq rfl rfl rfl hl.1 rfl (Nat.le_of_ble_eq_true rfl) dL_passes_67 ⟨(Nat.le_of_ble_eq_true rfl), (Nat.le_of_ble_eq_true rfl)⟩ (fun E ce q9 H locs hx => False.elim hx) (fun v u H locs hp hP hD hS => ?_)
    obtain rfl := hp
    have hP : va_P D vwCl (lw cI o F ++ wk2) H := hP
    have hD : va_D A (lw cI o F ++ wk2) := hD
    refine lv_iload B.hx B.hb dL_passes_70 (lv_at hl 1 rfl) ?_
    refine q_callS (As := [.int (nI (dueM (duf F td sf) n))]) (rest := [.int (nI (pc8 (dueM (duf F td sf) n)))]) B hP hD hS ((cl_size l D cI cZ cP (dueM (duf F td sf) n) (dueM_lt hn)).fr0 (lw cI o F ++ wk2)) (cwS 1 B.hts gL_passes_L_size rfl rfl rfl (by decide +kernel) ⟨(Nat.le_of_ble_eq_true rfl), (Nat.le_of_ble_eq_true rfl)⟩) rfl hl.1 rfl (Nat.le_of_ble_eq_true rfl) dL_passes_72 ⟨(Nat.le_of_ble_eq_true rfl), (Nat.le_of_ble_eq_true rfl)⟩ (fun E ce q9 H locs hx => False.elim hx) (fun v u H locs hp hP hD hS => ?_)
    obtain rfl := hp
    have hP : va_P D vwCl (lw cI o F ++ wk2) H := hP
    have hD : va_D A (lw cI o F ++ wk2) := hD
    refine lv_icmp_ne (tgt := 82) B.hx B.hb dL_passes_75 (by decide) (fun c5 => False.elim (by replace c5 := mt (nI_eq (by omega) (by omega)).mpr c5; omega)) (fun _ => ?_)
    refine lv_iconst (v := (nI 1)) B.hx B.hb dL_passes_78 (by decide) ?_
    refine lv_goto (tgt := 83) B.hx B.hb dL_passes_79 (by decide) ?_
    refine lv_istore (lv' := [(7, .int (nI 1)), (5, .int (nI (dueM (duf F td sf) n))), (0, .ref b), (1, .ref (o 0)), (2, .ref (o 1)), (3, .ref (o 2)), (4, .ref (o 4))]) B.hx B.hb dL_passes_83 hl (by decide) rfl (fun ls hl => ?_)
    refine lv_aload B.hx B.hb dL_passes_85 (lv_at hl 6 rfl) ?_
    refine lv_iconst (v := (nI 0)) B.hx B.hb dL_passes_87 (by decide) ?_
    refine lv_dup2_11 B.hx B.hb dL_passes_88 rfl rfl ?_
    refine q_iald (f := (F 4)) B hP 4 rfl (j := 0) rfl (by decide) (by decide) dL_passes_89 ?_
    refine q_top (v2 := .int (nI td)) (congrArg Value.int f40) ?_
    refine lv_iconst (v := (nI 1)) B.hx B.hb dL_passes_90 (by decide) ?_
    refine lv_iadd B.hx B.hb dL_passes_91 ?_
    refine q_top (v2 := .int (nI (td + 1))) (congrArg Value.int (nI_add _ _)) ?_
    refine q_iast (f := (F 4)) B hP hD hS 4 rfl (j := 0) rfl (by decide) (by decide) dL_passes_92 (w' := (lw cI o (va_up F 4 (upd (F 4) 0 (nI (td + 1)))) ++ wk2)) rfl (fun H locs hP hD hS => ?_)
    refine lv_iconst (v := (nI 0)) B.hx B.hb dL_passes_93 (by decide) ?_
    refine lv_istore (lv' := [(8, .int (nI 0)), (7, .int (nI 1)), (5, .int (nI (dueM (duf F td sf) n))), (0, .ref b), (1, .ref (o 0)), (2, .ref (o 1)), (3, .ref (o 2)), (4, .ref (o 4))]) B.hx B.hb dL_passes_94 hl (by decide) rfl (fun ls hl => ?_)
    refine q_loopG (nL := 10) (fun i : Nat => i ≤ n) (fun i : Nat => n - i) (fun i : Nat => [(8, .int (nI i)), (7, .int (nI 1)), (5, .int (nI (dueM (duf F td sf) n))), (0, .ref b), (1, .ref (o 0)), (2, .ref (o 1)), (3, .ref (o 2)), (4, .ref (o 4))]) (fun i : Nat => (lw cI o (va_up (va_up (va_up F 0 (psA F td n hm (duf F td sf) i)) 2 (psV F td wv (duf F td sf) i)) 4 (upd (F 4) 0 (nI (td + 1)))) ++ wk2)) (fun i : Nat => 2 + 1 * i) (fun i : Nat => 12 + 6 * i) (0) (Nat.zero_le _) (lv_sub hl [0, 1, 2, 3, 4, 5, 6, 7] rfl) (show va_P D vwCl (lw cI o (va_up (va_up (va_up F 0 (psA F td n hm (duf F td sf) 0)) 2 (psV F td wv (duf F td sf) 0)) 4 (upd (F 4) 0 (nI (td + 1)))) ++ wk2) _ from hP) (show va_D A (lw cI o (va_up (va_up (va_up F 0 (psA F td n hm (duf F td sf) 0)) 2 (psV F td wv (duf F td sf) 0)) 4 (upd (F 4) 0 (nI (td + 1)))) ++ wk2) from hD) hS ?_
    intro i6 hI7 ih8 ls H locs hl hP hD hS
    have hI7 : i6 ≤ n := hI7
    have hl : lv_has ls 10 [(8, .int (nI i6)), (7, .int (nI 1)), (5, .int (nI (dueM (duf F td sf) n))), (0, .ref b), (1, .ref (o 0)), (2, .ref (o 1)), (3, .ref (o 2)), (4, .ref (o 4))] := hl
    have hP : va_P D vwCl (lw cI o (va_up (va_up (va_up F 0 (psA F td n hm (duf F td sf) i6)) 2 (psV F td wv (duf F td sf) i6)) 4 (upd (F 4) 0 (nI (td + 1)))) ++ wk2) H := hP
    have hD : va_D A (lw cI o (va_up (va_up (va_up F 0 (psA F td n hm (duf F td sf) i6)) 2 (psV F td wv (duf F td sf) i6)) 4 (upd (F 4) 0 (nI (td + 1)))) ++ wk2) := hD
    refine lv_iload B.hx B.hb dL_passes_96 (lv_at hl 0 rfl) ?_
    refine lv_aload B.hx B.hb dL_passes_98 (lv_at hl 7 rfl) ?_
    refine lv_iconst (v := (nI 1)) B.hx B.hb dL_passes_100 (by decide) ?_
    refine q_iald (f := (upd (F 4) 0 (nI (td + 1)))) B hP 4 rfl (j := 1) rfl (by decide) (by decide) dL_passes_101 ?_
    refine q_top (v2 := .int (nI n)) (congrArg Value.int ((pk_un (by omega)).trans f41)) ?_
    refine lv_icmp_ge (tgt := 338) B.hx B.hb dL_passes_102 (by decide) (fun c9 => ?_) (fun c9 => ?_)
    · replace c9 := (nI_leI (by omega) (by omega)).mp c9
      have e6 : i6 = n := by omega
      rw [e6] at hP hD
      refine W.widen (show 2 + 1 * i6 + 0 ≤ 10 by omega) (show 12 + 6 * i6 + 0 ≤ 60 by omega) ?_
      refine lv_iconst (v := (nI 0)) B.hx B.hb dL_passes_338 (by decide) ?_
      refine lv_istore (lv' := [(8, .int (nI 0)), (7, .int (nI 1)), (5, .int (nI (dueM (duf F td sf) n))), (0, .ref b), (1, .ref (o 0)), (2, .ref (o 1)), (3, .ref (o 2)), (4, .ref (o 4))]) B.hx B.hb dL_passes_339 hl (by decide) rfl (fun ls hl => ?_)
      refine q_loopG (nL := 10) (fun i : Nat => i ≤ 32) (fun i : Nat => 32 - i) (fun i : Nat => [(8, .int (nI i)), (7, .int (nI 1)), (0, .ref b), (1, .ref (o 0)), (2, .ref (o 1)), (3, .ref (o 2)), (4, .ref (o 4))]) (fun i : Nat => (lw cI o (va_up (va_up (va_up F 0 (psA F td n hm (duf F td sf) n)) 2 (psV F td wv (duf F td sf) n)) 4 (upd (F 4) 0 (nI (td + 1)))) ++ wk2)) (fun i : Nat => 10 + 1 * i) (fun i : Nat => 60 + 6 * i) (0) (Nat.zero_le _) (lv_sub hl [0, 1, 3, 4, 5, 6, 7] rfl) (show va_P D vwCl (lw cI o (va_up (va_up (va_up F 0 (psA F td n hm (duf F td sf) n)) 2 (psV F td wv (duf F td sf) n)) 4 (upd (F 4) 0 (nI (td + 1)))) ++ wk2) _ from hP) (show va_D A (lw cI o (va_up (va_up (va_up F 0 (psA F td n hm (duf F td sf) n)) 2 (psV F td wv (duf F td sf) n)) 4 (upd (F 4) 0 (nI (td + 1)))) ++ wk2) from hD) hS ?_
      intro i10 hI11 ih12 ls H locs hl hP hD hS
      have hI11 : i10 ≤ 32 := hI11
      have hl : lv_has ls 10 [(8, .int (nI i10)), (7, .int (nI 1)), (0, .ref b), (1, .ref (o 0)), (2, .ref (o 1)), (3, .ref (o 2)), (4, .ref (o 4))] := hl
      have hP : va_P D vwCl (lw cI o (va_up (va_up (va_up F 0 (psA F td n hm (duf F td sf) n)) 2 (psV F td wv (duf F td sf) n)) 4 (upd (F 4) 0 (nI (td + 1)))) ++ wk2) H := hP
      have hD : va_D A (lw cI o (va_up (va_up (va_up F 0 (psA F td n hm (duf F td sf) n)) 2 (psV F td wv (duf F td sf) n)) 4 (upd (F 4) 0 (nI (td + 1)))) ++ wk2) := hD
      refine lv_iload B.hx B.hb dL_passes_341 (lv_at hl 0 rfl) ?_
      refine lv_bipush (v := (nI 32)) B.hx B.hb dL_passes_343 (by decide) ?_
      refine lv_icmp_ge (tgt := 404) B.hx B.hb dL_passes_345 (by decide) (fun c13 => ?_) (fun c13 => ?_)
      · replace c13 := (nI_leI (by omega) (by omega)).mp c13
        refine W.widen (show 10 + 1 * i10 + 0 ≤ 42 by omega) (show 60 + 6 * i10 + 0 ≤ 252 by omega) ?_
        refine lv_iload B.hx B.hb dL_passes_404 (lv_at hl 1 rfl) ?_
        exact q_zret B hr hP hD hS (by decide) (u := ()) rfl rfl (Nat.le_of_ble_eq_true rfl) (Nat.le_of_ble_eq_true rfl) dL_passes_406
      · replace c13 := mt (nI_leI (by omega) (by omega)).mpr c13
        rcases hV i10 (by omega) with hv9 | ⟨e9, he9, hv9⟩
        · refine lv_iload B.hx B.hb dL_passes_348 (lv_at hl 1 rfl) ?_
          refine lv_if_eq (tgt := 404) B.hx B.hb dL_passes_350 (by decide) (fun c14 => False.elim (by exact absurd c14 (by decide))) (fun _ => ?_)
          refine lv_aload_n B.hx B.hb dL_passes_353 rfl (lv_at hl 5 rfl) ?_
          refine lv_iconst (v := (nI 2)) B.hx B.hb dL_passes_354 (by decide) ?_
          refine lv_iload B.hx B.hb dL_passes_355 (lv_at hl 0 rfl) ?_
          refine lv_imul B.hx B.hb dL_passes_357 ?_
          refine q_top (v2 := .int (nI (2 * i10))) (congrArg Value.int (pk_mul _ _)) ?_
          refine lv_iconst (v := (nI 1)) B.hx B.hb dL_passes_358 (by decide) ?_
          refine lv_iadd B.hx B.hb dL_passes_359 ?_
          refine q_top (v2 := .int (nI (2 * i10 + 1))) (congrArg Value.int (nI_add _ _)) ?_
          refine q_iald (f := (psV F td wv (duf F td sf) n)) B hP 2 rfl (j := 2 * i10 + 1) rfl (by omega) (by decide) dL_passes_360 ?_
          refine q_top (v2 := .int (nI 0)) (congrArg Value.int hv9) ?_
          refine lv_if_eq (tgt := 391) B.hx B.hb dL_passes_361 (by decide) (fun _ => ?_) (fun c15 => False.elim (by exact absurd c15 (by decide)))
          refine lv_iconst (v := (nI 1)) B.hx B.hb dL_passes_391 (by decide) ?_
          refine lv_goto (tgt := 396) B.hx B.hb dL_passes_392 (by decide) ?_
          refine lv_istore (lv' := [(7, .int (nI 1)), (8, .int (nI i10)), (0, .ref b), (1, .ref (o 0)), (2, .ref (o 1)), (3, .ref (o 2)), (4, .ref (o 4))]) B.hx B.hb dL_passes_396 hl (by decide) rfl (fun ls hl => ?_)
          refine lv_iinc (v := (nI (i10 + 1))) (lv' := [(8, .int (nI (i10 + 1))), (7, .int (nI 1)), (0, .ref b), (1, .ref (o 0)), (2, .ref (o 1)), (3, .ref (o 2)), (4, .ref (o 4))]) B.hx B.hb dL_passes_398 hl (k := 1) rfl (nI_1 _) (by decide) rfl (fun ls hl => ?_)
          refine lv_goto (tgt := 341) B.hx B.hb dL_passes_401 (by decide) ?_
          exact W.widen (show 10 + 1 * i10 + 0 ≤ 10 + 1 * (i10 + 1) by omega) (show 60 + 6 * i10 + 0 ≤ 60 + 6 * (i10 + 1) by omega) (ih12 (i10 + 1) (by omega) (by omega) ls H _ (lv_sub hl [0, 1, 2, 3, 4, 5, 6] rfl) (show va_P D vwCl (lw cI o (va_up (va_up (va_up F 0 (psA F td n hm (duf F td sf) n)) 2 (psV F td wv (duf F td sf) n)) 4 (upd (F 4) 0 (nI (td + 1)))) ++ wk2) _ from hP) (show va_D A (lw cI o (va_up (va_up (va_up F 0 (psA F td n hm (duf F td sf) n)) 2 (psV F td wv (duf F td sf) n)) 4 (upd (F 4) 0 (nI (td + 1)))) ++ wk2) from hD) hS)
        · refine lv_iload B.hx B.hb dL_passes_348 (lv_at hl 1 rfl) ?_
          refine lv_if_eq (tgt := 404) B.hx B.hb dL_passes_350 (by decide) (fun c16 => False.elim (by exact absurd c16 (by decide))) (fun _ => ?_)
          refine lv_aload_n B.hx B.hb dL_passes_353 rfl (lv_at hl 5 rfl) ?_
          refine lv_iconst (v := (nI 2)) B.hx B.hb dL_passes_354 (by decide) ?_
          refine lv_iload B.hx B.hb dL_passes_355 (lv_at hl 0 rfl) ?_
          refine lv_imul B.hx B.hb dL_passes_357 ?_
          refine q_top (v2 := .int (nI (2 * i10))) (congrArg Value.int (pk_mul _ _)) ?_
          refine lv_iconst (v := (nI 1)) B.hx B.hb dL_passes_358 (by decide) ?_
          refine lv_iadd B.hx B.hb dL_passes_359 ?_
          refine q_top (v2 := .int (nI (2 * i10 + 1))) (congrArg Value.int (nI_add _ _)) ?_
          refine q_iald (f := (psV F td wv (duf F td sf) n)) B hP 2 rfl (j := 2 * i10 + 1) rfl (by omega) (by decide) dL_passes_360 ?_
          refine q_top (v2 := .int (nI (e9 + 1))) (congrArg Value.int hv9) ?_
          refine lv_if_eq (tgt := 391) B.hx B.hb dL_passes_361 (by decide) (fun c17 => False.elim (by replace c17 := (nI_eq0 (by omega)).mp c17; omega)) (fun _ => ?_)
          refine lv_aload_n B.hx B.hb dL_passes_364 rfl (lv_at hl 2 rfl) ?_
          refine lv_iload B.hx B.hb dL_passes_365 (lv_at hl 0 rfl) ?_
          refine lv_iconst (v := (nI 4)) B.hx B.hb dL_passes_367 (by decide) ?_
          refine lv_idiv B.hx B.hb dL_passes_368 (by decide) ?_
          refine q_top (v2 := .int (nI (i10 / 4))) (congrArg Value.int (pk_div (by omega) (by omega) (by omega))) ?_
          refine lv_aload_n B.hx B.hb dL_passes_369 rfl (lv_at hl 5 rfl) ?_
          refine lv_iconst (v := (nI 2)) B.hx B.hb dL_passes_370 (by decide) ?_
          refine lv_iload B.hx B.hb dL_passes_371 (lv_at hl 0 rfl) ?_
          refine lv_imul B.hx B.hb dL_passes_373 ?_
          refine q_top (v2 := .int (nI (2 * i10))) (congrArg Value.int (pk_mul _ _)) ?_
          refine lv_iconst (v := (nI 1)) B.hx B.hb dL_passes_374 (by decide) ?_
          refine lv_iadd B.hx B.hb dL_passes_375 ?_
          refine q_top (v2 := .int (nI (2 * i10 + 1))) (congrArg Value.int (nI_add _ _)) ?_
          refine q_iald (f := (psV F td wv (duf F td sf) n)) B hP 2 rfl (j := 2 * i10 + 1) rfl (by omega) (by decide) dL_passes_376 ?_
          refine q_top (v2 := .int (nI (e9 + 1))) (congrArg Value.int hv9) ?_
          refine lv_iconst (v := (nI 1)) B.hx B.hb dL_passes_377 (by decide) ?_
          refine lv_isub B.hx B.hb dL_passes_378 ?_
          refine q_top (v2 := .int (nI e9)) (congrArg Value.int (nI_pred1 _)) ?_
          refine q_callV (As := [.int (nI (i10 / 4)), .int (nI e9)]) (rest := []) B hP hD hS ((csv i10 e9 (by omega) he9 hv9).fl (lw cI o (va_up (va_up (va_up F 0 (psA F td n hm (duf F td sf) n)) 2 (psV F td wv (duf F td sf) n)) 4 (upd (F 4) 0 (nI (td + 1)))))) (cwV 2 B.hts gL_passes_X3_since rfl rfl rfl (by decide +kernel) ⟨(Nat.le_of_ble_eq_true rfl), (Nat.le_of_ble_eq_true rfl)⟩) (q2 + 8) 3 hq2 rfl rfl rfl hl.1 rfl (Nat.le_of_ble_eq_true rfl) dL_passes_379 ⟨show 10 + 1 * i10 + 1 ≤ 42 by omega, show 60 + 6 * i10 + 6 ≤ 252 by omega⟩ (fun E ce q9 H locs hx => False.elim hx) (fun v u H locs hp hP hD hS => ?_)
          obtain rfl := hp
          have hP : va_P D vwCl (lw cI o (va_up (va_up (va_up F 0 (psA F td n hm (duf F td sf) n)) 2 (psV F td wv (duf F td sf) n)) 4 (upd (F 4) 0 (nI (td + 1)))) ++ wk2) H := hP
          have hD : va_D A (lw cI o (va_up (va_up (va_up F 0 (psA F td n hm (duf F td sf) n)) 2 (psV F td wv (duf F td sf) n)) 4 (upd (F 4) 0 (nI (td + 1)))) ++ wk2) := hD
          refine lv_aload_n B.hx B.hb dL_passes_382 rfl (lv_at hl 5 rfl) ?_
          refine lv_iconst (v := (nI 2)) B.hx B.hb dL_passes_383 (by decide) ?_
          refine lv_iload B.hx B.hb dL_passes_384 (lv_at hl 0 rfl) ?_
          refine lv_imul B.hx B.hb dL_passes_386 ?_
          refine q_top (v2 := .int (nI (2 * i10))) (congrArg Value.int (pk_mul _ _)) ?_
          refine q_iald (f := (psV F td wv (duf F td sf) n)) B hP 2 rfl (j := 2 * i10) rfl (by omega) (by decide) dL_passes_387 ?_
          refine lv_icmp_ne (tgt := 395) B.hx B.hb dL_passes_388 (by decide) (fun c18 => False.elim (by exact c18 rfl)) (fun _ => ?_)
          refine lv_iconst (v := (nI 1)) B.hx B.hb dL_passes_391 (by decide) ?_
          refine lv_goto (tgt := 396) B.hx B.hb dL_passes_392 (by decide) ?_
          refine lv_istore (lv' := [(7, .int (nI 1)), (8, .int (nI i10)), (0, .ref b), (1, .ref (o 0)), (2, .ref (o 1)), (3, .ref (o 2)), (4, .ref (o 4))]) B.hx B.hb dL_passes_396 hl (by decide) rfl (fun ls hl => ?_)
          refine lv_iinc (v := (nI (i10 + 1))) (lv' := [(8, .int (nI (i10 + 1))), (7, .int (nI 1)), (0, .ref b), (1, .ref (o 0)), (2, .ref (o 1)), (3, .ref (o 2)), (4, .ref (o 4))]) B.hx B.hb dL_passes_398 hl (k := 1) rfl (nI_1 _) (by decide) rfl (fun ls hl => ?_)
          refine lv_goto (tgt := 341) B.hx B.hb dL_passes_401 (by decide) ?_
          exact W.widen (show 10 + 1 * i10 + 1 ≤ 10 + 1 * (i10 + 1) by omega) (show 60 + 6 * i10 + 6 ≤ 60 + 6 * (i10 + 1) by omega) (ih12 (i10 + 1) (by omega) (by omega) ls H _ (lv_sub hl [0, 1, 2, 3, 4, 5, 6] rfl) (show va_P D vwCl (lw cI o (va_up (va_up (va_up F 0 (psA F td n hm (duf F td sf) n)) 2 (psV F td wv (duf F td sf) n)) 4 (upd (F 4) 0 (nI (td + 1)))) ++ wk2) _ from hP) (show va_D A (lw cI o (va_up (va_up (va_up F 0 (psA F td n hm (duf F td sf) n)) 2 (psV F td wv (duf F td sf) n)) 4 (upd (F 4) 0 (nI (td + 1)))) ++ wk2) from hD) hS)
    · replace c9 := mt (nI_leI (by omega) (by omega)).mpr c9
      refine lv_iload B.hx B.hb dL_passes_105 (lv_at hl 2 rfl) ?_
      refine lv_iload B.hx B.hb dL_passes_107 (lv_at hl 0 rfl) ?_
      refine q_callS (As := [.int (nI (dueM (duf F td sf) n)), .int (nI i6)]) (rest := []) B hP hD hS ((cl_has l D cI cZ cP (dueM (duf F td sf) n) i6 (dueM_lt hn) (by omega)).fr0 (lw cI o (va_up (va_up (va_up F 0 (psA F td n hm (duf F td sf) i6)) 2 (psV F td wv (duf F td sf) i6)) 4 (upd (F 4) 0 (nI (td + 1)))) ++ wk2)) (cwS 2 B.hts gL_passes_L_has rfl rfl rfl (by decide +kernel) ⟨(Nat.le_of_ble_eq_true rfl), (Nat.le_of_ble_eq_true rfl)⟩) rfl hl.1 rfl (Nat.le_of_ble_eq_true rfl) dL_passes_109 ⟨show 2 + 1 * i6 + 0 ≤ 42 by omega, show 12 + 6 * i6 + 0 ≤ 252 by omega⟩ (fun E ce q9 H locs hx => False.elim hx) (fun v u H locs hp hP hD hS => ?_)
      obtain rfl := hp
      have hP : va_P D vwCl (lw cI o (va_up (va_up (va_up F 0 (psA F td n hm (duf F td sf) i6)) 2 (psV F td wv (duf F td sf) i6)) 4 (upd (F 4) 0 (nI (td + 1)))) ++ wk2) H := hP
      have hD : va_D A (lw cI o (va_up (va_up (va_up F 0 (psA F td n hm (duf F td sf) i6)) 2 (psV F td wv (duf F td sf) i6)) 4 (upd (F 4) 0 (nI (td + 1)))) ++ wk2) := hD
      refine q_top (v2 := .int (bI (duf F td sf i6))) (congrArg Value.int (congrArg bI (by rw [dueM_bit, decide_eq_true (show i6 < n by omega)]; rfl))) ?_
      refine lv_if_eq (tgt := 332) B.hx B.hb dL_passes_112 (by decide) (fun c19 => ?_) (fun c19 => ?_)
      · replace c19 := bI_0.mp c19
        refine lv_iinc (v := (nI (i6 + 1))) (lv' := [(8, .int (nI (i6 + 1))), (7, .int (nI 1)), (5, .int (nI (dueM (duf F td sf) n))), (0, .ref b), (1, .ref (o 0)), (2, .ref (o 1)), (3, .ref (o 2)), (4, .ref (o 4))]) B.hx B.hb dL_passes_332 hl (k := 0) rfl (nI_1 _) (by decide) rfl (fun ls hl => ?_)
        refine lv_goto (tgt := 96) B.hx B.hb dL_passes_335 (by decide) ?_
        exact W.widen (show 2 + 1 * i6 + 0 ≤ 2 + 1 * (i6 + 1) by omega) (show 12 + 6 * i6 + 0 ≤ 12 + 6 * (i6 + 1) by omega) (ih8 (i6 + 1) (by omega) (by omega) ls H _ (lv_sub hl [0, 1, 2, 3, 4, 5, 6, 7] rfl) (show va_P D vwCl (lw cI o (va_up (va_up (va_up F 0 (psA F td n hm (duf F td sf) (i6 + 1))) 2 (psV F td wv (duf F td sf) (i6 + 1))) 4 (upd (F 4) 0 (nI (td + 1)))) ++ wk2) _ from (by rw [psA_n c19, psV_n c19]; exact hP)) (show va_D A (lw cI o (va_up (va_up (va_up F 0 (psA F td n hm (duf F td sf) (i6 + 1))) 2 (psV F td wv (duf F td sf) (i6 + 1))) 4 (upd (F 4) 0 (nI (td + 1)))) ++ wk2) from (by rw [psA_n c19, psV_n c19]; exact hD)) hS)
      · replace c19 := bI_t1 c19
        have hf9 : duf F td sf i6 = true := c19
        have ⟨hw8, hw9⟩ := hwv i6 (by omega)
        refine lv_aload_n B.hx B.hb dL_passes_115 rfl (lv_at hl 4 rfl) ?_
        refine lv_bipush (v := (nI 8)) B.hx B.hb dL_passes_116 (by decide) ?_
        refine lv_iload B.hx B.hb dL_passes_118 (lv_at hl 0 rfl) ?_
        refine lv_imul B.hx B.hb dL_passes_120 ?_
        refine q_top (v2 := .int (nI (8 * i6))) (congrArg Value.int (pk_mul _ _)) ?_
        refine lv_iconst (v := (nI 0)) B.hx B.hb dL_passes_121 (by decide) ?_
        refine q_iast (f := (psA F td n hm (duf F td sf) i6)) B hP hD hS 0 rfl (j := 8 * i6) rfl (by omega) (by decide) dL_passes_122 (w' := (lw cI o (va_up (va_up (va_up F 0 (upd (psA F td n hm (duf F td sf) i6) (8 * i6) (nI 0))) 2 (psV F td wv (duf F td sf) i6)) 4 (upd (F 4) 0 (nI (td + 1)))) ++ wk2)) rfl (fun H locs hP hD hS => ?_)
        refine lv_aload_n B.hx B.hb dL_passes_123 rfl (lv_at hl 4 rfl) ?_
        refine lv_bipush (v := (nI 8)) B.hx B.hb dL_passes_124 (by decide) ?_
        refine lv_iload B.hx B.hb dL_passes_126 (lv_at hl 0 rfl) ?_
        refine lv_imul B.hx B.hb dL_passes_128 ?_
        refine q_top (v2 := .int (nI (8 * i6))) (congrArg Value.int (pk_mul _ _)) ?_
        refine lv_iconst (v := (nI 5)) B.hx B.hb dL_passes_129 (by decide) ?_
        refine lv_iadd B.hx B.hb dL_passes_130 ?_
        refine q_top (v2 := .int (nI (8 * i6 + 5))) (congrArg Value.int (nI_add _ _)) ?_
        refine lv_dup2_11 B.hx B.hb dL_passes_131 rfl rfl ?_
        refine q_iald (f := (upd (psA F td n hm (duf F td sf) i6) (8 * i6) (nI 0))) B hP 0 rfl (j := 8 * i6 + 5) rfl (by omega) (by decide) dL_passes_132 ?_
        refine q_top (v2 := .int ((psA F td n hm (duf F td sf) i6) (8 * i6 + 5))) (congrArg Value.int (pk_un (by omega))) ?_
        refine lv_iconst (v := (nI 1)) B.hx B.hb dL_passes_133 (by decide) ?_
        refine lv_iadd B.hx B.hb dL_passes_134 ?_
        refine q_iast (f := (upd (psA F td n hm (duf F td sf) i6) (8 * i6) (nI 0))) B hP hD hS 0 rfl (j := 8 * i6 + 5) rfl (by omega) (by decide) dL_passes_135 (w' := (lw cI o (va_up (va_up (va_up F 0 (upd (upd (psA F td n hm (duf F td sf) i6) (8 * i6) (nI 0)) (8 * i6 + 5) (((psA F td n hm (duf F td sf) i6) (8 * i6 + 5)) + (nI 1)))) 2 (psV F td wv (duf F td sf) i6)) 4 (upd (F 4) 0 (nI (td + 1)))) ++ wk2)) rfl (fun H locs hP hD hS => ?_)
        refine lv_aload_n B.hx B.hb dL_passes_136 rfl (lv_at hl 4 rfl) ?_
        refine lv_bipush (v := (nI 8)) B.hx B.hb dL_passes_137 (by decide) ?_
        refine lv_iload B.hx B.hb dL_passes_139 (lv_at hl 0 rfl) ?_
        refine lv_imul B.hx B.hb dL_passes_141 ?_
        refine q_top (v2 := .int (nI (8 * i6))) (congrArg Value.int (pk_mul _ _)) ?_
        refine lv_bipush (v := (nI 6)) B.hx B.hb dL_passes_142 (by decide) ?_
        refine lv_iadd B.hx B.hb dL_passes_144 ?_
        refine q_top (v2 := .int (nI (8 * i6 + 6))) (congrArg Value.int (nI_add _ _)) ?_
        refine lv_aload B.hx B.hb dL_passes_145 (lv_at hl 7 rfl) ?_
        refine lv_iconst (v := (nI 0)) B.hx B.hb dL_passes_147 (by decide) ?_
        refine q_iald (f := (upd (F 4) 0 (nI (td + 1)))) B hP 4 rfl (j := 0) rfl (by decide) (by decide) dL_passes_148 ?_
        refine q_top (v2 := .int (nI (td + 1))) (congrArg Value.int pk_us) ?_
        refine q_iast (f := (upd (upd (psA F td n hm (duf F td sf) i6) (8 * i6) (nI 0)) (8 * i6 + 5) (((psA F td n hm (duf F td sf) i6) (8 * i6 + 5)) + (nI 1)))) B hP hD hS 0 rfl (j := 8 * i6 + 6) rfl (by omega) (by decide) dL_passes_149 (w' := (lw cI o (va_up (va_up (va_up F 0 (upd (upd (upd (psA F td n hm (duf F td sf) i6) (8 * i6) (nI 0)) (8 * i6 + 5) (((psA F td n hm (duf F td sf) i6) (8 * i6 + 5)) + (nI 1))) (8 * i6 + 6) (nI (td + 1)))) 2 (psV F td wv (duf F td sf) i6)) 4 (upd (F 4) 0 (nI (td + 1)))) ++ wk2)) rfl (fun H locs hP hD hS => ?_)
        refine lv_aload_n B.hx B.hb dL_passes_150 rfl (lv_at hl 4 rfl) ?_
        refine lv_bipush (v := (nI 8)) B.hx B.hb dL_passes_151 (by decide) ?_
        refine lv_iload B.hx B.hb dL_passes_153 (lv_at hl 0 rfl) ?_
        refine lv_imul B.hx B.hb dL_passes_155 ?_
        refine q_top (v2 := .int (nI (8 * i6))) (congrArg Value.int (pk_mul _ _)) ?_
        refine lv_bipush (v := (nI 7)) B.hx B.hb dL_passes_156 (by decide) ?_
        refine lv_iadd B.hx B.hb dL_passes_158 ?_
        refine q_top (v2 := .int (nI (8 * i6 + 7))) (congrArg Value.int (nI_add _ _)) ?_
        refine lv_iconst (v := (nI 0)) B.hx B.hb dL_passes_159 (by decide) ?_
        refine q_iast (f := (upd (upd (upd (psA F td n hm (duf F td sf) i6) (8 * i6) (nI 0)) (8 * i6 + 5) (((psA F td n hm (duf F td sf) i6) (8 * i6 + 5)) + (nI 1))) (8 * i6 + 6) (nI (td + 1)))) B hP hD hS 0 rfl (j := 8 * i6 + 7) rfl (by omega) (by decide) dL_passes_160 (w' := (lw cI o (va_up (va_up (va_up F 0 (upd (upd (upd (upd (psA F td n hm (duf F td sf) i6) (8 * i6) (nI 0)) (8 * i6 + 5) (((psA F td n hm (duf F td sf) i6) (8 * i6 + 5)) + (nI 1))) (8 * i6 + 6) (nI (td + 1))) (8 * i6 + 7) (nI 0))) 2 (psV F td wv (duf F td sf) i6)) 4 (upd (F 4) 0 (nI (td + 1)))) ++ wk2)) rfl (fun H locs hP hD hS => ?_)
        refine lv_iconst (v := (nI 0)) B.hx B.hb dL_passes_161 (by decide) ?_
        refine lv_istore (lv' := [(9, .int (nI 0)), (8, .int (nI i6)), (7, .int (nI 1)), (5, .int (nI (dueM (duf F td sf) n))), (0, .ref b), (1, .ref (o 0)), (2, .ref (o 1)), (3, .ref (o 2)), (4, .ref (o 4))]) B.hx B.hb dL_passes_162 hl (by decide) rfl (fun ls hl => ?_)
        refine q_loopW (nL := 10) (fun i : Nat => i ≤ n) (fun i : Nat => n - i) (fun i : Nat => [(9, .int (nI i)), (8, .int (nI i6)), (7, .int (nI 1)), (5, .int (nI (dueM (duf F td sf) n))), (0, .ref b), (1, .ref (o 0)), (2, .ref (o 1)), (3, .ref (o 2)), (4, .ref (o 4))]) (fun i : Nat => (lw cI o (va_up (va_up (va_up F 0 (askA (comA (psA F td n hm (duf F td sf) i6) td i6) hm i6 i)) 2 (psV F td wv (duf F td sf) i6)) 4 (upd (F 4) 0 (nI (td + 1)))) ++ wk2)) (0) (Nat.zero_le _) (lv_sub hl [0, 1, 2, 3, 4, 5, 6, 7, 8] rfl) (show va_P D vwCl (lw cI o (va_up (va_up (va_up F 0 (askA (comA (psA F td n hm (duf F td sf) i6) td i6) hm i6 0)) 2 (psV F td wv (duf F td sf) i6)) 4 (upd (F 4) 0 (nI (td + 1)))) ++ wk2) _ from hP) (show va_D A (lw cI o (va_up (va_up (va_up F 0 (askA (comA (psA F td n hm (duf F td sf) i6) td i6) hm i6 0)) 2 (psV F td wv (duf F td sf) i6)) 4 (upd (F 4) 0 (nI (td + 1)))) ++ wk2) from hD) hS ?_
        intro i20 hI21 ih22 ls H locs hl hP hD hS
        have hI21 : i20 ≤ n := hI21
        have hl : lv_has ls 10 [(9, .int (nI i20)), (8, .int (nI i6)), (7, .int (nI 1)), (5, .int (nI (dueM (duf F td sf) n))), (0, .ref b), (1, .ref (o 0)), (2, .ref (o 1)), (3, .ref (o 2)), (4, .ref (o 4))] := hl
        have hP : va_P D vwCl (lw cI o (va_up (va_up (va_up F 0 (askA (comA (psA F td n hm (duf F td sf) i6) td i6) hm i6 i20)) 2 (psV F td wv (duf F td sf) i6)) 4 (upd (F 4) 0 (nI (td + 1)))) ++ wk2) H := hP
        have hD : va_D A (lw cI o (va_up (va_up (va_up F 0 (askA (comA (psA F td n hm (duf F td sf) i6) td i6) hm i6 i20)) 2 (psV F td wv (duf F td sf) i6)) 4 (upd (F 4) 0 (nI (td + 1)))) ++ wk2) := hD
        refine lv_iload B.hx B.hb dL_passes_164 (lv_at hl 0 rfl) ?_
        refine lv_aload B.hx B.hb dL_passes_166 (lv_at hl 8 rfl) ?_
        refine lv_iconst (v := (nI 1)) B.hx B.hb dL_passes_168 (by decide) ?_
        refine q_iald (f := (upd (F 4) 0 (nI (td + 1)))) B hP 4 rfl (j := 1) rfl (by decide) (by decide) dL_passes_169 ?_
        refine q_top (v2 := .int (nI n)) (congrArg Value.int ((pk_un (by omega)).trans f41)) ?_
        refine lv_icmp_ge (tgt := 227) B.hx B.hb dL_passes_170 (by decide) (fun c23 => ?_) (fun c23 => ?_)
        · replace c23 := (nI_leI (by omega) (by omega)).mp c23
          have e7 : i20 = n := by omega
          rw [e7] at hP hD
          refine lv_iload B.hx B.hb dL_passes_227 (lv_at hl 2 rfl) ?_
          refine lv_if_eq (tgt := 278) B.hx B.hb dL_passes_229 (by decide) (fun c24 => False.elim (by exact absurd c24 (by decide))) (fun _ => ?_)
          refine lv_aload_n B.hx B.hb dL_passes_232 rfl (lv_at hl 4 rfl) ?_
          refine lv_iload B.hx B.hb dL_passes_233 (lv_at hl 1 rfl) ?_
          refine q_callV (As := [.int (nI i6)]) (rest := []) B hP hD hS ((ct i6 (by omega) hf9).fl (lw cI o (va_up (va_up (va_up F 0 (askA (comA (psA F td n hm (duf F td sf) i6) td i6) hm i6 n)) 2 (psV F td wv (duf F td sf) i6)) 4 (upd (F 4) 0 (nI (td + 1)))))) (cwV 1 B.hts gL_passes_X3_text rfl rfl rfl (by decide +kernel) ⟨(Nat.le_of_ble_eq_true rfl), (Nat.le_of_ble_eq_true rfl)⟩) (q2 + 8) 3 hq2 rfl rfl rfl hl.1 rfl (Nat.le_of_ble_eq_true rfl) dL_passes_235 ⟨show 2 + 1 * i6 + 0 ≤ 42 by omega, show 12 + 6 * i6 + 0 ≤ 252 by omega⟩ (fun E ce q9 H locs hx => False.elim hx) (fun v u H locs hp hP hD hS => ?_)
          obtain rfl := hp
          have hP : va_P D vwCl (lw cI o (va_up (va_up (va_up F 0 (askA (comA (psA F td n hm (duf F td sf) i6) td i6) hm i6 n)) 2 (psV F td wv (duf F td sf) i6)) 4 (upd (F 4) 0 (nI (td + 1)))) ++ wk2) H := hP
          have hD : va_D A (lw cI o (va_up (va_up (va_up F 0 (askA (comA (psA F td n hm (duf F td sf) i6) td i6) hm i6 n)) 2 (psV F td wv (duf F td sf) i6)) 4 (upd (F 4) 0 (nI (td + 1)))) ++ wk2) := hD
          refine lv_aload_n B.hx B.hb dL_passes_238 rfl (lv_at hl 5 rfl) ?_
          refine lv_bipush (v := (nI 8)) B.hx B.hb dL_passes_239 (by decide) ?_
          refine lv_iload B.hx B.hb dL_passes_241 (lv_at hl 1 rfl) ?_
          refine lv_imul B.hx B.hb dL_passes_243 ?_
          refine q_top (v2 := .int (nI (8 * i6))) (congrArg Value.int (pk_mul _ _)) ?_
          refine lv_iconst (v := (nI 2)) B.hx B.hb dL_passes_244 (by decide) ?_
          refine lv_iadd B.hx B.hb dL_passes_245 ?_
          refine q_top (v2 := .int (nI (8 * i6 + 2))) (congrArg Value.int (nI_add _ _)) ?_
          refine q_iald (f := (askA (comA (psA F td n hm (duf F td sf) i6) td i6) hm i6 n)) B hP 0 rfl (j := 8 * i6 + 2) rfl (by omega) (by decide) dL_passes_246 ?_
          refine q_top (v2 := .int (F 0 (8 * i6 + 2))) (congrArg Value.int (by rw [askA_ne (by omega), comA, pk_un (by omega), pk_un (by omega), pk_un (by omega), pk_un (by omega), psA_ne (by omega) (by omega)])) ?_
          refine lv_icmp_ne (tgt := 278) B.hx B.hb dL_passes_247 (by decide) (fun c25 => False.elim (by exact c25 rfl)) (fun _ => ?_)
          refine lv_aload_n B.hx B.hb dL_passes_250 rfl (lv_at hl 4 rfl) ?_
          refine lv_iload B.hx B.hb dL_passes_251 (lv_at hl 1 rfl) ?_
          refine lv_aload_n B.hx B.hb dL_passes_253 rfl (lv_at hl 5 rfl) ?_
          refine lv_bipush (v := (nI 8)) B.hx B.hb dL_passes_254 (by decide) ?_
          refine lv_iload B.hx B.hb dL_passes_256 (lv_at hl 1 rfl) ?_
          refine lv_imul B.hx B.hb dL_passes_258 ?_
          refine q_top (v2 := .int (nI (8 * i6))) (congrArg Value.int (pk_mul _ _)) ?_
          refine lv_iconst (v := (nI 5)) B.hx B.hb dL_passes_259 (by decide) ?_
          refine lv_iadd B.hx B.hb dL_passes_260 ?_
          refine q_top (v2 := .int (nI (8 * i6 + 5))) (congrArg Value.int (nI_add _ _)) ?_
          refine q_iald (f := (askA (comA (psA F td n hm (duf F td sf) i6) td i6) hm i6 n)) B hP 0 rfl (j := 8 * i6 + 5) rfl (by omega) (by decide) dL_passes_261 ?_
          refine q_top (v2 := .int (nI (wv i6 + 1))) (congrArg Value.int (by rw [askA_ne (by omega), comA, pk_un (by omega), pk_un (by omega), pk_us, psA_ne (by omega) (by omega), hw8]; exact nI_add _ _)) ?_
          refine lv_iconst (v := (nI 1)) B.hx B.hb dL_passes_262 (by decide) ?_
          refine lv_isub B.hx B.hb dL_passes_263 ?_
          refine q_top (v2 := .int (nI (wv i6))) (congrArg Value.int (nI_pred1 _)) ?_
          refine q_callV (As := [.int (nI i6), .int (nI (wv i6))]) (rest := []) B hP hD hS ((csi i6 (by omega) hf9).fl (lw cI o (va_up (va_up (va_up F 0 (askA (comA (psA F td n hm (duf F td sf) i6) td i6) hm i6 n)) 2 (psV F td wv (duf F td sf) i6)) 4 (upd (F 4) 0 (nI (td + 1)))))) (cwV 2 B.hts gL_passes_X3_since rfl rfl rfl (by decide +kernel) ⟨(Nat.le_of_ble_eq_true rfl), (Nat.le_of_ble_eq_true rfl)⟩) (q2 + 8) 3 hq2 rfl rfl rfl hl.1 rfl (Nat.le_of_ble_eq_true rfl) dL_passes_264 ⟨show 2 + 1 * i6 + 1 ≤ 42 by omega, show 12 + 6 * i6 + 6 ≤ 252 by omega⟩ (fun E ce q9 H locs hx => False.elim hx) (fun v u H locs hp hP hD hS => ?_)
          obtain rfl := hp
          have hP : va_P D vwCl (lw cI o (va_up (va_up (va_up F 0 (askA (comA (psA F td n hm (duf F td sf) i6) td i6) hm i6 n)) 2 (psV F td wv (duf F td sf) i6)) 4 (upd (F 4) 0 (nI (td + 1)))) ++ wk2) H := hP
          have hD : va_D A (lw cI o (va_up (va_up (va_up F 0 (askA (comA (psA F td n hm (duf F td sf) i6) td i6) hm i6 n)) 2 (psV F td wv (duf F td sf) i6)) 4 (upd (F 4) 0 (nI (td + 1)))) ++ wk2) := hD
          refine lv_aload B.hx B.hb dL_passes_267 (lv_at hl 8 rfl) ?_
          refine lv_iconst (v := (nI 0)) B.hx B.hb dL_passes_269 (by decide) ?_
          refine q_iald (f := (upd (F 4) 0 (nI (td + 1)))) B hP 4 rfl (j := 0) rfl (by decide) (by decide) dL_passes_270 ?_
          refine q_top (v2 := .int (nI (td + 1))) (congrArg Value.int pk_us) ?_
          refine lv_icmp_ne (tgt := 278) B.hx B.hb dL_passes_271 (by decide) (fun c26 => False.elim (by replace c26 := mt (nI_eq (by omega) (by omega)).mpr c26; omega)) (fun _ => ?_)
          refine lv_iconst (v := (nI 1)) B.hx B.hb dL_passes_274 (by decide) ?_
          refine lv_goto (tgt := 279) B.hx B.hb dL_passes_275 (by decide) ?_
          refine lv_istore (lv' := [(7, .int (nI 1)), (9, .int (nI i20)), (8, .int (nI i6)), (5, .int (nI (dueM (duf F td sf) n))), (0, .ref b), (1, .ref (o 0)), (2, .ref (o 1)), (3, .ref (o 2)), (4, .ref (o 4))]) B.hx B.hb dL_passes_279 hl (by decide) rfl (fun ls hl => ?_)
          refine lv_aload_n B.hx B.hb dL_passes_281 rfl (lv_at hl 5 rfl) ?_
          refine lv_bipush (v := (nI 8)) B.hx B.hb dL_passes_282 (by decide) ?_
          refine lv_iload B.hx B.hb dL_passes_284 (lv_at hl 2 rfl) ?_
          refine lv_imul B.hx B.hb dL_passes_286 ?_
          refine q_top (v2 := .int (nI (8 * i6))) (congrArg Value.int (pk_mul _ _)) ?_
          refine lv_iconst (v := (nI 5)) B.hx B.hb dL_passes_287 (by decide) ?_
          refine lv_iadd B.hx B.hb dL_passes_288 ?_
          refine q_top (v2 := .int (nI (8 * i6 + 5))) (congrArg Value.int (nI_add _ _)) ?_
          refine q_iald (f := (askA (comA (psA F td n hm (duf F td sf) i6) td i6) hm i6 n)) B hP 0 rfl (j := 8 * i6 + 5) rfl (by omega) (by decide) dL_passes_289 ?_
          refine q_top (v2 := .int (nI (wv i6 + 1))) (congrArg Value.int (by rw [askA_ne (by omega), comA, pk_un (by omega), pk_un (by omega), pk_us, psA_ne (by omega) (by omega), hw8]; exact nI_add _ _)) ?_
          refine lv_istore (lv' := [(6, .int (nI (wv i6 + 1))), (7, .int (nI 1)), (9, .int (nI i20)), (8, .int (nI i6)), (5, .int (nI (dueM (duf F td sf) n))), (0, .ref b), (1, .ref (o 0)), (2, .ref (o 1)), (3, .ref (o 2)), (4, .ref (o 4))]) B.hx B.hb dL_passes_290 hl (by decide) rfl (fun ls hl => ?_)
          refine lv_aload_n B.hx B.hb dL_passes_292 rfl (lv_at hl 8 rfl) ?_
          refine lv_bipush (v := (nI 8)) B.hx B.hb dL_passes_293 (by decide) ?_
          refine lv_iload B.hx B.hb dL_passes_295 (lv_at hl 3 rfl) ?_
          refine lv_imul B.hx B.hb dL_passes_297 ?_
          refine q_top (v2 := .int (nI (8 * i6))) (congrArg Value.int (pk_mul _ _)) ?_
          refine lv_iload B.hx B.hb dL_passes_298 (lv_at hl 0 rfl) ?_
          refine lv_iconst (v := (nI 1)) B.hx B.hb dL_passes_300 (by decide) ?_
          refine lv_isub B.hx B.hb dL_passes_301 ?_
          refine q_top (v2 := .int (nI (wv i6))) (congrArg Value.int (nI_pred1 _)) ?_
          refine lv_iconst (v := (nI 4)) B.hx B.hb dL_passes_302 (by decide) ?_
          refine lv_irem B.hx B.hb dL_passes_303 (by decide) ?_
          refine q_top (v2 := .int (nI ((wv i6) % 4))) (congrArg Value.int (pk_rem (by omega) (by omega) (by omega))) ?_
          refine lv_iconst (v := (nI 2)) B.hx B.hb dL_passes_304 (by decide) ?_
          refine lv_imul B.hx B.hb dL_passes_305 ?_
          refine q_top (v2 := .int (nI (((wv i6) % 4) * 2))) (congrArg Value.int (pk_mul _ _)) ?_
          refine lv_iadd B.hx B.hb dL_passes_306 ?_
          refine q_top (v2 := .int (nI (8 * i6 + (((wv i6) % 4) * 2)))) (congrArg Value.int (nI_add _ _)) ?_
          refine lv_aload B.hx B.hb dL_passes_307 (lv_at hl 9 rfl) ?_
          refine lv_iconst (v := (nI 0)) B.hx B.hb dL_passes_309 (by decide) ?_
          refine q_iald (f := (upd (F 4) 0 (nI (td + 1)))) B hP 4 rfl (j := 0) rfl (by decide) (by decide) dL_passes_310 ?_
          refine q_top (v2 := .int (nI (td + 1))) (congrArg Value.int pk_us) ?_
          refine q_iast (f := (psV F td wv (duf F td sf) i6)) B hP hD hS 2 rfl (j := 8 * i6 + (((wv i6) % 4) * 2)) rfl (by omega) (by decide) dL_passes_311 (w' := (lw cI o (va_up (va_up (va_up F 0 (askA (comA (psA F td n hm (duf F td sf) i6) td i6) hm i6 n)) 2 (upd (psV F td wv (duf F td sf) i6) (8 * i6 + (((wv i6) % 4) * 2)) (nI (td + 1)))) 4 (upd (F 4) 0 (nI (td + 1)))) ++ wk2)) rfl (fun H locs hP hD hS => ?_)
          refine lv_aload_n B.hx B.hb dL_passes_312 rfl (lv_at hl 8 rfl) ?_
          refine lv_bipush (v := (nI 8)) B.hx B.hb dL_passes_313 (by decide) ?_
          refine lv_iload B.hx B.hb dL_passes_315 (lv_at hl 3 rfl) ?_
          refine lv_imul B.hx B.hb dL_passes_317 ?_
          refine q_top (v2 := .int (nI (8 * i6))) (congrArg Value.int (pk_mul _ _)) ?_
          refine lv_iload B.hx B.hb dL_passes_318 (lv_at hl 0 rfl) ?_
          refine lv_iconst (v := (nI 1)) B.hx B.hb dL_passes_320 (by decide) ?_
          refine lv_isub B.hx B.hb dL_passes_321 ?_
          refine q_top (v2 := .int (nI (wv i6))) (congrArg Value.int (nI_pred1 _)) ?_
          refine lv_iconst (v := (nI 4)) B.hx B.hb dL_passes_322 (by decide) ?_
          refine lv_irem B.hx B.hb dL_passes_323 (by decide) ?_
          refine q_top (v2 := .int (nI ((wv i6) % 4))) (congrArg Value.int (pk_rem (by omega) (by omega) (by omega))) ?_
          refine lv_iconst (v := (nI 2)) B.hx B.hb dL_passes_324 (by decide) ?_
          refine lv_imul B.hx B.hb dL_passes_325 ?_
          refine q_top (v2 := .int (nI (((wv i6) % 4) * 2))) (congrArg Value.int (pk_mul _ _)) ?_
          refine lv_iadd B.hx B.hb dL_passes_326 ?_
          refine q_top (v2 := .int (nI (8 * i6 + (((wv i6) % 4) * 2)))) (congrArg Value.int (nI_add _ _)) ?_
          refine lv_iconst (v := (nI 1)) B.hx B.hb dL_passes_327 (by decide) ?_
          refine lv_iadd B.hx B.hb dL_passes_328 ?_
          refine q_top (v2 := .int (nI ((8 * i6 + (((wv i6) % 4) * 2)) + 1))) (congrArg Value.int (nI_add _ _)) ?_
          refine lv_iload B.hx B.hb dL_passes_329 (lv_at hl 0 rfl) ?_
          refine q_iast (f := (upd (psV F td wv (duf F td sf) i6) (8 * i6 + (((wv i6) % 4) * 2)) (nI (td + 1)))) B hP hD hS 2 rfl (j := (8 * i6 + (((wv i6) % 4) * 2)) + 1) rfl (by omega) (by decide) dL_passes_331 (w' := (lw cI o (va_up (va_up (va_up F 0 (askA (comA (psA F td n hm (duf F td sf) i6) td i6) hm i6 n)) 2 (upd (upd (psV F td wv (duf F td sf) i6) (8 * i6 + (((wv i6) % 4) * 2)) (nI (td + 1))) ((8 * i6 + (((wv i6) % 4) * 2)) + 1) (nI (wv i6 + 1)))) 4 (upd (F 4) 0 (nI (td + 1)))) ++ wk2)) rfl (fun H locs hP hD hS => ?_)
          refine lv_iinc (v := (nI (i6 + 1))) (lv' := [(8, .int (nI (i6 + 1))), (6, .int (nI (wv i6 + 1))), (7, .int (nI 1)), (9, .int (nI i20)), (5, .int (nI (dueM (duf F td sf) n))), (0, .ref b), (1, .ref (o 0)), (2, .ref (o 1)), (3, .ref (o 2)), (4, .ref (o 4))]) B.hx B.hb dL_passes_332 hl (k := 3) rfl (nI_1 _) (by decide) rfl (fun ls hl => ?_)
          refine lv_goto (tgt := 96) B.hx B.hb dL_passes_335 (by decide) ?_
          exact W.widen (show 2 + 1 * i6 + 1 ≤ 2 + 1 * (i6 + 1) by omega) (show 12 + 6 * i6 + 6 ≤ 12 + 6 * (i6 + 1) by omega) (ih8 (i6 + 1) (by omega) (by omega) ls H _ (lv_sub hl [0, 2, 4, 5, 6, 7, 8, 9] rfl) (show va_P D vwCl (lw cI o (va_up (va_up (va_up F 0 (psA F td n hm (duf F td sf) (i6 + 1))) 2 (psV F td wv (duf F td sf) (i6 + 1))) 4 (upd (F 4) 0 (nI (td + 1)))) ++ wk2) _ from (by rw [psA_y hf9, psV_y hf9]; exact hP)) (show va_D A (lw cI o (va_up (va_up (va_up F 0 (psA F td n hm (duf F td sf) (i6 + 1))) 2 (psV F td wv (duf F td sf) (i6 + 1))) 4 (upd (F 4) 0 (nI (td + 1)))) ++ wk2) from (by rw [psA_y hf9, psV_y hf9]; exact hD)) hS)
        · replace c23 := mt (nI_leI (by omega) (by omega)).mpr c23
          refine lv_aload_n B.hx B.hb dL_passes_173 rfl (lv_at hl 5 rfl) ?_
          refine lv_bipush (v := (nI 8)) B.hx B.hb dL_passes_174 (by decide) ?_
          refine lv_iload B.hx B.hb dL_passes_176 (lv_at hl 0 rfl) ?_
          refine lv_imul B.hx B.hb dL_passes_178 ?_
          refine q_top (v2 := .int (nI (8 * i20))) (congrArg Value.int (pk_mul _ _)) ?_
          refine lv_bipush (v := (nI 7)) B.hx B.hb dL_passes_179 (by decide) ?_
          refine lv_iadd B.hx B.hb dL_passes_181 ?_
          refine q_top (v2 := .int (nI (8 * i20 + 7))) (congrArg Value.int (nI_add _ _)) ?_
          refine q_join (D := D) (A := A) (J := 220) (stk := [.int (askv (askA (comA (psA F td n hm (duf F td sf) i6) td i6) hm i6 i20) (hm i20) i6 i20), .int (nI (8 * i20 + 7)), .ref (o 0)]) (w := (lw cI o (va_up (va_up (va_up F 0 (askA (comA (psA F td n hm (duf F td sf) i6) td i6) hm i6 i20)) 2 (psV F td wv (duf F td sf) i6)) 4 (upd (F 4) 0 (nI (td + 1)))) ++ wk2)) (fun H locs hP hD hS => ?_) (fun kJ27 => ?_)
          · refine q_iast (f := (askA (comA (psA F td n hm (duf F td sf) i6) td i6) hm i6 i20)) B hP hD hS 0 rfl (j := 8 * i20 + 7) rfl (by omega) (by decide) dL_passes_220 (w' := (lw cI o (va_up (va_up (va_up F 0 (upd (askA (comA (psA F td n hm (duf F td sf) i6) td i6) hm i6 i20) (8 * i20 + 7) (askv (askA (comA (psA F td n hm (duf F td sf) i6) td i6) hm i6 i20) (hm i20) i6 i20))) 2 (psV F td wv (duf F td sf) i6)) 4 (upd (F 4) 0 (nI (td + 1)))) ++ wk2)) rfl (fun H locs hP hD hS => ?_)
            refine lv_iinc (v := (nI (i20 + 1))) (lv' := [(9, .int (nI (i20 + 1))), (8, .int (nI i6)), (7, .int (nI 1)), (5, .int (nI (dueM (duf F td sf) n))), (0, .ref b), (1, .ref (o 0)), (2, .ref (o 1)), (3, .ref (o 2)), (4, .ref (o 4))]) B.hx B.hb dL_passes_221 hl (k := 0) rfl (nI_1 _) (by decide) rfl (fun ls hl => ?_)
            refine lv_goto (tgt := 164) B.hx B.hb dL_passes_224 (by decide) ?_
            exact ih22 (i20 + 1) (by omega) (by omega) ls H _ (lv_sub hl [0, 1, 2, 3, 4, 5, 6, 7, 8] rfl) (show va_P D vwCl (lw cI o (va_up (va_up (va_up F 0 (askA (comA (psA F td n hm (duf F td sf) i6) td i6) hm i6 (i20 + 1))) 2 (psV F td wv (duf F td sf) i6)) 4 (upd (F 4) 0 (nI (td + 1)))) ++ wk2) _ from hP) (show va_D A (lw cI o (va_up (va_up (va_up F 0 (askA (comA (psA F td n hm (duf F td sf) i6) td i6) hm i6 (i20 + 1))) 2 (psV F td wv (duf F td sf) i6)) 4 (upd (F 4) 0 (nI (td + 1)))) ++ wk2) from hD) hS
          · refine lv_aload_n B.hx B.hb dL_passes_182 rfl (lv_at hl 6 rfl) ?_
            refine lv_iload B.hx B.hb dL_passes_183 (lv_at hl 0 rfl) ?_
            refine q_iald (f := (F 1)) B hP 1 rfl (j := i20) rfl (by omega) (by decide) dL_passes_185 ?_
            refine q_top (v2 := .int (nI (hm i20))) (congrArg Value.int (hhm i20 (by omega)).1) ?_
            refine lv_iload B.hx B.hb dL_passes_186 (lv_at hl 1 rfl) ?_
            refine q_callS (As := [.int (nI (hm i20)), .int (nI i6)]) (rest := [.int (nI (8 * i20 + 7)), .ref (o 0)]) B hP hD hS ((cl_has l D cI cZ cP (hm i20) i6 (hhm i20 (by omega)).2 (by omega)).fr0 (lw cI o (va_up (va_up (va_up F 0 (askA (comA (psA F td n hm (duf F td sf) i6) td i6) hm i6 i20)) 2 (psV F td wv (duf F td sf) i6)) 4 (upd (F 4) 0 (nI (td + 1)))) ++ wk2)) (cwS 2 B.hts gL_passes_L_has rfl rfl rfl (by decide +kernel) ⟨(Nat.le_of_ble_eq_true rfl), (Nat.le_of_ble_eq_true rfl)⟩) rfl hl.1 rfl (Nat.le_of_ble_eq_true rfl) dL_passes_188 ⟨show 2 + 1 * i6 + 0 ≤ 42 by omega, show 12 + 6 * i6 + 0 ≤ 252 by omega⟩ (fun E ce q9 H locs hx => False.elim hx) (fun v u H locs hp hP hD hS => ?_)
            obtain rfl := hp
            have hP : va_P D vwCl (lw cI o (va_up (va_up (va_up F 0 (askA (comA (psA F td n hm (duf F td sf) i6) td i6) hm i6 i20)) 2 (psV F td wv (duf F td sf) i6)) 4 (upd (F 4) 0 (nI (td + 1)))) ++ wk2) H := hP
            have hD : va_D A (lw cI o (va_up (va_up (va_up F 0 (askA (comA (psA F td n hm (duf F td sf) i6) td i6) hm i6 i20)) 2 (psV F td wv (duf F td sf) i6)) 4 (upd (F 4) 0 (nI (td + 1)))) ++ wk2) := hD
            refine lv_if_eq (tgt := 210) B.hx B.hb dL_passes_191 (by decide) (fun c28 => ?_) (fun c28 => ?_)
            · replace c28 := bI_0.mp c28
              refine lv_aload_n B.hx B.hb dL_passes_210 rfl (lv_at hl 5 rfl) ?_
              refine lv_bipush (v := (nI 8)) B.hx B.hb dL_passes_211 (by decide) ?_
              refine lv_iload B.hx B.hb dL_passes_213 (lv_at hl 0 rfl) ?_
              refine lv_imul B.hx B.hb dL_passes_215 ?_
              refine q_top (v2 := .int (nI (8 * i20))) (congrArg Value.int (pk_mul _ _)) ?_
              refine lv_bipush (v := (nI 7)) B.hx B.hb dL_passes_216 (by decide) ?_
              refine lv_iadd B.hx B.hb dL_passes_218 ?_
              refine q_top (v2 := .int (nI (8 * i20 + 7))) (congrArg Value.int (nI_add _ _)) ?_
              refine q_iald (f := (askA (comA (psA F td n hm (duf F td sf) i6) td i6) hm i6 i20)) B hP 0 rfl (j := 8 * i20 + 7) rfl (by omega) (by decide) dL_passes_219 ?_
              refine q_top (v2 := .int (askv (askA (comA (psA F td n hm (duf F td sf) i6) td i6) hm i6 i20) (hm i20) i6 i20)) (congrArg Value.int (if_neg (fun h => absurd (c28.symm.trans h.1) (by decide))).symm) ?_
              exact kJ27 _ _ hP hD hS
            · replace c28 := bI_t1 c28
              refine lv_aload_n B.hx B.hb dL_passes_194 rfl (lv_at hl 5 rfl) ?_
              refine lv_bipush (v := (nI 8)) B.hx B.hb dL_passes_195 (by decide) ?_
              refine lv_iload B.hx B.hb dL_passes_197 (lv_at hl 0 rfl) ?_
              refine lv_imul B.hx B.hb dL_passes_199 ?_
              refine q_top (v2 := .int (nI (8 * i20))) (congrArg Value.int (pk_mul _ _)) ?_
              refine lv_iconst (v := (nI 5)) B.hx B.hb dL_passes_200 (by decide) ?_
              refine lv_iadd B.hx B.hb dL_passes_201 ?_
              refine q_top (v2 := .int (nI (8 * i20 + 5))) (congrArg Value.int (nI_add _ _)) ?_
              refine q_iald (f := (askA (comA (psA F td n hm (duf F td sf) i6) td i6) hm i6 i20)) B hP 0 rfl (j := 8 * i20 + 5) rfl (by omega) (by decide) dL_passes_202 ?_
              refine lv_if_le (tgt := 210) B.hx B.hb dL_passes_203 (by decide) (fun c29 => ?_) (fun c29 => ?_)
              · refine lv_aload_n B.hx B.hb dL_passes_210 rfl (lv_at hl 5 rfl) ?_
                refine lv_bipush (v := (nI 8)) B.hx B.hb dL_passes_211 (by decide) ?_
                refine lv_iload B.hx B.hb dL_passes_213 (lv_at hl 0 rfl) ?_
                refine lv_imul B.hx B.hb dL_passes_215 ?_
                refine q_top (v2 := .int (nI (8 * i20))) (congrArg Value.int (pk_mul _ _)) ?_
                refine lv_bipush (v := (nI 7)) B.hx B.hb dL_passes_216 (by decide) ?_
                refine lv_iadd B.hx B.hb dL_passes_218 ?_
                refine q_top (v2 := .int (nI (8 * i20 + 7))) (congrArg Value.int (nI_add _ _)) ?_
                refine q_iald (f := (askA (comA (psA F td n hm (duf F td sf) i6) td i6) hm i6 i20)) B hP 0 rfl (j := 8 * i20 + 7) rfl (by omega) (by decide) dL_passes_219 ?_
                refine q_top (v2 := .int (askv (askA (comA (psA F td n hm (duf F td sf) i6) td i6) hm i6 i20) (hm i20) i6 i20)) (congrArg Value.int (if_neg (fun h => h.2 c29)).symm) ?_
                exact kJ27 _ _ hP hD hS
              · refine lv_iconst (v := (nI 1)) B.hx B.hb dL_passes_206 (by decide) ?_
                refine lv_goto (tgt := 220) B.hx B.hb dL_passes_207 (by decide) ?_
                refine q_top (v2 := .int (askv (askA (comA (psA F td n hm (duf F td sf) i6) td i6) hm i6 i20) (hm i20) i6 i20)) (congrArg Value.int (if_pos ⟨c28, c29⟩).symm) ?_
                exact kJ27 _ _ hP hD hS
  · replace c4 := mt (nI_leI (by omega) (by omega)).mpr c4
    have hs9 := hsf i1 (by omega)
    have hM9 := dueM_lt (f := duf F td sf) (k := i1) (by omega)
    refine lv_iload B.hx B.hb dL_passes_18 (lv_at hl 1 rfl) ?_
    refine q_join (D := D) (A := A) (J := 56) (stk := [.int (nI (dub (duf F td sf i1) i1)), .int (nI (dueM (duf F td sf) i1))]) (w := (lw cI o F ++ wk)) (fun H locs hP hD hS => ?_) (fun kJ30 => ?_)
    · refine lv_ior B.hx B.hb dL_passes_56 ?_
      refine q_top (v2 := .int (nI (dueM (duf F td sf) (i1 + 1)))) (congrArg Value.int (dueM_s (by omega))) ?_
      refine lv_istore (lv' := [(5, .int (nI (dueM (duf F td sf) (i1 + 1)))), (7, .int (nI i1)), (0, .ref b), (1, .ref (o 0)), (2, .ref (o 1)), (3, .ref (o 2)), (4, .ref (o 4))]) B.hx B.hb dL_passes_57 hl (by decide) rfl (fun ls hl => ?_)
      refine lv_iinc (v := (nI (i1 + 1))) (lv' := [(7, .int (nI (i1 + 1))), (5, .int (nI (dueM (duf F td sf) (i1 + 1)))), (0, .ref b), (1, .ref (o 0)), (2, .ref (o 1)), (3, .ref (o 2)), (4, .ref (o 4))]) B.hx B.hb dL_passes_59 hl (k := 1) rfl (nI_1 _) (by decide) rfl (fun ls hl => ?_)
      refine lv_goto (tgt := 9) B.hx B.hb dL_passes_62 (by decide) ?_
      exact ih3 (i1 + 1) (by omega) (by omega) ls H _ (lv_sub hl [0, 1, 2, 3, 4, 5, 6] rfl) hP hD hS
    · refine lv_aload_n B.hx B.hb dL_passes_20 rfl (lv_at hl 2 rfl) ?_
      refine lv_iload B.hx B.hb dL_passes_21 (lv_at hl 0 rfl) ?_
      refine q_callV (As := [.int (nI i1)]) (rest := [.int (nI (dueM (duf F td sf) i1))]) B hP hD hS ((cs i1 (by omega)).fl (lw cI o F)) (cwV 1 B.hts gL_passes_X3_step rfl rfl rfl (by decide +kernel) ⟨(Nat.le_of_ble_eq_true rfl), (Nat.le_of_ble_eq_true rfl)⟩) (q0 + 8) 3 hq rfl rfl rfl hl.1 rfl (Nat.le_of_ble_eq_true rfl) dL_passes_23 ⟨(Nat.le_of_ble_eq_true rfl), (Nat.le_of_ble_eq_true rfl)⟩ (fun E ce q9 H locs hx => False.elim hx) (fun v u H locs hp hP hD hS => ?_)
      obtain rfl := hp
      have hP : va_P D vwCl (lw cI o F ++ wk) H := hP
      have hD : va_D A (lw cI o F ++ wk) := hD
      refine lv_iconst (v := (nI 5)) B.hx B.hb dL_passes_26 (by decide) ?_
      refine lv_icmp_ne (tgt := 55) B.hx B.hb dL_passes_27 (by decide) (fun c31 => ?_) (fun c31 => ?_)
      · replace c31 := mt (nI_eq (by omega) (by omega)).mpr c31
        refine lv_iconst (v := (nI 0)) B.hx B.hb dL_passes_55 (by decide) ?_
        refine q_top (v2 := .int (nI (dub (duf F td sf i1) i1))) (congrArg Value.int (congrArg nI (by simp [duf, dub, c31]))) ?_
        exact kJ30 _ _ hP hD hS
      · replace c31 := (nI_eq (by omega) (by omega)).mp c31
        refine lv_aload_n B.hx B.hb dL_passes_30 rfl (lv_at hl 3 rfl) ?_
        refine lv_bipush (v := (nI 8)) B.hx B.hb dL_passes_31 (by decide) ?_
        refine lv_iload B.hx B.hb dL_passes_33 (lv_at hl 0 rfl) ?_
        refine lv_imul B.hx B.hb dL_passes_35 ?_
        refine q_top (v2 := .int (nI (8 * i1))) (congrArg Value.int (pk_mul _ _)) ?_
        refine lv_iconst (v := (nI 4)) B.hx B.hb dL_passes_36 (by decide) ?_
        refine lv_iadd B.hx B.hb dL_passes_37 ?_
        refine q_top (v2 := .int (nI (8 * i1 + 4))) (congrArg Value.int (nI_add _ _)) ?_
        refine q_iald (f := (F 0)) B hP 0 rfl (j := 8 * i1 + 4) rfl (by omega) (by decide) dL_passes_38 ?_
        refine lv_aload B.hx B.hb dL_passes_39 (lv_at hl 6 rfl) ?_
        refine lv_iconst (v := (nI 0)) B.hx B.hb dL_passes_41 (by decide) ?_
        refine q_iald (f := (F 4)) B hP 4 rfl (j := 0) rfl (by decide) (by decide) dL_passes_42 ?_
        refine q_top (v2 := .int (nI td)) (congrArg Value.int f40) ?_
        refine lv_iconst (v := (nI 1)) B.hx B.hb dL_passes_43 (by decide) ?_
        refine lv_iadd B.hx B.hb dL_passes_44 ?_
        refine q_top (v2 := .int (nI (td + 1))) (congrArg Value.int (nI_add _ _)) ?_
        refine lv_icmp_gt (tgt := 55) B.hx B.hb dL_passes_45 (by decide) (fun c32 => ?_) (fun c32 => ?_)
        · refine lv_iconst (v := (nI 0)) B.hx B.hb dL_passes_55 (by decide) ?_
          refine q_top (v2 := .int (nI (dub (duf F td sf i1) i1))) (congrArg Value.int (congrArg nI (by simp [duf, dub, c31, c32]))) ?_
          exact kJ30 _ _ hP hD hS
        · refine lv_iconst (v := (nI 1)) B.hx B.hb dL_passes_48 (by decide) ?_
          refine lv_iload B.hx B.hb dL_passes_49 (lv_at hl 0 rfl) ?_
          refine lv_ishl B.hx B.hb dL_passes_51 ?_
          refine q_top (v2 := .int (nI (2 ^ i1))) (congrArg Value.int (msk_shl (by omega))) ?_
          refine lv_goto (tgt := 56) B.hx B.hb dL_passes_52 (by decide) ?_
          refine q_top (v2 := .int (nI (dub (duf F td sf i1) i1))) (congrArg Value.int (congrArg nI (by simp [duf, dub, c31, c32]))) ?_
          exact kJ30 _ _ hP hD hS
