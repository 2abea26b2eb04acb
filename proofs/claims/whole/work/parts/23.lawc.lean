/-! THE CALLS OF THE LOOP, each over any contracts of the two. -/
section QW
variable {p : Program} {l : Launch} {e : Env} {R : Room} {s : State} {m : MethodId} {args : Array Value} {below : List Frame} {meth : Method} {c : Code} {H : Heap} {locs : List Loc} {cells slots : Nat} {Q : State → Prop}
variable {D : va_G} {cI cZ cP cJ : ClassId} {A : Nat → Prop} {ls : Array Slot}
set_option maxHeartbeats 4000000 in
theorem lc_setRoles {i L z sb bx o9 fr1 lo1 mc1 ms1 fr2 lo2 : Nat} {xs : Nat → Int32} {wk : va_W} {o : Nat → Nat} {J J2 : Nat → Int32} {Z Z2 : Nat → Nat → Int32} {f : Nat → Int64} {Kp : va_W → Prop} (B : q_B p l s m args meth c D cI cZ cP cJ A cL_law 7 RL wsL_law) (hR : R.frames = 12 ∧ R.locals = 434) (hX : va_X sb L xs s s.heap) (hbl : sb < s.heap.size) (hbA : ¬ A sb) (hL : L ≤ 2048) (hin : i + 4 ≤ L)
    (h1 : q_C l yL_setRoles wsL_setRoles { frames := fr1, cells := mc1, slots := ms1, locals := lo1 } D cI cZ cP cJ [.ref bx, .int (xs (i + 1)), .int (nb (xs (i + 2))), .int (nb (xs (i + 3)))] wk (S := va_W) (fun v u => v = some (.int (nI z)) ∧ Kp u) (fun u => u) (fun _ => False) mc1 ms1)
    (h2 : q_C l yX4_setRoles wsX4_setRoles { frames := fr2, cells := 0, slots := 0, locals := lo2 } D cI cZ cP cJ [.ref (o 0), .int (xs (i + 1)), .int (nb (xs (i + 2))), .int (nb (xs (i + 3)))] (mw cI cZ o J Z) (S := Unit) (fun v _ => v = none) (fun _ => mw cI cZ o J2 Z2) (fun _ => False) 0 0)
    (hJ : J2 30 = nI z) (hz : z < 2 ^ 31) (hr1 : fr1 + 1 ≤ 12 ∧ 8 + (5 + 11) + lo1 ≤ 434) (hr2 : fr2 + 1 ≤ 12 ∧ 8 + (4 + 11) + lo2 ≤ 434) (hfit : cells + mc1 ≤ R.cells ∧ slots + ms1 ≤ R.slots)
    (hP : va_P D vwCl (wk ++ (mw cI cZ o J Z ++ [oc cJ o9 f])) H) (hD : va_D A (wk ++ (mw cI cZ o J Z ++ [oc cJ o9 f]))) (hS : va_S A s.heap H locs) (hl : lv_has ls 7 [(0, .ref sb), (1, .ref bx), (2, .ref (o 0)), (3, .ref o9), (4, .int (nI i))])
    (kk : ∀ (wk2 : va_W) (f2 : Nat → Int64) (H1 : Heap) (locs1 : List Loc) (ls1 : Array Slot), Kp wk2 → va_P D vwCl (wk2 ++ (mw cI cZ o J2 Z2 ++ [oc cJ o9 f2])) H1 → va_D A (wk2 ++ (mw cI cZ o J2 Z2 ++ [oc cJ o9 f2])) → va_S A s.heap H1 locs1 → lv_has ls1 7 [(0, .ref sb), (1, .ref bx), (2, .ref (o 0)), (3, .ref o9), (4, .int (nI i))] → W p l e R s m args below meth c H1 locs1 (cells + mc1) (slots + ms1) Q (F0 m 1863 ls1 [])) :
    W p l e R s m args below meth c H locs cells slots Q (F0 m 160 ls []) := by
  refine lv_aload_n B.hx B.hb dL_law_160 rfl (lv_at hl 1 rfl) ?_
  refine lw_arg (d := 1) B hS hX hbl hbA hL (by omega) hl 0 4 rfl rfl (by decide) rfl dL_law_161 dL_law_162 dL_law_164 dL_law_165 dL_law_166 ?_
  refine lw_arg (d := 2) B hS hX hbl hbA hL (by omega) hl 0 4 rfl rfl (by decide) rfl dL_law_167 dL_law_168 dL_law_170 dL_law_171 dL_law_172 ?_
  refine lw_bool B.hx B.hb dL_law_173 dL_law_176 dL_law_177 dL_law_180 ?_
  refine lw_arg (d := 3) B hS hX hbl hbA hL (by omega) hl 0 4 rfl rfl (by decide) rfl dL_law_181 dL_law_182 dL_law_184 dL_law_185 dL_law_186 ?_
  refine lw_bool B.hx B.hb dL_law_187 dL_law_190 dL_law_191 dL_law_194 ?_
  refine q_callSX (As := [.ref bx, .int (xs (i + 1)), .int (nb (xs (i + 2))), .int (nb (xs (i + 3)))]) (rest := []) B hP hD hS (h1.fr (mw cI cZ o J Z ++ [oc cJ o9 f])) (vx_cwSW 4 B.hts gL_law_L_setRoles rfl rfl rfl (by decide +kernel) ⟨by rw [hR.1]; exact hr1.1, by rw [hR.2]; exact hr1.2⟩) rfl hl.1 rfl (Nat.le_of_ble_eq_true rfl) dL_law_195 hfit (fun E ce q9 H locs hx => False.elim hx) (fun v u H locs hp hP hD hS => ?_)
  obtain ⟨rfl, hKp⟩ := hp
  have hP : va_P D vwCl (u ++ (mw cI cZ o J Z ++ [oc cJ o9 f])) H := hP
  have hD : va_D A (u ++ (mw cI cZ o J Z ++ [oc cJ o9 f])) := hD
  refine lv_istore (lv' := [(5, .int (nI z)), (0, .ref sb), (1, .ref bx), (2, .ref (o 0)), (3, .ref o9), (4, .int (nI i))]) B.hx B.hb dL_law_198 hl (by decide) rfl (fun ls hl => ?_)
  refine lv_aload_n B.hx B.hb dL_law_200 rfl (lv_at hl 3 rfl) ?_
  refine lw_arg (d := 1) B hS hX hbl hbA hL (by omega) hl 1 5 rfl rfl (by decide) rfl dL_law_201 dL_law_202 dL_law_204 dL_law_205 dL_law_206 ?_
  refine lw_arg (d := 2) B hS hX hbl hbA hL (by omega) hl 1 5 rfl rfl (by decide) rfl dL_law_207 dL_law_208 dL_law_210 dL_law_211 dL_law_212 ?_
  refine lw_bool B.hx B.hb dL_law_213 dL_law_216 dL_law_217 dL_law_220 ?_
  refine lw_arg (d := 3) B hS hX hbl hbA hL (by omega) hl 1 5 rfl rfl (by decide) rfl dL_law_221 dL_law_222 dL_law_224 dL_law_225 dL_law_226 ?_
  refine lw_bool B.hx B.hb dL_law_227 dL_law_230 dL_law_231 dL_law_234 ?_
  obtain ⟨fs, hq⟩ := mw_at (cI := cI) (cZ := cZ) u [oc cJ o9 f] (o := o) (J := J) (Z := Z)
  refine q_callV (As := [.int (xs (i + 1)), .int (nb (xs (i + 2))), .int (nb (xs (i + 3)))]) (rest := []) B hP hD hS ((h2.fr [oc cJ o9 f]).fl u) (cwV 3 B.hts gL_law_X4_setRoles rfl rfl rfl (by decide +kernel) ⟨by rw [hR.1]; exact hr2.1, by rw [hR.2]; exact hr2.2⟩) u.length 4 hq rfl rfl rfl hl.1 rfl (Nat.le_of_ble_eq_true rfl) dL_law_235 hfit (fun E ce q9 H locs hx => False.elim hx) (fun v u2 H locs hp hP hD hS => ?_)
  obtain rfl := hp
  have hP : va_P D vwCl (u ++ (mw cI cZ o J2 Z2 ++ [oc cJ o9 f])) H := hP
  have hD : va_D A (u ++ (mw cI cZ o J2 Z2 ++ [oc cJ o9 f])) := hD
  refine lw_tailV B hR hfit hP hD hS hl hJ rfl dL_law_238 dL_law_239 dL_law_242 dL_law_244 dL_law_249 (by decide) (fun H locs hP hD hS => ?_)
  exact kk u f H locs ls hKp hP hD hS (lv_sub hl [1, 2, 3, 4, 5] rfl)
set_option maxHeartbeats 4000000 in
theorem lc_setDeputy {i L z sb bx o9 fr1 lo1 mc1 ms1 fr2 lo2 : Nat} {xs : Nat → Int32} {wk : va_W} {o : Nat → Nat} {J J2 : Nat → Int32} {Z Z2 : Nat → Nat → Int32} {f : Nat → Int64} {Kp : va_W → Prop} {b9 : Int32} (B : q_B p l s m args meth c D cI cZ cP cJ A cL_law 7 RL wsL_law) (hR : R.frames = 12 ∧ R.locals = 434) (hX : va_X sb L xs s s.heap) (hbl : sb < s.heap.size) (hbA : ¬ A sb) (hL : L ≤ 2048) (hin : i + 4 ≤ L)
    (h1 : q_C l yL_setDeputy wsL_setDeputy { frames := fr1, cells := mc1, slots := ms1, locals := lo1 } D cI cZ cP cJ [.ref bx, .int (xs (i + 1)), .int (xs (i + 2)), .ref o9] (wk ++ [oc cJ o9 f]) (S := va_W × (Nat → Int64)) (fun v u => v = some (.int (nI z)) ∧ Kp u.1 ∧ (z = 0 → u.2 0 = b9.toInt64)) (fun u => u.1 ++ [oc cJ o9 u.2]) (fun _ => False) mc1 ms1)
    (h2 : q_C l yX4_setDeputy wsX4_setDeputy { frames := fr2, cells := 0, slots := 0, locals := lo2 } D cI cZ cP cJ [.ref (o 0), .int (xs (i + 1)), .int (xs (i + 2))] (mw cI cZ o J Z) (S := Unit) (fun v _ => v = some (.int b9)) (fun _ => mw cI cZ o J2 Z2) (fun _ => False) 0 0)
    (hJ : J2 30 = nI z) (hz : z < 2 ^ 31) (hr1 : fr1 + 1 ≤ 12 ∧ 8 + (5 + 11) + lo1 ≤ 434) (hr2 : fr2 + 1 ≤ 12 ∧ 8 + (4 + 11) + lo2 ≤ 434) (hfit : cells + mc1 ≤ R.cells ∧ slots + ms1 ≤ R.slots)
    (hP : va_P D vwCl (wk ++ (mw cI cZ o J Z ++ [oc cJ o9 f])) H) (hD : va_D A (wk ++ (mw cI cZ o J Z ++ [oc cJ o9 f]))) (hS : va_S A s.heap H locs) (hl : lv_has ls 7 [(0, .ref sb), (1, .ref bx), (2, .ref (o 0)), (3, .ref o9), (4, .int (nI i))])
    (kk : ∀ (wk2 : va_W) (f2 : Nat → Int64) (H1 : Heap) (locs1 : List Loc) (ls1 : Array Slot), Kp wk2 → va_P D vwCl (wk2 ++ (mw cI cZ o J2 Z2 ++ [oc cJ o9 f2])) H1 → va_D A (wk2 ++ (mw cI cZ o J2 Z2 ++ [oc cJ o9 f2])) → va_S A s.heap H1 locs1 → lv_has ls1 7 [(0, .ref sb), (1, .ref bx), (2, .ref (o 0)), (3, .ref o9), (4, .int (nI i))] → W p l e R s m args below meth c H1 locs1 (cells + mc1) (slots + ms1) Q (F0 m 1863 ls1 [])) :
    W p l e R s m args below meth c H locs cells slots Q (F0 m 252 ls []) := by
  refine lv_aload_n B.hx B.hb dL_law_252 rfl (lv_at hl 1 rfl) ?_
  refine lw_arg (d := 1) B hS hX hbl hbA hL (by omega) hl 0 4 rfl rfl (by decide) rfl dL_law_253 dL_law_254 dL_law_256 dL_law_257 dL_law_258 ?_
  refine lw_arg (d := 2) B hS hX hbl hbA hL (by omega) hl 0 4 rfl rfl (by decide) rfl dL_law_259 dL_law_260 dL_law_262 dL_law_263 dL_law_264 ?_
  refine lv_aload_n B.hx B.hb dL_law_265 rfl (lv_at hl 3 rfl) ?_
  refine q_callSX (As := [.ref bx, .int (xs (i + 1)), .int (xs (i + 2)), .ref o9]) (rest := []) B hP hD hS (lw_fr1 h1) (vx_cwSW 4 B.hts gL_law_L_setDeputy rfl rfl rfl (by decide +kernel) ⟨by rw [hR.1]; exact hr1.1, by rw [hR.2]; exact hr1.2⟩) rfl hl.1 rfl (Nat.le_of_ble_eq_true rfl) dL_law_266 hfit (fun E ce q9 H locs hx => False.elim hx) (fun v u H locs hp hP hD hS => ?_)
  obtain ⟨wk2, f2⟩ := u
  obtain ⟨rfl, hKp, hans⟩ := hp
  have hP : va_P D vwCl (wk2 ++ (mw cI cZ o J Z ++ [oc cJ o9 f2])) H := hP
  have hD : va_D A (wk2 ++ (mw cI cZ o J Z ++ [oc cJ o9 f2])) := hD
  refine lv_istore (lv' := [(5, .int (nI z)), (0, .ref sb), (1, .ref bx), (2, .ref (o 0)), (3, .ref o9), (4, .int (nI i))]) B.hx B.hb dL_law_269 hl (by decide) rfl (fun ls hl => ?_)
  refine lv_aload_n B.hx B.hb dL_law_271 rfl (lv_at hl 3 rfl) ?_
  refine lw_arg (d := 1) B hS hX hbl hbA hL (by omega) hl 1 5 rfl rfl (by decide) rfl dL_law_272 dL_law_273 dL_law_275 dL_law_276 dL_law_277 ?_
  refine lw_arg (d := 2) B hS hX hbl hbA hL (by omega) hl 1 5 rfl rfl (by decide) rfl dL_law_278 dL_law_279 dL_law_281 dL_law_282 dL_law_283 ?_
  obtain ⟨fs, hq⟩ := mw_at (cI := cI) (cZ := cZ) wk2 [oc cJ o9 f2] (o := o) (J := J) (Z := Z)
  refine q_callV (As := [.int (xs (i + 1)), .int (xs (i + 2))]) (rest := []) B hP hD hS ((h2.fr [oc cJ o9 f2]).fl wk2) (cwV 2 B.hts gL_law_X4_setDeputy rfl rfl rfl (by decide +kernel) ⟨by rw [hR.1]; exact hr2.1, by rw [hR.2]; exact hr2.2⟩) wk2.length 4 hq rfl rfl rfl hl.1 rfl (Nat.le_of_ble_eq_true rfl) dL_law_284 hfit (fun E ce q9 H locs hx => False.elim hx) (fun v u2 H locs hp hP hD hS => ?_)
  obtain rfl := hp
  have hP : va_P D vwCl (wk2 ++ (mw cI cZ o J2 Z2 ++ [oc cJ o9 f2])) H := hP
  have hD : va_D A (wk2 ++ (mw cI cZ o J2 Z2 ++ [oc cJ o9 f2])) := hD
  refine lv_istore (lv' := [(6, .int b9), (5, .int (nI z)), (0, .ref sb), (1, .ref bx), (2, .ref (o 0)), (3, .ref o9), (4, .int (nI i))]) B.hx B.hb dL_law_287 hl (by decide) rfl (fun ls hl => ?_)
  refine lw_tail B hR hfit hP hD hS hl hJ hz hans rfl rfl dL_law_289 dL_law_290 dL_law_293 dL_law_295 dL_law_300 dL_law_302 dL_law_305 dL_law_306 dL_law_307 dL_law_308 dL_law_310 dL_law_311 dL_law_312 dL_law_317 (by decide) (fun H locs hP hD hS => ?_)
  exact kk wk2 f2 H locs ls hKp hP hD hS (lv_sub hl [2, 3, 4, 5, 6] rfl)
set_option maxHeartbeats 4000000 in
theorem lc_open {i L z sb bx o9 fr1 lo1 mc1 ms1 fr2 lo2 : Nat} {xs : Nat → Int32} {wk : va_W} {o : Nat → Nat} {J J2 : Nat → Int32} {Z Z2 : Nat → Nat → Int32} {f : Nat → Int64} {Kp : va_W → Prop} {b9 : Int32} (B : q_B p l s m args meth c D cI cZ cP cJ A cL_law 7 RL wsL_law) (hR : R.frames = 12 ∧ R.locals = 434) (hX : va_X sb L xs s s.heap) (hbl : sb < s.heap.size) (hbA : ¬ A sb) (hL : L ≤ 2048) (hin : i + 4 ≤ L)
    (h1 : q_C l yL_open wsL_open { frames := fr1, cells := mc1, slots := ms1, locals := lo1 } D cI cZ cP cJ [.ref bx, .int (nb (xs (i + 1))), .ref o9] (wk ++ [oc cJ o9 f]) (S := va_W × (Nat → Int64)) (fun v u => v = some (.int (nI z)) ∧ Kp u.1 ∧ (z = 0 → u.2 0 = b9.toInt64)) (fun u => u.1 ++ [oc cJ o9 u.2]) (fun _ => False) mc1 ms1)
    (h2 : q_C l yX4_open wsX4_open { frames := fr2, cells := 0, slots := 0, locals := lo2 } D cI cZ cP cJ [.ref (o 0), .int (nb (xs (i + 1)))] (mw cI cZ o J Z) (S := Unit) (fun v _ => v = some (.int b9)) (fun _ => mw cI cZ o J2 Z2) (fun _ => False) 0 0)
    (hJ : J2 30 = nI z) (hz : z < 2 ^ 31) (hr1 : fr1 + 1 ≤ 12 ∧ 8 + (4 + 11) + lo1 ≤ 434) (hr2 : fr2 + 1 ≤ 12 ∧ 8 + (2 + 11) + lo2 ≤ 434) (hfit : cells + mc1 ≤ R.cells ∧ slots + ms1 ≤ R.slots)
    (hP : va_P D vwCl (wk ++ (mw cI cZ o J Z ++ [oc cJ o9 f])) H) (hD : va_D A (wk ++ (mw cI cZ o J Z ++ [oc cJ o9 f]))) (hS : va_S A s.heap H locs) (hl : lv_has ls 7 [(0, .ref sb), (1, .ref bx), (2, .ref (o 0)), (3, .ref o9), (4, .int (nI i))])
    (kk : ∀ (wk2 : va_W) (f2 : Nat → Int64) (H1 : Heap) (locs1 : List Loc) (ls1 : Array Slot), Kp wk2 → va_P D vwCl (wk2 ++ (mw cI cZ o J2 Z2 ++ [oc cJ o9 f2])) H1 → va_D A (wk2 ++ (mw cI cZ o J2 Z2 ++ [oc cJ o9 f2])) → va_S A s.heap H1 locs1 → lv_has ls1 7 [(0, .ref sb), (1, .ref bx), (2, .ref (o 0)), (3, .ref o9), (4, .int (nI i))] → W p l e R s m args below meth c H1 locs1 (cells + mc1) (slots + ms1) Q (F0 m 1863 ls1 [])) :
    W p l e R s m args below meth c H locs cells slots Q (F0 m 320 ls []) := by
  refine lv_aload_n B.hx B.hb dL_law_320 rfl (lv_at hl 1 rfl) ?_
  refine lw_arg (d := 1) B hS hX hbl hbA hL (by omega) hl 0 4 rfl rfl (by decide) rfl dL_law_321 dL_law_322 dL_law_324 dL_law_325 dL_law_326 ?_
  refine lw_bool B.hx B.hb dL_law_327 dL_law_330 dL_law_331 dL_law_334 ?_
  refine lv_aload_n B.hx B.hb dL_law_335 rfl (lv_at hl 3 rfl) ?_
  refine q_callSX (As := [.ref bx, .int (nb (xs (i + 1))), .ref o9]) (rest := []) B hP hD hS (lw_fr1 h1) (vx_cwSW 3 B.hts gL_law_L_open rfl rfl rfl (by decide +kernel) ⟨by rw [hR.1]; exact hr1.1, by rw [hR.2]; exact hr1.2⟩) rfl hl.1 rfl (Nat.le_of_ble_eq_true rfl) dL_law_336 hfit (fun E ce q9 H locs hx => False.elim hx) (fun v u H locs hp hP hD hS => ?_)
  obtain ⟨wk2, f2⟩ := u
  obtain ⟨rfl, hKp, hans⟩ := hp
  have hP : va_P D vwCl (wk2 ++ (mw cI cZ o J Z ++ [oc cJ o9 f2])) H := hP
  have hD : va_D A (wk2 ++ (mw cI cZ o J Z ++ [oc cJ o9 f2])) := hD
  refine lv_istore (lv' := [(5, .int (nI z)), (0, .ref sb), (1, .ref bx), (2, .ref (o 0)), (3, .ref o9), (4, .int (nI i))]) B.hx B.hb dL_law_339 hl (by decide) rfl (fun ls hl => ?_)
  refine lv_aload_n B.hx B.hb dL_law_341 rfl (lv_at hl 3 rfl) ?_
  refine lw_arg (d := 1) B hS hX hbl hbA hL (by omega) hl 1 5 rfl rfl (by decide) rfl dL_law_342 dL_law_343 dL_law_345 dL_law_346 dL_law_347 ?_
  refine lw_bool B.hx B.hb dL_law_348 dL_law_351 dL_law_352 dL_law_355 ?_
  obtain ⟨fs, hq⟩ := mw_at (cI := cI) (cZ := cZ) wk2 [oc cJ o9 f2] (o := o) (J := J) (Z := Z)
  refine q_callV (As := [.int (nb (xs (i + 1)))]) (rest := []) B hP hD hS ((h2.fr [oc cJ o9 f2]).fl wk2) (cwV 1 B.hts gL_law_X4_open rfl rfl rfl (by decide +kernel) ⟨by rw [hR.1]; exact hr2.1, by rw [hR.2]; exact hr2.2⟩) wk2.length 4 hq rfl rfl rfl hl.1 rfl (Nat.le_of_ble_eq_true rfl) dL_law_356 hfit (fun E ce q9 H locs hx => False.elim hx) (fun v u2 H locs hp hP hD hS => ?_)
  obtain rfl := hp
  have hP : va_P D vwCl (wk2 ++ (mw cI cZ o J2 Z2 ++ [oc cJ o9 f2])) H := hP
  have hD : va_D A (wk2 ++ (mw cI cZ o J2 Z2 ++ [oc cJ o9 f2])) := hD
  refine lv_istore (lv' := [(6, .int b9), (5, .int (nI z)), (0, .ref sb), (1, .ref bx), (2, .ref (o 0)), (3, .ref o9), (4, .int (nI i))]) B.hx B.hb dL_law_359 hl (by decide) rfl (fun ls hl => ?_)
  refine lw_tail B hR hfit hP hD hS hl hJ hz hans rfl rfl dL_law_361 dL_law_362 dL_law_365 dL_law_367 dL_law_372 dL_law_374 dL_law_377 dL_law_378 dL_law_379 dL_law_380 dL_law_382 dL_law_383 dL_law_384 dL_law_389 (by decide) (fun H locs hP hD hS => ?_)
  exact kk wk2 f2 H locs ls hKp hP hD hS (lv_sub hl [2, 3, 4, 5, 6] rfl)
set_option maxHeartbeats 4000000 in
theorem lc_hang {i L z sb bx o9 fr1 lo1 mc1 ms1 fr2 lo2 : Nat} {xs : Nat → Int32} {wk : va_W} {o : Nat → Nat} {J J2 : Nat → Int32} {Z Z2 : Nat → Nat → Int32} {f : Nat → Int64} {Kp : va_W → Prop} {b9 : Int32} (B : q_B p l s m args meth c D cI cZ cP cJ A cL_law 7 RL wsL_law) (hR : R.frames = 12 ∧ R.locals = 434) (hX : va_X sb L xs s s.heap) (hbl : sb < s.heap.size) (hbA : ¬ A sb) (hL : L ≤ 2048) (hin : i + 4 ≤ L)
    (h1 : q_C l yL_hang wsL_hang { frames := fr1, cells := mc1, slots := ms1, locals := lo1 } D cI cZ cP cJ [.ref bx, .int (xs (i + 1)), .int (xs (i + 2)), .ref o9] (wk ++ [oc cJ o9 f]) (S := va_W × (Nat → Int64)) (fun v u => v = some (.int (nI z)) ∧ Kp u.1 ∧ (z = 0 → u.2 0 = b9.toInt64)) (fun u => u.1 ++ [oc cJ o9 u.2]) (fun _ => False) mc1 ms1)
    (h2 : q_C l yX4_hang wsX4_hang { frames := fr2, cells := 0, slots := 0, locals := lo2 } D cI cZ cP cJ [.ref (o 0), .int (xs (i + 1)), .int (xs (i + 2))] (mw cI cZ o J Z) (S := Unit) (fun v _ => v = some (.int b9)) (fun _ => mw cI cZ o J2 Z2) (fun _ => False) 0 0)
    (hJ : J2 30 = nI z) (hz : z < 2 ^ 31) (hr1 : fr1 + 1 ≤ 12 ∧ 8 + (5 + 11) + lo1 ≤ 434) (hr2 : fr2 + 1 ≤ 12 ∧ 8 + (5 + 11) + lo2 ≤ 434) (hfit : cells + mc1 ≤ R.cells ∧ slots + ms1 ≤ R.slots)
    (hP : va_P D vwCl (wk ++ (mw cI cZ o J Z ++ [oc cJ o9 f])) H) (hD : va_D A (wk ++ (mw cI cZ o J Z ++ [oc cJ o9 f]))) (hS : va_S A s.heap H locs) (hl : lv_has ls 7 [(0, .ref sb), (1, .ref bx), (2, .ref (o 0)), (3, .ref o9), (4, .int (nI i))])
    (kk : ∀ (wk2 : va_W) (f2 : Nat → Int64) (H1 : Heap) (locs1 : List Loc) (ls1 : Array Slot), Kp wk2 → va_P D vwCl (wk2 ++ (mw cI cZ o J2 Z2 ++ [oc cJ o9 f2])) H1 → va_D A (wk2 ++ (mw cI cZ o J2 Z2 ++ [oc cJ o9 f2])) → va_S A s.heap H1 locs1 → lv_has ls1 7 [(0, .ref sb), (1, .ref bx), (2, .ref (o 0)), (3, .ref o9), (4, .int (nI i))] → W p l e R s m args below meth c H1 locs1 (cells + mc1) (slots + ms1) Q (F0 m 1863 ls1 [])) :
    W p l e R s m args below meth c H locs cells slots Q (F0 m 392 ls []) := by
  refine lv_aload_n B.hx B.hb dL_law_392 rfl (lv_at hl 1 rfl) ?_
  refine lw_arg (d := 1) B hS hX hbl hbA hL (by omega) hl 0 4 rfl rfl (by decide) rfl dL_law_393 dL_law_394 dL_law_396 dL_law_397 dL_law_398 ?_
  refine lw_arg (d := 2) B hS hX hbl hbA hL (by omega) hl 0 4 rfl rfl (by decide) rfl dL_law_399 dL_law_400 dL_law_402 dL_law_403 dL_law_404 ?_
  refine lv_aload_n B.hx B.hb dL_law_405 rfl (lv_at hl 3 rfl) ?_
  refine q_callSX (As := [.ref bx, .int (xs (i + 1)), .int (xs (i + 2)), .ref o9]) (rest := []) B hP hD hS (lw_fr1 h1) (vx_cwSW 4 B.hts gL_law_L_hang rfl rfl rfl (by decide +kernel) ⟨by rw [hR.1]; exact hr1.1, by rw [hR.2]; exact hr1.2⟩) rfl hl.1 rfl (Nat.le_of_ble_eq_true rfl) dL_law_406 hfit (fun E ce q9 H locs hx => False.elim hx) (fun v u H locs hp hP hD hS => ?_)
  obtain ⟨wk2, f2⟩ := u
  obtain ⟨rfl, hKp, hans⟩ := hp
  have hP : va_P D vwCl (wk2 ++ (mw cI cZ o J Z ++ [oc cJ o9 f2])) H := hP
  have hD : va_D A (wk2 ++ (mw cI cZ o J Z ++ [oc cJ o9 f2])) := hD
  refine lv_istore (lv' := [(5, .int (nI z)), (0, .ref sb), (1, .ref bx), (2, .ref (o 0)), (3, .ref o9), (4, .int (nI i))]) B.hx B.hb dL_law_409 hl (by decide) rfl (fun ls hl => ?_)
  refine lv_aload_n B.hx B.hb dL_law_411 rfl (lv_at hl 3 rfl) ?_
  refine lw_arg (d := 1) B hS hX hbl hbA hL (by omega) hl 1 5 rfl rfl (by decide) rfl dL_law_412 dL_law_413 dL_law_415 dL_law_416 dL_law_417 ?_
  refine lw_arg (d := 2) B hS hX hbl hbA hL (by omega) hl 1 5 rfl rfl (by decide) rfl dL_law_418 dL_law_419 dL_law_421 dL_law_422 dL_law_423 ?_
  obtain ⟨fs, hq⟩ := mw_at (cI := cI) (cZ := cZ) wk2 [oc cJ o9 f2] (o := o) (J := J) (Z := Z)
  refine q_callV (As := [.int (xs (i + 1)), .int (xs (i + 2))]) (rest := []) B hP hD hS ((h2.fr [oc cJ o9 f2]).fl wk2) (cwV 2 B.hts gL_law_X4_hang rfl rfl rfl (by decide +kernel) ⟨by rw [hR.1]; exact hr2.1, by rw [hR.2]; exact hr2.2⟩) wk2.length 4 hq rfl rfl rfl hl.1 rfl (Nat.le_of_ble_eq_true rfl) dL_law_424 hfit (fun E ce q9 H locs hx => False.elim hx) (fun v u2 H locs hp hP hD hS => ?_)
  obtain rfl := hp
  have hP : va_P D vwCl (wk2 ++ (mw cI cZ o J2 Z2 ++ [oc cJ o9 f2])) H := hP
  have hD : va_D A (wk2 ++ (mw cI cZ o J2 Z2 ++ [oc cJ o9 f2])) := hD
  refine lv_istore (lv' := [(6, .int b9), (5, .int (nI z)), (0, .ref sb), (1, .ref bx), (2, .ref (o 0)), (3, .ref o9), (4, .int (nI i))]) B.hx B.hb dL_law_427 hl (by decide) rfl (fun ls hl => ?_)
  refine lw_tail B hR hfit hP hD hS hl hJ hz hans rfl rfl dL_law_429 dL_law_430 dL_law_433 dL_law_435 dL_law_440 dL_law_442 dL_law_445 dL_law_446 dL_law_447 dL_law_448 dL_law_450 dL_law_451 dL_law_452 dL_law_457 (by decide) (fun H locs hP hD hS => ?_)
  exact kk wk2 f2 H locs ls hKp hP hD hS (lv_sub hl [2, 3, 4, 5, 6] rfl)
set_option maxHeartbeats 4000000 in
theorem lc_setInterval {i L z sb bx o9 fr1 lo1 mc1 ms1 fr2 lo2 : Nat} {xs : Nat → Int32} {wk : va_W} {o : Nat → Nat} {J J2 : Nat → Int32} {Z Z2 : Nat → Nat → Int32} {f : Nat → Int64} {Kp : va_W → Prop} {b9 : Int32} (B : q_B p l s m args meth c D cI cZ cP cJ A cL_law 7 RL wsL_law) (hR : R.frames = 12 ∧ R.locals = 434) (hX : va_X sb L xs s s.heap) (hbl : sb < s.heap.size) (hbA : ¬ A sb) (hL : L ≤ 2048) (hin : i + 4 ≤ L)
    (h1 : q_C l yL_setInterval wsL_setInterval { frames := fr1, cells := mc1, slots := ms1, locals := lo1 } D cI cZ cP cJ [.ref bx, .int (xs (i + 1)), .ref o9] (wk ++ [oc cJ o9 f]) (S := va_W × (Nat → Int64)) (fun v u => v = some (.int (nI z)) ∧ Kp u.1 ∧ (z = 0 → u.2 0 = b9.toInt64)) (fun u => u.1 ++ [oc cJ o9 u.2]) (fun _ => False) mc1 ms1)
    (h2 : q_C l yX4_setInterval wsX4_setInterval { frames := fr2, cells := 0, slots := 0, locals := lo2 } D cI cZ cP cJ [.ref (o 0), .int (xs (i + 1))] (mw cI cZ o J Z) (S := Unit) (fun v _ => v = some (.int b9)) (fun _ => mw cI cZ o J2 Z2) (fun _ => False) 0 0)
    (hJ : J2 30 = nI z) (hz : z < 2 ^ 31) (hr1 : fr1 + 1 ≤ 12 ∧ 8 + (4 + 11) + lo1 ≤ 434) (hr2 : fr2 + 1 ≤ 12 ∧ 8 + (3 + 11) + lo2 ≤ 434) (hfit : cells + mc1 ≤ R.cells ∧ slots + ms1 ≤ R.slots)
    (hP : va_P D vwCl (wk ++ (mw cI cZ o J Z ++ [oc cJ o9 f])) H) (hD : va_D A (wk ++ (mw cI cZ o J Z ++ [oc cJ o9 f]))) (hS : va_S A s.heap H locs) (hl : lv_has ls 7 [(0, .ref sb), (1, .ref bx), (2, .ref (o 0)), (3, .ref o9), (4, .int (nI i))])
    (kk : ∀ (wk2 : va_W) (f2 : Nat → Int64) (H1 : Heap) (locs1 : List Loc) (ls1 : Array Slot), Kp wk2 → va_P D vwCl (wk2 ++ (mw cI cZ o J2 Z2 ++ [oc cJ o9 f2])) H1 → va_D A (wk2 ++ (mw cI cZ o J2 Z2 ++ [oc cJ o9 f2])) → va_S A s.heap H1 locs1 → lv_has ls1 7 [(0, .ref sb), (1, .ref bx), (2, .ref (o 0)), (3, .ref o9), (4, .int (nI i))] → W p l e R s m args below meth c H1 locs1 (cells + mc1) (slots + ms1) Q (F0 m 1863 ls1 [])) :
    W p l e R s m args below meth c H locs cells slots Q (F0 m 460 ls []) := by
  refine lv_aload_n B.hx B.hb dL_law_460 rfl (lv_at hl 1 rfl) ?_
  refine lw_arg (d := 1) B hS hX hbl hbA hL (by omega) hl 0 4 rfl rfl (by decide) rfl dL_law_461 dL_law_462 dL_law_464 dL_law_465 dL_law_466 ?_
  refine lv_aload_n B.hx B.hb dL_law_467 rfl (lv_at hl 3 rfl) ?_
  refine q_callSX (As := [.ref bx, .int (xs (i + 1)), .ref o9]) (rest := []) B hP hD hS (lw_fr1 h1) (vx_cwSW 3 B.hts gL_law_L_setInterval rfl rfl rfl (by decide +kernel) ⟨by rw [hR.1]; exact hr1.1, by rw [hR.2]; exact hr1.2⟩) rfl hl.1 rfl (Nat.le_of_ble_eq_true rfl) dL_law_468 hfit (fun E ce q9 H locs hx => False.elim hx) (fun v u H locs hp hP hD hS => ?_)
  obtain ⟨wk2, f2⟩ := u
  obtain ⟨rfl, hKp, hans⟩ := hp
  have hP : va_P D vwCl (wk2 ++ (mw cI cZ o J Z ++ [oc cJ o9 f2])) H := hP
  have hD : va_D A (wk2 ++ (mw cI cZ o J Z ++ [oc cJ o9 f2])) := hD
  refine lv_istore (lv' := [(5, .int (nI z)), (0, .ref sb), (1, .ref bx), (2, .ref (o 0)), (3, .ref o9), (4, .int (nI i))]) B.hx B.hb dL_law_471 hl (by decide) rfl (fun ls hl => ?_)
  refine lv_aload_n B.hx B.hb dL_law_473 rfl (lv_at hl 3 rfl) ?_
  refine lw_arg (d := 1) B hS hX hbl hbA hL (by omega) hl 1 5 rfl rfl (by decide) rfl dL_law_474 dL_law_475 dL_law_477 dL_law_478 dL_law_479 ?_
  obtain ⟨fs, hq⟩ := mw_at (cI := cI) (cZ := cZ) wk2 [oc cJ o9 f2] (o := o) (J := J) (Z := Z)
  refine q_callV (As := [.int (xs (i + 1))]) (rest := []) B hP hD hS ((h2.fr [oc cJ o9 f2]).fl wk2) (cwV 1 B.hts gL_law_X4_setInterval rfl rfl rfl (by decide +kernel) ⟨by rw [hR.1]; exact hr2.1, by rw [hR.2]; exact hr2.2⟩) wk2.length 4 hq rfl rfl rfl hl.1 rfl (Nat.le_of_ble_eq_true rfl) dL_law_480 hfit (fun E ce q9 H locs hx => False.elim hx) (fun v u2 H locs hp hP hD hS => ?_)
  obtain rfl := hp
  have hP : va_P D vwCl (wk2 ++ (mw cI cZ o J2 Z2 ++ [oc cJ o9 f2])) H := hP
  have hD : va_D A (wk2 ++ (mw cI cZ o J2 Z2 ++ [oc cJ o9 f2])) := hD
  refine lv_istore (lv' := [(6, .int b9), (5, .int (nI z)), (0, .ref sb), (1, .ref bx), (2, .ref (o 0)), (3, .ref o9), (4, .int (nI i))]) B.hx B.hb dL_law_483 hl (by decide) rfl (fun ls hl => ?_)
  refine lw_tail B hR hfit hP hD hS hl hJ hz hans rfl rfl dL_law_485 dL_law_486 dL_law_489 dL_law_491 dL_law_496 dL_law_498 dL_law_501 dL_law_502 dL_law_503 dL_law_504 dL_law_506 dL_law_507 dL_law_508 dL_law_513 (by decide) (fun H locs hP hD hS => ?_)
  exact kk wk2 f2 H locs ls hKp hP hD hS (lv_sub hl [2, 3, 4, 5, 6] rfl)
set_option maxHeartbeats 4000000 in
theorem lc_draft {i L z sb bx o9 fr1 lo1 mc1 ms1 fr2 lo2 : Nat} {xs : Nat → Int32} {wk : va_W} {o : Nat → Nat} {J J2 : Nat → Int32} {Z Z2 : Nat → Nat → Int32} {f : Nat → Int64} {Kp : va_W → Prop} (B : q_B p l s m args meth c D cI cZ cP cJ A cL_law 7 RL wsL_law) (hR : R.frames = 12 ∧ R.locals = 434) (hX : va_X sb L xs s s.heap) (hbl : sb < s.heap.size) (hbA : ¬ A sb) (hL : L ≤ 2048) (hin : i + 4 ≤ L)
    (h1 : q_C l yL_draft wsL_draft { frames := fr1, cells := mc1, slots := ms1, locals := lo1 } D cI cZ cP cJ [.ref bx, .int (xs (i + 1)), .int (xs (i + 2)), .int (xs (i + 3))] wk (S := va_W) (fun v u => v = some (.int (nI z)) ∧ Kp u) (fun u => u) (fun _ => False) mc1 ms1)
    (h2 : q_C l yX4_draft wsX4_draft { frames := fr2, cells := 0, slots := 0, locals := lo2 } D cI cZ cP cJ [.ref (o 0), .int (xs (i + 1)), .int (xs (i + 2)), .int (xs (i + 3))] (mw cI cZ o J Z) (S := Unit) (fun v _ => v = none) (fun _ => mw cI cZ o J2 Z2) (fun _ => False) 0 0)
    (hJ : J2 30 = nI z) (hz : z < 2 ^ 31) (hr1 : fr1 + 1 ≤ 12 ∧ 8 + (5 + 11) + lo1 ≤ 434) (hr2 : fr2 + 1 ≤ 12 ∧ 8 + (6 + 11) + lo2 ≤ 434) (hfit : cells + mc1 ≤ R.cells ∧ slots + ms1 ≤ R.slots)
    (hP : va_P D vwCl (wk ++ (mw cI cZ o J Z ++ [oc cJ o9 f])) H) (hD : va_D A (wk ++ (mw cI cZ o J Z ++ [oc cJ o9 f]))) (hS : va_S A s.heap H locs) (hl : lv_has ls 7 [(0, .ref sb), (1, .ref bx), (2, .ref (o 0)), (3, .ref o9), (4, .int (nI i))])
    (kk : ∀ (wk2 : va_W) (f2 : Nat → Int64) (H1 : Heap) (locs1 : List Loc) (ls1 : Array Slot), Kp wk2 → va_P D vwCl (wk2 ++ (mw cI cZ o J2 Z2 ++ [oc cJ o9 f2])) H1 → va_D A (wk2 ++ (mw cI cZ o J2 Z2 ++ [oc cJ o9 f2])) → va_S A s.heap H1 locs1 → lv_has ls1 7 [(0, .ref sb), (1, .ref bx), (2, .ref (o 0)), (3, .ref o9), (4, .int (nI i))] → W p l e R s m args below meth c H1 locs1 (cells + mc1) (slots + ms1) Q (F0 m 1863 ls1 [])) :
    W p l e R s m args below meth c H locs cells slots Q (F0 m 516 ls []) := by
  refine lv_aload_n B.hx B.hb dL_law_516 rfl (lv_at hl 1 rfl) ?_
  refine lw_arg (d := 1) B hS hX hbl hbA hL (by omega) hl 0 4 rfl rfl (by decide) rfl dL_law_517 dL_law_518 dL_law_520 dL_law_521 dL_law_522 ?_
  refine lw_arg (d := 2) B hS hX hbl hbA hL (by omega) hl 0 4 rfl rfl (by decide) rfl dL_law_523 dL_law_524 dL_law_526 dL_law_527 dL_law_528 ?_
  refine lw_arg (d := 3) B hS hX hbl hbA hL (by omega) hl 0 4 rfl rfl (by decide) rfl dL_law_529 dL_law_530 dL_law_532 dL_law_533 dL_law_534 ?_
  refine q_callSX (As := [.ref bx, .int (xs (i + 1)), .int (xs (i + 2)), .int (xs (i + 3))]) (rest := []) B hP hD hS (h1.fr (mw cI cZ o J Z ++ [oc cJ o9 f])) (vx_cwSW 4 B.hts gL_law_L_draft rfl rfl rfl (by decide +kernel) ⟨by rw [hR.1]; exact hr1.1, by rw [hR.2]; exact hr1.2⟩) rfl hl.1 rfl (Nat.le_of_ble_eq_true rfl) dL_law_535 hfit (fun E ce q9 H locs hx => False.elim hx) (fun v u H locs hp hP hD hS => ?_)
  obtain ⟨rfl, hKp⟩ := hp
  have hP : va_P D vwCl (u ++ (mw cI cZ o J Z ++ [oc cJ o9 f])) H := hP
  have hD : va_D A (u ++ (mw cI cZ o J Z ++ [oc cJ o9 f])) := hD
  refine lv_istore (lv' := [(5, .int (nI z)), (0, .ref sb), (1, .ref bx), (2, .ref (o 0)), (3, .ref o9), (4, .int (nI i))]) B.hx B.hb dL_law_538 hl (by decide) rfl (fun ls hl => ?_)
  refine lv_aload_n B.hx B.hb dL_law_540 rfl (lv_at hl 3 rfl) ?_
  refine lw_arg (d := 1) B hS hX hbl hbA hL (by omega) hl 1 5 rfl rfl (by decide) rfl dL_law_541 dL_law_542 dL_law_544 dL_law_545 dL_law_546 ?_
  refine lw_arg (d := 2) B hS hX hbl hbA hL (by omega) hl 1 5 rfl rfl (by decide) rfl dL_law_547 dL_law_548 dL_law_550 dL_law_551 dL_law_552 ?_
  refine lw_arg (d := 3) B hS hX hbl hbA hL (by omega) hl 1 5 rfl rfl (by decide) rfl dL_law_553 dL_law_554 dL_law_556 dL_law_557 dL_law_558 ?_
  obtain ⟨fs, hq⟩ := mw_at (cI := cI) (cZ := cZ) u [oc cJ o9 f] (o := o) (J := J) (Z := Z)
  refine q_callV (As := [.int (xs (i + 1)), .int (xs (i + 2)), .int (xs (i + 3))]) (rest := []) B hP hD hS ((h2.fr [oc cJ o9 f]).fl u) (cwV 3 B.hts gL_law_X4_draft rfl rfl rfl (by decide +kernel) ⟨by rw [hR.1]; exact hr2.1, by rw [hR.2]; exact hr2.2⟩) u.length 4 hq rfl rfl rfl hl.1 rfl (Nat.le_of_ble_eq_true rfl) dL_law_559 hfit (fun E ce q9 H locs hx => False.elim hx) (fun v u2 H locs hp hP hD hS => ?_)
  obtain rfl := hp
  have hP : va_P D vwCl (u ++ (mw cI cZ o J2 Z2 ++ [oc cJ o9 f])) H := hP
  have hD : va_D A (u ++ (mw cI cZ o J2 Z2 ++ [oc cJ o9 f])) := hD
  refine lw_tailV B hR hfit hP hD hS hl hJ rfl dL_law_562 dL_law_563 dL_law_566 dL_law_568 dL_law_573 (by decide) (fun H locs hP hD hS => ?_)
  exact kk u f H locs ls hKp hP hD hS (lv_sub hl [1, 2, 3, 4, 5] rfl)
set_option maxHeartbeats 4000000 in
theorem lc_change {i L z sb bx o9 fr1 lo1 mc1 ms1 fr2 lo2 : Nat} {xs : Nat → Int32} {wk : va_W} {o : Nat → Nat} {J J2 : Nat → Int32} {Z Z2 : Nat → Nat → Int32} {f : Nat → Int64} {Kp : va_W → Prop} {b9 : Int32} (B : q_B p l s m args meth c D cI cZ cP cJ A cL_law 7 RL wsL_law) (hR : R.frames = 12 ∧ R.locals = 434) (hX : va_X sb L xs s s.heap) (hbl : sb < s.heap.size) (hbA : ¬ A sb) (hL : L ≤ 2048) (hin : i + 4 ≤ L)
    (h1 : q_C l yL_change wsL_change { frames := fr1, cells := mc1, slots := ms1, locals := lo1 } D cI cZ cP cJ [.ref bx, .int (xs (i + 1)), .int (xs (i + 2)), .ref o9] (wk ++ [oc cJ o9 f]) (S := va_W × (Nat → Int64)) (fun v u => v = some (.int (nI z)) ∧ Kp u.1 ∧ (z = 0 → u.2 0 = b9.toInt64)) (fun u => u.1 ++ [oc cJ o9 u.2]) (fun _ => False) mc1 ms1)
    (h2 : q_C l yX4_change wsX4_change { frames := fr2, cells := 0, slots := 0, locals := lo2 } D cI cZ cP cJ [.ref (o 0), .int (xs (i + 1)), .int (xs (i + 2))] (mw cI cZ o J Z) (S := Unit) (fun v _ => v = some (.int b9)) (fun _ => mw cI cZ o J2 Z2) (fun _ => False) 0 0)
    (hJ : J2 30 = nI z) (hz : z < 2 ^ 31) (hr1 : fr1 + 1 ≤ 12 ∧ 8 + (5 + 11) + lo1 ≤ 434) (hr2 : fr2 + 1 ≤ 12 ∧ 8 + (3 + 11) + lo2 ≤ 434) (hfit : cells + mc1 ≤ R.cells ∧ slots + ms1 ≤ R.slots)
    (hP : va_P D vwCl (wk ++ (mw cI cZ o J Z ++ [oc cJ o9 f])) H) (hD : va_D A (wk ++ (mw cI cZ o J Z ++ [oc cJ o9 f]))) (hS : va_S A s.heap H locs) (hl : lv_has ls 7 [(0, .ref sb), (1, .ref bx), (2, .ref (o 0)), (3, .ref o9), (4, .int (nI i))])
    (kk : ∀ (wk2 : va_W) (f2 : Nat → Int64) (H1 : Heap) (locs1 : List Loc) (ls1 : Array Slot), Kp wk2 → va_P D vwCl (wk2 ++ (mw cI cZ o J2 Z2 ++ [oc cJ o9 f2])) H1 → va_D A (wk2 ++ (mw cI cZ o J2 Z2 ++ [oc cJ o9 f2])) → va_S A s.heap H1 locs1 → lv_has ls1 7 [(0, .ref sb), (1, .ref bx), (2, .ref (o 0)), (3, .ref o9), (4, .int (nI i))] → W p l e R s m args below meth c H1 locs1 (cells + mc1) (slots + ms1) Q (F0 m 1863 ls1 [])) :
    W p l e R s m args below meth c H locs cells slots Q (F0 m 576 ls []) := by
  refine lv_aload_n B.hx B.hb dL_law_576 rfl (lv_at hl 1 rfl) ?_
  refine lw_arg (d := 1) B hS hX hbl hbA hL (by omega) hl 0 4 rfl rfl (by decide) rfl dL_law_577 dL_law_578 dL_law_580 dL_law_581 dL_law_582 ?_
  refine lw_arg (d := 2) B hS hX hbl hbA hL (by omega) hl 0 4 rfl rfl (by decide) rfl dL_law_583 dL_law_584 dL_law_586 dL_law_587 dL_law_588 ?_
  refine lv_aload_n B.hx B.hb dL_law_589 rfl (lv_at hl 3 rfl) ?_
  refine q_callSX (As := [.ref bx, .int (xs (i + 1)), .int (xs (i + 2)), .ref o9]) (rest := []) B hP hD hS (lw_fr1 h1) (vx_cwSW 4 B.hts gL_law_L_change rfl rfl rfl (by decide +kernel) ⟨by rw [hR.1]; exact hr1.1, by rw [hR.2]; exact hr1.2⟩) rfl hl.1 rfl (Nat.le_of_ble_eq_true rfl) dL_law_590 hfit (fun E ce q9 H locs hx => False.elim hx) (fun v u H locs hp hP hD hS => ?_)
  obtain ⟨wk2, f2⟩ := u
  obtain ⟨rfl, hKp, hans⟩ := hp
  have hP : va_P D vwCl (wk2 ++ (mw cI cZ o J Z ++ [oc cJ o9 f2])) H := hP
  have hD : va_D A (wk2 ++ (mw cI cZ o J Z ++ [oc cJ o9 f2])) := hD
  refine lv_istore (lv' := [(5, .int (nI z)), (0, .ref sb), (1, .ref bx), (2, .ref (o 0)), (3, .ref o9), (4, .int (nI i))]) B.hx B.hb dL_law_593 hl (by decide) rfl (fun ls hl => ?_)
  refine lv_aload_n B.hx B.hb dL_law_595 rfl (lv_at hl 3 rfl) ?_
  refine lw_arg (d := 1) B hS hX hbl hbA hL (by omega) hl 1 5 rfl rfl (by decide) rfl dL_law_596 dL_law_597 dL_law_599 dL_law_600 dL_law_601 ?_
  refine lw_arg (d := 2) B hS hX hbl hbA hL (by omega) hl 1 5 rfl rfl (by decide) rfl dL_law_602 dL_law_603 dL_law_605 dL_law_606 dL_law_607 ?_
  obtain ⟨fs, hq⟩ := mw_at (cI := cI) (cZ := cZ) wk2 [oc cJ o9 f2] (o := o) (J := J) (Z := Z)
  refine q_callV (As := [.int (xs (i + 1)), .int (xs (i + 2))]) (rest := []) B hP hD hS ((h2.fr [oc cJ o9 f2]).fl wk2) (cwV 2 B.hts gL_law_X4_change rfl rfl rfl (by decide +kernel) ⟨by rw [hR.1]; exact hr2.1, by rw [hR.2]; exact hr2.2⟩) wk2.length 4 hq rfl rfl rfl hl.1 rfl (Nat.le_of_ble_eq_true rfl) dL_law_608 hfit (fun E ce q9 H locs hx => False.elim hx) (fun v u2 H locs hp hP hD hS => ?_)
  obtain rfl := hp
  have hP : va_P D vwCl (wk2 ++ (mw cI cZ o J2 Z2 ++ [oc cJ o9 f2])) H := hP
  have hD : va_D A (wk2 ++ (mw cI cZ o J2 Z2 ++ [oc cJ o9 f2])) := hD
  refine lv_istore (lv' := [(6, .int b9), (5, .int (nI z)), (0, .ref sb), (1, .ref bx), (2, .ref (o 0)), (3, .ref o9), (4, .int (nI i))]) B.hx B.hb dL_law_611 hl (by decide) rfl (fun ls hl => ?_)
  refine lw_tail B hR hfit hP hD hS hl hJ hz hans rfl rfl dL_law_613 dL_law_614 dL_law_617 dL_law_619 dL_law_624 dL_law_626 dL_law_629 dL_law_630 dL_law_631 dL_law_632 dL_law_634 dL_law_635 dL_law_636 dL_law_641 (by decide) (fun H locs hP hD hS => ?_)
  exact kk wk2 f2 H locs ls hKp hP hD hS (lv_sub hl [2, 3, 4, 5, 6] rfl)
set_option maxHeartbeats 4000000 in
theorem lc_drop {i L z sb bx o9 fr1 lo1 mc1 ms1 fr2 lo2 : Nat} {xs : Nat → Int32} {wk : va_W} {o : Nat → Nat} {J J2 : Nat → Int32} {Z Z2 : Nat → Nat → Int32} {f : Nat → Int64} {Kp : va_W → Prop} {b9 : Int32} (B : q_B p l s m args meth c D cI cZ cP cJ A cL_law 7 RL wsL_law) (hR : R.frames = 12 ∧ R.locals = 434) (hX : va_X sb L xs s s.heap) (hbl : sb < s.heap.size) (hbA : ¬ A sb) (hL : L ≤ 2048) (hin : i + 4 ≤ L)
    (h1 : q_C l yL_drop wsL_drop { frames := fr1, cells := mc1, slots := ms1, locals := lo1 } D cI cZ cP cJ [.ref bx, .int (xs (i + 1)), .ref o9] (wk ++ [oc cJ o9 f]) (S := va_W × (Nat → Int64)) (fun v u => v = some (.int (nI z)) ∧ Kp u.1 ∧ (z = 0 → u.2 0 = b9.toInt64)) (fun u => u.1 ++ [oc cJ o9 u.2]) (fun _ => False) mc1 ms1)
    (h2 : q_C l yX4_drop wsX4_drop { frames := fr2, cells := 0, slots := 0, locals := lo2 } D cI cZ cP cJ [.ref (o 0), .int (xs (i + 1))] (mw cI cZ o J Z) (S := Unit) (fun v _ => v = some (.int b9)) (fun _ => mw cI cZ o J2 Z2) (fun _ => False) 0 0)
    (hJ : J2 30 = nI z) (hz : z < 2 ^ 31) (hr1 : fr1 + 1 ≤ 12 ∧ 8 + (4 + 11) + lo1 ≤ 434) (hr2 : fr2 + 1 ≤ 12 ∧ 8 + (2 + 11) + lo2 ≤ 434) (hfit : cells + mc1 ≤ R.cells ∧ slots + ms1 ≤ R.slots)
    (hP : va_P D vwCl (wk ++ (mw cI cZ o J Z ++ [oc cJ o9 f])) H) (hD : va_D A (wk ++ (mw cI cZ o J Z ++ [oc cJ o9 f]))) (hS : va_S A s.heap H locs) (hl : lv_has ls 7 [(0, .ref sb), (1, .ref bx), (2, .ref (o 0)), (3, .ref o9), (4, .int (nI i))])
    (kk : ∀ (wk2 : va_W) (f2 : Nat → Int64) (H1 : Heap) (locs1 : List Loc) (ls1 : Array Slot), Kp wk2 → va_P D vwCl (wk2 ++ (mw cI cZ o J2 Z2 ++ [oc cJ o9 f2])) H1 → va_D A (wk2 ++ (mw cI cZ o J2 Z2 ++ [oc cJ o9 f2])) → va_S A s.heap H1 locs1 → lv_has ls1 7 [(0, .ref sb), (1, .ref bx), (2, .ref (o 0)), (3, .ref o9), (4, .int (nI i))] → W p l e R s m args below meth c H1 locs1 (cells + mc1) (slots + ms1) Q (F0 m 1863 ls1 [])) :
    W p l e R s m args below meth c H locs cells slots Q (F0 m 644 ls []) := by
  refine lv_aload_n B.hx B.hb dL_law_644 rfl (lv_at hl 1 rfl) ?_
  refine lw_arg (d := 1) B hS hX hbl hbA hL (by omega) hl 0 4 rfl rfl (by decide) rfl dL_law_645 dL_law_646 dL_law_648 dL_law_649 dL_law_650 ?_
  refine lv_aload_n B.hx B.hb dL_law_651 rfl (lv_at hl 3 rfl) ?_
  refine q_callSX (As := [.ref bx, .int (xs (i + 1)), .ref o9]) (rest := []) B hP hD hS (lw_fr1 h1) (vx_cwSW 3 B.hts gL_law_L_drop rfl rfl rfl (by decide +kernel) ⟨by rw [hR.1]; exact hr1.1, by rw [hR.2]; exact hr1.2⟩) rfl hl.1 rfl (Nat.le_of_ble_eq_true rfl) dL_law_652 hfit (fun E ce q9 H locs hx => False.elim hx) (fun v u H locs hp hP hD hS => ?_)
  obtain ⟨wk2, f2⟩ := u
  obtain ⟨rfl, hKp, hans⟩ := hp
  have hP : va_P D vwCl (wk2 ++ (mw cI cZ o J Z ++ [oc cJ o9 f2])) H := hP
  have hD : va_D A (wk2 ++ (mw cI cZ o J Z ++ [oc cJ o9 f2])) := hD
  refine lv_istore (lv' := [(5, .int (nI z)), (0, .ref sb), (1, .ref bx), (2, .ref (o 0)), (3, .ref o9), (4, .int (nI i))]) B.hx B.hb dL_law_655 hl (by decide) rfl (fun ls hl => ?_)
  refine lv_aload_n B.hx B.hb dL_law_657 rfl (lv_at hl 3 rfl) ?_
  refine lw_arg (d := 1) B hS hX hbl hbA hL (by omega) hl 1 5 rfl rfl (by decide) rfl dL_law_658 dL_law_659 dL_law_661 dL_law_662 dL_law_663 ?_
  obtain ⟨fs, hq⟩ := mw_at (cI := cI) (cZ := cZ) wk2 [oc cJ o9 f2] (o := o) (J := J) (Z := Z)
  refine q_callV (As := [.int (xs (i + 1))]) (rest := []) B hP hD hS ((h2.fr [oc cJ o9 f2]).fl wk2) (cwV 1 B.hts gL_law_X4_drop rfl rfl rfl (by decide +kernel) ⟨by rw [hR.1]; exact hr2.1, by rw [hR.2]; exact hr2.2⟩) wk2.length 4 hq rfl rfl rfl hl.1 rfl (Nat.le_of_ble_eq_true rfl) dL_law_664 hfit (fun E ce q9 H locs hx => False.elim hx) (fun v u2 H locs hp hP hD hS => ?_)
  obtain rfl := hp
  have hP : va_P D vwCl (wk2 ++ (mw cI cZ o J2 Z2 ++ [oc cJ o9 f2])) H := hP
  have hD : va_D A (wk2 ++ (mw cI cZ o J2 Z2 ++ [oc cJ o9 f2])) := hD
  refine lv_istore (lv' := [(6, .int b9), (5, .int (nI z)), (0, .ref sb), (1, .ref bx), (2, .ref (o 0)), (3, .ref o9), (4, .int (nI i))]) B.hx B.hb dL_law_667 hl (by decide) rfl (fun ls hl => ?_)
  refine lw_tail B hR hfit hP hD hS hl hJ hz hans rfl rfl dL_law_669 dL_law_670 dL_law_673 dL_law_675 dL_law_680 dL_law_682 dL_law_685 dL_law_686 dL_law_687 dL_law_688 dL_law_690 dL_law_691 dL_law_692 dL_law_697 (by decide) (fun H locs hP hD hS => ?_)
  exact kk wk2 f2 H locs ls hKp hP hD hS (lv_sub hl [2, 3, 4, 5, 6] rfl)
set_option maxHeartbeats 4000000 in
theorem lc_reviewer {i L z sb bx o9 fr1 lo1 mc1 ms1 fr2 lo2 : Nat} {xs : Nat → Int32} {wk : va_W} {o : Nat → Nat} {J J2 : Nat → Int32} {Z Z2 : Nat → Nat → Int32} {f : Nat → Int64} {Kp : va_W → Prop} {b9 : Int32} (B : q_B p l s m args meth c D cI cZ cP cJ A cL_law 7 RL wsL_law) (hR : R.frames = 12 ∧ R.locals = 434) (hX : va_X sb L xs s s.heap) (hbl : sb < s.heap.size) (hbA : ¬ A sb) (hL : L ≤ 2048) (hin : i + 4 ≤ L)
    (h1 : q_C l yL_reviewer wsL_reviewer { frames := fr1, cells := mc1, slots := ms1, locals := lo1 } D cI cZ cP cJ [.ref bx, .int (xs (i + 1)), .int (xs (i + 2)), .ref o9] (wk ++ [oc cJ o9 f]) (S := va_W × (Nat → Int64)) (fun v u => v = some (.int (nI z)) ∧ Kp u.1 ∧ (z = 0 → u.2 0 = b9.toInt64)) (fun u => u.1 ++ [oc cJ o9 u.2]) (fun _ => False) mc1 ms1)
    (h2 : q_C l yX4_reviewer wsX4_reviewer { frames := fr2, cells := 0, slots := 0, locals := lo2 } D cI cZ cP cJ [.ref (o 0), .int (xs (i + 1)), .int (xs (i + 2))] (mw cI cZ o J Z) (S := Unit) (fun v _ => v = some (.int b9)) (fun _ => mw cI cZ o J2 Z2) (fun _ => False) 0 0)
    (hJ : J2 30 = nI z) (hz : z < 2 ^ 31) (hr1 : fr1 + 1 ≤ 12 ∧ 8 + (5 + 11) + lo1 ≤ 434) (hr2 : fr2 + 1 ≤ 12 ∧ 8 + (6 + 11) + lo2 ≤ 434) (hfit : cells + mc1 ≤ R.cells ∧ slots + ms1 ≤ R.slots)
    (hP : va_P D vwCl (wk ++ (mw cI cZ o J Z ++ [oc cJ o9 f])) H) (hD : va_D A (wk ++ (mw cI cZ o J Z ++ [oc cJ o9 f]))) (hS : va_S A s.heap H locs) (hl : lv_has ls 7 [(0, .ref sb), (1, .ref bx), (2, .ref (o 0)), (3, .ref o9), (4, .int (nI i))])
    (kk : ∀ (wk2 : va_W) (f2 : Nat → Int64) (H1 : Heap) (locs1 : List Loc) (ls1 : Array Slot), Kp wk2 → va_P D vwCl (wk2 ++ (mw cI cZ o J2 Z2 ++ [oc cJ o9 f2])) H1 → va_D A (wk2 ++ (mw cI cZ o J2 Z2 ++ [oc cJ o9 f2])) → va_S A s.heap H1 locs1 → lv_has ls1 7 [(0, .ref sb), (1, .ref bx), (2, .ref (o 0)), (3, .ref o9), (4, .int (nI i))] → W p l e R s m args below meth c H1 locs1 (cells + mc1) (slots + ms1) Q (F0 m 1863 ls1 [])) :
    W p l e R s m args below meth c H locs cells slots Q (F0 m 700 ls []) := by
  refine lv_aload_n B.hx B.hb dL_law_700 rfl (lv_at hl 1 rfl) ?_
  refine lw_arg (d := 1) B hS hX hbl hbA hL (by omega) hl 0 4 rfl rfl (by decide) rfl dL_law_701 dL_law_702 dL_law_704 dL_law_705 dL_law_706 ?_
  refine lw_arg (d := 2) B hS hX hbl hbA hL (by omega) hl 0 4 rfl rfl (by decide) rfl dL_law_707 dL_law_708 dL_law_710 dL_law_711 dL_law_712 ?_
  refine lv_aload_n B.hx B.hb dL_law_713 rfl (lv_at hl 3 rfl) ?_
  refine q_callSX (As := [.ref bx, .int (xs (i + 1)), .int (xs (i + 2)), .ref o9]) (rest := []) B hP hD hS (lw_fr1 h1) (vx_cwSW 4 B.hts gL_law_L_reviewer rfl rfl rfl (by decide +kernel) ⟨by rw [hR.1]; exact hr1.1, by rw [hR.2]; exact hr1.2⟩) rfl hl.1 rfl (Nat.le_of_ble_eq_true rfl) dL_law_714 hfit (fun E ce q9 H locs hx => False.elim hx) (fun v u H locs hp hP hD hS => ?_)
  obtain ⟨wk2, f2⟩ := u
  obtain ⟨rfl, hKp, hans⟩ := hp
  have hP : va_P D vwCl (wk2 ++ (mw cI cZ o J Z ++ [oc cJ o9 f2])) H := hP
  have hD : va_D A (wk2 ++ (mw cI cZ o J Z ++ [oc cJ o9 f2])) := hD
  refine lv_istore (lv' := [(5, .int (nI z)), (0, .ref sb), (1, .ref bx), (2, .ref (o 0)), (3, .ref o9), (4, .int (nI i))]) B.hx B.hb dL_law_717 hl (by decide) rfl (fun ls hl => ?_)
  refine lv_aload_n B.hx B.hb dL_law_719 rfl (lv_at hl 3 rfl) ?_
  refine lw_arg (d := 1) B hS hX hbl hbA hL (by omega) hl 1 5 rfl rfl (by decide) rfl dL_law_720 dL_law_721 dL_law_723 dL_law_724 dL_law_725 ?_
  refine lw_arg (d := 2) B hS hX hbl hbA hL (by omega) hl 1 5 rfl rfl (by decide) rfl dL_law_726 dL_law_727 dL_law_729 dL_law_730 dL_law_731 ?_
  obtain ⟨fs, hq⟩ := mw_at (cI := cI) (cZ := cZ) wk2 [oc cJ o9 f2] (o := o) (J := J) (Z := Z)
  refine q_callV (As := [.int (xs (i + 1)), .int (xs (i + 2))]) (rest := []) B hP hD hS ((h2.fr [oc cJ o9 f2]).fl wk2) (cwV 2 B.hts gL_law_X4_reviewer rfl rfl rfl (by decide +kernel) ⟨by rw [hR.1]; exact hr2.1, by rw [hR.2]; exact hr2.2⟩) wk2.length 4 hq rfl rfl rfl hl.1 rfl (Nat.le_of_ble_eq_true rfl) dL_law_732 hfit (fun E ce q9 H locs hx => False.elim hx) (fun v u2 H locs hp hP hD hS => ?_)
  obtain rfl := hp
  have hP : va_P D vwCl (wk2 ++ (mw cI cZ o J2 Z2 ++ [oc cJ o9 f2])) H := hP
  have hD : va_D A (wk2 ++ (mw cI cZ o J2 Z2 ++ [oc cJ o9 f2])) := hD
  refine lv_istore (lv' := [(6, .int b9), (5, .int (nI z)), (0, .ref sb), (1, .ref bx), (2, .ref (o 0)), (3, .ref o9), (4, .int (nI i))]) B.hx B.hb dL_law_735 hl (by decide) rfl (fun ls hl => ?_)
  refine lw_tail B hR hfit hP hD hS hl hJ hz hans rfl rfl dL_law_737 dL_law_738 dL_law_741 dL_law_743 dL_law_748 dL_law_750 dL_law_753 dL_law_754 dL_law_755 dL_law_756 dL_law_758 dL_law_759 dL_law_760 dL_law_765 (by decide) (fun H locs hP hD hS => ?_)
  exact kk wk2 f2 H locs ls hKp hP hD hS (lv_sub hl [2, 3, 4, 5, 6] rfl)
set_option maxHeartbeats 4000000 in
theorem lc_reader {i L z sb bx o9 fr1 lo1 mc1 ms1 fr2 lo2 : Nat} {xs : Nat → Int32} {wk : va_W} {o : Nat → Nat} {J J2 : Nat → Int32} {Z Z2 : Nat → Nat → Int32} {f : Nat → Int64} {Kp : va_W → Prop} {b9 : Int32} (B : q_B p l s m args meth c D cI cZ cP cJ A cL_law 7 RL wsL_law) (hR : R.frames = 12 ∧ R.locals = 434) (hX : va_X sb L xs s s.heap) (hbl : sb < s.heap.size) (hbA : ¬ A sb) (hL : L ≤ 2048) (hin : i + 4 ≤ L)
    (h1 : q_C l yL_reader wsL_reader { frames := fr1, cells := mc1, slots := ms1, locals := lo1 } D cI cZ cP cJ [.ref bx, .int (xs (i + 1)), .int (xs (i + 2)), .ref o9] (wk ++ [oc cJ o9 f]) (S := va_W × (Nat → Int64)) (fun v u => v = some (.int (nI z)) ∧ Kp u.1 ∧ (z = 0 → u.2 0 = b9.toInt64)) (fun u => u.1 ++ [oc cJ o9 u.2]) (fun _ => False) mc1 ms1)
    (h2 : q_C l yX4_reader wsX4_reader { frames := fr2, cells := 0, slots := 0, locals := lo2 } D cI cZ cP cJ [.ref (o 0), .int (xs (i + 1)), .int (xs (i + 2))] (mw cI cZ o J Z) (S := Unit) (fun v _ => v = some (.int b9)) (fun _ => mw cI cZ o J2 Z2) (fun _ => False) 0 0)
    (hJ : J2 30 = nI z) (hz : z < 2 ^ 31) (hr1 : fr1 + 1 ≤ 12 ∧ 8 + (5 + 11) + lo1 ≤ 434) (hr2 : fr2 + 1 ≤ 12 ∧ 8 + (4 + 11) + lo2 ≤ 434) (hfit : cells + mc1 ≤ R.cells ∧ slots + ms1 ≤ R.slots)
    (hP : va_P D vwCl (wk ++ (mw cI cZ o J Z ++ [oc cJ o9 f])) H) (hD : va_D A (wk ++ (mw cI cZ o J Z ++ [oc cJ o9 f]))) (hS : va_S A s.heap H locs) (hl : lv_has ls 7 [(0, .ref sb), (1, .ref bx), (2, .ref (o 0)), (3, .ref o9), (4, .int (nI i))])
    (kk : ∀ (wk2 : va_W) (f2 : Nat → Int64) (H1 : Heap) (locs1 : List Loc) (ls1 : Array Slot), Kp wk2 → va_P D vwCl (wk2 ++ (mw cI cZ o J2 Z2 ++ [oc cJ o9 f2])) H1 → va_D A (wk2 ++ (mw cI cZ o J2 Z2 ++ [oc cJ o9 f2])) → va_S A s.heap H1 locs1 → lv_has ls1 7 [(0, .ref sb), (1, .ref bx), (2, .ref (o 0)), (3, .ref o9), (4, .int (nI i))] → W p l e R s m args below meth c H1 locs1 (cells + mc1) (slots + ms1) Q (F0 m 1863 ls1 [])) :
    W p l e R s m args below meth c H locs cells slots Q (F0 m 768 ls []) := by
  refine lv_aload_n B.hx B.hb dL_law_768 rfl (lv_at hl 1 rfl) ?_
  refine lw_arg (d := 1) B hS hX hbl hbA hL (by omega) hl 0 4 rfl rfl (by decide) rfl dL_law_769 dL_law_770 dL_law_772 dL_law_773 dL_law_774 ?_
  refine lw_arg (d := 2) B hS hX hbl hbA hL (by omega) hl 0 4 rfl rfl (by decide) rfl dL_law_775 dL_law_776 dL_law_778 dL_law_779 dL_law_780 ?_
  refine lv_aload_n B.hx B.hb dL_law_781 rfl (lv_at hl 3 rfl) ?_
  refine q_callSX (As := [.ref bx, .int (xs (i + 1)), .int (xs (i + 2)), .ref o9]) (rest := []) B hP hD hS (lw_fr1 h1) (vx_cwSW 4 B.hts gL_law_L_reader rfl rfl rfl (by decide +kernel) ⟨by rw [hR.1]; exact hr1.1, by rw [hR.2]; exact hr1.2⟩) rfl hl.1 rfl (Nat.le_of_ble_eq_true rfl) dL_law_782 hfit (fun E ce q9 H locs hx => False.elim hx) (fun v u H locs hp hP hD hS => ?_)
  obtain ⟨wk2, f2⟩ := u
  obtain ⟨rfl, hKp, hans⟩ := hp
  have hP : va_P D vwCl (wk2 ++ (mw cI cZ o J Z ++ [oc cJ o9 f2])) H := hP
  have hD : va_D A (wk2 ++ (mw cI cZ o J Z ++ [oc cJ o9 f2])) := hD
  refine lv_istore (lv' := [(5, .int (nI z)), (0, .ref sb), (1, .ref bx), (2, .ref (o 0)), (3, .ref o9), (4, .int (nI i))]) B.hx B.hb dL_law_785 hl (by decide) rfl (fun ls hl => ?_)
  refine lv_aload_n B.hx B.hb dL_law_787 rfl (lv_at hl 3 rfl) ?_
  refine lw_arg (d := 1) B hS hX hbl hbA hL (by omega) hl 1 5 rfl rfl (by decide) rfl dL_law_788 dL_law_789 dL_law_791 dL_law_792 dL_law_793 ?_
  refine lw_arg (d := 2) B hS hX hbl hbA hL (by omega) hl 1 5 rfl rfl (by decide) rfl dL_law_794 dL_law_795 dL_law_797 dL_law_798 dL_law_799 ?_
  obtain ⟨fs, hq⟩ := mw_at (cI := cI) (cZ := cZ) wk2 [oc cJ o9 f2] (o := o) (J := J) (Z := Z)
  refine q_callV (As := [.int (xs (i + 1)), .int (xs (i + 2))]) (rest := []) B hP hD hS ((h2.fr [oc cJ o9 f2]).fl wk2) (cwV 2 B.hts gL_law_X4_reader rfl rfl rfl (by decide +kernel) ⟨by rw [hR.1]; exact hr2.1, by rw [hR.2]; exact hr2.2⟩) wk2.length 4 hq rfl rfl rfl hl.1 rfl (Nat.le_of_ble_eq_true rfl) dL_law_800 hfit (fun E ce q9 H locs hx => False.elim hx) (fun v u2 H locs hp hP hD hS => ?_)
  obtain rfl := hp
  have hP : va_P D vwCl (wk2 ++ (mw cI cZ o J2 Z2 ++ [oc cJ o9 f2])) H := hP
  have hD : va_D A (wk2 ++ (mw cI cZ o J2 Z2 ++ [oc cJ o9 f2])) := hD
  refine lv_istore (lv' := [(6, .int b9), (5, .int (nI z)), (0, .ref sb), (1, .ref bx), (2, .ref (o 0)), (3, .ref o9), (4, .int (nI i))]) B.hx B.hb dL_law_803 hl (by decide) rfl (fun ls hl => ?_)
  refine lw_tail B hR hfit hP hD hS hl hJ hz hans rfl rfl dL_law_805 dL_law_806 dL_law_809 dL_law_811 dL_law_816 dL_law_818 dL_law_821 dL_law_822 dL_law_823 dL_law_824 dL_law_826 dL_law_827 dL_law_828 dL_law_833 (by decide) (fun H locs hP hD hS => ?_)
  exact kk wk2 f2 H locs ls hKp hP hD hS (lv_sub hl [2, 3, 4, 5, 6] rfl)
set_option maxHeartbeats 4000000 in
theorem lc_review {i L z sb bx o9 fr1 lo1 mc1 ms1 fr2 lo2 : Nat} {xs : Nat → Int32} {wk : va_W} {o : Nat → Nat} {J J2 : Nat → Int32} {Z Z2 : Nat → Nat → Int32} {f : Nat → Int64} {Kp : va_W → Prop} {b9 : Int32} (B : q_B p l s m args meth c D cI cZ cP cJ A cL_law 7 RL wsL_law) (hR : R.frames = 12 ∧ R.locals = 434) (hX : va_X sb L xs s s.heap) (hbl : sb < s.heap.size) (hbA : ¬ A sb) (hL : L ≤ 2048) (hin : i + 4 ≤ L)
    (h1 : q_C l yL_review wsL_review { frames := fr1, cells := mc1, slots := ms1, locals := lo1 } D cI cZ cP cJ [.ref bx, .int (xs (i + 1)), .int (xs (i + 2)), .int (nb (xs (i + 3))), .ref o9] (wk ++ [oc cJ o9 f]) (S := va_W × (Nat → Int64)) (fun v u => v = some (.int (nI z)) ∧ Kp u.1 ∧ (z = 0 → u.2 0 = b9.toInt64)) (fun u => u.1 ++ [oc cJ o9 u.2]) (fun _ => False) mc1 ms1)
    (h2 : q_C l yX4_review wsX4_review { frames := fr2, cells := 0, slots := 0, locals := lo2 } D cI cZ cP cJ [.ref (o 0), .int (xs (i + 1)), .int (xs (i + 2)), .int (nb (xs (i + 3)))] (mw cI cZ o J Z) (S := Unit) (fun v _ => v = some (.int b9)) (fun _ => mw cI cZ o J2 Z2) (fun _ => False) 0 0)
    (hJ : J2 30 = nI z) (hz : z < 2 ^ 31) (hr1 : fr1 + 1 ≤ 12 ∧ 8 + (6 + 11) + lo1 ≤ 434) (hr2 : fr2 + 1 ≤ 12 ∧ 8 + (8 + 11) + lo2 ≤ 434) (hfit : cells + mc1 ≤ R.cells ∧ slots + ms1 ≤ R.slots)
    (hP : va_P D vwCl (wk ++ (mw cI cZ o J Z ++ [oc cJ o9 f])) H) (hD : va_D A (wk ++ (mw cI cZ o J Z ++ [oc cJ o9 f]))) (hS : va_S A s.heap H locs) (hl : lv_has ls 7 [(0, .ref sb), (1, .ref bx), (2, .ref (o 0)), (3, .ref o9), (4, .int (nI i))])
    (kk : ∀ (wk2 : va_W) (f2 : Nat → Int64) (H1 : Heap) (locs1 : List Loc) (ls1 : Array Slot), Kp wk2 → va_P D vwCl (wk2 ++ (mw cI cZ o J2 Z2 ++ [oc cJ o9 f2])) H1 → va_D A (wk2 ++ (mw cI cZ o J2 Z2 ++ [oc cJ o9 f2])) → va_S A s.heap H1 locs1 → lv_has ls1 7 [(0, .ref sb), (1, .ref bx), (2, .ref (o 0)), (3, .ref o9), (4, .int (nI i))] → W p l e R s m args below meth c H1 locs1 (cells + mc1) (slots + ms1) Q (F0 m 1863 ls1 [])) :
    W p l e R s m args below meth c H locs cells slots Q (F0 m 836 ls []) := by
  refine lv_aload_n B.hx B.hb dL_law_836 rfl (lv_at hl 1 rfl) ?_
  refine lw_arg (d := 1) B hS hX hbl hbA hL (by omega) hl 0 4 rfl rfl (by decide) rfl dL_law_837 dL_law_838 dL_law_840 dL_law_841 dL_law_842 ?_
  refine lw_arg (d := 2) B hS hX hbl hbA hL (by omega) hl 0 4 rfl rfl (by decide) rfl dL_law_843 dL_law_844 dL_law_846 dL_law_847 dL_law_848 ?_
  refine lw_arg (d := 3) B hS hX hbl hbA hL (by omega) hl 0 4 rfl rfl (by decide) rfl dL_law_849 dL_law_850 dL_law_852 dL_law_853 dL_law_854 ?_
  refine lw_bool B.hx B.hb dL_law_855 dL_law_858 dL_law_859 dL_law_862 ?_
  refine lv_aload_n B.hx B.hb dL_law_863 rfl (lv_at hl 3 rfl) ?_
  refine q_callSX (As := [.ref bx, .int (xs (i + 1)), .int (xs (i + 2)), .int (nb (xs (i + 3))), .ref o9]) (rest := []) B hP hD hS (lw_fr1 h1) (vx_cwSW 5 B.hts gL_law_L_review rfl rfl rfl (by decide +kernel) ⟨by rw [hR.1]; exact hr1.1, by rw [hR.2]; exact hr1.2⟩) rfl hl.1 rfl (Nat.le_of_ble_eq_true rfl) dL_law_864 hfit (fun E ce q9 H locs hx => False.elim hx) (fun v u H locs hp hP hD hS => ?_)
  obtain ⟨wk2, f2⟩ := u
  obtain ⟨rfl, hKp, hans⟩ := hp
  have hP : va_P D vwCl (wk2 ++ (mw cI cZ o J Z ++ [oc cJ o9 f2])) H := hP
  have hD : va_D A (wk2 ++ (mw cI cZ o J Z ++ [oc cJ o9 f2])) := hD
  refine lv_istore (lv' := [(5, .int (nI z)), (0, .ref sb), (1, .ref bx), (2, .ref (o 0)), (3, .ref o9), (4, .int (nI i))]) B.hx B.hb dL_law_867 hl (by decide) rfl (fun ls hl => ?_)
  refine lv_aload_n B.hx B.hb dL_law_869 rfl (lv_at hl 3 rfl) ?_
  refine lw_arg (d := 1) B hS hX hbl hbA hL (by omega) hl 1 5 rfl rfl (by decide) rfl dL_law_870 dL_law_871 dL_law_873 dL_law_874 dL_law_875 ?_
  refine lw_arg (d := 2) B hS hX hbl hbA hL (by omega) hl 1 5 rfl rfl (by decide) rfl dL_law_876 dL_law_877 dL_law_879 dL_law_880 dL_law_881 ?_
  refine lw_arg (d := 3) B hS hX hbl hbA hL (by omega) hl 1 5 rfl rfl (by decide) rfl dL_law_882 dL_law_883 dL_law_885 dL_law_886 dL_law_887 ?_
  refine lw_bool B.hx B.hb dL_law_888 dL_law_891 dL_law_892 dL_law_895 ?_
  obtain ⟨fs, hq⟩ := mw_at (cI := cI) (cZ := cZ) wk2 [oc cJ o9 f2] (o := o) (J := J) (Z := Z)
  refine q_callV (As := [.int (xs (i + 1)), .int (xs (i + 2)), .int (nb (xs (i + 3)))]) (rest := []) B hP hD hS ((h2.fr [oc cJ o9 f2]).fl wk2) (cwV 3 B.hts gL_law_X4_review rfl rfl rfl (by decide +kernel) ⟨by rw [hR.1]; exact hr2.1, by rw [hR.2]; exact hr2.2⟩) wk2.length 4 hq rfl rfl rfl hl.1 rfl (Nat.le_of_ble_eq_true rfl) dL_law_896 hfit (fun E ce q9 H locs hx => False.elim hx) (fun v u2 H locs hp hP hD hS => ?_)
  obtain rfl := hp
  have hP : va_P D vwCl (wk2 ++ (mw cI cZ o J2 Z2 ++ [oc cJ o9 f2])) H := hP
  have hD : va_D A (wk2 ++ (mw cI cZ o J2 Z2 ++ [oc cJ o9 f2])) := hD
  refine lv_istore (lv' := [(6, .int b9), (5, .int (nI z)), (0, .ref sb), (1, .ref bx), (2, .ref (o 0)), (3, .ref o9), (4, .int (nI i))]) B.hx B.hb dL_law_899 hl (by decide) rfl (fun ls hl => ?_)
  refine lw_tail B hR hfit hP hD hS hl hJ hz hans rfl rfl dL_law_901 dL_law_902 dL_law_905 dL_law_907 dL_law_912 dL_law_914 dL_law_917 dL_law_918 dL_law_919 dL_law_920 dL_law_922 dL_law_923 dL_law_924 dL_law_929 (by decide) (fun H locs hP hD hS => ?_)
  exact kk wk2 f2 H locs ls hKp hP hD hS (lv_sub hl [2, 3, 4, 5, 6] rfl)
set_option maxHeartbeats 4000000 in
theorem lc_answer {i L z sb bx o9 fr1 lo1 mc1 ms1 fr2 lo2 : Nat} {xs : Nat → Int32} {wk : va_W} {o : Nat → Nat} {J J2 : Nat → Int32} {Z Z2 : Nat → Nat → Int32} {f : Nat → Int64} {Kp : va_W → Prop} {b9 : Int32} (B : q_B p l s m args meth c D cI cZ cP cJ A cL_law 7 RL wsL_law) (hR : R.frames = 12 ∧ R.locals = 434) (hX : va_X sb L xs s s.heap) (hbl : sb < s.heap.size) (hbA : ¬ A sb) (hL : L ≤ 2048) (hin : i + 4 ≤ L)
    (h1 : q_C l yL_answer wsL_answer { frames := fr1, cells := mc1, slots := ms1, locals := lo1 } D cI cZ cP cJ [.ref bx, .int (xs (i + 1)), .int (xs (i + 2)), .ref o9] (wk ++ [oc cJ o9 f]) (S := va_W × (Nat → Int64)) (fun v u => v = some (.int (nI z)) ∧ Kp u.1 ∧ (z = 0 → u.2 0 = b9.toInt64)) (fun u => u.1 ++ [oc cJ o9 u.2]) (fun _ => False) mc1 ms1)
    (h2 : q_C l yX4_answer wsX4_answer { frames := fr2, cells := 0, slots := 0, locals := lo2 } D cI cZ cP cJ [.ref (o 0), .int (xs (i + 1)), .int (xs (i + 2))] (mw cI cZ o J Z) (S := Unit) (fun v _ => v = some (.int b9)) (fun _ => mw cI cZ o J2 Z2) (fun _ => False) 0 0)
    (hJ : J2 30 = nI z) (hz : z < 2 ^ 31) (hr1 : fr1 + 1 ≤ 12 ∧ 8 + (5 + 11) + lo1 ≤ 434) (hr2 : fr2 + 1 ≤ 12 ∧ 8 + (4 + 11) + lo2 ≤ 434) (hfit : cells + mc1 ≤ R.cells ∧ slots + ms1 ≤ R.slots)
    (hP : va_P D vwCl (wk ++ (mw cI cZ o J Z ++ [oc cJ o9 f])) H) (hD : va_D A (wk ++ (mw cI cZ o J Z ++ [oc cJ o9 f]))) (hS : va_S A s.heap H locs) (hl : lv_has ls 7 [(0, .ref sb), (1, .ref bx), (2, .ref (o 0)), (3, .ref o9), (4, .int (nI i))])
    (kk : ∀ (wk2 : va_W) (f2 : Nat → Int64) (H1 : Heap) (locs1 : List Loc) (ls1 : Array Slot), Kp wk2 → va_P D vwCl (wk2 ++ (mw cI cZ o J2 Z2 ++ [oc cJ o9 f2])) H1 → va_D A (wk2 ++ (mw cI cZ o J2 Z2 ++ [oc cJ o9 f2])) → va_S A s.heap H1 locs1 → lv_has ls1 7 [(0, .ref sb), (1, .ref bx), (2, .ref (o 0)), (3, .ref o9), (4, .int (nI i))] → W p l e R s m args below meth c H1 locs1 (cells + mc1) (slots + ms1) Q (F0 m 1863 ls1 [])) :
    W p l e R s m args below meth c H locs cells slots Q (F0 m 932 ls []) := by
  refine lv_aload_n B.hx B.hb dL_law_932 rfl (lv_at hl 1 rfl) ?_
  refine lw_arg (d := 1) B hS hX hbl hbA hL (by omega) hl 0 4 rfl rfl (by decide) rfl dL_law_933 dL_law_934 dL_law_936 dL_law_937 dL_law_938 ?_
  refine lw_arg (d := 2) B hS hX hbl hbA hL (by omega) hl 0 4 rfl rfl (by decide) rfl dL_law_939 dL_law_940 dL_law_942 dL_law_943 dL_law_944 ?_
  refine lv_aload_n B.hx B.hb dL_law_945 rfl (lv_at hl 3 rfl) ?_
  refine q_callSX (As := [.ref bx, .int (xs (i + 1)), .int (xs (i + 2)), .ref o9]) (rest := []) B hP hD hS (lw_fr1 h1) (vx_cwSW 4 B.hts gL_law_L_answer rfl rfl rfl (by decide +kernel) ⟨by rw [hR.1]; exact hr1.1, by rw [hR.2]; exact hr1.2⟩) rfl hl.1 rfl (Nat.le_of_ble_eq_true rfl) dL_law_946 hfit (fun E ce q9 H locs hx => False.elim hx) (fun v u H locs hp hP hD hS => ?_)
  obtain ⟨wk2, f2⟩ := u
  obtain ⟨rfl, hKp, hans⟩ := hp
  have hP : va_P D vwCl (wk2 ++ (mw cI cZ o J Z ++ [oc cJ o9 f2])) H := hP
  have hD : va_D A (wk2 ++ (mw cI cZ o J Z ++ [oc cJ o9 f2])) := hD
  refine lv_istore (lv' := [(5, .int (nI z)), (0, .ref sb), (1, .ref bx), (2, .ref (o 0)), (3, .ref o9), (4, .int (nI i))]) B.hx B.hb dL_law_949 hl (by decide) rfl (fun ls hl => ?_)
  refine lv_aload_n B.hx B.hb dL_law_951 rfl (lv_at hl 3 rfl) ?_
  refine lw_arg (d := 1) B hS hX hbl hbA hL (by omega) hl 1 5 rfl rfl (by decide) rfl dL_law_952 dL_law_953 dL_law_955 dL_law_956 dL_law_957 ?_
  refine lw_arg (d := 2) B hS hX hbl hbA hL (by omega) hl 1 5 rfl rfl (by decide) rfl dL_law_958 dL_law_959 dL_law_961 dL_law_962 dL_law_963 ?_
  obtain ⟨fs, hq⟩ := mw_at (cI := cI) (cZ := cZ) wk2 [oc cJ o9 f2] (o := o) (J := J) (Z := Z)
  refine q_callV (As := [.int (xs (i + 1)), .int (xs (i + 2))]) (rest := []) B hP hD hS ((h2.fr [oc cJ o9 f2]).fl wk2) (cwV 2 B.hts gL_law_X4_answer rfl rfl rfl (by decide +kernel) ⟨by rw [hR.1]; exact hr2.1, by rw [hR.2]; exact hr2.2⟩) wk2.length 4 hq rfl rfl rfl hl.1 rfl (Nat.le_of_ble_eq_true rfl) dL_law_964 hfit (fun E ce q9 H locs hx => False.elim hx) (fun v u2 H locs hp hP hD hS => ?_)
  obtain rfl := hp
  have hP : va_P D vwCl (wk2 ++ (mw cI cZ o J2 Z2 ++ [oc cJ o9 f2])) H := hP
  have hD : va_D A (wk2 ++ (mw cI cZ o J2 Z2 ++ [oc cJ o9 f2])) := hD
  refine lv_istore (lv' := [(6, .int b9), (5, .int (nI z)), (0, .ref sb), (1, .ref bx), (2, .ref (o 0)), (3, .ref o9), (4, .int (nI i))]) B.hx B.hb dL_law_967 hl (by decide) rfl (fun ls hl => ?_)
  refine lw_tail B hR hfit hP hD hS hl hJ hz hans rfl rfl dL_law_969 dL_law_970 dL_law_973 dL_law_975 dL_law_980 dL_law_982 dL_law_985 dL_law_986 dL_law_987 dL_law_988 dL_law_990 dL_law_991 dL_law_992 dL_law_997 (by decide) (fun H locs hP hD hS => ?_)
  exact kk wk2 f2 H locs ls hKp hP hD hS (lv_sub hl [2, 3, 4, 5, 6] rfl)
set_option maxHeartbeats 4000000 in
theorem lc_approve {i L z sb bx o9 fr1 lo1 mc1 ms1 fr2 lo2 : Nat} {xs : Nat → Int32} {wk : va_W} {o : Nat → Nat} {J J2 : Nat → Int32} {Z Z2 : Nat → Nat → Int32} {f : Nat → Int64} {Kp : va_W → Prop} (B : q_B p l s m args meth c D cI cZ cP cJ A cL_law 7 RL wsL_law) (hR : R.frames = 12 ∧ R.locals = 434) (hX : va_X sb L xs s s.heap) (hbl : sb < s.heap.size) (hbA : ¬ A sb) (hL : L ≤ 2048) (hin : i + 4 ≤ L)
    (h1 : q_C l yL_approve wsL_approve { frames := fr1, cells := mc1, slots := ms1, locals := lo1 } D cI cZ cP cJ [.ref bx, .int (xs (i + 1)), .int (xs (i + 2)), .int (xs (i + 3))] wk (S := va_W) (fun v u => v = some (.int (nI z)) ∧ Kp u) (fun u => u) (fun _ => False) mc1 ms1)
    (h2 : q_C l yX4_approve wsX4_approve { frames := fr2, cells := 0, slots := 0, locals := lo2 } D cI cZ cP cJ [.ref (o 0), .int (xs (i + 1)), .int (xs (i + 2)), .int (xs (i + 3))] (mw cI cZ o J Z) (S := Unit) (fun v _ => v = none) (fun _ => mw cI cZ o J2 Z2) (fun _ => False) 0 0)
    (hJ : J2 30 = nI z) (hz : z < 2 ^ 31) (hr1 : fr1 + 1 ≤ 12 ∧ 8 + (5 + 11) + lo1 ≤ 434) (hr2 : fr2 + 1 ≤ 12 ∧ 8 + (7 + 11) + lo2 ≤ 434) (hfit : cells + mc1 ≤ R.cells ∧ slots + ms1 ≤ R.slots)
    (hP : va_P D vwCl (wk ++ (mw cI cZ o J Z ++ [oc cJ o9 f])) H) (hD : va_D A (wk ++ (mw cI cZ o J Z ++ [oc cJ o9 f]))) (hS : va_S A s.heap H locs) (hl : lv_has ls 7 [(0, .ref sb), (1, .ref bx), (2, .ref (o 0)), (3, .ref o9), (4, .int (nI i))])
    (kk : ∀ (wk2 : va_W) (f2 : Nat → Int64) (H1 : Heap) (locs1 : List Loc) (ls1 : Array Slot), Kp wk2 → va_P D vwCl (wk2 ++ (mw cI cZ o J2 Z2 ++ [oc cJ o9 f2])) H1 → va_D A (wk2 ++ (mw cI cZ o J2 Z2 ++ [oc cJ o9 f2])) → va_S A s.heap H1 locs1 → lv_has ls1 7 [(0, .ref sb), (1, .ref bx), (2, .ref (o 0)), (3, .ref o9), (4, .int (nI i))] → W p l e R s m args below meth c H1 locs1 (cells + mc1) (slots + ms1) Q (F0 m 1863 ls1 [])) :
    W p l e R s m args below meth c H locs cells slots Q (F0 m 1000 ls []) := by
  refine lv_aload_n B.hx B.hb dL_law_1000 rfl (lv_at hl 1 rfl) ?_
  refine lw_arg (d := 1) B hS hX hbl hbA hL (by omega) hl 0 4 rfl rfl (by decide) rfl dL_law_1001 dL_law_1002 dL_law_1004 dL_law_1005 dL_law_1006 ?_
  refine lw_arg (d := 2) B hS hX hbl hbA hL (by omega) hl 0 4 rfl rfl (by decide) rfl dL_law_1007 dL_law_1008 dL_law_1010 dL_law_1011 dL_law_1012 ?_
  refine lw_arg (d := 3) B hS hX hbl hbA hL (by omega) hl 0 4 rfl rfl (by decide) rfl dL_law_1013 dL_law_1014 dL_law_1016 dL_law_1017 dL_law_1018 ?_
  refine q_callSX (As := [.ref bx, .int (xs (i + 1)), .int (xs (i + 2)), .int (xs (i + 3))]) (rest := []) B hP hD hS (h1.fr (mw cI cZ o J Z ++ [oc cJ o9 f])) (vx_cwSW 4 B.hts gL_law_L_approve rfl rfl rfl (by decide +kernel) ⟨by rw [hR.1]; exact hr1.1, by rw [hR.2]; exact hr1.2⟩) rfl hl.1 rfl (Nat.le_of_ble_eq_true rfl) dL_law_1019 hfit (fun E ce q9 H locs hx => False.elim hx) (fun v u H locs hp hP hD hS => ?_)
  obtain ⟨rfl, hKp⟩ := hp
  have hP : va_P D vwCl (u ++ (mw cI cZ o J Z ++ [oc cJ o9 f])) H := hP
  have hD : va_D A (u ++ (mw cI cZ o J Z ++ [oc cJ o9 f])) := hD
  refine lv_istore (lv' := [(5, .int (nI z)), (0, .ref sb), (1, .ref bx), (2, .ref (o 0)), (3, .ref o9), (4, .int (nI i))]) B.hx B.hb dL_law_1022 hl (by decide) rfl (fun ls hl => ?_)
  refine lv_aload_n B.hx B.hb dL_law_1024 rfl (lv_at hl 3 rfl) ?_
  refine lw_arg (d := 1) B hS hX hbl hbA hL (by omega) hl 1 5 rfl rfl (by decide) rfl dL_law_1025 dL_law_1026 dL_law_1028 dL_law_1029 dL_law_1030 ?_
  refine lw_arg (d := 2) B hS hX hbl hbA hL (by omega) hl 1 5 rfl rfl (by decide) rfl dL_law_1031 dL_law_1032 dL_law_1034 dL_law_1035 dL_law_1036 ?_
  refine lw_arg (d := 3) B hS hX hbl hbA hL (by omega) hl 1 5 rfl rfl (by decide) rfl dL_law_1037 dL_law_1038 dL_law_1040 dL_law_1041 dL_law_1042 ?_
  obtain ⟨fs, hq⟩ := mw_at (cI := cI) (cZ := cZ) u [oc cJ o9 f] (o := o) (J := J) (Z := Z)
  refine q_callV (As := [.int (xs (i + 1)), .int (xs (i + 2)), .int (xs (i + 3))]) (rest := []) B hP hD hS ((h2.fr [oc cJ o9 f]).fl u) (cwV 3 B.hts gL_law_X4_approve rfl rfl rfl (by decide +kernel) ⟨by rw [hR.1]; exact hr2.1, by rw [hR.2]; exact hr2.2⟩) u.length 4 hq rfl rfl rfl hl.1 rfl (Nat.le_of_ble_eq_true rfl) dL_law_1043 hfit (fun E ce q9 H locs hx => False.elim hx) (fun v u2 H locs hp hP hD hS => ?_)
  obtain rfl := hp
  have hP : va_P D vwCl (u ++ (mw cI cZ o J2 Z2 ++ [oc cJ o9 f])) H := hP
  have hD : va_D A (u ++ (mw cI cZ o J2 Z2 ++ [oc cJ o9 f])) := hD
  refine lw_tailV B hR hfit hP hD hS hl hJ rfl dL_law_1046 dL_law_1047 dL_law_1050 dL_law_1052 dL_law_1057 (by decide) (fun H locs hP hD hS => ?_)
  exact kk u f H locs ls hKp hP hD hS (lv_sub hl [1, 2, 3, 4, 5] rfl)
set_option maxHeartbeats 4000000 in
theorem lc_confirm {i L z sb bx o9 fr1 lo1 mc1 ms1 fr2 lo2 : Nat} {xs : Nat → Int32} {wk : va_W} {o : Nat → Nat} {J J2 : Nat → Int32} {Z Z2 : Nat → Nat → Int32} {f : Nat → Int64} {Kp : va_W → Prop} {b9 : Int32} (B : q_B p l s m args meth c D cI cZ cP cJ A cL_law 7 RL wsL_law) (hR : R.frames = 12 ∧ R.locals = 434) (hX : va_X sb L xs s s.heap) (hbl : sb < s.heap.size) (hbA : ¬ A sb) (hL : L ≤ 2048) (hin : i + 4 ≤ L)
    (h1 : q_C l yL_confirm wsL_confirm { frames := fr1, cells := mc1, slots := ms1, locals := lo1 } D cI cZ cP cJ [.ref bx, .int (xs (i + 1)), .int (xs (i + 2)), .ref o9] (wk ++ [oc cJ o9 f]) (S := va_W × (Nat → Int64)) (fun v u => v = some (.int (nI z)) ∧ Kp u.1 ∧ (z = 0 → u.2 0 = b9.toInt64)) (fun u => u.1 ++ [oc cJ o9 u.2]) (fun _ => False) mc1 ms1)
    (h2 : q_C l yX4_confirm wsX4_confirm { frames := fr2, cells := 0, slots := 0, locals := lo2 } D cI cZ cP cJ [.ref (o 0), .int (xs (i + 1)), .int (xs (i + 2))] (mw cI cZ o J Z) (S := Unit) (fun v _ => v = some (.int b9)) (fun _ => mw cI cZ o J2 Z2) (fun _ => False) 0 0)
    (hJ : J2 30 = nI z) (hz : z < 2 ^ 31) (hr1 : fr1 + 1 ≤ 12 ∧ 8 + (5 + 11) + lo1 ≤ 434) (hr2 : fr2 + 1 ≤ 12 ∧ 8 + (6 + 11) + lo2 ≤ 434) (hfit : cells + mc1 ≤ R.cells ∧ slots + ms1 ≤ R.slots)
    (hP : va_P D vwCl (wk ++ (mw cI cZ o J Z ++ [oc cJ o9 f])) H) (hD : va_D A (wk ++ (mw cI cZ o J Z ++ [oc cJ o9 f]))) (hS : va_S A s.heap H locs) (hl : lv_has ls 7 [(0, .ref sb), (1, .ref bx), (2, .ref (o 0)), (3, .ref o9), (4, .int (nI i))])
    (kk : ∀ (wk2 : va_W) (f2 : Nat → Int64) (H1 : Heap) (locs1 : List Loc) (ls1 : Array Slot), Kp wk2 → va_P D vwCl (wk2 ++ (mw cI cZ o J2 Z2 ++ [oc cJ o9 f2])) H1 → va_D A (wk2 ++ (mw cI cZ o J2 Z2 ++ [oc cJ o9 f2])) → va_S A s.heap H1 locs1 → lv_has ls1 7 [(0, .ref sb), (1, .ref bx), (2, .ref (o 0)), (3, .ref o9), (4, .int (nI i))] → W p l e R s m args below meth c H1 locs1 (cells + mc1) (slots + ms1) Q (F0 m 1863 ls1 [])) :
    W p l e R s m args below meth c H locs cells slots Q (F0 m 1060 ls []) := by
  refine lv_aload_n B.hx B.hb dL_law_1060 rfl (lv_at hl 1 rfl) ?_
  refine lw_arg (d := 1) B hS hX hbl hbA hL (by omega) hl 0 4 rfl rfl (by decide) rfl dL_law_1061 dL_law_1062 dL_law_1064 dL_law_1065 dL_law_1066 ?_
  refine lw_arg (d := 2) B hS hX hbl hbA hL (by omega) hl 0 4 rfl rfl (by decide) rfl dL_law_1067 dL_law_1068 dL_law_1070 dL_law_1071 dL_law_1072 ?_
  refine lv_aload_n B.hx B.hb dL_law_1073 rfl (lv_at hl 3 rfl) ?_
  refine q_callSX (As := [.ref bx, .int (xs (i + 1)), .int (xs (i + 2)), .ref o9]) (rest := []) B hP hD hS (lw_fr1 h1) (vx_cwSW 4 B.hts gL_law_L_confirm rfl rfl rfl (by decide +kernel) ⟨by rw [hR.1]; exact hr1.1, by rw [hR.2]; exact hr1.2⟩) rfl hl.1 rfl (Nat.le_of_ble_eq_true rfl) dL_law_1074 hfit (fun E ce q9 H locs hx => False.elim hx) (fun v u H locs hp hP hD hS => ?_)
  obtain ⟨wk2, f2⟩ := u
  obtain ⟨rfl, hKp, hans⟩ := hp
  have hP : va_P D vwCl (wk2 ++ (mw cI cZ o J Z ++ [oc cJ o9 f2])) H := hP
  have hD : va_D A (wk2 ++ (mw cI cZ o J Z ++ [oc cJ o9 f2])) := hD
  refine lv_istore (lv' := [(5, .int (nI z)), (0, .ref sb), (1, .ref bx), (2, .ref (o 0)), (3, .ref o9), (4, .int (nI i))]) B.hx B.hb dL_law_1077 hl (by decide) rfl (fun ls hl => ?_)
  refine lv_aload_n B.hx B.hb dL_law_1079 rfl (lv_at hl 3 rfl) ?_
  refine lw_arg (d := 1) B hS hX hbl hbA hL (by omega) hl 1 5 rfl rfl (by decide) rfl dL_law_1080 dL_law_1081 dL_law_1083 dL_law_1084 dL_law_1085 ?_
  refine lw_arg (d := 2) B hS hX hbl hbA hL (by omega) hl 1 5 rfl rfl (by decide) rfl dL_law_1086 dL_law_1087 dL_law_1089 dL_law_1090 dL_law_1091 ?_
  obtain ⟨fs, hq⟩ := mw_at (cI := cI) (cZ := cZ) wk2 [oc cJ o9 f2] (o := o) (J := J) (Z := Z)
  refine q_callV (As := [.int (xs (i + 1)), .int (xs (i + 2))]) (rest := []) B hP hD hS ((h2.fr [oc cJ o9 f2]).fl wk2) (cwV 2 B.hts gL_law_X4_confirm rfl rfl rfl (by decide +kernel) ⟨by rw [hR.1]; exact hr2.1, by rw [hR.2]; exact hr2.2⟩) wk2.length 4 hq rfl rfl rfl hl.1 rfl (Nat.le_of_ble_eq_true rfl) dL_law_1092 hfit (fun E ce q9 H locs hx => False.elim hx) (fun v u2 H locs hp hP hD hS => ?_)
  obtain rfl := hp
  have hP : va_P D vwCl (wk2 ++ (mw cI cZ o J2 Z2 ++ [oc cJ o9 f2])) H := hP
  have hD : va_D A (wk2 ++ (mw cI cZ o J2 Z2 ++ [oc cJ o9 f2])) := hD
  refine lv_istore (lv' := [(6, .int b9), (5, .int (nI z)), (0, .ref sb), (1, .ref bx), (2, .ref (o 0)), (3, .ref o9), (4, .int (nI i))]) B.hx B.hb dL_law_1095 hl (by decide) rfl (fun ls hl => ?_)
  refine lw_tail B hR hfit hP hD hS hl hJ hz hans rfl rfl dL_law_1097 dL_law_1098 dL_law_1101 dL_law_1103 dL_law_1108 dL_law_1110 dL_law_1113 dL_law_1114 dL_law_1115 dL_law_1116 dL_law_1118 dL_law_1119 dL_law_1120 dL_law_1125 (by decide) (fun H locs hP hD hS => ?_)
  exact kk wk2 f2 H locs ls hKp hP hD hS (lv_sub hl [2, 3, 4, 5, 6] rfl)
set_option maxHeartbeats 4000000 in
theorem lc_pass {i L z sb bx o9 fr1 lo1 mc1 ms1 fr2 lo2 : Nat} {xs : Nat → Int32} {wk : va_W} {o : Nat → Nat} {J J2 : Nat → Int32} {Z Z2 : Nat → Nat → Int32} {f : Nat → Int64} {Kp : va_W → Prop} {b9 : Int32} (B : q_B p l s m args meth c D cI cZ cP cJ A cL_law 7 RL wsL_law) (hR : R.frames = 12 ∧ R.locals = 434) (hX : va_X sb L xs s s.heap) (hbl : sb < s.heap.size) (hbA : ¬ A sb) (hL : L ≤ 2048) (hin : i + 4 ≤ L)
    (h1 : q_C l yL_pass wsL_pass { frames := fr1, cells := mc1, slots := ms1, locals := lo1 } D cI cZ cP cJ [.ref bx, .int (xs (i + 1)), .ref o9] (wk ++ [oc cJ o9 f]) (S := va_W × (Nat → Int64)) (fun v u => v = some (.int (nI z)) ∧ Kp u.1 ∧ (z = 0 → u.2 0 = b9.toInt64)) (fun u => u.1 ++ [oc cJ o9 u.2]) (fun _ => False) mc1 ms1)
    (h2 : q_C l yX4_pass wsX4_pass { frames := fr2, cells := 0, slots := 0, locals := lo2 } D cI cZ cP cJ [.ref (o 0), .int (xs (i + 1))] (mw cI cZ o J Z) (S := Unit) (fun v _ => v = some (.int b9)) (fun _ => mw cI cZ o J2 Z2) (fun _ => False) 0 0)
    (hJ : J2 30 = nI z) (hz : z < 2 ^ 31) (hr1 : fr1 + 1 ≤ 12 ∧ 8 + (4 + 11) + lo1 ≤ 434) (hr2 : fr2 + 1 ≤ 12 ∧ 8 + (5 + 11) + lo2 ≤ 434) (hfit : cells + mc1 ≤ R.cells ∧ slots + ms1 ≤ R.slots)
    (hP : va_P D vwCl (wk ++ (mw cI cZ o J Z ++ [oc cJ o9 f])) H) (hD : va_D A (wk ++ (mw cI cZ o J Z ++ [oc cJ o9 f]))) (hS : va_S A s.heap H locs) (hl : lv_has ls 7 [(0, .ref sb), (1, .ref bx), (2, .ref (o 0)), (3, .ref o9), (4, .int (nI i))])
    (kk : ∀ (wk2 : va_W) (f2 : Nat → Int64) (H1 : Heap) (locs1 : List Loc) (ls1 : Array Slot), Kp wk2 → va_P D vwCl (wk2 ++ (mw cI cZ o J2 Z2 ++ [oc cJ o9 f2])) H1 → va_D A (wk2 ++ (mw cI cZ o J2 Z2 ++ [oc cJ o9 f2])) → va_S A s.heap H1 locs1 → lv_has ls1 7 [(0, .ref sb), (1, .ref bx), (2, .ref (o 0)), (3, .ref o9), (4, .int (nI i))] → W p l e R s m args below meth c H1 locs1 (cells + mc1) (slots + ms1) Q (F0 m 1863 ls1 [])) :
    W p l e R s m args below meth c H locs cells slots Q (F0 m 1128 ls []) := by
  refine lv_aload_n B.hx B.hb dL_law_1128 rfl (lv_at hl 1 rfl) ?_
  refine lw_arg (d := 1) B hS hX hbl hbA hL (by omega) hl 0 4 rfl rfl (by decide) rfl dL_law_1129 dL_law_1130 dL_law_1132 dL_law_1133 dL_law_1134 ?_
  refine lv_aload_n B.hx B.hb dL_law_1135 rfl (lv_at hl 3 rfl) ?_
  refine q_callSX (As := [.ref bx, .int (xs (i + 1)), .ref o9]) (rest := []) B hP hD hS (lw_fr1 h1) (vx_cwSW 3 B.hts gL_law_L_pass rfl rfl rfl (by decide +kernel) ⟨by rw [hR.1]; exact hr1.1, by rw [hR.2]; exact hr1.2⟩) rfl hl.1 rfl (Nat.le_of_ble_eq_true rfl) dL_law_1136 hfit (fun E ce q9 H locs hx => False.elim hx) (fun v u H locs hp hP hD hS => ?_)
  obtain ⟨wk2, f2⟩ := u
  obtain ⟨rfl, hKp, hans⟩ := hp
  have hP : va_P D vwCl (wk2 ++ (mw cI cZ o J Z ++ [oc cJ o9 f2])) H := hP
  have hD : va_D A (wk2 ++ (mw cI cZ o J Z ++ [oc cJ o9 f2])) := hD
  refine lv_istore (lv' := [(5, .int (nI z)), (0, .ref sb), (1, .ref bx), (2, .ref (o 0)), (3, .ref o9), (4, .int (nI i))]) B.hx B.hb dL_law_1139 hl (by decide) rfl (fun ls hl => ?_)
  refine lv_aload_n B.hx B.hb dL_law_1141 rfl (lv_at hl 3 rfl) ?_
  refine lw_arg (d := 1) B hS hX hbl hbA hL (by omega) hl 1 5 rfl rfl (by decide) rfl dL_law_1142 dL_law_1143 dL_law_1145 dL_law_1146 dL_law_1147 ?_
  obtain ⟨fs, hq⟩ := mw_at (cI := cI) (cZ := cZ) wk2 [oc cJ o9 f2] (o := o) (J := J) (Z := Z)
  refine q_callV (As := [.int (xs (i + 1))]) (rest := []) B hP hD hS ((h2.fr [oc cJ o9 f2]).fl wk2) (cwV 1 B.hts gL_law_X4_pass rfl rfl rfl (by decide +kernel) ⟨by rw [hR.1]; exact hr2.1, by rw [hR.2]; exact hr2.2⟩) wk2.length 4 hq rfl rfl rfl hl.1 rfl (Nat.le_of_ble_eq_true rfl) dL_law_1148 hfit (fun E ce q9 H locs hx => False.elim hx) (fun v u2 H locs hp hP hD hS => ?_)
  obtain rfl := hp
  have hP : va_P D vwCl (wk2 ++ (mw cI cZ o J2 Z2 ++ [oc cJ o9 f2])) H := hP
  have hD : va_D A (wk2 ++ (mw cI cZ o J2 Z2 ++ [oc cJ o9 f2])) := hD
  refine lv_istore (lv' := [(6, .int b9), (5, .int (nI z)), (0, .ref sb), (1, .ref bx), (2, .ref (o 0)), (3, .ref o9), (4, .int (nI i))]) B.hx B.hb dL_law_1151 hl (by decide) rfl (fun ls hl => ?_)
  refine lw_tail B hR hfit hP hD hS hl hJ hz hans rfl rfl dL_law_1153 dL_law_1154 dL_law_1157 dL_law_1159 dL_law_1164 dL_law_1166 dL_law_1169 dL_law_1170 dL_law_1171 dL_law_1172 dL_law_1174 dL_law_1175 dL_law_1176 dL_law_1181 (by decide) (fun H locs hP hD hS => ?_)
  exact kk wk2 f2 H locs ls hKp hP hD hS (lv_sub hl [2, 3, 4, 5, 6] rfl)
set_option maxHeartbeats 4000000 in
theorem lc_look {i L z sb bx o9 fr1 lo1 mc1 ms1 fr2 lo2 : Nat} {xs : Nat → Int32} {wk : va_W} {o : Nat → Nat} {J J2 : Nat → Int32} {Z Z2 : Nat → Nat → Int32} {f : Nat → Int64} {Kp : va_W → Prop} {b9 : Int32} (B : q_B p l s m args meth c D cI cZ cP cJ A cL_law 7 RL wsL_law) (hR : R.frames = 12 ∧ R.locals = 434) (hX : va_X sb L xs s s.heap) (hbl : sb < s.heap.size) (hbA : ¬ A sb) (hL : L ≤ 2048) (hin : i + 4 ≤ L)
    (h1 : q_C l yL_look wsL_look { frames := fr1, cells := mc1, slots := ms1, locals := lo1 } D cI cZ cP cJ [.ref bx, .int (xs (i + 1)), .ref o9] (wk ++ [oc cJ o9 f]) (S := va_W × (Nat → Int64)) (fun v u => v = some (.int (nI z)) ∧ Kp u.1 ∧ (z = 0 → u.2 0 = (if b9 = 0 then 0 else 1))) (fun u => u.1 ++ [oc cJ o9 u.2]) (fun _ => False) mc1 ms1)
    (h2 : q_C l yX4_look wsX4_look { frames := fr2, cells := 0, slots := 0, locals := lo2 } D cI cZ cP cJ [.ref (o 0), .int (xs (i + 1))] (mw cI cZ o J Z) (S := Unit) (fun v _ => v = some (.int b9)) (fun _ => mw cI cZ o J2 Z2) (fun _ => False) 0 0)
    (hJ : J2 30 = nI z) (hz : z < 2 ^ 31) (hr1 : fr1 + 1 ≤ 12 ∧ 8 + (4 + 11) + lo1 ≤ 434) (hr2 : fr2 + 1 ≤ 12 ∧ 8 + (3 + 11) + lo2 ≤ 434) (hfit : cells + mc1 ≤ R.cells ∧ slots + ms1 ≤ R.slots)
    (hP : va_P D vwCl (wk ++ (mw cI cZ o J Z ++ [oc cJ o9 f])) H) (hD : va_D A (wk ++ (mw cI cZ o J Z ++ [oc cJ o9 f]))) (hS : va_S A s.heap H locs) (hl : lv_has ls 7 [(0, .ref sb), (1, .ref bx), (2, .ref (o 0)), (3, .ref o9), (4, .int (nI i))])
    (kk : ∀ (wk2 : va_W) (f2 : Nat → Int64) (H1 : Heap) (locs1 : List Loc) (ls1 : Array Slot), Kp wk2 → va_P D vwCl (wk2 ++ (mw cI cZ o J2 Z2 ++ [oc cJ o9 f2])) H1 → va_D A (wk2 ++ (mw cI cZ o J2 Z2 ++ [oc cJ o9 f2])) → va_S A s.heap H1 locs1 → lv_has ls1 7 [(0, .ref sb), (1, .ref bx), (2, .ref (o 0)), (3, .ref o9), (4, .int (nI i))] → W p l e R s m args below meth c H1 locs1 (cells + mc1) (slots + ms1) Q (F0 m 1863 ls1 [])) :
    W p l e R s m args below meth c H locs cells slots Q (F0 m 1184 ls []) := by
  refine lv_aload_n B.hx B.hb dL_law_1184 rfl (lv_at hl 1 rfl) ?_
  refine lw_arg (d := 1) B hS hX hbl hbA hL (by omega) hl 0 4 rfl rfl (by decide) rfl dL_law_1185 dL_law_1186 dL_law_1188 dL_law_1189 dL_law_1190 ?_
  refine lv_aload_n B.hx B.hb dL_law_1191 rfl (lv_at hl 3 rfl) ?_
  refine q_callSX (As := [.ref bx, .int (xs (i + 1)), .ref o9]) (rest := []) B hP hD hS (lw_fr1 h1) (vx_cwSW 3 B.hts gL_law_L_look rfl rfl rfl (by decide +kernel) ⟨by rw [hR.1]; exact hr1.1, by rw [hR.2]; exact hr1.2⟩) rfl hl.1 rfl (Nat.le_of_ble_eq_true rfl) dL_law_1192 hfit (fun E ce q9 H locs hx => False.elim hx) (fun v u H locs hp hP hD hS => ?_)
  obtain ⟨wk2, f2⟩ := u
  obtain ⟨rfl, hKp, hans⟩ := hp
  have hP : va_P D vwCl (wk2 ++ (mw cI cZ o J Z ++ [oc cJ o9 f2])) H := hP
  have hD : va_D A (wk2 ++ (mw cI cZ o J Z ++ [oc cJ o9 f2])) := hD
  refine lv_istore (lv' := [(5, .int (nI z)), (0, .ref sb), (1, .ref bx), (2, .ref (o 0)), (3, .ref o9), (4, .int (nI i))]) B.hx B.hb dL_law_1195 hl (by decide) rfl (fun ls hl => ?_)
  refine lv_aload_n B.hx B.hb dL_law_1197 rfl (lv_at hl 3 rfl) ?_
  refine lw_arg (d := 1) B hS hX hbl hbA hL (by omega) hl 1 5 rfl rfl (by decide) rfl dL_law_1198 dL_law_1199 dL_law_1201 dL_law_1202 dL_law_1203 ?_
  obtain ⟨fs, hq⟩ := mw_at (cI := cI) (cZ := cZ) wk2 [oc cJ o9 f2] (o := o) (J := J) (Z := Z)
  refine q_callV (As := [.int (xs (i + 1))]) (rest := []) B hP hD hS ((h2.fr [oc cJ o9 f2]).fl wk2) (cwV 1 B.hts gL_law_X4_look rfl rfl rfl (by decide +kernel) ⟨by rw [hR.1]; exact hr2.1, by rw [hR.2]; exact hr2.2⟩) wk2.length 4 hq rfl rfl rfl hl.1 rfl (Nat.le_of_ble_eq_true rfl) dL_law_1204 hfit (fun E ce q9 H locs hx => False.elim hx) (fun v u2 H locs hp hP hD hS => ?_)
  obtain rfl := hp
  have hP : va_P D vwCl (wk2 ++ (mw cI cZ o J2 Z2 ++ [oc cJ o9 f2])) H := hP
  have hD : va_D A (wk2 ++ (mw cI cZ o J2 Z2 ++ [oc cJ o9 f2])) := hD
  refine lv_istore (lv' := [(6, .int b9), (5, .int (nI z)), (0, .ref sb), (1, .ref bx), (2, .ref (o 0)), (3, .ref o9), (4, .int (nI i))]) B.hx B.hb dL_law_1207 hl (by decide) rfl (fun ls hl => ?_)
  refine lw_tailB B hR hfit hP hD hS hl hJ hz hans rfl rfl dL_law_1209 dL_law_1210 dL_law_1213 dL_law_1215 dL_law_1220 dL_law_1222 dL_law_1225 dL_law_1226 dL_law_1227 dL_law_1228 dL_law_1230 dL_law_1233 dL_law_1234 dL_law_1237 dL_law_1238 dL_law_1239 dL_law_1244 (by decide) (fun H locs hP hD hS => ?_)
  exact kk wk2 f2 H locs ls hKp hP hD hS (lv_sub hl [2, 3, 4, 5, 6] rfl)
set_option maxHeartbeats 4000000 in
theorem lc_isDue {i L z sb bx o9 fr1 lo1 mc1 ms1 fr2 lo2 : Nat} {xs : Nat → Int32} {wk : va_W} {o : Nat → Nat} {J J2 : Nat → Int32} {Z Z2 : Nat → Nat → Int32} {f : Nat → Int64} {Kp : va_W → Prop} {b9 : Int32} (B : q_B p l s m args meth c D cI cZ cP cJ A cL_law 7 RL wsL_law) (hR : R.frames = 12 ∧ R.locals = 434) (hX : va_X sb L xs s s.heap) (hbl : sb < s.heap.size) (hbA : ¬ A sb) (hL : L ≤ 2048) (hin : i + 4 ≤ L)
    (h1 : q_C l yL_isDue wsL_isDue { frames := fr1, cells := mc1, slots := ms1, locals := lo1 } D cI cZ cP cJ [.ref bx, .int (xs (i + 1)), .ref o9] (wk ++ [oc cJ o9 f]) (S := va_W × (Nat → Int64)) (fun v u => v = some (.int (nI z)) ∧ Kp u.1 ∧ (z = 0 → u.2 0 = (if b9 = 0 then 0 else 1))) (fun u => u.1 ++ [oc cJ o9 u.2]) (fun _ => False) mc1 ms1)
    (h2 : q_C l yX4_isDue wsX4_isDue { frames := fr2, cells := 0, slots := 0, locals := lo2 } D cI cZ cP cJ [.ref (o 0), .int (xs (i + 1))] (mw cI cZ o J Z) (S := Unit) (fun v _ => v = some (.int b9)) (fun _ => mw cI cZ o J2 Z2) (fun _ => False) 0 0)
    (hJ : J2 30 = nI z) (hz : z < 2 ^ 31) (hr1 : fr1 + 1 ≤ 12 ∧ 8 + (4 + 11) + lo1 ≤ 434) (hr2 : fr2 + 1 ≤ 12 ∧ 8 + (2 + 11) + lo2 ≤ 434) (hfit : cells + mc1 ≤ R.cells ∧ slots + ms1 ≤ R.slots)
    (hP : va_P D vwCl (wk ++ (mw cI cZ o J Z ++ [oc cJ o9 f])) H) (hD : va_D A (wk ++ (mw cI cZ o J Z ++ [oc cJ o9 f]))) (hS : va_S A s.heap H locs) (hl : lv_has ls 7 [(0, .ref sb), (1, .ref bx), (2, .ref (o 0)), (3, .ref o9), (4, .int (nI i))])
    (kk : ∀ (wk2 : va_W) (f2 : Nat → Int64) (H1 : Heap) (locs1 : List Loc) (ls1 : Array Slot), Kp wk2 → va_P D vwCl (wk2 ++ (mw cI cZ o J2 Z2 ++ [oc cJ o9 f2])) H1 → va_D A (wk2 ++ (mw cI cZ o J2 Z2 ++ [oc cJ o9 f2])) → va_S A s.heap H1 locs1 → lv_has ls1 7 [(0, .ref sb), (1, .ref bx), (2, .ref (o 0)), (3, .ref o9), (4, .int (nI i))] → W p l e R s m args below meth c H1 locs1 (cells + mc1) (slots + ms1) Q (F0 m 1863 ls1 [])) :
    W p l e R s m args below meth c H locs cells slots Q (F0 m 1247 ls []) := by
  refine lv_aload_n B.hx B.hb dL_law_1247 rfl (lv_at hl 1 rfl) ?_
  refine lw_arg (d := 1) B hS hX hbl hbA hL (by omega) hl 0 4 rfl rfl (by decide) rfl dL_law_1248 dL_law_1249 dL_law_1251 dL_law_1252 dL_law_1253 ?_
  refine lv_aload_n B.hx B.hb dL_law_1254 rfl (lv_at hl 3 rfl) ?_
  refine q_callSX (As := [.ref bx, .int (xs (i + 1)), .ref o9]) (rest := []) B hP hD hS (lw_fr1 h1) (vx_cwSW 3 B.hts gL_law_L_isDue rfl rfl rfl (by decide +kernel) ⟨by rw [hR.1]; exact hr1.1, by rw [hR.2]; exact hr1.2⟩) rfl hl.1 rfl (Nat.le_of_ble_eq_true rfl) dL_law_1255 hfit (fun E ce q9 H locs hx => False.elim hx) (fun v u H locs hp hP hD hS => ?_)
  obtain ⟨wk2, f2⟩ := u
  obtain ⟨rfl, hKp, hans⟩ := hp
  have hP : va_P D vwCl (wk2 ++ (mw cI cZ o J Z ++ [oc cJ o9 f2])) H := hP
  have hD : va_D A (wk2 ++ (mw cI cZ o J Z ++ [oc cJ o9 f2])) := hD
  refine lv_istore (lv' := [(5, .int (nI z)), (0, .ref sb), (1, .ref bx), (2, .ref (o 0)), (3, .ref o9), (4, .int (nI i))]) B.hx B.hb dL_law_1258 hl (by decide) rfl (fun ls hl => ?_)
  refine lv_aload_n B.hx B.hb dL_law_1260 rfl (lv_at hl 3 rfl) ?_
  refine lw_arg (d := 1) B hS hX hbl hbA hL (by omega) hl 1 5 rfl rfl (by decide) rfl dL_law_1261 dL_law_1262 dL_law_1264 dL_law_1265 dL_law_1266 ?_
  obtain ⟨fs, hq⟩ := mw_at (cI := cI) (cZ := cZ) wk2 [oc cJ o9 f2] (o := o) (J := J) (Z := Z)
  refine q_callV (As := [.int (xs (i + 1))]) (rest := []) B hP hD hS ((h2.fr [oc cJ o9 f2]).fl wk2) (cwV 1 B.hts gL_law_X4_isDue rfl rfl rfl (by decide +kernel) ⟨by rw [hR.1]; exact hr2.1, by rw [hR.2]; exact hr2.2⟩) wk2.length 4 hq rfl rfl rfl hl.1 rfl (Nat.le_of_ble_eq_true rfl) dL_law_1267 hfit (fun E ce q9 H locs hx => False.elim hx) (fun v u2 H locs hp hP hD hS => ?_)
  obtain rfl := hp
  have hP : va_P D vwCl (wk2 ++ (mw cI cZ o J2 Z2 ++ [oc cJ o9 f2])) H := hP
  have hD : va_D A (wk2 ++ (mw cI cZ o J2 Z2 ++ [oc cJ o9 f2])) := hD
  refine lv_istore (lv' := [(6, .int b9), (5, .int (nI z)), (0, .ref sb), (1, .ref bx), (2, .ref (o 0)), (3, .ref o9), (4, .int (nI i))]) B.hx B.hb dL_law_1270 hl (by decide) rfl (fun ls hl => ?_)
  refine lw_tailB B hR hfit hP hD hS hl hJ hz hans rfl rfl dL_law_1272 dL_law_1273 dL_law_1276 dL_law_1278 dL_law_1283 dL_law_1285 dL_law_1288 dL_law_1289 dL_law_1290 dL_law_1291 dL_law_1293 dL_law_1296 dL_law_1297 dL_law_1300 dL_law_1301 dL_law_1302 dL_law_1307 (by decide) (fun H locs hP hD hS => ?_)
  exact kk wk2 f2 H locs ls hKp hP hD hS (lv_sub hl [2, 3, 4, 5, 6] rfl)
set_option maxHeartbeats 4000000 in
theorem lc_copy {i L z sb bx o9 fr1 lo1 mc1 ms1 fr2 lo2 : Nat} {xs : Nat → Int32} {wk : va_W} {o : Nat → Nat} {J J2 : Nat → Int32} {Z Z2 : Nat → Nat → Int32} {f : Nat → Int64} {Kp : va_W → Prop} {b9 : Int32} (B : q_B p l s m args meth c D cI cZ cP cJ A cL_law 7 RL wsL_law) (hR : R.frames = 12 ∧ R.locals = 434) (hX : va_X sb L xs s s.heap) (hbl : sb < s.heap.size) (hbA : ¬ A sb) (hL : L ≤ 2048) (hin : i + 4 ≤ L)
    (h1 : q_C l yL_copy wsL_copy { frames := fr1, cells := mc1, slots := ms1, locals := lo1 } D cI cZ cP cJ [.ref bx, .int (xs (i + 1)), .int (xs (i + 2)), .ref o9] (wk ++ [oc cJ o9 f]) (S := va_W × (Nat → Int64)) (fun v u => v = some (.int (nI z)) ∧ Kp u.1 ∧ (z = 0 → u.2 0 = b9.toInt64)) (fun u => u.1 ++ [oc cJ o9 u.2]) (fun _ => False) mc1 ms1)
    (h2 : q_C l yX4_copy wsX4_copy { frames := fr2, cells := 0, slots := 0, locals := lo2 } D cI cZ cP cJ [.ref (o 0), .int (xs (i + 1)), .int (xs (i + 2))] (mw cI cZ o J Z) (S := Unit) (fun v _ => v = some (.int b9)) (fun _ => mw cI cZ o J2 Z2) (fun _ => False) 0 0)
    (hJ : J2 30 = nI z) (hz : z < 2 ^ 31) (hr1 : fr1 + 1 ≤ 12 ∧ 8 + (5 + 11) + lo1 ≤ 434) (hr2 : fr2 + 1 ≤ 12 ∧ 8 + (3 + 11) + lo2 ≤ 434) (hfit : cells + mc1 ≤ R.cells ∧ slots + ms1 ≤ R.slots)
    (hP : va_P D vwCl (wk ++ (mw cI cZ o J Z ++ [oc cJ o9 f])) H) (hD : va_D A (wk ++ (mw cI cZ o J Z ++ [oc cJ o9 f]))) (hS : va_S A s.heap H locs) (hl : lv_has ls 7 [(0, .ref sb), (1, .ref bx), (2, .ref (o 0)), (3, .ref o9), (4, .int (nI i))])
    (kk : ∀ (wk2 : va_W) (f2 : Nat → Int64) (H1 : Heap) (locs1 : List Loc) (ls1 : Array Slot), Kp wk2 → va_P D vwCl (wk2 ++ (mw cI cZ o J2 Z2 ++ [oc cJ o9 f2])) H1 → va_D A (wk2 ++ (mw cI cZ o J2 Z2 ++ [oc cJ o9 f2])) → va_S A s.heap H1 locs1 → lv_has ls1 7 [(0, .ref sb), (1, .ref bx), (2, .ref (o 0)), (3, .ref o9), (4, .int (nI i))] → W p l e R s m args below meth c H1 locs1 (cells + mc1) (slots + ms1) Q (F0 m 1863 ls1 [])) :
    W p l e R s m args below meth c H locs cells slots Q (F0 m 1310 ls []) := by
  refine lv_aload_n B.hx B.hb dL_law_1310 rfl (lv_at hl 1 rfl) ?_
  refine lw_arg (d := 1) B hS hX hbl hbA hL (by omega) hl 0 4 rfl rfl (by decide) rfl dL_law_1311 dL_law_1312 dL_law_1314 dL_law_1315 dL_law_1316 ?_
  refine lw_arg (d := 2) B hS hX hbl hbA hL (by omega) hl 0 4 rfl rfl (by decide) rfl dL_law_1317 dL_law_1318 dL_law_1320 dL_law_1321 dL_law_1322 ?_
  refine lv_aload_n B.hx B.hb dL_law_1323 rfl (lv_at hl 3 rfl) ?_
  refine q_callSX (As := [.ref bx, .int (xs (i + 1)), .int (xs (i + 2)), .ref o9]) (rest := []) B hP hD hS (lw_fr1 h1) (vx_cwSW 4 B.hts gL_law_L_copy rfl rfl rfl (by decide +kernel) ⟨by rw [hR.1]; exact hr1.1, by rw [hR.2]; exact hr1.2⟩) rfl hl.1 rfl (Nat.le_of_ble_eq_true rfl) dL_law_1324 hfit (fun E ce q9 H locs hx => False.elim hx) (fun v u H locs hp hP hD hS => ?_)
  obtain ⟨wk2, f2⟩ := u
  obtain ⟨rfl, hKp, hans⟩ := hp
  have hP : va_P D vwCl (wk2 ++ (mw cI cZ o J Z ++ [oc cJ o9 f2])) H := hP
  have hD : va_D A (wk2 ++ (mw cI cZ o J Z ++ [oc cJ o9 f2])) := hD
  refine lv_istore (lv' := [(5, .int (nI z)), (0, .ref sb), (1, .ref bx), (2, .ref (o 0)), (3, .ref o9), (4, .int (nI i))]) B.hx B.hb dL_law_1327 hl (by decide) rfl (fun ls hl => ?_)
  refine lv_aload_n B.hx B.hb dL_law_1329 rfl (lv_at hl 3 rfl) ?_
  refine lw_arg (d := 1) B hS hX hbl hbA hL (by omega) hl 1 5 rfl rfl (by decide) rfl dL_law_1330 dL_law_1331 dL_law_1333 dL_law_1334 dL_law_1335 ?_
  refine lw_arg (d := 2) B hS hX hbl hbA hL (by omega) hl 1 5 rfl rfl (by decide) rfl dL_law_1336 dL_law_1337 dL_law_1339 dL_law_1340 dL_law_1341 ?_
  obtain ⟨fs, hq⟩ := mw_at (cI := cI) (cZ := cZ) wk2 [oc cJ o9 f2] (o := o) (J := J) (Z := Z)
  refine q_callV (As := [.int (xs (i + 1)), .int (xs (i + 2))]) (rest := []) B hP hD hS ((h2.fr [oc cJ o9 f2]).fl wk2) (cwV 2 B.hts gL_law_X4_copy rfl rfl rfl (by decide +kernel) ⟨by rw [hR.1]; exact hr2.1, by rw [hR.2]; exact hr2.2⟩) wk2.length 4 hq rfl rfl rfl hl.1 rfl (Nat.le_of_ble_eq_true rfl) dL_law_1342 hfit (fun E ce q9 H locs hx => False.elim hx) (fun v u2 H locs hp hP hD hS => ?_)
  obtain rfl := hp
  have hP : va_P D vwCl (wk2 ++ (mw cI cZ o J2 Z2 ++ [oc cJ o9 f2])) H := hP
  have hD : va_D A (wk2 ++ (mw cI cZ o J2 Z2 ++ [oc cJ o9 f2])) := hD
  refine lv_istore (lv' := [(6, .int b9), (5, .int (nI z)), (0, .ref sb), (1, .ref bx), (2, .ref (o 0)), (3, .ref o9), (4, .int (nI i))]) B.hx B.hb dL_law_1345 hl (by decide) rfl (fun ls hl => ?_)
  refine lw_tail B hR hfit hP hD hS hl hJ hz hans rfl rfl dL_law_1347 dL_law_1348 dL_law_1351 dL_law_1353 dL_law_1358 dL_law_1360 dL_law_1363 dL_law_1364 dL_law_1365 dL_law_1366 dL_law_1368 dL_law_1369 dL_law_1370 dL_law_1375 (by decide) (fun H locs hP hD hS => ?_)
  exact kk wk2 f2 H locs ls hKp hP hD hS (lv_sub hl [2, 3, 4, 5, 6] rfl)
set_option maxHeartbeats 4000000 in
theorem lc_takeDown {i L z sb bx o9 fr1 lo1 mc1 ms1 fr2 lo2 : Nat} {xs : Nat → Int32} {wk : va_W} {o : Nat → Nat} {J J2 : Nat → Int32} {Z Z2 : Nat → Nat → Int32} {f : Nat → Int64} {Kp : va_W → Prop} {b9 : Int32} (B : q_B p l s m args meth c D cI cZ cP cJ A cL_law 7 RL wsL_law) (hR : R.frames = 12 ∧ R.locals = 434) (hX : va_X sb L xs s s.heap) (hbl : sb < s.heap.size) (hbA : ¬ A sb) (hL : L ≤ 2048) (hin : i + 4 ≤ L)
    (h1 : q_C l yL_takeDown wsL_takeDown { frames := fr1, cells := mc1, slots := ms1, locals := lo1 } D cI cZ cP cJ [.ref bx, .int (xs (i + 1)), .ref o9] (wk ++ [oc cJ o9 f]) (S := va_W × (Nat → Int64)) (fun v u => v = some (.int (nI z)) ∧ Kp u.1 ∧ (z = 0 → u.2 0 = b9.toInt64)) (fun u => u.1 ++ [oc cJ o9 u.2]) (fun _ => False) mc1 ms1)
    (h2 : q_C l yX4_takeDown wsX4_takeDown { frames := fr2, cells := 0, slots := 0, locals := lo2 } D cI cZ cP cJ [.ref (o 0), .int (xs (i + 1))] (mw cI cZ o J Z) (S := Unit) (fun v _ => v = some (.int b9)) (fun _ => mw cI cZ o J2 Z2) (fun _ => False) 0 0)
    (hJ : J2 30 = nI z) (hz : z < 2 ^ 31) (hr1 : fr1 + 1 ≤ 12 ∧ 8 + (4 + 11) + lo1 ≤ 434) (hr2 : fr2 + 1 ≤ 12 ∧ 8 + (3 + 11) + lo2 ≤ 434) (hfit : cells + mc1 ≤ R.cells ∧ slots + ms1 ≤ R.slots)
    (hP : va_P D vwCl (wk ++ (mw cI cZ o J Z ++ [oc cJ o9 f])) H) (hD : va_D A (wk ++ (mw cI cZ o J Z ++ [oc cJ o9 f]))) (hS : va_S A s.heap H locs) (hl : lv_has ls 7 [(0, .ref sb), (1, .ref bx), (2, .ref (o 0)), (3, .ref o9), (4, .int (nI i))])
    (kk : ∀ (wk2 : va_W) (f2 : Nat → Int64) (H1 : Heap) (locs1 : List Loc) (ls1 : Array Slot), Kp wk2 → va_P D vwCl (wk2 ++ (mw cI cZ o J2 Z2 ++ [oc cJ o9 f2])) H1 → va_D A (wk2 ++ (mw cI cZ o J2 Z2 ++ [oc cJ o9 f2])) → va_S A s.heap H1 locs1 → lv_has ls1 7 [(0, .ref sb), (1, .ref bx), (2, .ref (o 0)), (3, .ref o9), (4, .int (nI i))] → W p l e R s m args below meth c H1 locs1 (cells + mc1) (slots + ms1) Q (F0 m 1863 ls1 [])) :
    W p l e R s m args below meth c H locs cells slots Q (F0 m 1378 ls []) := by
  refine lv_aload_n B.hx B.hb dL_law_1378 rfl (lv_at hl 1 rfl) ?_
  refine lw_arg (d := 1) B hS hX hbl hbA hL (by omega) hl 0 4 rfl rfl (by decide) rfl dL_law_1379 dL_law_1380 dL_law_1382 dL_law_1383 dL_law_1384 ?_
  refine lv_aload_n B.hx B.hb dL_law_1385 rfl (lv_at hl 3 rfl) ?_
  refine q_callSX (As := [.ref bx, .int (xs (i + 1)), .ref o9]) (rest := []) B hP hD hS (lw_fr1 h1) (vx_cwSW 3 B.hts gL_law_L_takeDown rfl rfl rfl (by decide +kernel) ⟨by rw [hR.1]; exact hr1.1, by rw [hR.2]; exact hr1.2⟩) rfl hl.1 rfl (Nat.le_of_ble_eq_true rfl) dL_law_1386 hfit (fun E ce q9 H locs hx => False.elim hx) (fun v u H locs hp hP hD hS => ?_)
  obtain ⟨wk2, f2⟩ := u
  obtain ⟨rfl, hKp, hans⟩ := hp
  have hP : va_P D vwCl (wk2 ++ (mw cI cZ o J Z ++ [oc cJ o9 f2])) H := hP
  have hD : va_D A (wk2 ++ (mw cI cZ o J Z ++ [oc cJ o9 f2])) := hD
  refine lv_istore (lv' := [(5, .int (nI z)), (0, .ref sb), (1, .ref bx), (2, .ref (o 0)), (3, .ref o9), (4, .int (nI i))]) B.hx B.hb dL_law_1389 hl (by decide) rfl (fun ls hl => ?_)
  refine lv_aload_n B.hx B.hb dL_law_1391 rfl (lv_at hl 3 rfl) ?_
  refine lw_arg (d := 1) B hS hX hbl hbA hL (by omega) hl 1 5 rfl rfl (by decide) rfl dL_law_1392 dL_law_1393 dL_law_1395 dL_law_1396 dL_law_1397 ?_
  obtain ⟨fs, hq⟩ := mw_at (cI := cI) (cZ := cZ) wk2 [oc cJ o9 f2] (o := o) (J := J) (Z := Z)
  refine q_callV (As := [.int (xs (i + 1))]) (rest := []) B hP hD hS ((h2.fr [oc cJ o9 f2]).fl wk2) (cwV 1 B.hts gL_law_X4_takeDown rfl rfl rfl (by decide +kernel) ⟨by rw [hR.1]; exact hr2.1, by rw [hR.2]; exact hr2.2⟩) wk2.length 4 hq rfl rfl rfl hl.1 rfl (Nat.le_of_ble_eq_true rfl) dL_law_1398 hfit (fun E ce q9 H locs hx => False.elim hx) (fun v u2 H locs hp hP hD hS => ?_)
  obtain rfl := hp
  have hP : va_P D vwCl (wk2 ++ (mw cI cZ o J2 Z2 ++ [oc cJ o9 f2])) H := hP
  have hD : va_D A (wk2 ++ (mw cI cZ o J2 Z2 ++ [oc cJ o9 f2])) := hD
  refine lv_istore (lv' := [(6, .int b9), (5, .int (nI z)), (0, .ref sb), (1, .ref bx), (2, .ref (o 0)), (3, .ref o9), (4, .int (nI i))]) B.hx B.hb dL_law_1401 hl (by decide) rfl (fun ls hl => ?_)
  refine lw_tail B hR hfit hP hD hS hl hJ hz hans rfl rfl dL_law_1403 dL_law_1404 dL_law_1407 dL_law_1409 dL_law_1414 dL_law_1416 dL_law_1419 dL_law_1420 dL_law_1421 dL_law_1422 dL_law_1424 dL_law_1425 dL_law_1426 dL_law_1431 (by decide) (fun H locs hP hD hS => ?_)
  exact kk wk2 f2 H locs ls hKp hP hD hS (lv_sub hl [2, 3, 4, 5, 6] rfl)
set_option maxHeartbeats 4000000 in
theorem lc_outOfDate {i L z sb bx o9 fr1 lo1 mc1 ms1 fr2 lo2 : Nat} {xs : Nat → Int32} {wk : va_W} {o : Nat → Nat} {J J2 : Nat → Int32} {Z Z2 : Nat → Nat → Int32} {f : Nat → Int64} {Kp : va_W → Prop} {b9 : Int32} (B : q_B p l s m args meth c D cI cZ cP cJ A cL_law 7 RL wsL_law) (hR : R.frames = 12 ∧ R.locals = 434) (hX : va_X sb L xs s s.heap) (hbl : sb < s.heap.size) (hbA : ¬ A sb) (hL : L ≤ 2048) (hin : i + 4 ≤ L)
    (h1 : q_C l yL_outOfDate wsL_outOfDate { frames := fr1, cells := mc1, slots := ms1, locals := lo1 } D cI cZ cP cJ [.ref bx, .int (xs (i + 1)), .ref o9] (wk ++ [oc cJ o9 f]) (S := va_W × (Nat → Int64)) (fun v u => v = some (.int (nI z)) ∧ Kp u.1 ∧ (z = 0 → u.2 0 = b9.toInt64)) (fun u => u.1 ++ [oc cJ o9 u.2]) (fun _ => False) mc1 ms1)
    (h2 : q_C l yX4_outOfDate wsX4_outOfDate { frames := fr2, cells := 0, slots := 0, locals := lo2 } D cI cZ cP cJ [.ref (o 0), .int (xs (i + 1))] (mw cI cZ o J Z) (S := Unit) (fun v _ => v = some (.int b9)) (fun _ => mw cI cZ o J2 Z2) (fun _ => False) 0 0)
    (hJ : J2 30 = nI z) (hz : z < 2 ^ 31) (hr1 : fr1 + 1 ≤ 12 ∧ 8 + (4 + 11) + lo1 ≤ 434) (hr2 : fr2 + 1 ≤ 12 ∧ 8 + (4 + 11) + lo2 ≤ 434) (hfit : cells + mc1 ≤ R.cells ∧ slots + ms1 ≤ R.slots)
    (hP : va_P D vwCl (wk ++ (mw cI cZ o J Z ++ [oc cJ o9 f])) H) (hD : va_D A (wk ++ (mw cI cZ o J Z ++ [oc cJ o9 f]))) (hS : va_S A s.heap H locs) (hl : lv_has ls 7 [(0, .ref sb), (1, .ref bx), (2, .ref (o 0)), (3, .ref o9), (4, .int (nI i))])
    (kk : ∀ (wk2 : va_W) (f2 : Nat → Int64) (H1 : Heap) (locs1 : List Loc) (ls1 : Array Slot), Kp wk2 → va_P D vwCl (wk2 ++ (mw cI cZ o J2 Z2 ++ [oc cJ o9 f2])) H1 → va_D A (wk2 ++ (mw cI cZ o J2 Z2 ++ [oc cJ o9 f2])) → va_S A s.heap H1 locs1 → lv_has ls1 7 [(0, .ref sb), (1, .ref bx), (2, .ref (o 0)), (3, .ref o9), (4, .int (nI i))] → W p l e R s m args below meth c H1 locs1 (cells + mc1) (slots + ms1) Q (F0 m 1863 ls1 [])) :
    W p l e R s m args below meth c H locs cells slots Q (F0 m 1434 ls []) := by
  refine lv_aload_n B.hx B.hb dL_law_1434 rfl (lv_at hl 1 rfl) ?_
  refine lw_arg (d := 1) B hS hX hbl hbA hL (by omega) hl 0 4 rfl rfl (by decide) rfl dL_law_1435 dL_law_1436 dL_law_1438 dL_law_1439 dL_law_1440 ?_
  refine lv_aload_n B.hx B.hb dL_law_1441 rfl (lv_at hl 3 rfl) ?_
  refine q_callSX (As := [.ref bx, .int (xs (i + 1)), .ref o9]) (rest := []) B hP hD hS (lw_fr1 h1) (vx_cwSW 3 B.hts gL_law_L_outOfDate rfl rfl rfl (by decide +kernel) ⟨by rw [hR.1]; exact hr1.1, by rw [hR.2]; exact hr1.2⟩) rfl hl.1 rfl (Nat.le_of_ble_eq_true rfl) dL_law_1442 hfit (fun E ce q9 H locs hx => False.elim hx) (fun v u H locs hp hP hD hS => ?_)
  obtain ⟨wk2, f2⟩ := u
  obtain ⟨rfl, hKp, hans⟩ := hp
  have hP : va_P D vwCl (wk2 ++ (mw cI cZ o J Z ++ [oc cJ o9 f2])) H := hP
  have hD : va_D A (wk2 ++ (mw cI cZ o J Z ++ [oc cJ o9 f2])) := hD
  refine lv_istore (lv' := [(5, .int (nI z)), (0, .ref sb), (1, .ref bx), (2, .ref (o 0)), (3, .ref o9), (4, .int (nI i))]) B.hx B.hb dL_law_1445 hl (by decide) rfl (fun ls hl => ?_)
  refine lv_aload_n B.hx B.hb dL_law_1447 rfl (lv_at hl 3 rfl) ?_
  refine lw_arg (d := 1) B hS hX hbl hbA hL (by omega) hl 1 5 rfl rfl (by decide) rfl dL_law_1448 dL_law_1449 dL_law_1451 dL_law_1452 dL_law_1453 ?_
  obtain ⟨fs, hq⟩ := mw_at (cI := cI) (cZ := cZ) wk2 [oc cJ o9 f2] (o := o) (J := J) (Z := Z)
  refine q_callV (As := [.int (xs (i + 1))]) (rest := []) B hP hD hS ((h2.fr [oc cJ o9 f2]).fl wk2) (cwV 1 B.hts gL_law_X4_outOfDate rfl rfl rfl (by decide +kernel) ⟨by rw [hR.1]; exact hr2.1, by rw [hR.2]; exact hr2.2⟩) wk2.length 4 hq rfl rfl rfl hl.1 rfl (Nat.le_of_ble_eq_true rfl) dL_law_1454 hfit (fun E ce q9 H locs hx => False.elim hx) (fun v u2 H locs hp hP hD hS => ?_)
  obtain rfl := hp
  have hP : va_P D vwCl (wk2 ++ (mw cI cZ o J2 Z2 ++ [oc cJ o9 f2])) H := hP
  have hD : va_D A (wk2 ++ (mw cI cZ o J2 Z2 ++ [oc cJ o9 f2])) := hD
  refine lv_istore (lv' := [(6, .int b9), (5, .int (nI z)), (0, .ref sb), (1, .ref bx), (2, .ref (o 0)), (3, .ref o9), (4, .int (nI i))]) B.hx B.hb dL_law_1457 hl (by decide) rfl (fun ls hl => ?_)
  refine lw_tail B hR hfit hP hD hS hl hJ hz hans rfl rfl dL_law_1459 dL_law_1460 dL_law_1463 dL_law_1465 dL_law_1470 dL_law_1472 dL_law_1475 dL_law_1476 dL_law_1477 dL_law_1478 dL_law_1480 dL_law_1481 dL_law_1482 dL_law_1487 (by decide) (fun H locs hP hD hS => ?_)
  exact kk wk2 f2 H locs ls hKp hP hD hS (lv_sub hl [2, 3, 4, 5, 6] rfl)
set_option maxHeartbeats 4000000 in
theorem lc_step {i L z sb bx o9 fr1 lo1 mc1 ms1 fr2 lo2 : Nat} {xs : Nat → Int32} {wk : va_W} {o : Nat → Nat} {J J2 : Nat → Int32} {Z Z2 : Nat → Nat → Int32} {f : Nat → Int64} {Kp : va_W → Prop} {b9 : Int32} (B : q_B p l s m args meth c D cI cZ cP cJ A cL_law 7 RL wsL_law) (hR : R.frames = 12 ∧ R.locals = 434) (hX : va_X sb L xs s s.heap) (hbl : sb < s.heap.size) (hbA : ¬ A sb) (hL : L ≤ 2048) (hin : i + 4 ≤ L)
    (h1 : q_C l yL_step wsL_step { frames := fr1, cells := mc1, slots := ms1, locals := lo1 } D cI cZ cP cJ [.ref bx, .int (xs (i + 1)), .ref o9] (wk ++ [oc cJ o9 f]) (S := va_W × (Nat → Int64)) (fun v u => v = some (.int (nI z)) ∧ Kp u.1 ∧ (z = 0 → u.2 0 = b9.toInt64)) (fun u => u.1 ++ [oc cJ o9 u.2]) (fun _ => False) mc1 ms1)
    (h2 : q_C l yX4_step wsX4_step { frames := fr2, cells := 0, slots := 0, locals := lo2 } D cI cZ cP cJ [.ref (o 0), .int (xs (i + 1))] (mw cI cZ o J Z) (S := Unit) (fun v _ => v = some (.int b9)) (fun _ => mw cI cZ o J2 Z2) (fun _ => False) 0 0)
    (hJ : J2 30 = nI z) (hz : z < 2 ^ 31) (hr1 : fr1 + 1 ≤ 12 ∧ 8 + (4 + 11) + lo1 ≤ 434) (hr2 : fr2 + 1 ≤ 12 ∧ 8 + (2 + 11) + lo2 ≤ 434) (hfit : cells + mc1 ≤ R.cells ∧ slots + ms1 ≤ R.slots)
    (hP : va_P D vwCl (wk ++ (mw cI cZ o J Z ++ [oc cJ o9 f])) H) (hD : va_D A (wk ++ (mw cI cZ o J Z ++ [oc cJ o9 f]))) (hS : va_S A s.heap H locs) (hl : lv_has ls 7 [(0, .ref sb), (1, .ref bx), (2, .ref (o 0)), (3, .ref o9), (4, .int (nI i))])
    (kk : ∀ (wk2 : va_W) (f2 : Nat → Int64) (H1 : Heap) (locs1 : List Loc) (ls1 : Array Slot), Kp wk2 → va_P D vwCl (wk2 ++ (mw cI cZ o J2 Z2 ++ [oc cJ o9 f2])) H1 → va_D A (wk2 ++ (mw cI cZ o J2 Z2 ++ [oc cJ o9 f2])) → va_S A s.heap H1 locs1 → lv_has ls1 7 [(0, .ref sb), (1, .ref bx), (2, .ref (o 0)), (3, .ref o9), (4, .int (nI i))] → W p l e R s m args below meth c H1 locs1 (cells + mc1) (slots + ms1) Q (F0 m 1863 ls1 [])) :
    W p l e R s m args below meth c H locs cells slots Q (F0 m 1503 ls []) := by
  refine lv_aload_n B.hx B.hb dL_law_1503 rfl (lv_at hl 1 rfl) ?_
  refine lw_arg (d := 1) B hS hX hbl hbA hL (by omega) hl 0 4 rfl rfl (by decide) rfl dL_law_1504 dL_law_1505 dL_law_1507 dL_law_1508 dL_law_1509 ?_
  refine lv_aload_n B.hx B.hb dL_law_1510 rfl (lv_at hl 3 rfl) ?_
  refine q_callSX (As := [.ref bx, .int (xs (i + 1)), .ref o9]) (rest := []) B hP hD hS (lw_fr1 h1) (vx_cwSW 3 B.hts gL_law_L_step rfl rfl rfl (by decide +kernel) ⟨by rw [hR.1]; exact hr1.1, by rw [hR.2]; exact hr1.2⟩) rfl hl.1 rfl (Nat.le_of_ble_eq_true rfl) dL_law_1511 hfit (fun E ce q9 H locs hx => False.elim hx) (fun v u H locs hp hP hD hS => ?_)
  obtain ⟨wk2, f2⟩ := u
  obtain ⟨rfl, hKp, hans⟩ := hp
  have hP : va_P D vwCl (wk2 ++ (mw cI cZ o J Z ++ [oc cJ o9 f2])) H := hP
  have hD : va_D A (wk2 ++ (mw cI cZ o J Z ++ [oc cJ o9 f2])) := hD
  refine lv_istore (lv' := [(5, .int (nI z)), (0, .ref sb), (1, .ref bx), (2, .ref (o 0)), (3, .ref o9), (4, .int (nI i))]) B.hx B.hb dL_law_1514 hl (by decide) rfl (fun ls hl => ?_)
  refine lv_aload_n B.hx B.hb dL_law_1516 rfl (lv_at hl 3 rfl) ?_
  refine lw_arg (d := 1) B hS hX hbl hbA hL (by omega) hl 1 5 rfl rfl (by decide) rfl dL_law_1517 dL_law_1518 dL_law_1520 dL_law_1521 dL_law_1522 ?_
  obtain ⟨fs, hq⟩ := mw_at (cI := cI) (cZ := cZ) wk2 [oc cJ o9 f2] (o := o) (J := J) (Z := Z)
  refine q_callV (As := [.int (xs (i + 1))]) (rest := []) B hP hD hS ((h2.fr [oc cJ o9 f2]).fl wk2) (cwV 1 B.hts gL_law_X4_step rfl rfl rfl (by decide +kernel) ⟨by rw [hR.1]; exact hr2.1, by rw [hR.2]; exact hr2.2⟩) wk2.length 4 hq rfl rfl rfl hl.1 rfl (Nat.le_of_ble_eq_true rfl) dL_law_1523 hfit (fun E ce q9 H locs hx => False.elim hx) (fun v u2 H locs hp hP hD hS => ?_)
  obtain rfl := hp
  have hP : va_P D vwCl (wk2 ++ (mw cI cZ o J2 Z2 ++ [oc cJ o9 f2])) H := hP
  have hD : va_D A (wk2 ++ (mw cI cZ o J2 Z2 ++ [oc cJ o9 f2])) := hD
  refine lv_istore (lv' := [(6, .int b9), (5, .int (nI z)), (0, .ref sb), (1, .ref bx), (2, .ref (o 0)), (3, .ref o9), (4, .int (nI i))]) B.hx B.hb dL_law_1526 hl (by decide) rfl (fun ls hl => ?_)
  refine lw_tail B hR hfit hP hD hS hl hJ hz hans rfl rfl dL_law_1528 dL_law_1529 dL_law_1532 dL_law_1534 dL_law_1539 dL_law_1541 dL_law_1544 dL_law_1545 dL_law_1546 dL_law_1547 dL_law_1549 dL_law_1550 dL_law_1551 dL_law_1556 (by decide) (fun H locs hP hD hS => ?_)
  exact kk wk2 f2 H locs ls hKp hP hD hS (lv_sub hl [2, 3, 4, 5, 6] rfl)
set_option maxHeartbeats 4000000 in
theorem lc_inForce {i L z sb bx o9 fr1 lo1 mc1 ms1 fr2 lo2 : Nat} {xs : Nat → Int32} {wk : va_W} {o : Nat → Nat} {J J2 : Nat → Int32} {Z Z2 : Nat → Nat → Int32} {f : Nat → Int64} {Kp : va_W → Prop} {b9 : Int32} (B : q_B p l s m args meth c D cI cZ cP cJ A cL_law 7 RL wsL_law) (hR : R.frames = 12 ∧ R.locals = 434) (hX : va_X sb L xs s s.heap) (hbl : sb < s.heap.size) (hbA : ¬ A sb) (hL : L ≤ 2048) (hin : i + 4 ≤ L)
    (h1 : q_C l yL_inForce wsL_inForce { frames := fr1, cells := mc1, slots := ms1, locals := lo1 } D cI cZ cP cJ [.ref bx, .int (xs (i + 1)), .ref o9] (wk ++ [oc cJ o9 f]) (S := va_W × (Nat → Int64)) (fun v u => v = some (.int (nI z)) ∧ Kp u.1 ∧ (z = 0 → u.2 0 = b9.toInt64)) (fun u => u.1 ++ [oc cJ o9 u.2]) (fun _ => False) mc1 ms1)
    (h2 : q_C l yX4_inForce wsX4_inForce { frames := fr2, cells := 0, slots := 0, locals := lo2 } D cI cZ cP cJ [.ref (o 0), .int (xs (i + 1))] (mw cI cZ o J Z) (S := Unit) (fun v _ => v = some (.int b9)) (fun _ => mw cI cZ o J2 Z2) (fun _ => False) 0 0)
    (hJ : J2 30 = nI z) (hz : z < 2 ^ 31) (hr1 : fr1 + 1 ≤ 12 ∧ 8 + (4 + 11) + lo1 ≤ 434) (hr2 : fr2 + 1 ≤ 12 ∧ 8 + (2 + 11) + lo2 ≤ 434) (hfit : cells + mc1 ≤ R.cells ∧ slots + ms1 ≤ R.slots)
    (hP : va_P D vwCl (wk ++ (mw cI cZ o J Z ++ [oc cJ o9 f])) H) (hD : va_D A (wk ++ (mw cI cZ o J Z ++ [oc cJ o9 f]))) (hS : va_S A s.heap H locs) (hl : lv_has ls 7 [(0, .ref sb), (1, .ref bx), (2, .ref (o 0)), (3, .ref o9), (4, .int (nI i))])
    (kk : ∀ (wk2 : va_W) (f2 : Nat → Int64) (H1 : Heap) (locs1 : List Loc) (ls1 : Array Slot), Kp wk2 → va_P D vwCl (wk2 ++ (mw cI cZ o J2 Z2 ++ [oc cJ o9 f2])) H1 → va_D A (wk2 ++ (mw cI cZ o J2 Z2 ++ [oc cJ o9 f2])) → va_S A s.heap H1 locs1 → lv_has ls1 7 [(0, .ref sb), (1, .ref bx), (2, .ref (o 0)), (3, .ref o9), (4, .int (nI i))] → W p l e R s m args below meth c H1 locs1 (cells + mc1) (slots + ms1) Q (F0 m 1863 ls1 [])) :
    W p l e R s m args below meth c H locs cells slots Q (F0 m 1559 ls []) := by
  refine lv_aload_n B.hx B.hb dL_law_1559 rfl (lv_at hl 1 rfl) ?_
  refine lw_arg (d := 1) B hS hX hbl hbA hL (by omega) hl 0 4 rfl rfl (by decide) rfl dL_law_1560 dL_law_1561 dL_law_1563 dL_law_1564 dL_law_1565 ?_
  refine lv_aload_n B.hx B.hb dL_law_1566 rfl (lv_at hl 3 rfl) ?_
  refine q_callSX (As := [.ref bx, .int (xs (i + 1)), .ref o9]) (rest := []) B hP hD hS (lw_fr1 h1) (vx_cwSW 3 B.hts gL_law_L_inForce rfl rfl rfl (by decide +kernel) ⟨by rw [hR.1]; exact hr1.1, by rw [hR.2]; exact hr1.2⟩) rfl hl.1 rfl (Nat.le_of_ble_eq_true rfl) dL_law_1567 hfit (fun E ce q9 H locs hx => False.elim hx) (fun v u H locs hp hP hD hS => ?_)
  obtain ⟨wk2, f2⟩ := u
  obtain ⟨rfl, hKp, hans⟩ := hp
  have hP : va_P D vwCl (wk2 ++ (mw cI cZ o J Z ++ [oc cJ o9 f2])) H := hP
  have hD : va_D A (wk2 ++ (mw cI cZ o J Z ++ [oc cJ o9 f2])) := hD
  refine lv_istore (lv' := [(5, .int (nI z)), (0, .ref sb), (1, .ref bx), (2, .ref (o 0)), (3, .ref o9), (4, .int (nI i))]) B.hx B.hb dL_law_1570 hl (by decide) rfl (fun ls hl => ?_)
  refine lv_aload_n B.hx B.hb dL_law_1572 rfl (lv_at hl 3 rfl) ?_
  refine lw_arg (d := 1) B hS hX hbl hbA hL (by omega) hl 1 5 rfl rfl (by decide) rfl dL_law_1573 dL_law_1574 dL_law_1576 dL_law_1577 dL_law_1578 ?_
  obtain ⟨fs, hq⟩ := mw_at (cI := cI) (cZ := cZ) wk2 [oc cJ o9 f2] (o := o) (J := J) (Z := Z)
  refine q_callV (As := [.int (xs (i + 1))]) (rest := []) B hP hD hS ((h2.fr [oc cJ o9 f2]).fl wk2) (cwV 1 B.hts gL_law_X4_inForce rfl rfl rfl (by decide +kernel) ⟨by rw [hR.1]; exact hr2.1, by rw [hR.2]; exact hr2.2⟩) wk2.length 4 hq rfl rfl rfl hl.1 rfl (Nat.le_of_ble_eq_true rfl) dL_law_1579 hfit (fun E ce q9 H locs hx => False.elim hx) (fun v u2 H locs hp hP hD hS => ?_)
  obtain rfl := hp
  have hP : va_P D vwCl (wk2 ++ (mw cI cZ o J2 Z2 ++ [oc cJ o9 f2])) H := hP
  have hD : va_D A (wk2 ++ (mw cI cZ o J2 Z2 ++ [oc cJ o9 f2])) := hD
  refine lv_istore (lv' := [(6, .int b9), (5, .int (nI z)), (0, .ref sb), (1, .ref bx), (2, .ref (o 0)), (3, .ref o9), (4, .int (nI i))]) B.hx B.hb dL_law_1582 hl (by decide) rfl (fun ls hl => ?_)
  refine lw_tail B hR hfit hP hD hS hl hJ hz hans rfl rfl dL_law_1584 dL_law_1585 dL_law_1588 dL_law_1590 dL_law_1595 dL_law_1597 dL_law_1600 dL_law_1601 dL_law_1602 dL_law_1603 dL_law_1605 dL_law_1606 dL_law_1607 dL_law_1612 (by decide) (fun H locs hP hD hS => ?_)
  exact kk wk2 f2 H locs ls hKp hP hD hS (lv_sub hl [2, 3, 4, 5, 6] rfl)
set_option maxHeartbeats 4000000 in
theorem lc_text {i L z sb bx o9 fr1 lo1 mc1 ms1 fr2 lo2 : Nat} {xs : Nat → Int32} {wk : va_W} {o : Nat → Nat} {J J2 : Nat → Int32} {Z Z2 : Nat → Nat → Int32} {f : Nat → Int64} {Kp : va_W → Prop} {b9 : Int32} (B : q_B p l s m args meth c D cI cZ cP cJ A cL_law 7 RL wsL_law) (hR : R.frames = 12 ∧ R.locals = 434) (hX : va_X sb L xs s s.heap) (hbl : sb < s.heap.size) (hbA : ¬ A sb) (hL : L ≤ 2048) (hin : i + 4 ≤ L)
    (h1 : q_C l yL_text wsL_text { frames := fr1, cells := mc1, slots := ms1, locals := lo1 } D cI cZ cP cJ [.ref bx, .int (xs (i + 1)), .ref o9] (wk ++ [oc cJ o9 f]) (S := va_W × (Nat → Int64)) (fun v u => v = some (.int (nI z)) ∧ Kp u.1 ∧ (z = 0 → u.2 0 = b9.toInt64)) (fun u => u.1 ++ [oc cJ o9 u.2]) (fun _ => False) mc1 ms1)
    (h2 : q_C l yX4_text wsX4_text { frames := fr2, cells := 0, slots := 0, locals := lo2 } D cI cZ cP cJ [.ref (o 0), .int (xs (i + 1))] (mw cI cZ o J Z) (S := Unit) (fun v _ => v = some (.int b9)) (fun _ => mw cI cZ o J2 Z2) (fun _ => False) 0 0)
    (hJ : J2 30 = nI z) (hz : z < 2 ^ 31) (hr1 : fr1 + 1 ≤ 12 ∧ 8 + (4 + 11) + lo1 ≤ 434) (hr2 : fr2 + 1 ≤ 12 ∧ 8 + (2 + 11) + lo2 ≤ 434) (hfit : cells + mc1 ≤ R.cells ∧ slots + ms1 ≤ R.slots)
    (hP : va_P D vwCl (wk ++ (mw cI cZ o J Z ++ [oc cJ o9 f])) H) (hD : va_D A (wk ++ (mw cI cZ o J Z ++ [oc cJ o9 f]))) (hS : va_S A s.heap H locs) (hl : lv_has ls 7 [(0, .ref sb), (1, .ref bx), (2, .ref (o 0)), (3, .ref o9), (4, .int (nI i))])
    (kk : ∀ (wk2 : va_W) (f2 : Nat → Int64) (H1 : Heap) (locs1 : List Loc) (ls1 : Array Slot), Kp wk2 → va_P D vwCl (wk2 ++ (mw cI cZ o J2 Z2 ++ [oc cJ o9 f2])) H1 → va_D A (wk2 ++ (mw cI cZ o J2 Z2 ++ [oc cJ o9 f2])) → va_S A s.heap H1 locs1 → lv_has ls1 7 [(0, .ref sb), (1, .ref bx), (2, .ref (o 0)), (3, .ref o9), (4, .int (nI i))] → W p l e R s m args below meth c H1 locs1 (cells + mc1) (slots + ms1) Q (F0 m 1863 ls1 [])) :
    W p l e R s m args below meth c H locs cells slots Q (F0 m 1615 ls []) := by
  refine lv_aload_n B.hx B.hb dL_law_1615 rfl (lv_at hl 1 rfl) ?_
  refine lw_arg (d := 1) B hS hX hbl hbA hL (by omega) hl 0 4 rfl rfl (by decide) rfl dL_law_1616 dL_law_1617 dL_law_1619 dL_law_1620 dL_law_1621 ?_
  refine lv_aload_n B.hx B.hb dL_law_1622 rfl (lv_at hl 3 rfl) ?_
  refine q_callSX (As := [.ref bx, .int (xs (i + 1)), .ref o9]) (rest := []) B hP hD hS (lw_fr1 h1) (vx_cwSW 3 B.hts gL_law_L_text rfl rfl rfl (by decide +kernel) ⟨by rw [hR.1]; exact hr1.1, by rw [hR.2]; exact hr1.2⟩) rfl hl.1 rfl (Nat.le_of_ble_eq_true rfl) dL_law_1623 hfit (fun E ce q9 H locs hx => False.elim hx) (fun v u H locs hp hP hD hS => ?_)
  obtain ⟨wk2, f2⟩ := u
  obtain ⟨rfl, hKp, hans⟩ := hp
  have hP : va_P D vwCl (wk2 ++ (mw cI cZ o J Z ++ [oc cJ o9 f2])) H := hP
  have hD : va_D A (wk2 ++ (mw cI cZ o J Z ++ [oc cJ o9 f2])) := hD
  refine lv_istore (lv' := [(5, .int (nI z)), (0, .ref sb), (1, .ref bx), (2, .ref (o 0)), (3, .ref o9), (4, .int (nI i))]) B.hx B.hb dL_law_1626 hl (by decide) rfl (fun ls hl => ?_)
  refine lv_aload_n B.hx B.hb dL_law_1628 rfl (lv_at hl 3 rfl) ?_
  refine lw_arg (d := 1) B hS hX hbl hbA hL (by omega) hl 1 5 rfl rfl (by decide) rfl dL_law_1629 dL_law_1630 dL_law_1632 dL_law_1633 dL_law_1634 ?_
  obtain ⟨fs, hq⟩ := mw_at (cI := cI) (cZ := cZ) wk2 [oc cJ o9 f2] (o := o) (J := J) (Z := Z)
  refine q_callV (As := [.int (xs (i + 1))]) (rest := []) B hP hD hS ((h2.fr [oc cJ o9 f2]).fl wk2) (cwV 1 B.hts gL_law_X4_text rfl rfl rfl (by decide +kernel) ⟨by rw [hR.1]; exact hr2.1, by rw [hR.2]; exact hr2.2⟩) wk2.length 4 hq rfl rfl rfl hl.1 rfl (Nat.le_of_ble_eq_true rfl) dL_law_1635 hfit (fun E ce q9 H locs hx => False.elim hx) (fun v u2 H locs hp hP hD hS => ?_)
  obtain rfl := hp
  have hP : va_P D vwCl (wk2 ++ (mw cI cZ o J2 Z2 ++ [oc cJ o9 f2])) H := hP
  have hD : va_D A (wk2 ++ (mw cI cZ o J2 Z2 ++ [oc cJ o9 f2])) := hD
  refine lv_istore (lv' := [(6, .int b9), (5, .int (nI z)), (0, .ref sb), (1, .ref bx), (2, .ref (o 0)), (3, .ref o9), (4, .int (nI i))]) B.hx B.hb dL_law_1638 hl (by decide) rfl (fun ls hl => ?_)
  refine lw_tail B hR hfit hP hD hS hl hJ hz hans rfl rfl dL_law_1640 dL_law_1641 dL_law_1644 dL_law_1646 dL_law_1651 dL_law_1653 dL_law_1656 dL_law_1657 dL_law_1658 dL_law_1659 dL_law_1661 dL_law_1662 dL_law_1663 dL_law_1668 (by decide) (fun H locs hP hD hS => ?_)
  exact kk wk2 f2 H locs ls hKp hP hD hS (lv_sub hl [2, 3, 4, 5, 6] rfl)
set_option maxHeartbeats 4000000 in
theorem lc_inForceOn {i L z sb bx o9 fr1 lo1 mc1 ms1 fr2 lo2 : Nat} {xs : Nat → Int32} {wk : va_W} {o : Nat → Nat} {J J2 : Nat → Int32} {Z Z2 : Nat → Nat → Int32} {f : Nat → Int64} {Kp : va_W → Prop} {b9 : Int32} (B : q_B p l s m args meth c D cI cZ cP cJ A cL_law 7 RL wsL_law) (hR : R.frames = 12 ∧ R.locals = 434) (hX : va_X sb L xs s s.heap) (hbl : sb < s.heap.size) (hbA : ¬ A sb) (hL : L ≤ 2048) (hin : i + 4 ≤ L)
    (h1 : q_C l yL_inForceOn wsL_inForceOn { frames := fr1, cells := mc1, slots := ms1, locals := lo1 } D cI cZ cP cJ [.ref bx, .int (xs (i + 1)), .int (xs (i + 2)), .ref o9] (wk ++ [oc cJ o9 f]) (S := va_W × (Nat → Int64)) (fun v u => v = some (.int (nI z)) ∧ Kp u.1 ∧ (z = 0 → u.2 0 = b9.toInt64)) (fun u => u.1 ++ [oc cJ o9 u.2]) (fun _ => False) mc1 ms1)
    (h2 : q_C l yX4_inForceOn wsX4_inForceOn { frames := fr2, cells := 0, slots := 0, locals := lo2 } D cI cZ cP cJ [.ref (o 0), .int (xs (i + 1)), .int (xs (i + 2))] (mw cI cZ o J Z) (S := Unit) (fun v _ => v = some (.int b9)) (fun _ => mw cI cZ o J2 Z2) (fun _ => False) 0 0)
    (hJ : J2 30 = nI z) (hz : z < 2 ^ 31) (hr1 : fr1 + 1 ≤ 12 ∧ 8 + (5 + 11) + lo1 ≤ 434) (hr2 : fr2 + 1 ≤ 12 ∧ 8 + (5 + 11) + lo2 ≤ 434) (hfit : cells + mc1 ≤ R.cells ∧ slots + ms1 ≤ R.slots)
    (hP : va_P D vwCl (wk ++ (mw cI cZ o J Z ++ [oc cJ o9 f])) H) (hD : va_D A (wk ++ (mw cI cZ o J Z ++ [oc cJ o9 f]))) (hS : va_S A s.heap H locs) (hl : lv_has ls 7 [(0, .ref sb), (1, .ref bx), (2, .ref (o 0)), (3, .ref o9), (4, .int (nI i))])
    (kk : ∀ (wk2 : va_W) (f2 : Nat → Int64) (H1 : Heap) (locs1 : List Loc) (ls1 : Array Slot), Kp wk2 → va_P D vwCl (wk2 ++ (mw cI cZ o J2 Z2 ++ [oc cJ o9 f2])) H1 → va_D A (wk2 ++ (mw cI cZ o J2 Z2 ++ [oc cJ o9 f2])) → va_S A s.heap H1 locs1 → lv_has ls1 7 [(0, .ref sb), (1, .ref bx), (2, .ref (o 0)), (3, .ref o9), (4, .int (nI i))] → W p l e R s m args below meth c H1 locs1 (cells + mc1) (slots + ms1) Q (F0 m 1863 ls1 [])) :
    W p l e R s m args below meth c H locs cells slots Q (F0 m 1671 ls []) := by
  refine lv_aload_n B.hx B.hb dL_law_1671 rfl (lv_at hl 1 rfl) ?_
  refine lw_arg (d := 1) B hS hX hbl hbA hL (by omega) hl 0 4 rfl rfl (by decide) rfl dL_law_1672 dL_law_1673 dL_law_1675 dL_law_1676 dL_law_1677 ?_
  refine lw_arg (d := 2) B hS hX hbl hbA hL (by omega) hl 0 4 rfl rfl (by decide) rfl dL_law_1678 dL_law_1679 dL_law_1681 dL_law_1682 dL_law_1683 ?_
  refine lv_aload_n B.hx B.hb dL_law_1684 rfl (lv_at hl 3 rfl) ?_
  refine q_callSX (As := [.ref bx, .int (xs (i + 1)), .int (xs (i + 2)), .ref o9]) (rest := []) B hP hD hS (lw_fr1 h1) (vx_cwSW 4 B.hts gL_law_L_inForceOn rfl rfl rfl (by decide +kernel) ⟨by rw [hR.1]; exact hr1.1, by rw [hR.2]; exact hr1.2⟩) rfl hl.1 rfl (Nat.le_of_ble_eq_true rfl) dL_law_1685 hfit (fun E ce q9 H locs hx => False.elim hx) (fun v u H locs hp hP hD hS => ?_)
  obtain ⟨wk2, f2⟩ := u
  obtain ⟨rfl, hKp, hans⟩ := hp
  have hP : va_P D vwCl (wk2 ++ (mw cI cZ o J Z ++ [oc cJ o9 f2])) H := hP
  have hD : va_D A (wk2 ++ (mw cI cZ o J Z ++ [oc cJ o9 f2])) := hD
  refine lv_istore (lv' := [(5, .int (nI z)), (0, .ref sb), (1, .ref bx), (2, .ref (o 0)), (3, .ref o9), (4, .int (nI i))]) B.hx B.hb dL_law_1688 hl (by decide) rfl (fun ls hl => ?_)
  refine lv_aload_n B.hx B.hb dL_law_1690 rfl (lv_at hl 3 rfl) ?_
  refine lw_arg (d := 1) B hS hX hbl hbA hL (by omega) hl 1 5 rfl rfl (by decide) rfl dL_law_1691 dL_law_1692 dL_law_1694 dL_law_1695 dL_law_1696 ?_
  refine lw_arg (d := 2) B hS hX hbl hbA hL (by omega) hl 1 5 rfl rfl (by decide) rfl dL_law_1697 dL_law_1698 dL_law_1700 dL_law_1701 dL_law_1702 ?_
  obtain ⟨fs, hq⟩ := mw_at (cI := cI) (cZ := cZ) wk2 [oc cJ o9 f2] (o := o) (J := J) (Z := Z)
  refine q_callV (As := [.int (xs (i + 1)), .int (xs (i + 2))]) (rest := []) B hP hD hS ((h2.fr [oc cJ o9 f2]).fl wk2) (cwV 2 B.hts gL_law_X4_inForceOn rfl rfl rfl (by decide +kernel) ⟨by rw [hR.1]; exact hr2.1, by rw [hR.2]; exact hr2.2⟩) wk2.length 4 hq rfl rfl rfl hl.1 rfl (Nat.le_of_ble_eq_true rfl) dL_law_1703 hfit (fun E ce q9 H locs hx => False.elim hx) (fun v u2 H locs hp hP hD hS => ?_)
  obtain rfl := hp
  have hP : va_P D vwCl (wk2 ++ (mw cI cZ o J2 Z2 ++ [oc cJ o9 f2])) H := hP
  have hD : va_D A (wk2 ++ (mw cI cZ o J2 Z2 ++ [oc cJ o9 f2])) := hD
  refine lv_istore (lv' := [(6, .int b9), (5, .int (nI z)), (0, .ref sb), (1, .ref bx), (2, .ref (o 0)), (3, .ref o9), (4, .int (nI i))]) B.hx B.hb dL_law_1706 hl (by decide) rfl (fun ls hl => ?_)
  refine lw_tail B hR hfit hP hD hS hl hJ hz hans rfl rfl dL_law_1708 dL_law_1709 dL_law_1712 dL_law_1714 dL_law_1719 dL_law_1721 dL_law_1724 dL_law_1725 dL_law_1726 dL_law_1727 dL_law_1729 dL_law_1730 dL_law_1731 dL_law_1736 (by decide) (fun H locs hP hD hS => ?_)
  exact kk wk2 f2 H locs ls hKp hP hD hS (lv_sub hl [2, 3, 4, 5, 6] rfl)
set_option maxHeartbeats 4000000 in
theorem lc_since {i L z sb bx o9 fr1 lo1 mc1 ms1 fr2 lo2 : Nat} {xs : Nat → Int32} {wk : va_W} {o : Nat → Nat} {J J2 : Nat → Int32} {Z Z2 : Nat → Nat → Int32} {f : Nat → Int64} {Kp : va_W → Prop} {b9 : Int32} (B : q_B p l s m args meth c D cI cZ cP cJ A cL_law 7 RL wsL_law) (hR : R.frames = 12 ∧ R.locals = 434) (hX : va_X sb L xs s s.heap) (hbl : sb < s.heap.size) (hbA : ¬ A sb) (hL : L ≤ 2048) (hin : i + 4 ≤ L)
    (h1 : q_C l yL_since wsL_since { frames := fr1, cells := mc1, slots := ms1, locals := lo1 } D cI cZ cP cJ [.ref bx, .int (xs (i + 1)), .int (xs (i + 2)), .ref o9] (wk ++ [oc cJ o9 f]) (S := va_W × (Nat → Int64)) (fun v u => v = some (.int (nI z)) ∧ Kp u.1 ∧ (z = 0 → u.2 0 = b9.toInt64)) (fun u => u.1 ++ [oc cJ o9 u.2]) (fun _ => False) mc1 ms1)
    (h2 : q_C l yX4_since wsX4_since { frames := fr2, cells := 0, slots := 0, locals := lo2 } D cI cZ cP cJ [.ref (o 0), .int (xs (i + 1)), .int (xs (i + 2))] (mw cI cZ o J Z) (S := Unit) (fun v _ => v = some (.int b9)) (fun _ => mw cI cZ o J2 Z2) (fun _ => False) 0 0)
    (hJ : J2 30 = nI z) (hz : z < 2 ^ 31) (hr1 : fr1 + 1 ≤ 12 ∧ 8 + (5 + 11) + lo1 ≤ 434) (hr2 : fr2 + 1 ≤ 12 ∧ 8 + (3 + 11) + lo2 ≤ 434) (hfit : cells + mc1 ≤ R.cells ∧ slots + ms1 ≤ R.slots)
    (hP : va_P D vwCl (wk ++ (mw cI cZ o J Z ++ [oc cJ o9 f])) H) (hD : va_D A (wk ++ (mw cI cZ o J Z ++ [oc cJ o9 f]))) (hS : va_S A s.heap H locs) (hl : lv_has ls 7 [(0, .ref sb), (1, .ref bx), (2, .ref (o 0)), (3, .ref o9), (4, .int (nI i))])
    (kk : ∀ (wk2 : va_W) (f2 : Nat → Int64) (H1 : Heap) (locs1 : List Loc) (ls1 : Array Slot), Kp wk2 → va_P D vwCl (wk2 ++ (mw cI cZ o J2 Z2 ++ [oc cJ o9 f2])) H1 → va_D A (wk2 ++ (mw cI cZ o J2 Z2 ++ [oc cJ o9 f2])) → va_S A s.heap H1 locs1 → lv_has ls1 7 [(0, .ref sb), (1, .ref bx), (2, .ref (o 0)), (3, .ref o9), (4, .int (nI i))] → W p l e R s m args below meth c H1 locs1 (cells + mc1) (slots + ms1) Q (F0 m 1863 ls1 [])) :
    W p l e R s m args below meth c H locs cells slots Q (F0 m 1739 ls []) := by
  refine lv_aload_n B.hx B.hb dL_law_1739 rfl (lv_at hl 1 rfl) ?_
  refine lw_arg (d := 1) B hS hX hbl hbA hL (by omega) hl 0 4 rfl rfl (by decide) rfl dL_law_1740 dL_law_1741 dL_law_1743 dL_law_1744 dL_law_1745 ?_
  refine lw_arg (d := 2) B hS hX hbl hbA hL (by omega) hl 0 4 rfl rfl (by decide) rfl dL_law_1746 dL_law_1747 dL_law_1749 dL_law_1750 dL_law_1751 ?_
  refine lv_aload_n B.hx B.hb dL_law_1752 rfl (lv_at hl 3 rfl) ?_
  refine q_callSX (As := [.ref bx, .int (xs (i + 1)), .int (xs (i + 2)), .ref o9]) (rest := []) B hP hD hS (lw_fr1 h1) (vx_cwSW 4 B.hts gL_law_L_since rfl rfl rfl (by decide +kernel) ⟨by rw [hR.1]; exact hr1.1, by rw [hR.2]; exact hr1.2⟩) rfl hl.1 rfl (Nat.le_of_ble_eq_true rfl) dL_law_1753 hfit (fun E ce q9 H locs hx => False.elim hx) (fun v u H locs hp hP hD hS => ?_)
  obtain ⟨wk2, f2⟩ := u
  obtain ⟨rfl, hKp, hans⟩ := hp
  have hP : va_P D vwCl (wk2 ++ (mw cI cZ o J Z ++ [oc cJ o9 f2])) H := hP
  have hD : va_D A (wk2 ++ (mw cI cZ o J Z ++ [oc cJ o9 f2])) := hD
  refine lv_istore (lv' := [(5, .int (nI z)), (0, .ref sb), (1, .ref bx), (2, .ref (o 0)), (3, .ref o9), (4, .int (nI i))]) B.hx B.hb dL_law_1756 hl (by decide) rfl (fun ls hl => ?_)
  refine lv_aload_n B.hx B.hb dL_law_1758 rfl (lv_at hl 3 rfl) ?_
  refine lw_arg (d := 1) B hS hX hbl hbA hL (by omega) hl 1 5 rfl rfl (by decide) rfl dL_law_1759 dL_law_1760 dL_law_1762 dL_law_1763 dL_law_1764 ?_
  refine lw_arg (d := 2) B hS hX hbl hbA hL (by omega) hl 1 5 rfl rfl (by decide) rfl dL_law_1765 dL_law_1766 dL_law_1768 dL_law_1769 dL_law_1770 ?_
  obtain ⟨fs, hq⟩ := mw_at (cI := cI) (cZ := cZ) wk2 [oc cJ o9 f2] (o := o) (J := J) (Z := Z)
  refine q_callV (As := [.int (xs (i + 1)), .int (xs (i + 2))]) (rest := []) B hP hD hS ((h2.fr [oc cJ o9 f2]).fl wk2) (cwV 2 B.hts gL_law_X4_since rfl rfl rfl (by decide +kernel) ⟨by rw [hR.1]; exact hr2.1, by rw [hR.2]; exact hr2.2⟩) wk2.length 4 hq rfl rfl rfl hl.1 rfl (Nat.le_of_ble_eq_true rfl) dL_law_1771 hfit (fun E ce q9 H locs hx => False.elim hx) (fun v u2 H locs hp hP hD hS => ?_)
  obtain rfl := hp
  have hP : va_P D vwCl (wk2 ++ (mw cI cZ o J2 Z2 ++ [oc cJ o9 f2])) H := hP
  have hD : va_D A (wk2 ++ (mw cI cZ o J2 Z2 ++ [oc cJ o9 f2])) := hD
  refine lv_istore (lv' := [(6, .int b9), (5, .int (nI z)), (0, .ref sb), (1, .ref bx), (2, .ref (o 0)), (3, .ref o9), (4, .int (nI i))]) B.hx B.hb dL_law_1774 hl (by decide) rfl (fun ls hl => ?_)
  refine lw_tail B hR hfit hP hD hS hl hJ hz hans rfl rfl dL_law_1776 dL_law_1777 dL_law_1780 dL_law_1782 dL_law_1787 dL_law_1789 dL_law_1792 dL_law_1793 dL_law_1794 dL_law_1795 dL_law_1797 dL_law_1798 dL_law_1799 dL_law_1804 (by decide) (fun H locs hP hD hS => ?_)
  exact kk wk2 f2 H locs ls hKp hP hD hS (lv_sub hl [2, 3, 4, 5, 6] rfl)
set_option maxHeartbeats 4000000 in
theorem lc_waitsFor {i L z sb bx o9 fr1 lo1 mc1 ms1 fr2 lo2 : Nat} {xs : Nat → Int32} {wk : va_W} {o : Nat → Nat} {J J2 : Nat → Int32} {Z Z2 : Nat → Nat → Int32} {f : Nat → Int64} {Kp : va_W → Prop} {b9 : Int32} (B : q_B p l s m args meth c D cI cZ cP cJ A cL_law 7 RL wsL_law) (hR : R.frames = 12 ∧ R.locals = 434) (hX : va_X sb L xs s s.heap) (hbl : sb < s.heap.size) (hbA : ¬ A sb) (hL : L ≤ 2048) (hin : i + 4 ≤ L)
    (h1 : q_C l yL_waitsFor wsL_waitsFor { frames := fr1, cells := mc1, slots := ms1, locals := lo1 } D cI cZ cP cJ [.ref bx, .int (xs (i + 1)), .ref o9] (wk ++ [oc cJ o9 f]) (S := va_W × (Nat → Int64)) (fun v u => v = some (.int (nI z)) ∧ Kp u.1 ∧ (z = 0 → u.2 0 = b9.toInt64)) (fun u => u.1 ++ [oc cJ o9 u.2]) (fun _ => False) mc1 ms1)
    (h2 : q_C l yX4_waitsFor wsX4_waitsFor { frames := fr2, cells := 0, slots := 0, locals := lo2 } D cI cZ cP cJ [.ref (o 0), .int (xs (i + 1))] (mw cI cZ o J Z) (S := Unit) (fun v _ => v = some (.int b9)) (fun _ => mw cI cZ o J2 Z2) (fun _ => False) 0 0)
    (hJ : J2 30 = nI z) (hz : z < 2 ^ 31) (hr1 : fr1 + 1 ≤ 12 ∧ 8 + (4 + 11) + lo1 ≤ 434) (hr2 : fr2 + 1 ≤ 12 ∧ 8 + (3 + 11) + lo2 ≤ 434) (hfit : cells + mc1 ≤ R.cells ∧ slots + ms1 ≤ R.slots)
    (hP : va_P D vwCl (wk ++ (mw cI cZ o J Z ++ [oc cJ o9 f])) H) (hD : va_D A (wk ++ (mw cI cZ o J Z ++ [oc cJ o9 f]))) (hS : va_S A s.heap H locs) (hl : lv_has ls 7 [(0, .ref sb), (1, .ref bx), (2, .ref (o 0)), (3, .ref o9), (4, .int (nI i))])
    (kk : ∀ (wk2 : va_W) (f2 : Nat → Int64) (H1 : Heap) (locs1 : List Loc) (ls1 : Array Slot), Kp wk2 → va_P D vwCl (wk2 ++ (mw cI cZ o J2 Z2 ++ [oc cJ o9 f2])) H1 → va_D A (wk2 ++ (mw cI cZ o J2 Z2 ++ [oc cJ o9 f2])) → va_S A s.heap H1 locs1 → lv_has ls1 7 [(0, .ref sb), (1, .ref bx), (2, .ref (o 0)), (3, .ref o9), (4, .int (nI i))] → W p l e R s m args below meth c H1 locs1 (cells + mc1) (slots + ms1) Q (F0 m 1863 ls1 [])) :
    W p l e R s m args below meth c H locs cells slots Q (F0 m 1807 ls []) := by
  refine lv_aload_n B.hx B.hb dL_law_1807 rfl (lv_at hl 1 rfl) ?_
  refine lw_arg (d := 1) B hS hX hbl hbA hL (by omega) hl 0 4 rfl rfl (by decide) rfl dL_law_1808 dL_law_1809 dL_law_1811 dL_law_1812 dL_law_1813 ?_
  refine lv_aload_n B.hx B.hb dL_law_1814 rfl (lv_at hl 3 rfl) ?_
  refine q_callSX (As := [.ref bx, .int (xs (i + 1)), .ref o9]) (rest := []) B hP hD hS (lw_fr1 h1) (vx_cwSW 3 B.hts gL_law_L_waitsFor rfl rfl rfl (by decide +kernel) ⟨by rw [hR.1]; exact hr1.1, by rw [hR.2]; exact hr1.2⟩) rfl hl.1 rfl (Nat.le_of_ble_eq_true rfl) dL_law_1815 hfit (fun E ce q9 H locs hx => False.elim hx) (fun v u H locs hp hP hD hS => ?_)
  obtain ⟨wk2, f2⟩ := u
  obtain ⟨rfl, hKp, hans⟩ := hp
  have hP : va_P D vwCl (wk2 ++ (mw cI cZ o J Z ++ [oc cJ o9 f2])) H := hP
  have hD : va_D A (wk2 ++ (mw cI cZ o J Z ++ [oc cJ o9 f2])) := hD
  refine lv_istore (lv' := [(5, .int (nI z)), (0, .ref sb), (1, .ref bx), (2, .ref (o 0)), (3, .ref o9), (4, .int (nI i))]) B.hx B.hb dL_law_1818 hl (by decide) rfl (fun ls hl => ?_)
  refine lv_aload_n B.hx B.hb dL_law_1820 rfl (lv_at hl 3 rfl) ?_
  refine lw_arg (d := 1) B hS hX hbl hbA hL (by omega) hl 1 5 rfl rfl (by decide) rfl dL_law_1821 dL_law_1822 dL_law_1824 dL_law_1825 dL_law_1826 ?_
  obtain ⟨fs, hq⟩ := mw_at (cI := cI) (cZ := cZ) wk2 [oc cJ o9 f2] (o := o) (J := J) (Z := Z)
  refine q_callV (As := [.int (xs (i + 1))]) (rest := []) B hP hD hS ((h2.fr [oc cJ o9 f2]).fl wk2) (cwV 1 B.hts gL_law_X4_waitsFor rfl rfl rfl (by decide +kernel) ⟨by rw [hR.1]; exact hr2.1, by rw [hR.2]; exact hr2.2⟩) wk2.length 4 hq rfl rfl rfl hl.1 rfl (Nat.le_of_ble_eq_true rfl) dL_law_1827 hfit (fun E ce q9 H locs hx => False.elim hx) (fun v u2 H locs hp hP hD hS => ?_)
  obtain rfl := hp
  have hP : va_P D vwCl (wk2 ++ (mw cI cZ o J2 Z2 ++ [oc cJ o9 f2])) H := hP
  have hD : va_D A (wk2 ++ (mw cI cZ o J2 Z2 ++ [oc cJ o9 f2])) := hD
  refine lv_istore (lv' := [(6, .int b9), (5, .int (nI z)), (0, .ref sb), (1, .ref bx), (2, .ref (o 0)), (3, .ref o9), (4, .int (nI i))]) B.hx B.hb dL_law_1830 hl (by decide) rfl (fun ls hl => ?_)
  refine lw_tail B hR hfit hP hD hS hl hJ hz hans rfl rfl dL_law_1832 dL_law_1833 dL_law_1836 dL_law_1838 dL_law_1843 dL_law_1845 dL_law_1848 dL_law_1849 dL_law_1850 dL_law_1851 dL_law_1853 dL_law_1854 dL_law_1855 dL_law_1860 (by decide) (fun H locs hP hD hS => ?_)
  exact kk wk2 f2 H locs ls hKp hP hD hS (lv_sub hl [2, 3, 4, 5, 6] rfl)
end QW
