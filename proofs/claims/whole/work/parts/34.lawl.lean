/-! THE LOOP of the law. -/
def R_law : String := "PaperKeeperLaw"
def lw_P (b : Addr) (xs : List Int32) (args : Array Value) (s : State) : Prop := args = #[.ref b] ∧ s.IntsAt b xs ∧ xs.length ≤ 2048 ∧ (Jvm.Cond.and given_1 narrow_1).before args s = true
def lw_Q (_ : Array Value) (s : State) (o : Outcome) (t : State) : Prop := o = .returned (some (.int 1)) ∧ Framed s o t [] 601024 7293034
def lw_Z (below : List Frame) (a : Array Value) (s : State) : State → Prop := fun t => ∃ o, t.status = .running ∧ Ended t below o ∧ lw_Q a s o t
/-- the law's own end, with 1 on the stack, nothing written that was there before, its room as the claim has it -/
theorem lw_ret {p : Program} {l : Launch} {e : Env} {s : State} {m : MethodId} {below : List Frame} {meth : Method} {c : Code} {b : Nat} (hx : p.tables.exec = Jvm.exec) (hb : c.code = code) (hr : meth.sig.returnType = ret) (hlocks : meth.locks = false) {pc : Nat} {H : Heap} {ls : Array Slot} (hdg : decode code pc = .ok (.ireturn, 1)) : W p l e room_1 s m #[Value.ref b] below meth c H [] 601024 7293034 (lw_Z below #[Value.ref b] s) (F0 m pc ls [.int 1]) := by
  intro T hT X
  obtain ⟨fs, hret, hrun, hended, hW, hframe⟩ := X.leave (v := some (.int 1)) (hlocks := hlocks) (fun h => by rw [hr] at h; cases h)
  have hmeth' : T.vm.method? m = some meth := X.method'
  refine ⟨T.setFrames fs, ?_, .returned (some (.int 1)), hrun, hended, rfl, ⟨_, rfl⟩, hW, hframe⟩
  jvm_step X.here [X.here.top, hx, hb, hdg, hmeth', hr, ret, narrow_b1]
  (try refine ⟨rfl, ?_⟩); (try refine ⟨rfl, ?_⟩)
  first | (intro acts; rw [hret _ acts rfl rfl rfl]) | rw [hret _ _ rfl rfl rfl]
  exact Steps.refl _
/-- what holds at the law's entry: the machine, the code, the tables' words (any of lw_tbl by 'hts w (by decide +kernel)'), the script of L ints xs at the cell b, what the Statement gives of the start (any of its parts by flat_of_before) -/
def lw_At (p : Program) (s : State) (m : MethodId) (meth : Method) (c : Code) (b L : Nat) (xs : Nat → Int32) : Prop :=
  p.tables.exec = Jvm.exec ∧ c.code = code ∧ meth.sig.returnType = ret ∧ c.maxLocals = 7 ∧ s.vm.findClass R_law = some m.cls ∧ (∀ w ∈ lw_tbl, w.before #[Value.ref b] s = true) ∧ va_X b L xs s s.heap ∧ b < s.heap.size ∧ meth.locks = false ∧ (Jvm.Cond.and given_1 narrow_1).before #[Value.ref b] s = true
theorem lw_cmp {L i : Nat} (hL : L ≤ 2048) (hi : i ≤ 2052) : nI L - nI 4 < nI i ↔ L < i + 4 := by
  by_cases h : 4 ≤ L
  · have e : nI L - nI 4 = nI (L - 4) := by
      have := nI_add (L - 4) 4
      rw [show L - 4 + 4 = L by omega] at this
      rw [← this, Int32.add_sub_cancel]
    rw [e, nI_ltI (by omega) (by omega)]
    omega
  · have e : (nI L - nI 4) < nI i := by
      have h1 : (nI L - nI 4).toInt < 0 := by
        rcases (show L = 0 ∨ L = 1 ∨ L = 2 ∨ L = 3 by omega) with rfl | rfl | rfl | rfl <;> decide
      rw [Int32.lt_iff_toInt_lt, nI_toInt (by omega)]
      omega
    exact ⟨fun _ => by omega, fun _ => e⟩
section QStep
variable {p : Program} {l : Launch} {e : Env} {R : Room} {s : State} {m : MethodId} {args : Array Value} {below : List Frame} {meth : Method} {c : Code} {H : Heap} {locs : List Loc} {cells slots : Nat} {Q : State → Prop}
variable {D : va_G} {cI cZ cP cJ : ClassId} {A : Nat → Prop} {ls : Array Slot}
set_option maxHeartbeats 4000000 in
theorem ls_day {i L sb o9 n cn : Nat} {xs : Nat → Int32} {b o : Nat → Nat} {ad : Nat → Nat → Nat} {XX : Nat → Nat → Int32} {YY : Nat → Nat → Nat → Int32} {I : Nat → Int32} {V : Nat → Nat → Int32} {P : Nat → Option Nat} {J : Nat → Int32} {Z : Nat → Nat → Int32} {f : Nat → Int64} (B : q_B p l s m args meth c D cI cZ cP cJ A cL_law 7 RL wsL_law) (hR : R.frames = 12 ∧ R.locals = 434) (hfl : l.stackTraces = false) (hX : va_X sb L xs s s.heap) (hbl : sb < s.heap.size) (hbA : ¬ A sb) (hL : L ≤ 2048) (hin : i + 4 ≤ L) (hc : cn < 512) (hG : GR n cn ad XX YY I V P J Z) (hfit : cells + 11 ≤ R.cells ∧ slots + 320 ≤ R.slots)
    (hP : va_P D vwCl (WK cI cZ cP n ad XX YY b I V P ++ (mw cI cZ o J Z ++ [oc cJ o9 f])) H) (hD : va_D A (WK cI cZ cP n ad XX YY b I V P ++ (mw cI cZ o J Z ++ [oc cJ o9 f]))) (hS : va_S A s.heap H locs) (hl : lv_has ls 7 [(0, .ref sb), (1, .ref (b 0)), (2, .ref (o 0)), (3, .ref o9), (4, .int (nI i))])
    (KK : ∀ (wk2 : va_W) (J2 : Nat → Int32) (Z2 : Nat → Nat → Int32) (f2 : Nat → Int64) (H1 : Heap) (locs1 : List Loc) (ls1 : Array Slot) (c9 s9 : Nat), c9 ≤ cells + 11 → s9 ≤ slots + 320 → KS cI cZ cP b (cn + 1) J2 Z2 wk2 → va_P D vwCl (wk2 ++ (mw cI cZ o J2 Z2 ++ [oc cJ o9 f2])) H1 → va_D A (wk2 ++ (mw cI cZ o J2 Z2 ++ [oc cJ o9 f2])) → va_S A s.heap H1 locs1 → lv_has ls1 7 [(0, .ref sb), (1, .ref (b 0)), (2, .ref (o 0)), (3, .ref o9), (4, .int (nI i))] → W p l e R s m args below meth c H1 locs1 c9 s9 Q (F0 m 1863 ls1 [])) :
    W p l e R s m args below meth c H locs cells slots Q (F0 m 1490 ls []) := by
  have hG2 := hG
  obtain ⟨hn8, hPI, ⟨hI5, hJ5⟩, hI6, ⟨td, htd, hI7, hJ0⟩, ⟨q, hq30, hI3, hJ26, hcp⟩, hv, hPP⟩ := hG
  obtain ⟨fs, hat⟩ := WK_at (cI := cI) (cZ := cZ) (cP := cP) (n := n) (ad := ad) (XX := XX) (YY := YY) (b := b) (I := I) (V := V) (P := P)
  have hat2 : (WK cI cZ cP n ad XX YY b I V P ++ (mw cI cZ o J Z ++ [oc cJ o9 f]))[(pws cI cZ n ad XX YY).length]? = some (b 0, .inr (3, fs)) := by rw [List.getElem?_append_left (List.getElem?_eq_some_iff.mp hat).1]; exact hat
  refine lv_aload_n B.hx B.hb dL_law_1490 rfl (lv_at hl 1 rfl) ?_
  refine q_callV (As := []) (rest := []) B hP hD hS (((c3_day l D cI cZ cP cJ b I V P).fl (pws cI cZ n ad XX YY)).fr (mw cI cZ o J Z ++ [oc cJ o9 f])) (cwV 0 B.hts gL_law_X3_day rfl rfl rfl (by decide +kernel) ⟨by rw [hR.1]; decide, by rw [hR.2]; decide⟩) (pws cI cZ n ad XX YY).length 3 hat2 rfl rfl rfl hl.1 rfl (Nat.le_of_ble_eq_true rfl) dL_law_1491 ⟨by omega, by omega⟩ (fun E ce q9 H locs hx => False.elim hx) (fun v u H locs hp hP hD hS => ?_)
  obtain rfl := hp
  refine lv_aload_n B.hx B.hb dL_law_1494 rfl (lv_at hl 2 rfl) ?_
  obtain ⟨fs2, hq⟩ := mw_at (cI := cI) (cZ := cZ) (WK cI cZ cP n ad XX YY b I V P) [oc cJ o9 f] (o := o) (J := J) (Z := Z)
  refine q_callV (As := []) (rest := [.int (I 7)]) B hP hD hS (((c4_day l D cI cZ cP cJ o J Z).fr [oc cJ o9 f]).fl (WK cI cZ cP n ad XX YY b I V P)) (cwV 0 B.hts gL_law_X4_day rfl rfl rfl (by decide +kernel) ⟨by rw [hR.1]; decide, by rw [hR.2]; decide⟩) (WK cI cZ cP n ad XX YY b I V P).length 4 hq rfl rfl rfl hl.1 rfl (Nat.le_of_ble_eq_true rfl) dL_law_1495 ⟨by omega, by omega⟩ (fun E ce q9 H locs hx => False.elim hx) (fun v u H locs hp hP hD hS => ?_)
  obtain rfl := hp
  refine lv_icmp_eq (tgt := 1863) B.hx B.hb dL_law_1498 (by decide) (fun _ => ?_) (fun h => absurd (hI7.trans hJ0.symm) h)
  exact KK _ _ _ f H locs ls _ _ (by omega) (by omega) ⟨n, ad, XX, YY, I, V, P, rfl, hG2.mono (by omega) _⟩ hP hD hS hl
set_option maxHeartbeats 4000000 in
theorem ls_call {i L sb o9 n cn : Nat} {xs : Nat → Int32} {b o : Nat → Nat} {ad : Nat → Nat → Nat} {XX : Nat → Nat → Int32} {YY : Nat → Nat → Nat → Int32} {I : Nat → Int32} {V : Nat → Nat → Int32} {P : Nat → Option Nat} {J : Nat → Int32} {Z : Nat → Nat → Int32} {f : Nat → Int64} (B : q_B p l s m args meth c D cI cZ cP cJ A cL_law 7 RL wsL_law) (hR : R.frames = 12 ∧ R.locals = 434) (hfl : l.stackTraces = false) (hX : va_X sb L xs s s.heap) (hbl : sb < s.heap.size) (hbA : ¬ A sb) (hL : L ≤ 2048) (hin : i + 4 ≤ L) (hc : cn < 512) (hG : GR n cn ad XX YY I V P J Z) (hfit : cells + 11 ≤ R.cells ∧ slots + 320 ≤ R.slots)
    (hP : va_P D vwCl (WK cI cZ cP n ad XX YY b I V P ++ (mw cI cZ o J Z ++ [oc cJ o9 f])) H) (hD : va_D A (WK cI cZ cP n ad XX YY b I V P ++ (mw cI cZ o J Z ++ [oc cJ o9 f]))) (hS : va_S A s.heap H locs) (hl : lv_has ls 7 [(0, .ref sb), (1, .ref (b 0)), (2, .ref (o 0)), (3, .ref o9), (4, .int (nI i))])
    (KK : ∀ (wk2 : va_W) (J2 : Nat → Int32) (Z2 : Nat → Nat → Int32) (f2 : Nat → Int64) (H1 : Heap) (locs1 : List Loc) (ls1 : Array Slot) (c9 s9 : Nat), c9 ≤ cells + 11 → s9 ≤ slots + 320 → KS cI cZ cP b (cn + 1) J2 Z2 wk2 → va_P D vwCl (wk2 ++ (mw cI cZ o J2 Z2 ++ [oc cJ o9 f2])) H1 → va_D A (wk2 ++ (mw cI cZ o J2 Z2 ++ [oc cJ o9 f2])) → va_S A s.heap H1 locs1 → lv_has ls1 7 [(0, .ref sb), (1, .ref (b 0)), (2, .ref (o 0)), (3, .ref o9), (4, .int (nI i))] → W p l e R s m args below meth c H1 locs1 c9 s9 Q (F0 m 1863 ls1 [])) :
    W p l e R s m args below meth c H locs cells slots Q (F0 m 39 ls [.int (xs i &&& 31)]) := by
  obtain ⟨k, hk, e⟩ := pk_andE (xs i) (m := 31) 5 (by decide)
  have hk : k < 32 := hk
  rw [e]
  by_cases h26 : 26 < k
  · refine lv_tableOut (tgt := 1863) B.hx B.hb dL_law_39 (Or.inr (by rw [nI_toInt (by omega)]; omega)) (by decide) ?_
    exact KK _ _ _ f H locs ls _ _ (by omega) (by omega) ⟨n, ad, XX, YY, I, V, P, rfl, ⟨hG.1, hG.2.1.mono (by omega), hG.2.2⟩⟩ hP hD hS hl
  · rcases (show k = 0 ∨ k = 1 ∨ k = 2 ∨ k = 3 ∨ k = 4 ∨ k = 5 ∨ k = 6 ∨ k = 7 ∨ k = 8 ∨ k = 9 ∨ k = 10 ∨ k = 11 ∨ k = 12 ∨ k = 13 ∨ k = 14 ∨ k = 15 ∨ k = 16 ∨ k = 17 ∨ k = 18 ∨ k = 19 ∨ k = 20 ∨ k = 21 ∨ k = 22 ∨ k = 23 ∨ k = 24 ∨ k = 25 ∨ k = 26 by omega) with rfl | rfl | rfl | rfl | rfl | rfl | rfl | rfl | rfl | rfl | rfl | rfl | rfl | rfl | rfl | rfl | rfl | rfl | rfl | rfl | rfl | rfl | rfl | rfl | rfl | rfl | rfl
    · exact lv_tableIn (tgt := 160) (off := 121) B.hx B.hb dL_law_39 (by decide) (by decide) (by decide) (by decide) (ls_setRoles B hR hfl hX hbl hbA hL hin hc hG hfit hP hD hS hl KK)
    · exact lv_tableIn (tgt := 252) (off := 213) B.hx B.hb dL_law_39 (by decide) (by decide) (by decide) (by decide) (ls_setDeputy B hR hfl hX hbl hbA hL hin hc hG hfit hP hD hS hl KK)
    · exact lv_tableIn (tgt := 320) (off := 281) B.hx B.hb dL_law_39 (by decide) (by decide) (by decide) (by decide) (ls_open B hR hfl hX hbl hbA hL hin hc hG hfit hP hD hS hl KK)
    · exact lv_tableIn (tgt := 392) (off := 353) B.hx B.hb dL_law_39 (by decide) (by decide) (by decide) (by decide) (ls_hang B hR hfl hX hbl hbA hL hin hc hG hfit hP hD hS hl KK)
    · exact lv_tableIn (tgt := 460) (off := 421) B.hx B.hb dL_law_39 (by decide) (by decide) (by decide) (by decide) (ls_setInterval B hR hfl hX hbl hbA hL hin hc hG hfit hP hD hS hl KK)
    · exact lv_tableIn (tgt := 516) (off := 477) B.hx B.hb dL_law_39 (by decide) (by decide) (by decide) (by decide) (ls_draft B hR hfl hX hbl hbA hL hin hc hG hfit hP hD hS hl KK)
    · exact lv_tableIn (tgt := 576) (off := 537) B.hx B.hb dL_law_39 (by decide) (by decide) (by decide) (by decide) (ls_change B hR hfl hX hbl hbA hL hin hc hG hfit hP hD hS hl KK)
    · exact lv_tableIn (tgt := 644) (off := 605) B.hx B.hb dL_law_39 (by decide) (by decide) (by decide) (by decide) (ls_drop B hR hfl hX hbl hbA hL hin hc hG hfit hP hD hS hl KK)
    · exact lv_tableIn (tgt := 700) (off := 661) B.hx B.hb dL_law_39 (by decide) (by decide) (by decide) (by decide) (ls_reviewer B hR hfl hX hbl hbA hL hin hc hG hfit hP hD hS hl KK)
    · exact lv_tableIn (tgt := 768) (off := 729) B.hx B.hb dL_law_39 (by decide) (by decide) (by decide) (by decide) (ls_reader B hR hfl hX hbl hbA hL hin hc hG hfit hP hD hS hl KK)
    · exact lv_tableIn (tgt := 836) (off := 797) B.hx B.hb dL_law_39 (by decide) (by decide) (by decide) (by decide) (ls_review B hR hfl hX hbl hbA hL hin hc hG hfit hP hD hS hl KK)
    · exact lv_tableIn (tgt := 932) (off := 893) B.hx B.hb dL_law_39 (by decide) (by decide) (by decide) (by decide) (ls_answer B hR hfl hX hbl hbA hL hin hc hG hfit hP hD hS hl KK)
    · exact lv_tableIn (tgt := 1000) (off := 961) B.hx B.hb dL_law_39 (by decide) (by decide) (by decide) (by decide) (ls_approve B hR hfl hX hbl hbA hL hin hc hG hfit hP hD hS hl KK)
    · exact lv_tableIn (tgt := 1060) (off := 1021) B.hx B.hb dL_law_39 (by decide) (by decide) (by decide) (by decide) (ls_confirm B hR hfl hX hbl hbA hL hin hc hG hfit hP hD hS hl KK)
    · exact lv_tableIn (tgt := 1128) (off := 1089) B.hx B.hb dL_law_39 (by decide) (by decide) (by decide) (by decide) (ls_pass B hR hfl hX hbl hbA hL hin hc hG hfit hP hD hS hl KK)
    · exact lv_tableIn (tgt := 1184) (off := 1145) B.hx B.hb dL_law_39 (by decide) (by decide) (by decide) (by decide) (ls_look B hR hfl hX hbl hbA hL hin hc hG hfit hP hD hS hl KK)
    · exact lv_tableIn (tgt := 1247) (off := 1208) B.hx B.hb dL_law_39 (by decide) (by decide) (by decide) (by decide) (ls_isDue B hR hfl hX hbl hbA hL hin hc hG hfit hP hD hS hl KK)
    · exact lv_tableIn (tgt := 1310) (off := 1271) B.hx B.hb dL_law_39 (by decide) (by decide) (by decide) (by decide) (ls_copy B hR hfl hX hbl hbA hL hin hc hG hfit hP hD hS hl KK)
    · exact lv_tableIn (tgt := 1378) (off := 1339) B.hx B.hb dL_law_39 (by decide) (by decide) (by decide) (by decide) (ls_takeDown B hR hfl hX hbl hbA hL hin hc hG hfit hP hD hS hl KK)
    · exact lv_tableIn (tgt := 1434) (off := 1395) B.hx B.hb dL_law_39 (by decide) (by decide) (by decide) (by decide) (ls_outOfDate B hR hfl hX hbl hbA hL hin hc hG hfit hP hD hS hl KK)
    · exact lv_tableIn (tgt := 1490) (off := 1451) B.hx B.hb dL_law_39 (by decide) (by decide) (by decide) (by decide) (ls_day B hR hfl hX hbl hbA hL hin hc hG hfit hP hD hS hl KK)
    · exact lv_tableIn (tgt := 1503) (off := 1464) B.hx B.hb dL_law_39 (by decide) (by decide) (by decide) (by decide) (ls_step B hR hfl hX hbl hbA hL hin hc hG hfit hP hD hS hl KK)
    · exact lv_tableIn (tgt := 1559) (off := 1520) B.hx B.hb dL_law_39 (by decide) (by decide) (by decide) (by decide) (ls_inForce B hR hfl hX hbl hbA hL hin hc hG hfit hP hD hS hl KK)
    · exact lv_tableIn (tgt := 1615) (off := 1576) B.hx B.hb dL_law_39 (by decide) (by decide) (by decide) (by decide) (ls_text B hR hfl hX hbl hbA hL hin hc hG hfit hP hD hS hl KK)
    · exact lv_tableIn (tgt := 1671) (off := 1632) B.hx B.hb dL_law_39 (by decide) (by decide) (by decide) (by decide) (ls_inForceOn B hR hfl hX hbl hbA hL hin hc hG hfit hP hD hS hl KK)
    · exact lv_tableIn (tgt := 1739) (off := 1700) B.hx B.hb dL_law_39 (by decide) (by decide) (by decide) (by decide) (ls_since B hR hfl hX hbl hbA hL hin hc hG hfit hP hD hS hl KK)
    · exact lv_tableIn (tgt := 1807) (off := 1768) B.hx B.hb dL_law_39 (by decide) (by decide) (by decide) (by decide) (ls_waitsFor B hR hfl hX hbl hbA hL hin hc hG hfit hP hD hS hl KK)
end QStep
set_option maxHeartbeats 4000000 in
set_option maxRecDepth 100000 in
/-- THE LOOP: cn calls are done -/
theorem lw_loop {p : Program} {l : Launch} {e : Env} {s : State} {m : MethodId} {below : List Frame} {meth : Method} {c : Code} {D : va_G} {cI cZ cP cJ : ClassId} {L sb o9 : Nat} {xs : Nat → Int32} {b o : Nat → Nat} (hfl : l.stackTraces = false) (B : q_B p l s m #[Value.ref sb] meth c D cI cZ cP cJ (fun q => s.heap.size ≤ q) cL_law 7 RL wsL_law) (hr : meth.sig.returnType = ret) (hX : va_X sb L xs s s.heap) (hbl : sb < s.heap.size) (hL : L ≤ 2048) :
    ∀ (k cn n : Nat) (ad : Nat → Nat → Nat) (XX : Nat → Nat → Int32) (YY : Nat → Nat → Nat → Int32) (I : Nat → Int32) (V : Nat → Nat → Int32) (P : Nat → Option Nat) (J : Nat → Int32) (Z : Nat → Nat → Int32) (f : Nat → Int64) (H : Heap) (locs : List Loc) (ls : Array Slot) (cells slots : Nat), L < 4 * cn + 4 * k → 4 * cn ≤ L → GR n cn ad XX YY I V P J Z → cells ≤ 500000 + 11 * cn → slots ≤ 7000000 + 320 * cn →
      va_P D vwCl (WK cI cZ cP n ad XX YY b I V P ++ (mw cI cZ o J Z ++ [oc cJ o9 f])) H → va_D (fun q => s.heap.size ≤ q) (WK cI cZ cP n ad XX YY b I V P ++ (mw cI cZ o J Z ++ [oc cJ o9 f])) → va_S (fun q => s.heap.size ≤ q) s.heap H locs → lv_has ls 7 [(0, .ref sb), (1, .ref (b 0)), (2, .ref (o 0)), (3, .ref o9), (4, .int (nI (4 * cn)))] →
      W p l e room_1 s m #[Value.ref sb] below meth c H locs cells slots (lw_Z below #[Value.ref sb] s) (F0 m 23 ls []) := by
  have hbA : ¬ (fun q : Nat => s.heap.size ≤ q) sb := Nat.not_le.mpr hbl
  intro k
  induction k with
  | zero => intro cn n ad XX YY I V P J Z f H locs ls cells slots h1 h2; exact absurd h1 (by omega)
  | succ k ih =>
    intro cn n ad XX YY I V P J Z f H locs ls cells slots hk hcn hG hcel hslo hP hD hS hl
    refine lv_iload B.hx B.hb dL_law_23 (lv_at hl 4 rfl) ?_
    refine lv_aload_n B.hx B.hb dL_law_25 rfl (lv_at hl 0 rfl) ?_
    refine va_slen B.hx B.hb hX hbl hbA hS dL_law_26 ?_
    refine lv_iconst (v := nI 4) B.hx B.hb dL_law_27 (by decide) ?_
    refine lv_isub B.hx B.hb dL_law_28 ?_
    refine lv_icmp_gt (tgt := 1869) B.hx B.hb dL_law_29 (by decide) (fun h => ?_) (fun h => ?_)
    · refine lv_iconst (v := 1) B.hx B.hb dL_law_1869 (by decide) ?_
      refine va_forget (fun q hq => hS.2.2 q hq) ?_
      refine W.widen (k := 601024) (n := 7293034) (by omega) (by omega) ?_
      exact lw_ret B.hx B.hb hr B.hlk dL_law_1870
    · have hin : 4 * cn + 4 ≤ L := Nat.not_lt.mp fun h9 => h ((lw_cmp hL (by omega)).mpr h9)
      refine lv_aload_n B.hx B.hb dL_law_32 rfl (lv_at hl 0 rfl) ?_
      refine lv_iload B.hx B.hb dL_law_33 (lv_at hl 4 rfl) ?_
      refine va_sld B.hx B.hb hX hbl hbA hS (vp_in_nI (by omega) (by omega)) dL_law_35 ?_
      rw [nI_clamp (by omega)]
      refine lv_bipush (v := 31) B.hx B.hb dL_law_36 (by decide) ?_
      refine lv_iand B.hx B.hb dL_law_38 ?_
      refine ls_call B ⟨rfl, rfl⟩ hfl hX hbl hbA hL hin (by omega) hG ⟨show cells + 11 ≤ 601024 by omega, show slots + 320 ≤ 7293034 by omega⟩ hP hD hS hl ?_
      intro wk2 J2 Z2 f2 H1 locs1 ls1 c9 s9 hc9 hs9 hKS hP hD hS hl
      obtain ⟨n2, ad2, XX2, YY2, I2, V2, P2, rfl, hG2⟩ := hKS
      refine lv_iinc (v := nI (4 * (cn + 1))) (lv' := [(4, .int (nI (4 * (cn + 1)))), (0, .ref sb), (1, .ref (b 0)), (2, .ref (o 0)), (3, .ref o9)]) B.hx B.hb dL_law_1863 hl (k := 4) rfl (show nI (4 * cn) + nI 4 = nI (4 * (cn + 1)) from by rw [nI_add]; rfl) (by decide) rfl (fun ls hl => ?_)
      refine lv_goto (tgt := 23) B.hx B.hb dL_law_1866 (by decide) ?_
      have hs1 : c9 ≤ 500000 + 11 * (cn + 1) := by omega
      have hs2 : s9 ≤ 7000000 + 320 * (cn + 1) := by omega
      exact ih (cn + 1) n2 ad2 XX2 YY2 I2 V2 P2 J2 Z2 f2 H1 locs1 ls c9 s9 (by omega) (by omega) hG2 hs1 hs2 hP hD hS (lv_sub hl [1, 2, 3, 4, 0] rfl)

