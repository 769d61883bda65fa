/-! ===== growing worlds: contracts of constructors, calls ===== -/
/-- constructor M' called with av where N cells stand: N1 stand behind it, the world is as T says -/
def ySp (M' : xM) (av : List Value) (N sl N1 sl1 : Nat) (w : xW) (T : xW → Prop) : Prop := YP M' (N, sl, N1, sl1) 0 (lv_args 0 av) [] N sl w (fun pc _ st N' sl' w2 => N' = N1 ∧ sl' = sl1 ∧ st = [] ∧ decode M'.2.1 pc = .ok (.return_, 1) ∧ T w2)
def yRm (d mc ms : Nat) : Room := { frames := d, cells := mc, slots := ms, locals := 45 * d }
def yPre (D : va_G) (tc : Nat → Nat) (base scr N : Nat) (w : xW) (U : State) : Prop := U.heap.size = base + N ∧ va_P D vwCl (yws tc (yad base scr) w N) U.heap ∧ va_K D vwCl (xtys tc) U ∧ xNw U ∧ va_AO cPar U ∧ va_AO cWid U ∧ yNw U
def yPost (D : va_G) (tc : Nat → Nat) (base scr N1 : Nat) (T : xW → Prop) : Array Value → State → Outcome → State → Prop := fun _ st oc t => (oc = .returned none ∧ ∃ w', T w' ∧ va_P D vwCl (yws tc (yad base scr) w' N1) t.heap) ∧ va_F (yA base) st t
theorem y_met {M : xM} {av : List Value} {N sl N1 sl1 : Nat} {w : xW} {T : xW → Prop} (hS : ySp M av N sl N1 sl1 w T) (hN : N ≤ 365) (hret : M.2.2.2.1 = none) (hav : (lg_sl av).length ≤ M.2.2.1) (hy : plainName M.1.cls = true) (l : Launch) (D : va_G) (tc : Nat → Nat) (base scr : Nat) :
    Met l M.1 (xWs M) (yRm M.2.2.2.2 (N1 - N) (sl1 - sl)) (va_Pc (av.map (xv (yad base scr))) (yPre D tc base scr N w)) (yPost D tc base scr N1 T) (N1 - N) (sl1 - sl) (yA base) := by
  refine Met.ofW (cc := M.2.1) (maxL := M.2.2.1) (ret := M.2.2.2.1) hy rfl ?_
  intro p e s m args below meth c s₁ B hml hv
  obtain ⟨rfl, hsz, hP, hK, hNw, ha1, ha2, ha3⟩ := hv
  have hx := B.exec
  have hb := B.bytes
  have hr := B.returns
  have hts := atoms_spec (ws := xWs M) B.pre
  have hown : s.vm.findClass M.1.cls = some m.cls := findClass_of_methodNamed B.named
  have hlocks := B.notSynchronized
  have hin : meth.name = M.1.name := (name_of_methodNamed B.named B.method).1
  have hl := lv_entry (av.map (xv (yad base scr))) (n := M.2.2.1) (by rw [lg_sl_len]; exact hav)
  rw [lg_entry_eq]
  rw [xlv_args] at hl
  have := hS p l e (yRm M.2.2.2.2 (N1 - N) (sl1 - sl)) s m _ below meth c D tc base scr s.heap [] (MQ below (yPost D tc base scr N1 T) (av.map (xv (yad base scr))).toArray s (N1 - N) (sl1 - sl) (yA base)) _ ⟨⟨hx, hb, hml, hown, fun w h => hts w (List.mem_cons_of_mem _ h), hNw, hK, Nat.le_refl _, Nat.le_refl _⟩, hin, ⟨ha1, ha2, ha3⟩, ⟨Nat.le_refl _, Nat.le_refl _⟩, hsz⟩ ⟨⟨Nat.le_refl _, Nat.le_refl _, hN⟩, hP⟩ va_S.rf hl (fun pc' lv' st' N' sl' w2 H' locs' ls' hE hw' hS' hl' => by
    obtain ⟨rfl, rfl, rfl, hdg, hT⟩ := hE
    exact W.vret hx hb (hr.trans hret) (fun t ht hW => ⟨⟨rfl, w2, hT, by rw [ht]; exact hw'.2⟩, hS'.F ht⟩) hS'.2.2 hdg (hlocks := hlocks))
  rw [Nat.sub_self, Nat.sub_self] at this
  exact this
theorem y_frameblind {D : va_G} {tc : Nat → Nat} {base scr N : Nat} {w : xW} {av : List Value} : FrameBlind (va_Pc av (yPre D tc base scr N w)) := by
  intro a U g mk q
  obtain ⟨q0, q1, qP, qK, qN, qa, qb, qc⟩ := q
  exact ⟨q0, q1, qP, va_K.moved (u := U) (U := U.calling g mk a) (Vm.Alike.refl U.vm) qK, xNw.same (s := U) (U := U.calling g mk a) rfl qN, va_AO.moved (u := U) (U := U.calling g mk a) (Vm.Alike.refl U.vm) qa, va_AO.moved (u := U) (U := U.calling g mk a) (Vm.Alike.refl U.vm) qb, yNw.same (s := U) (U := U.calling g mk a) rfl qc⟩
/-- what the tables say of a constructor's link -/
def yLnk (own : String) (index : Nat) (M : xM) (n : Nat) : Prop := (Cond.methodLink own index M.1 ∈ xTs ∨ ∃ host, Cond.methodLinkNest own index M.1 host ∈ yNs) ∧ Cond.initialized M.1.cls ∈ xTs ∧ Cond.code M.1 M.2.1 M.2.2.1 M.2.2.2.1 ∈ xTs ∧ plainName M.1.cls = true ∧ M.1.cls ≠ "java/lang/invoke/MethodHandle" ∧ M.1.cls ≠ "java/lang/invoke/VarHandle" ∧ (parseMethodDescriptor M.1.desc).map (fun d => d.parameters.length) = some n
theorem y_callN {M M' : xM} {own host : String} {index n mc ms : Nat} {R : Room} {s : State} {args : Array Value} (hts : ∀ w ∈ xTs, w.before args s = true) (hl : va_Nw (.methodLinkNest own index M'.1 host) s) (hi : Cond.initialized M'.1.cls ∈ xTs) (hc : Cond.code M'.1 M'.2.1 M'.2.2.1 M'.2.2.2.1 ∈ xTs) (hd : M'.1.cls ≠ "java/lang/invoke/MethodHandle" ∧ M'.1.cls ≠ "java/lang/invoke/VarHandle" ∧ (parseMethodDescriptor M'.1.desc).map (fun d => d.parameters.length) = some n) (hF : xFit M M') (h1 : M.2.2.2.2 ≤ R.frames) (h2 : 45 * M.2.2.2.2 ≤ R.locals) : va_CN R s args own index M'.1 host M'.2.1 M'.2.2.1 M'.2.2.2.1 (xWs M') (yRm M'.2.2.2.2 mc ms) mc ms n := by
  obtain ⟨f1, f2⟩ := hF
  refine va_cnB n hts (xWs_good hc) rfl rfl rfl hl (hts _ hi) hd ⟨?_, ?_⟩
  · show M'.2.2.2.2 + 1 ≤ R.frames
    omega
  · show 8 + (M'.2.2.1 + 11) + 45 * M'.2.2.2.2 ≤ R.locals
    omega
theorem y_callB {M M' : xM} {own : String} {index n mc ms : Nat} {R : Room} {s : State} {args : Array Value} (hts : ∀ w ∈ xTs, w.before args s = true) (hL : xLnk own index M' n) (hF : xFit M M') (h1 : M.2.2.2.2 ≤ R.frames) (h2 : 45 * M.2.2.2.2 ≤ R.locals) : CallB R s args own index M'.1 M'.2.1 M'.2.2.1 M'.2.2.2.1 (xWs M') (yRm M'.2.2.2.2 mc ms) mc ms n := by
  obtain ⟨a1, a2, a3, a4, a5, a6, a7⟩ := hL
  obtain ⟨f1, f2⟩ := hF
  refine callB_of n hts (xWs_good a3) rfl rfl rfl (hts _ a2) (hts _ a1) ⟨a5, a6, a7⟩ ⟨?_, ?_⟩
  · show M'.2.2.2.2 + 1 ≤ R.frames
    omega
  · show 8 + (M'.2.2.1 + 11) + 45 * M'.2.2.2.2 ≤ R.locals
    omega
theorem y_callI {M M' : xM} {K : Nat × Nat × Nat × Nat} {pc pc' index n b N sl N1 sl1 : Nat} {lv : List (Nat × Value)} {rest st As : List Value} {w : xW} {T : xW → Prop} {E : Nat → List (Nat × Value) → List Value → Nat → Nat → xW → Prop} (hd : xAt M pc (.invokespecial index) 3 pc') (hL : yLnk M.1.cls index M' n) (hin : Cond.instanceMethod M'.1 ∈ xTs) (hnm : M'.1.name = "<init>") (hret : M'.2.2.2.1 = none) (hF : xFit M M') (hn : As.length = n) (hst : st = As.reverse ++ .ref b :: rest) (hr : (rest.map fun v => v.category).sum ≤ 8) (hav : (lg_sl (.ref b :: As)).length ≤ M'.2.2.1)
    (h1 : N ≤ N1 ∧ sl ≤ sl1) (h2 : N1 ≤ K.2.2.1 ∧ sl1 ≤ K.2.2.2) (h3 : N1 ≤ 365) (h0 : 1 ≤ N) (hS' : ySp M' (.ref b :: As) N sl N1 sl1 w T) (kk : ∀ w', T w' → YP M K pc' lv rest N1 sl1 w' E) : YP M K pc lv st N sl w E := by
  intro p l e R s m args below meth c D tc base scr H locs Z ls C hw hS hl hE
  obtain ⟨hd, rfl⟩ := hd
  subst hst
  have ts := C.1.2.2.2.2.1
  have c1 := C.2.2.2.1
  have b1 := C.2.2.2.2
  have k1 := hw.1.1
  have k2 := hw.1.2.1
  refine w_bound (fun hb => ?_)
  have hz : H.size = base + N := by
    have lt := (hw.2 (N - 1) _ (yws_at (show N - 1 < N by omega))).lt
    have lt : yad base scr (roN (N - 1)) < H.size := lt
    rw [yad_ro base scr (by omega)] at lt
    omega
  have hmet := y_met hS' hw.1.2.2 hret hav hL.2.2.2.1 l D tc base scr
  obtain ⟨hl1, hl2, hl3, hl4, hl5, hl6, hl7⟩ := hL
  have hrun : va_Run p l e R s m args below meth c H locs (N - K.1) (sl - K.2.1) (N1 - N) (sl1 - sl) (F0 m pc ls (List.map (xv (yad base scr)) (As.reverse ++ .ref b :: rest))) (rest.map (xv (yad base scr))) (yPost D tc base scr N1 T (Value.ref (yad base scr b) :: As.map (xv (yad base scr))).toArray) (yA base) := by
    rcases hl1 with hl1 | ⟨host, hl1⟩
    · have hcb := y_callB (M := M) (mc := N1 - N) (ms := sl1 - sl) ts ⟨hl1, hl2, hl3, hl4, hl5, hl6, hl7⟩ hF C.1.2.2.2.2.2.2.2.1 C.1.2.2.2.2.2.2.2.2
      rw [hret] at hcb
      exact va_runI (As := As.map (xv (yad base scr))) (rest := rest.map (xv (yad base scr))) (b := yad base scr b) ⟨C.1.1, C.1.2.1, C.1.2.2.1, C.1.2.2.2.1, ts⟩ hmet ⟨hcb, hnm, ts _ hin⟩ (H := H) (p := p) (l := l) (e := e) (R := R) (s := s) (m := m) (args := args) (below := below) (meth := meth) (c := c) (locs := locs) (cells := N - K.1) (slots := sl - K.2.1) (g := F0 m pc ls (List.map (xv (yad base scr)) (As.reverse ++ .ref b :: rest))) ⟨y_frameblind, fun U hU hW => ⟨rfl, by rw [hU]; exact hz, by rw [hU]; exact hw.2, va_K.moved hW.alike C.1.2.2.2.2.2.2.1, xNw.moved hW C.1.2.2.2.2.2.1, va_AO.moved hW.alike C.2.2.1.1, va_AO.moved hW.alike C.2.2.1.2.1, yNw.moved hW C.2.2.1.2.2⟩⟩ rfl (by rw [List.length_map]; exact hn) hl.1 (by show List.map (xv (yad base scr)) (As.reverse ++ .ref b :: rest) = _; rw [List.map_append, List.map_reverse]; rfl) (by show 2 * 0 + _ ≤ 8; rw [xcat_sum]; omega) hd ⟨by omega, by omega⟩
    · have hcb := y_callN (M := M) (mc := N1 - N) (ms := sl1 - sl) ts (C.2.2.1.2.2 _ hl1) hl2 hl3 ⟨hl5, hl6, hl7⟩ hF C.1.2.2.2.2.2.2.2.1 C.1.2.2.2.2.2.2.2.2
      rw [hret] at hcb
      exact va_runIN (As := As.map (xv (yad base scr))) (rest := rest.map (xv (yad base scr))) (b := yad base scr b) ⟨C.1.1, C.1.2.1, C.1.2.2.1, C.1.2.2.2.1, ts⟩ hmet ⟨hcb, hnm, ts _ hin⟩ (H := H) (p := p) (l := l) (e := e) (R := R) (s := s) (m := m) (args := args) (below := below) (meth := meth) (c := c) (locs := locs) (cells := N - K.1) (slots := sl - K.2.1) (g := F0 m pc ls (List.map (xv (yad base scr)) (As.reverse ++ .ref b :: rest))) ⟨y_frameblind, fun U hU hW => ⟨rfl, by rw [hU]; exact hz, by rw [hU]; exact hw.2, va_K.moved hW.alike C.1.2.2.2.2.2.2.1, xNw.moved hW C.1.2.2.2.2.2.1, va_AO.moved hW.alike C.2.2.1.1, va_AO.moved hW.alike C.2.2.1.2.1, yNw.moved hW C.2.2.1.2.2⟩⟩ rfl (by rw [List.length_map]; exact hn) hl.1 (by show List.map (xv (yad base scr)) (As.reverse ++ .ref b :: rest) = _; rw [List.map_append, List.map_reverse]; rfl) (by show 2 * 0 + _ ≤ 8; rw [xcat_sum]; omega) hd ⟨by omega, by omega⟩
  intro T1 hT X
  obtain ⟨v, st₀, t, T', L, q0, X', hLo, e1, e2, ⟨⟨hv, w', hw', hP'⟩, hz', hk⟩, stp⟩ := hrun T1 hT X
  cases hv
  rw [q0] at hz' hk
  have hS2 : va_S (yA base) s.heap T'.heap (locs ++ L) := ⟨Nat.le_trans hS.1 (by rw [e1]; exact hz'), fun q a1 a2 => by rw [e1, hk q (Nat.lt_of_lt_of_le a1 hS.1) a2]; exact hS.2.1 q a1 a2, fun q hq => by
      rcases List.mem_append.mp hq with h | h
      · exact hS.2.2 q h
      · exact hLo q h⟩
  have := kk w' hw' p l e R s m args below meth c D tc base scr T'.heap (locs ++ L) Z ls C ⟨⟨by omega, by omega, h3⟩, by rw [e1]; exact hP'⟩ hS2 hl hE
  rw [show N1 - K.1 = N - K.1 + (N1 - N) by omega, show sl1 - K.2.1 = sl - K.2.1 + (sl1 - sl) by omega] at this
  obtain ⟨t2, a1, b2⟩ := this T' rfl X'
  exact ⟨t2, stp t2 a1, b2⟩
