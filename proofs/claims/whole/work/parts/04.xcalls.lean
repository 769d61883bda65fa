theorem xlv_args (ad : Nat → Nat) : ∀ (av : List Value) (i : Nat), lv_args i (av.map (xv ad)) = xlv ad (lv_args i av) := by
  intro av
  induction av with
  | nil => intro i; rfl
  | cons v t ih =>
    intro i
    show (i, xv ad v) :: lv_args (if (xv ad v).category = 2 then i + 2 else i + 1) (t.map (xv ad)) = _
    rw [xv_cat, ih]
    rfl
theorem lg_sl_len (ad : Nat → Nat) (av : List Value) : (lg_sl (av.map (xv ad))).length = (lg_sl av).length := by
  unfold lg_sl
  induction av with
  | nil => rfl
  | cons v t ih =>
    simp only [List.map_cons, List.flatMap_cons, List.length_append, xv_cat, ih]
    split <;> rfl
theorem xcat_sum (ad : Nat → Nat) (st : List Value) : ((st.map (xv ad)).map fun v => v.category).sum = (st.map fun v => v.category).sum := by
  rw [List.map_map]
  congr 2
  funext v
  exact xv_cat ad v
theorem xNw.moved {s U : State} (hW : s.WarmedH U.vm) (h : xNw s) : xNw U := by
  intro q hq
  have hb : xNb q = true := (List.mem_filter.mp hq).2
  have h1 := h q hq
  cases q with
  | fieldLinkNest a i b n d h0 => exact va_Nw.warmF hW h1
  | _ => simp [xNb] at hb
theorem xNw.same {s U : State} (hW : s.vm = U.vm) (h : xNw s) : xNw U := by
  intro q hq
  have hb : xNb q = true := (List.mem_filter.mp hq).2
  have h1 := h q hq
  cases q with
  | fieldLinkNest a i b n d h0 => exact va_Nw.same rfl hW h1
  | _ => simp [xNb] at hb
/-- a method's start, in a world w at places ad -/
def xPre (D : va_G) (tc ad : Nat → Nat) (sz : Nat) (w : xW) (U : State) : Prop := U.heap.size = sz ∧ va_P D vwCl (xws tc ad w) U.heap ∧ va_K D vwCl (xtys tc) U ∧ xNw U ∧ ∀ i j, i < xN → j < xN → ad i = ad j → i = j
def xPost (D : va_G) (tc ad : Nat → Nat) (A : Nat → Prop) (Q : Option Value → xW → Prop) : Array Value → State → Outcome → State → Prop := fun _ st oc t => (∃ (r : Option Value) (w' : xW), oc = .returned (r.map (xv ad)) ∧ Q r w' ∧ va_P D vwCl (xws tc ad w') t.heap) ∧ va_F A st t
theorem x_met {M : xM} {av : List Value} {w : xW} {Q : Option Value → xW → Prop} (hS : XP M 0 (lv_args 0 av) [] w Q) (hav : (lg_sl av).length ≤ M.2.2.1) (hy : plainName M.1.cls = true) (l : Launch) (D : va_G) (tc ad : Nat → Nat) (sz : Nat) :
    Met l M.1 (xWs M) (xRm M.2.2.2.2) (va_Pc (av.map (xv ad)) (xPre D tc ad sz w)) (xPost D tc ad (va_A (xws tc ad w) sz) Q) 0 0 (va_A (xws tc ad w) sz) := by
  refine Met.ofW (cc := M.2.1) (maxL := M.2.2.1) (ret := M.2.2.2.1) hy rfl ?_
  intro p e s m args below meth c s₁ B hml hv
  obtain ⟨rfl, hsz, hP, hK, hNw, hinj⟩ := hv
  have hx := B.exec
  have hb := B.bytes
  have hr := B.returns
  have hts := atoms_spec (ws := xWs M) B.pre
  have hown : s.vm.findClass M.1.cls = some m.cls := findClass_of_methodNamed B.named
  have hlocks := B.notSynchronized
  subst hsz
  have hD : xD ad (va_A (xws tc ad w) s.heap.size) := ⟨hinj, fun k hk => va_A.in (xws_at hk)⟩
  have hl := lv_entry (av.map (xv ad)) (n := M.2.2.1) (by rw [lg_sl_len]; exact hav)
  rw [lg_entry_eq]
  rw [xlv_args] at hl
  refine hS p l e _ s m _ below meth c D tc ad (va_A (xws tc ad w) s.heap.size) s.heap s.heap [] 0 0 _ _ ⟨hx, hb, hml, hown, fun w h => hts w (List.mem_cons_of_mem _ h), hNw, hK, Nat.le_refl _, Nat.le_refl _⟩ (Nat.zero_le _) (Nat.zero_le _) (fun q h => Or.inr h) hP hD va_S.rf hl ?_
  intro r w' H' locs' pc' ls' hq hP' hS' hR
  cases r with
  | none => exact W.vret hx hb (hr.trans hR.1) (fun t ht hW => ⟨⟨none, w', rfl, hq, by rw [ht]; exact hP'⟩, hS'.F ht⟩) hS'.2.2 hR.2 (hlocks := hlocks)
  | some v =>
    cases v with
    | int x =>
      obtain ⟨⟨ty, h1, h2⟩, h3⟩ := hR
      exact W.zret hx hb (hr.trans h1) h2 (fun t ht hW => ⟨⟨some (.int x), w', rfl, hq, by rw [ht]; exact hP'⟩, hS'.F ht⟩) hS'.2.2 h3 (hlocks := hlocks)
    | long x => exact W.lret hx hb (hr.trans hR.1) (fun t ht hW => ⟨⟨some (.long x), w', rfl, hq, by rw [ht]; exact hP'⟩, hS'.F ht⟩) hS'.2.2 hR.2 (hlocks := hlocks)
    | double x => exact W.dret hx hb (hr.trans hR.1) (fun t ht hW => ⟨⟨some (.double x), w', rfl, hq, by rw [ht]; exact hP'⟩, hS'.F ht⟩) hS'.2.2 hR.2 (hlocks := hlocks)
    | float x => exact absurd hR id
    | null => exact absurd hR id
    | ref x => exact absurd hR id
    | retAddr x => exact absurd hR id
/-- what the tables say of a call's link -/
def xLnk (own : String) (index : Nat) (M : xM) (n : Nat) : Prop := Cond.methodLink own index M.1 ∈ xTs ∧ Cond.initialized M.1.cls ∈ xTs ∧ Cond.code M.1 M.2.1 M.2.2.1 M.2.2.2.1 ∈ xTs ∧ plainName M.1.cls = true ∧ M.1.cls ≠ "java/lang/invoke/MethodHandle" ∧ M.1.cls ≠ "java/lang/invoke/VarHandle" ∧ (parseMethodDescriptor M.1.desc).map (fun d => d.parameters.length) = some n
def xLnkV (own : String) (index : Nat) (M : xM) (ci n : Nat) : Prop := xLnk own index M n ∧ Cond.instanceMethod M.1 ∈ xTs ∧ Cond.selects M.1.cls M.1 M.1 ∈ xTs ∧ vwCl[ci]?.map Prod.fst = some M.1.cls
def xLnkS (own : String) (index : Nat) (M : xM) (n : Nat) : Prop := xLnk own index M n ∧ Cond.static M.1 ∈ xTs
def xFit (M M' : xM) : Prop := M'.2.2.2.2 + 1 ≤ M.2.2.2.2 ∧ M'.2.2.1 ≤ 26
theorem xWs_good {M : xM} (h : Cond.code M.1 M.2.1 M.2.2.1 M.2.2.2.1 ∈ xTs) : GoodIn xTs (xWs M) := by
  intro w hw
  rcases List.mem_cons.mp hw with rfl | hw
  · exact xTs_good _ h
  · exact xTs_good _ hw
theorem x_callB {M M' : xM} {own : String} {index n : Nat} {R : Room} {s : State} {args : Array Value} (hts : ∀ w ∈ xTs, w.before args s = true) (hL : xLnk own index M' n) (hF : xFit M M') (h1 : M.2.2.2.2 ≤ R.frames) (h2 : 45 * M.2.2.2.2 ≤ R.locals) : CallB R s args own index M'.1 M'.2.1 M'.2.2.1 M'.2.2.2.1 (xWs M') (xRm M'.2.2.2.2) 0 0 n := by
  obtain ⟨a1, a2, a3, a4, a5, a6, a7⟩ := hL
  obtain ⟨f1, f2⟩ := hF
  refine callB_of n hts (xWs_good a3) rfl rfl rfl (hts _ a2) (hts _ a1) ⟨a5, a6, a7⟩ ⟨?_, ?_⟩
  · show M'.2.2.2.2 + 1 ≤ R.frames
    omega
  · show 8 + (M'.2.2.1 + 11) + 45 * M'.2.2.2.2 ≤ R.locals
    omega
theorem x_frameblind {D : va_G} {tc ad : Nat → Nat} {sz : Nat} {w : xW} {av : List Value} : FrameBlind (va_Pc av (xPre D tc ad sz w)) := by
  intro a U g mk q
  obtain ⟨q0, q1, qP, qK, qN, qi⟩ := q
  exact ⟨q0, q1, qP, va_K.moved (u := U) (U := U.calling g mk a) (Vm.Alike.refl U.vm) qK, xNw.same (s := U) (U := U.calling g mk a) rfl qN, qi⟩
section XCALL
variable {M M' : xM} {pc pc' index n : Nat} {lv : List (Nat × Value)} {rest st As : List Value} {w : xW} {Q Q' : Option Value → xW → Prop}
/-- behind a call: the world that came back, nothing else changed -/
theorem x_back {p : Program} {l : Launch} {e : Env} {R : Room} {s : State} {m : MethodId} {args : Array Value} {below : List Frame} {meth : Method} {c : Code} {D : va_G} {tc ad : Nat → Nat} {A : Nat → Prop} {H0 H : Heap} {locs : List Loc} {cells slots : Nat} {Z : State → Prop} {ls : Array Slot} {a : Array Value} {st0 rest0 : List Value}
    (hr : va_Run p l e R s m args below meth c H locs cells slots 0 0 (F0 m pc ls st0) rest0 (xPost D tc ad (va_A (xws tc ad w) H.size) Q' a) (va_A (xws tc ad w) H.size)) (hA : ∀ q, H0.size ≤ q → A q) (hD : xD ad A) (hS : va_S A H0 H locs)
    (kk : ∀ (r : Option Value) (w' : xW) (H1 : Heap) (locs1 : List Loc), Q' r w' → va_P D vwCl (xws tc ad w') H1 → va_S A H0 H1 locs1 → W p l e R s m args below meth c H1 locs1 cells slots Z (F0 m (pc + 3) ls ((r.map (xv ad)).toList ++ rest0))) : W p l e R s m args below meth c H locs cells slots Z (F0 m pc ls st0) := by
  have hF : ∀ q, va_A (xws tc ad w) H.size q → A q := by
    intro q h
    rcases h with ⟨k, e, h⟩ | h
    · obtain ⟨h1, h2⟩ := xws_lt h
      have : q = ad k := congrArg Prod.fst h2
      rw [this]
      exact hD.2 k h1
    · exact hA q (Nat.le_trans hS.1 h)
  intro T hT X
  obtain ⟨v, st₀, t, T', L, h0, X', hL, e1, e2, ⟨⟨r, w', hv, hq, hP'⟩, hz, hk⟩, st⟩ := hr T hT X
  cases hv
  rw [h0] at hz hk
  have hS' : va_S A H0 T'.heap (locs ++ L) := ⟨Nat.le_trans hS.1 (by rw [e1]; exact hz), fun q h1 h2 => by rw [e1, hk q (Nat.lt_of_lt_of_le h1 hS.1) (fun z => h2 (hF q z))]; exact hS.2.1 q h1 h2, fun q hq => by
      rcases List.mem_append.mp hq with h | h
      · exact hS.2.2 q h
      · exact hF _ (hL q h)⟩
  obtain ⟨t2, a1, b1⟩ := kk r w' T'.heap (locs ++ L) hq (by rw [e1]; exact hP') hS' T' rfl X'
  exact ⟨t2, st t2 a1, b1⟩
theorem x_callV {b ci : Nat} {fs : List Value} (hd : xAt M pc (.invokevirtual index) 3 pc') (hL : xLnkV M.1.cls index M' ci n) (hF : xFit M M') (hw : w b = .inr (ci, fs)) (hb : b < xN) (hn : As.length = n) (hst : st = As.reverse ++ .ref b :: rest) (hr : (rest.map fun v => v.category).sum ≤ 8) (hav : (lg_sl (.ref b :: As)).length ≤ M'.2.2.1)
    (hS' : XP M' 0 (lv_args 0 (.ref b :: As)) [] w Q') (kk : ∀ r w', Q' r w' → XP M pc' lv (r.toList ++ rest) w' Q) : XP M pc lv st w Q := by
  intro p l e R s m args below meth c D tc ad A H0 H locs cells slots Z ls C hc hsl hA hP hD hS hl hE
  obtain ⟨hd, rfl⟩ := hd
  subst hst
  obtain ⟨hL, hi, hse, hcl⟩ := hL
  have hmet := x_met hS' hav hL.2.2.2.1 l D tc ad H.size
  have hcb := x_callB (M := M) C.2.2.2.2.1 hL hF C.2.2.2.2.2.2.2.1 C.2.2.2.2.2.2.2.2
  obtain ⟨⟨CN, T, N⟩, hcl, hcn⟩ : ∃ q : vw_C, vwCl[ci]? = some q ∧ q.1 = M'.1.cls := by
    cases h : vwCl[ci]? with
    | none => rw [h] at hcl; cases hcl
    | some q => rw [h] at hcl; exact ⟨q, rfl, Option.some.inj hcl⟩
  have hrecv := va_recv C.2.2.2.2.2.2.1 hP hcl (xE_obj hb hw)
  rw [hcn] at hrecv
  refine x_back (w := w) (Q' := Q') (va_runV (As := As.map (xv ad)) (rest := rest.map (xv ad)) (b := ad b) (C := M'.1.cls) ⟨C.1, C.2.1, C.2.2.1, C.2.2.2.1, C.2.2.2.2.1⟩ hmet ⟨hcb, C.2.2.2.2.1 _ hi, C.2.2.2.2.1 _ hse⟩ ⟨x_frameblind, hrecv, fun U hU hW => ⟨rfl, by rw [hU], by rw [hU]; exact hP, va_K.moved hW.alike C.2.2.2.2.2.2.1, xNw.moved hW C.2.2.2.2.2.1, hD.1⟩⟩ rfl (by rw [List.length_map]; exact hn) hl.1 (by show List.map (xv ad) (As.reverse ++ .ref b :: rest) = _; rw [List.map_append, List.map_reverse]; rfl) (by show 2 * 0 + _ ≤ 8; rw [xcat_sum]; omega) hd ⟨hc, hsl⟩) hA hD hS (fun r w' H locs hq hP hS => ?_)
  have h9 := kk r w' hq p l e R s m args below meth c D tc ad A H0 H locs cells slots Z ls C hc hsl hA hP hD hS hl hE
  rw [List.map_append] at h9
  cases r <;> exact h9
theorem x_callS (hd : xAt M pc (.invokestatic index) 3 pc') (hL : xLnkS M.1.cls index M' n) (hF : xFit M M') (hn : As.length = n) (hst : st = As.reverse ++ rest) (hr : (rest.map fun v => v.category).sum ≤ 8) (hav : (lg_sl As).length ≤ M'.2.2.1)
    (hS' : XP M' 0 (lv_args 0 As) [] w Q') (kk : ∀ r w', Q' r w' → XP M pc' lv (r.toList ++ rest) w' Q) : XP M pc lv st w Q := by
  intro p l e R s m args below meth c D tc ad A H0 H locs cells slots Z ls C hc hsl hA hP hD hS hl hE
  obtain ⟨hd, rfl⟩ := hd
  subst hst
  obtain ⟨hL, hi⟩ := hL
  have hmet := x_met hS' hav hL.2.2.2.1 l D tc ad H.size
  have hcb := x_callB (M := M) C.2.2.2.2.1 hL hF C.2.2.2.2.2.2.2.1 C.2.2.2.2.2.2.2.2
  refine x_back (w := w) (Q' := Q') (va_runS (As := As.map (xv ad)) (rest := rest.map (xv ad)) ⟨C.1, C.2.1, C.2.2.1, C.2.2.2.1, C.2.2.2.2.1⟩ hmet ⟨hcb, C.2.2.2.2.1 _ hi⟩ ⟨x_frameblind, fun U hU hW => ⟨rfl, by rw [hU], by rw [hU]; exact hP, va_K.moved hW.alike C.2.2.2.2.2.2.1, xNw.moved hW C.2.2.2.2.2.1, hD.1⟩⟩ rfl (by rw [List.length_map]; exact hn) hl.1 (by show List.map (xv ad) (As.reverse ++ rest) = _; rw [List.map_append, List.map_reverse]) (by show 2 * 0 + _ ≤ 8; rw [xcat_sum]; omega) hd ⟨hc, hsl⟩) hA hD hS (fun r w' H locs hq hP hS => ?_)
  have h9 := kk r w' hq p l e R s m args below meth c D tc ad A H0 H locs cells slots Z ls C hc hsl hA hP hD hS hl hE
  rw [List.map_append] at h9
  cases r <;> exact h9
theorem x_l2dbits {x : Int64} (hd : xAt M pc (.invokestatic index) 3 pc') (hlink : Cond.methodLink M.1.cls index ⟨"java/lang/Double", "longBitsToDouble", "(J)D"⟩ ∈ xTs) (hnat : Cond.native ⟨"java/lang/Double", "longBitsToDouble", "(J)D"⟩ ∈ xTs) (hstat : Cond.static ⟨"java/lang/Double", "longBitsToDouble", "(J)D"⟩ ∈ xTs) (hinit : Cond.initialized "java/lang/Double" ∈ xTs) (hv : vn_snl2d x = false) (hf : 1 ≤ M.2.2.2.2) (hr : (rest.map fun v => v.category).sum ≤ 8) (kk : XP M pc' lv (.double x.toUInt64 :: rest) w Q) : XP M pc lv (.long x :: rest) w Q := by
  intro p l e R s m args below meth c D tc ad A H0 H locs cells slots Z ls C hc hsl hA hP hD hS hl hE
  obtain ⟨hd, rfl⟩ := hd
  have h1 := C.2.2.2.2.2.2.2.1
  have h2 := C.2.2.2.2.2.2.2.2
  refine vn_l2d C.1 C.2.1 (C.2.2.1.trans hl.1.symm) C.2.2.2.1 (C.2.2.2.2.1 _ hlink) (C.2.2.2.2.1 _ hnat) (C.2.2.2.2.1 _ hstat) (C.2.2.2.2.1 _ hinit) hv (by omega) (by rw [xcat_sum]; omega) hd ?_
  exact kk p l e R s m args below meth c D tc ad A H0 H locs cells slots Z ls C hc hsl hA hP hD hS hl hE
theorem x_tableIn {dflt lo hi : Int} {offs : Array Int} {len : Nat} {x : Int32} {off : Int} {tgt : Nat} (hd : decode M.2.1 pc = .ok (.tableswitch dflt lo hi offs, len)) (h1 : ¬ x.toInt < lo) (h2 : ¬ hi < x.toInt) (ho : offs[(x.toInt - lo).toNat]? = some off) (ht : (pc : Int) + off = (tgt : Int)) (kk : XP M tgt lv st w Q) : XP M pc lv (.int x :: st) w Q := by
  intro p l e R s m args below meth c D tc ad A H0 H locs cells slots Z ls C hc hsl hA hP hD hS hl hE
  refine lv_tableIn C.1 C.2.1 hd h1 h2 ho ht ?_
  exact kk p l e R s m args below meth c D tc ad A H0 H locs cells slots Z ls C hc hsl hA hP hD hS hl hE
theorem x_tableOut {dflt lo hi : Int} {offs : Array Int} {len : Nat} {x : Int32} {tgt : Nat} (hd : decode M.2.1 pc = .ok (.tableswitch dflt lo hi offs, len)) (h : x.toInt < lo ∨ hi < x.toInt) (ht : (pc : Int) + dflt = (tgt : Int)) (kk : XP M tgt lv st w Q) : XP M pc lv (.int x :: st) w Q := by
  intro p l e R s m args below meth c D tc ad A H0 H locs cells slots Z ls C hc hsl hA hP hD hS hl hE
  refine lv_tableOut C.1 C.2.1 hd h ht ?_
  exact kk p l e R s m args below meth c D tc ad A H0 H locs cells slots Z ls C hc hsl hA hP hD hS hl hE
end XCALL
