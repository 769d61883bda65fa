/-! ===== the law's judgement: as XP, with the script (place 365) beside the world ===== -/
abbrev mLaw : xM := (yL_law, code, 4, ret, 10)
def lwV (i : Nat) : List (Nat × Value) := [(3, .int (nI i)), (2, .ref 0), (1, .ref 31), (0, .ref 365)]
def lwC (L : Nat) (xs : Nat → Int32) (p : Program) (R : Room) (s : State) (m : MethodId) (args : Array Value) (c : Code) (D : va_G) (tc : Nat → Nat) (b base cells slots : Nat) : Prop := xC mLaw p R s m args c D tc ∧ (cells ≤ R.cells ∧ slots ≤ R.slots) ∧ va_X b L xs s s.heap ∧ b < base ∧ s.heap.size = base
def lwP (L : Nat) (xs : Nat → Int32) (i pc : Nat) (st : List Value) (S : xS) : Prop :=
  ∀ (p : Program) (l : Launch) (e : Env) (R : Room) (s : State) (m : MethodId) (args : Array Value) (below : List Frame) (meth : Method) (c : Code) (D : va_G) (tc : Nat → Nat) (b base cells slots : Nat) (Z : State → Prop) (H : Heap) (locs : List Loc) (ls : Array Slot),
    lwC L xs p R s m args c D tc b base cells slots → va_P D vwCl (xws tc (yad base b) (xwS S)) H → va_S (yA base) s.heap H locs → lv_has ls 4 (xlv (yad base b) (lwV i)) →
    (∀ (H' : Heap) (locs' : List Loc) (ls' : Array Slot) (pc' : Nat), va_S (yA base) s.heap H' locs' → decode code pc' = .ok (.ireturn, 1) → W p l e R s m args below meth c H' locs' cells slots Z (F0 m pc' ls' [.int 1])) →
    W p l e R s m args below meth c H locs cells slots Z (F0 m pc ls (st.map (xv (yad base b))))
theorem yad_D (base b : Nat) : xD (yad base b) (yA base) := by
  refine ⟨fun i j hi hj h => ?_, fun k hk => ?_⟩
  · rw [yad_pi base b hi, yad_pi base b hj] at h
    exact pi_inj hi hj (by omega)
  · show base ≤ yad base b k
    rw [yad_pi base b hk]
    omega
theorem XP.ret {M : xM} {pc : Nat} {lv : List (Nat × Value)} {st : List Value} {w : xW} {Q : Option Value → xW → Prop} (h : XP M pc lv st w Q) : XP M pc lv st w (fun r w' => Q r w' ∧ ∃ pc', xRet M r pc') := by
  intro p l e R s m args below meth c D tc ad A H0 H locs cells slots Z ls C hc hsl hA hP hD hS hl hE
  exact h p l e R s m args below meth c D tc ad A H0 H locs cells slots Z ls C hc hsl hA hP hD hS hl (fun r w' H' locs' pc' ls' hq hP' hS' hR => hE r w' H' locs' pc' ls' ⟨hq, pc', hR⟩ hP' hS' hR)
/-- what stands for the number of a case -/
theorem and31 (v : Int32) : ∃ k : Nat, k < 32 ∧ v &&& nI 31 = nI k := by
  refine ⟨(v.toBitVec &&& 31#32).toNat, ?_, ?_⟩
  · rw [BitVec.toNat_and]
    exact Nat.lt_succ_of_le Nat.and_le_right
  · apply Int32.toBitVec_inj.mp
    show v.toBitVec &&& (nI 31).toBitVec = _
    have e : (nI 31).toBitVec = 31#32 := by decide
    rw [e]
    show _ = BitVec.ofNat 32 _
    simp
theorem low_head : ∀ L, L < 6 → ∀ i, i < 6 → nI L - nI 6 < nI i := by decide
section LAWR
variable {L : Nat} {xs : Nat → Int32} {i pc pc' tgt : Nat} {off : Int} {st : List Value} {S : xS}
theorem l_iconst {n : Int} {v : Int32} (hd : xAt mLaw pc (.iconst n) 1 pc') (hv : Int32.ofInt n = v) (k : lwP L xs i pc' (.int v :: st) S) : lwP L xs i pc st S := by
  intro p l e R s m args below meth c D tc b base cells slots Z H locs ls C hP hS hl hE
  obtain ⟨hd, rfl⟩ := hd
  refine lv_iconst C.1.1 C.1.2.1 hd hv ?_
  exact k p l e R s m args below meth c D tc b base cells slots Z H locs ls C hP hS hl hE
theorem l_bipush {n : Int} {v : Int32} (hd : xAt mLaw pc (.bipush n) 2 pc') (hv : (Int8.ofInt n).toInt32 = v) (k : lwP L xs i pc' (.int v :: st) S) : lwP L xs i pc st S := by
  intro p l e R s m args below meth c D tc b base cells slots Z H locs ls C hP hS hl hE
  obtain ⟨hd, rfl⟩ := hd
  refine lv_bipush C.1.1 C.1.2.1 hd hv ?_
  exact k p l e R s m args below meth c D tc b base cells slots Z H locs ls C hP hS hl hE
theorem l_iload  (hd : xAt mLaw pc (.iload_n 3) 1 pc') (k : lwP L xs i pc' (.int (nI i) :: st) S) : lwP L xs i pc st S := by
  intro p l e R s m args below meth c D tc b base cells slots Z H locs ls C hP hS hl hE
  obtain ⟨hd, rfl⟩ := hd
  refine lv_iload_n C.1.1 C.1.2.1 hd rfl (xget_at (lv := lwV i) (v := .int (nI i)) hl rfl) ?_
  exact k p l e R s m args below meth c D tc b base cells slots Z H locs ls C hP hS hl hE
theorem l_aload0  (hd : xAt mLaw pc (.aload_n 0) 1 pc') (k : lwP L xs i pc' (.ref 365 :: st) S) : lwP L xs i pc st S := by
  intro p l e R s m args below meth c D tc b base cells slots Z H locs ls C hP hS hl hE
  obtain ⟨hd, rfl⟩ := hd
  refine lv_aload_n C.1.1 C.1.2.1 hd rfl (xget_at (lv := lwV i) (v := .ref 365) hl rfl) ?_
  exact k p l e R s m args below meth c D tc b base cells slots Z H locs ls C hP hS hl hE
theorem l_aload1  (hd : xAt mLaw pc (.aload_n 1) 1 pc') (k : lwP L xs i pc' (.ref 31 :: st) S) : lwP L xs i pc st S := by
  intro p l e R s m args below meth c D tc b base cells slots Z H locs ls C hP hS hl hE
  obtain ⟨hd, rfl⟩ := hd
  refine lv_aload_n C.1.1 C.1.2.1 hd rfl (xget_at (lv := lwV i) (v := .ref 31) hl rfl) ?_
  exact k p l e R s m args below meth c D tc b base cells slots Z H locs ls C hP hS hl hE
theorem l_aload2  (hd : xAt mLaw pc (.aload_n 2) 1 pc') (k : lwP L xs i pc' (.ref 0 :: st) S) : lwP L xs i pc st S := by
  intro p l e R s m args below meth c D tc b base cells slots Z H locs ls C hP hS hl hE
  obtain ⟨hd, rfl⟩ := hd
  refine lv_aload_n C.1.1 C.1.2.1 hd rfl (xget_at (lv := lwV i) (v := .ref 0) hl rfl) ?_
  exact k p l e R s m args below meth c D tc b base cells slots Z H locs ls C hP hS hl hE
theorem l_iadd {a d : Nat} (hd : xAt mLaw pc .iadd 1 pc') (k : lwP L xs i pc' (.int (nI a + nI d) :: st) S) : lwP L xs i pc (.int (nI d) :: .int (nI a) :: st) S := by
  intro p l e R s m args below meth c D tc b base cells slots Z H locs ls C hP hS hl hE
  obtain ⟨hd, rfl⟩ := hd
  refine lv_iadd C.1.1 C.1.2.1 hd ?_
  exact k p l e R s m args below meth c D tc b base cells slots Z H locs ls C hP hS hl hE
theorem l_isub {x y : Int32} (hd : xAt mLaw pc .isub 1 pc') (k : lwP L xs i pc' (.int (x - y) :: st) S) : lwP L xs i pc (.int y :: .int x :: st) S := by
  intro p l e R s m args below meth c D tc b base cells slots Z H locs ls C hP hS hl hE
  obtain ⟨hd, rfl⟩ := hd
  refine lv_isub C.1.1 C.1.2.1 hd ?_
  exact k p l e R s m args below meth c D tc b base cells slots Z H locs ls C hP hS hl hE
theorem l_iand {x y : Int32} (hd : xAt mLaw pc .iand 1 pc') (k : lwP L xs i pc' (.int (x &&& y) :: st) S) : lwP L xs i pc (.int y :: .int x :: st) S := by
  intro p l e R s m args below meth c D tc b base cells slots Z H locs ls C hP hS hl hE
  obtain ⟨hd, rfl⟩ := hd
  refine lv_iand C.1.1 C.1.2.1 hd ?_
  exact k p l e R s m args below meth c D tc b base cells slots Z H locs ls C hP hS hl hE
theorem l_i2l {x : Int32} (hd : xAt mLaw pc .i2l 1 pc') (k : lwP L xs i pc' (.long x.toInt64 :: st) S) : lwP L xs i pc (.int x :: st) S := by
  intro p l e R s m args below meth c D tc b base cells slots Z H locs ls C hP hS hl hE
  obtain ⟨hd, rfl⟩ := hd
  refine lv_i2l C.1.1 C.1.2.1 hd rfl ?_
  exact k p l e R s m args below meth c D tc b base cells slots Z H locs ls C hP hS hl hE
theorem l_lshl {x : Int64} {y : Int32} (hd : xAt mLaw pc .lshl 1 pc') (k : lwP L xs i pc' (.long (x <<< (y.toInt64 &&& 63)) :: st) S) : lwP L xs i pc (.int y :: .long x :: st) S := by
  intro p l e R s m args below meth c D tc b base cells slots Z H locs ls C hP hS hl hE
  obtain ⟨hd, rfl⟩ := hd
  refine lv_lshl C.1.1 C.1.2.1 hd rfl ?_
  exact k p l e R s m args below meth c D tc b base cells slots Z H locs ls C hP hS hl hE
theorem l_land {x y : Int64} (hd : xAt mLaw pc .land 1 pc') (k : lwP L xs i pc' (.long (x &&& y) :: st) S) : lwP L xs i pc (.long y :: .long x :: st) S := by
  intro p l e R s m args below meth c D tc b base cells slots Z H locs ls C hP hS hl hE
  obtain ⟨hd, rfl⟩ := hd
  refine lv_land C.1.1 C.1.2.1 hd ?_
  exact k p l e R s m args below meth c D tc b base cells slots Z H locs ls C hP hS hl hE
theorem l_lor {x y : Int64} (hd : xAt mLaw pc .lor 1 pc') (k : lwP L xs i pc' (.long (x ||| y) :: st) S) : lwP L xs i pc (.long y :: .long x :: st) S := by
  intro p l e R s m args below meth c D tc b base cells slots Z H locs ls C hP hS hl hE
  obtain ⟨hd, rfl⟩ := hd
  refine lv_lor C.1.1 C.1.2.1 hd ?_
  exact k p l e R s m args below meth c D tc b base cells slots Z H locs ls C hP hS hl hE
theorem l_lcmp {x y : Int64} (hd : xAt mLaw pc .lcmp 1 pc') (k : lwP L xs i pc' (.int (lg_cmp x y) :: st) S) : lwP L xs i pc (.long y :: .long x :: st) S := by
  intro p l e R s m args below meth c D tc b base cells slots Z H locs ls C hP hS hl hE
  obtain ⟨hd, rfl⟩ := hd
  refine W.lcmp C.1.1 C.1.2.1 hd ?_
  exact k p l e R s m args below meth c D tc b base cells slots Z H locs ls C hP hS hl hE
theorem l_ldc2 {j : Nat} {v : Int64} (hd : xAt mLaw pc (.ldc2_w j) 3 pc') (hm : Cond.constantLong mLaw.1.cls j v ∈ xTs) (k : lwP L xs i pc' (.long v :: st) S) : lwP L xs i pc st S := by
  intro p l e R s m args below meth c D tc b base cells slots Z H locs ls C hP hS hl hE
  obtain ⟨hd, rfl⟩ := hd
  refine lv_ldc2 C.1.1 C.1.2.1 C.1.2.2.2.1 (C.1.2.2.2.2.1 _ hm) hd ?_
  exact k p l e R s m args below meth c D tc b base cells slots Z H locs ls C hP hS hl hE
theorem l_sld {j : Nat} (hd : xAt mLaw pc .iaload 1 pc') (hj : j < L) (hL : L ≤ 3072) (k : lwP L xs i pc' (.int (xs j) :: st) S) : lwP L xs i pc (.int (nI j) :: .ref 365 :: st) S := by
  intro p l e R s m args below meth c D tc b base cells slots Z H locs ls C hP hS hl hE
  obtain ⟨hd, rfl⟩ := hd
  have hb := C.2.2.2.1
  have hz := C.2.2.2.2
  show W p l e R s m args below meth c H locs cells slots Z (F0 m pc ls (.int (nI j) :: .ref b :: st.map (xv (yad base b))))
  refine va_sld (A := yA base) C.1.1 C.1.2.1 C.2.2.1 (by omega) (Nat.not_le.mpr hb) hS (vp_in_nI hj (by omega)) hd ?_
  rw [nI_clamp (by omega)]
  exact k p l e R s m args below meth c D tc b base cells slots Z H locs ls C hP hS hl hE
theorem l_slen (hd : xAt mLaw pc .arraylength 1 pc') (k : lwP L xs i pc' (.int (nI L) :: st) S) : lwP L xs i pc (.ref 365 :: st) S := by
  intro p l e R s m args below meth c D tc b base cells slots Z H locs ls C hP hS hl hE
  obtain ⟨hd, rfl⟩ := hd
  have hb := C.2.2.2.1
  have hz := C.2.2.2.2
  show W p l e R s m args below meth c H locs cells slots Z (F0 m pc ls (.ref b :: st.map (xv (yad base b))))
  refine va_slen (A := yA base) C.1.1 C.1.2.1 C.2.2.1 (by omega) (Nat.not_le.mpr hb) hS hd ?_
  exact k p l e R s m args below meth c D tc b base cells slots Z H locs ls C hP hS hl hE
theorem l_icmp_eq {v : Int32} (hd : xBr mLaw pc (.if_icmp .eq) off pc' tgt) (k : lwP L xs i tgt st S) : lwP L xs i pc (.int v :: .int v :: st) S := by
  intro p l e R s m args below meth c D tc b base cells slots Z H locs ls C hP hS hl hE
  obtain ⟨hd, rfl, ht⟩ := hd
  refine lv_icmp_eq C.1.1 C.1.2.1 hd ht (fun h => ?_) (fun h => absurd rfl h)
  exact k p l e R s m args below meth c D tc b base cells slots Z H locs ls C hP hS hl hE
theorem l_if_eq {v : Int32} (hd : xBr mLaw pc (.ifCond .eq) off pc' tgt) (hv : v = 0) (k : lwP L xs i tgt st S) : lwP L xs i pc (.int v :: st) S := by
  intro p l e R s m args below meth c D tc b base cells slots Z H locs ls C hP hS hl hE
  obtain ⟨hd, rfl, ht⟩ := hd
  refine lv_if_eq C.1.1 C.1.2.1 hd ht (fun h => ?_) (fun h => absurd hv h)
  exact k p l e R s m args below meth c D tc b base cells slots Z H locs ls C hP hS hl hE
theorem l_icmp_gt {x y : Int32} (hd : xBr mLaw pc (.if_icmp .gt) off pc' tgt) (kt : y < x → lwP L xs i tgt st S) (kf : ¬ y < x → lwP L xs i pc' st S) : lwP L xs i pc (.int y :: .int x :: st) S := by
  intro p l e R s m args below meth c D tc b base cells slots Z H locs ls C hP hS hl hE
  obtain ⟨hd, rfl, ht⟩ := hd
  refine lv_icmp_gt C.1.1 C.1.2.1 hd ht (fun h => ?_) (fun h => ?_)
  · exact kt h p l e R s m args below meth c D tc b base cells slots Z H locs ls C hP hS hl hE
  · exact kf h p l e R s m args below meth c D tc b base cells slots Z H locs ls C hP hS hl hE
theorem l_goto (hd : xBr mLaw pc .goto off pc' tgt) (k : lwP L xs i tgt st S) : lwP L xs i pc st S := by
  intro p l e R s m args below meth c D tc b base cells slots Z H locs ls C hP hS hl hE
  obtain ⟨hd, -, ht⟩ := hd
  refine lv_goto C.1.1 C.1.2.1 hd ht ?_
  exact k p l e R s m args below meth c D tc b base cells slots Z H locs ls C hP hS hl hE
theorem l_tableIn {dflt lo hi : Int} {offs : Array Int} {len : Nat} {x : Int32} (hd : decode code pc = .ok (.tableswitch dflt lo hi offs, len)) (h1 : ¬ x.toInt < lo) (h2 : ¬ hi < x.toInt) (ho : offs[(x.toInt - lo).toNat]? = some off) (ht : (pc : Int) + off = (tgt : Int)) (k : lwP L xs i tgt st S) : lwP L xs i pc (.int x :: st) S := by
  intro p l e R s m args below meth c D tc b base cells slots Z H locs ls C hP hS hl hE
  refine lv_tableIn C.1.1 C.1.2.1 hd h1 h2 ho ht ?_
  exact k p l e R s m args below meth c D tc b base cells slots Z H locs ls C hP hS hl hE
theorem l_tableOut {dflt lo hi : Int} {offs : Array Int} {len : Nat} {x : Int32} (hd : decode code pc = .ok (.tableswitch dflt lo hi offs, len)) (h : x.toInt < lo ∨ hi < x.toInt) (ht : (pc : Int) + dflt = (tgt : Int)) (k : lwP L xs i tgt st S) : lwP L xs i pc (.int x :: st) S := by
  intro p l e R s m args below meth c D tc b base cells slots Z H locs ls C hP hS hl hE
  refine lv_tableOut C.1.1 C.1.2.1 hd h ht ?_
  exact k p l e R s m args below meth c D tc b base cells slots Z H locs ls C hP hS hl hE
theorem l_iinc (hd : xAt mLaw pc (.iinc 3 6) 3 pc') (k : lwP L xs (i + 6) pc' st S) : lwP L xs i pc st S := by
  intro p l e R s m args below meth c D tc b base cells slots Z H locs ls C hP hS hl hE
  obtain ⟨hd, rfl⟩ := hd
  obtain ⟨j, hj⟩ := List.getElem?_of_mem (List.mem_map.mpr ⟨(3, .int (nI i)), List.mem_cons_self, rfl⟩ : (3, Value.int (nI i)) ∈ xlv (yad base b) (lwV i))
  refine lv_iinc (lv' := xlv (yad base b) (lwV (i + 6))) C.1.1 C.1.2.1 hd hl hj (v := nI (i + 6)) (by rw [← nI_add]; rfl) (by decide) rfl (fun ls hl => ?_)
  exact k p l e R s m args below meth c D tc b base cells slots Z H locs ls C hP hS hl hE
theorem l_ret (h1 : xAt mLaw pc (.iconst 1) 1 pc') (h2 : decode code pc' = .ok (.ireturn, 1)) : lwP L xs i pc [] S := by
  intro p l e R s m args below meth c D tc b base cells slots Z H locs ls C hP hS hl hE
  obtain ⟨hd, rfl⟩ := h1
  refine lv_iconst (v := 1) C.1.1 C.1.2.1 hd (by decide) ?_
  exact hE _ _ _ _ hS h2
/-- script[i + d] -/
theorem l_scr {d : Nat} {n : Int} {p1 p2 p3 p4 p5 : Nat} (e1 : xAt mLaw pc (.aload_n 0) 1 p1) (e2 : xAt mLaw p1 (.iload_n 3) 1 p2) (e3 : xAt mLaw p2 (.iconst n) 1 p3) (e4 : xAt mLaw p3 .iadd 1 p4) (e5 : xAt mLaw p4 .iaload 1 p5) (hn : Int32.ofInt n = nI d) (hj : i + d < L) (hL : L ≤ 3072) (k : lwP L xs i p5 (.int (xs (i + d)) :: st) S) : lwP L xs i pc st S := by
  refine l_aload0 e1 (l_iload e2 (l_iconst e3 hn (l_iadd e4 ?_)))
  rw [nI_add]
  exact l_sld e5 hj hL k
theorem l_scr5 {d : Nat} {p1 p2 p3 p4 p5 : Nat} {n : Int} (e1 : xAt mLaw pc (.aload_n 0) 1 p1) (e2 : xAt mLaw p1 (.iload_n 3) 1 p2) (e3 : xAt mLaw p2 (.bipush n) 2 p3) (e4 : xAt mLaw p3 .iadd 1 p4) (e5 : xAt mLaw p4 .iaload 1 p5) (hn : (Int8.ofInt n).toInt32 = nI d) (hj : i + d < L) (hL : L ≤ 3072) (k : lwP L xs i p5 (.int (xs (i + d)) :: st) S) : lwP L xs i pc st S := by
  refine l_aload0 e1 (l_iload e2 (l_bipush e3 hn (l_iadd e4 ?_)))
  rw [nI_add]
  exact l_sld e5 hj hL k
theorem l_call {M' : xM} {index n r ci : Nat} {rest As : List Value} {Q' : Option Value → xS → Prop} (hd : xAt mLaw pc (.invokevirtual index) 3 pc') (hL : xLnkV mLaw.1.cls index M' ci n) (hF : xFit mLaw M') (hk : kd r = ci) (hci : ci < 10) (hb : r < xN) (hn : As.length = n) (hst : st = As.reverse ++ .ref r :: rest) (hr : (rest.map fun v => v.category).sum ≤ 8) (hav : (lg_sl (.ref r :: As)).length ≤ M'.2.2.1)
    (hS' : Sp M' (.ref r :: As) S Q') (kk : ∀ v S', Q' v S' → (∃ pc', xRet M' v pc') → lwP L xs i pc' (v.toList ++ rest) S') : lwP L xs i pc st S := by
  intro p l e R s m args below meth c D tc b base cells slots Z H locs ls C hP hS hl hE
  obtain ⟨hd, rfl⟩ := hd
  subst hst
  obtain ⟨hL, hi, hse, hcl⟩ := hL
  have hw : xwS S r = .inr (ci, sFs ci r S) := xwS_obj hk hci
  have hmet := x_met (XP.ret hS') hav hL.2.2.2.1 l D tc (yad base b) H.size
  have C0 := C.1
  have hcb := x_callB (M := mLaw) C0.2.2.2.2.1 hL hF C0.2.2.2.2.2.2.2.1 C0.2.2.2.2.2.2.2.2
  obtain ⟨⟨CN, T, N⟩, hcl, hcn⟩ : ∃ q : vw_C, vwCl[ci]? = some q ∧ q.1 = M'.1.cls := by
    cases h : vwCl[ci]? with
    | none => rw [h] at hcl; cases hcl
    | some q => rw [h] at hcl; exact ⟨q, rfl, Option.some.inj hcl⟩
  have hrecv := va_recv C0.2.2.2.2.2.2.1 hP hcl (xE_obj hb hw)
  rw [hcn] at hrecv
  have hD := yad_D base b
  have hz := C.2.2.2.2
  refine x_back (w := xwS S) (A := yA base) (H0 := s.heap) (va_runV (As := As.map (xv (yad base b))) (rest := rest.map (xv (yad base b))) (b := yad base b r) (C := M'.1.cls) ⟨C0.1, C0.2.1, C0.2.2.1, C0.2.2.2.1, C0.2.2.2.2.1⟩ hmet ⟨hcb, C0.2.2.2.2.1 _ hi, C0.2.2.2.2.1 _ hse⟩ ⟨x_frameblind, hrecv, fun U hU hW => ⟨rfl, by rw [hU], by rw [hU]; exact hP, va_K.moved hW.alike C0.2.2.2.2.2.2.1, xNw.moved hW C0.2.2.2.2.2.1, hD.1⟩⟩ rfl (by rw [List.length_map]; exact hn) hl.1 (by show List.map (xv (yad base b)) (As.reverse ++ .ref r :: rest) = _; rw [List.map_append, List.map_reverse]; rfl) (by show 2 * 0 + _ ≤ 8; rw [xcat_sum]; omega) hd C.2.1) (fun q h => by show base ≤ q; omega) hD hS (fun v w' H locs hq hP hS => ?_)
  obtain ⟨⟨S', rfl, hq⟩, hR⟩ := hq
  have h9 := kk v S' hq hR p l e R s m args below meth c D tc b base cells slots Z H locs ls C hP hS hl hE
  rw [List.map_append] at h9
  cases v <;> exact h9
/-- both sides answer an int -/
theorem int_of {M : xM} {v : Value} (hr : M.2.2.2.1 = some .int) (h : ∃ pc', xRet M (some v) pc') : ∃ y, v = .int y := by
  obtain ⟨pc', h⟩ := h
  cases v with
  | int y => exact ⟨y, rfl⟩
  | long y => exact absurd (hr.symm.trans h.1) (by decide)
  | double y => exact absurd (hr.symm.trans h.1) (by decide)
  | float y => exact absurd h id
  | null => exact absurd h id
  | ref y => exact absurd h id
  | retAddr y => exact absurd h id
end LAWR
