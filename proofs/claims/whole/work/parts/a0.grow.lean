/-! ===== growing worlds: cells in the order of their making ===== -/
/-- the place of the k-th cell made, and the other way round -/
def roN (k : Nat) : Nat :=
  if k < 5 then 31 + k else if k < 7 then 358 + k else if k < 10 then 29 + k
  else if k < 16 then [235, 165, 166, 236, 167, 168].getD (k - 10) 0
  else if k < 196 then (if (k - 16) % 3 = 0 then 175 + (k - 16) / 3 else if (k - 16) % 3 = 1 then 45 + 2 * ((k - 16) / 3) else 46 + 2 * ((k - 16) / 3))
  else if k < 198 then k - 157 else if k < 204 then k + 159 else if k < 324 then k + 33 else if k < 328 then k - 283 else if k < 334 then k - 159 else k - 334
def piN (p : Nat) : Nat :=
  if p < 31 then p + 334 else if p < 36 then p - 31 else if p < 39 then p - 29 else if p < 41 then p + 157 else if p < 45 then p + 283
  else if p < 165 then (if (p - 45) % 2 = 0 then 17 + 3 * ((p - 45) / 2) else 18 + 3 * ((p - 45) / 2))
  else if p < 169 then [11, 12, 14, 15].getD (p - 165) 0
  else if p < 175 then p + 159 else if p < 235 then 16 + 3 * (p - 175) else if p = 235 then 10 else if p = 236 then 13
  else if p < 357 then p - 33 else if p < 363 then p - 159 else p - 358
theorem ro_pi : ∀ p, p < 365 → roN (piN p) = p ∧ piN p < 365 := by decide +kernel
theorem pi_ro : ∀ k, k < 365 → piN (roN k) = k ∧ roN k < 365 := by decide +kernel
def yad (base scr : Nat) (p : Nat) : Nat := if p = 365 then scr else base + piN p
theorem yad_ro (base scr : Nat) {k : Nat} (h : k < 365) : yad base scr (roN k) = base + k := by
  have := pi_ro k h
  unfold yad
  rw [if_neg (by omega), this.1]
theorem yad_pi (base scr : Nat) {p : Nat} (h : p < 365) : yad base scr p = base + piN p := if_neg (by omega)
def yws (tc ad : Nat → Nat) (w : xW) (N : Nat) : va_W := (List.range N).map (fun k => (ad (roN k), xE tc ad (w (roN k))))
theorem yws_at {tc ad : Nat → Nat} {w : xW} {N k : Nat} (h : k < N) : (yws tc ad w N)[k]? = some (ad (roN k), xE tc ad (w (roN k))) := by
  unfold yws
  rw [List.getElem?_map, List.getElem?_range h]
  rfl
theorem yws_len {tc ad : Nat → Nat} {w : xW} {N : Nat} : (yws tc ad w N).length = N := by simp [yws]
theorem yws_lt {tc ad : Nat → Nat} {w : xW} {N k : Nat} {q : Nat × va_E} (h : (yws tc ad w N)[k]? = some q) : k < N ∧ q = (ad (roN k), xE tc ad (w (roN k))) := by
  have h1 : k < N := by
    have := (List.getElem?_eq_some_iff.mp h).1
    rwa [yws_len] at this
  rw [yws_at h1] at h
  exact ⟨h1, (Option.some.inj h).symm⟩
theorem yws_pl {tc ad : Nat → Nat} {w : xW} {N x : Nat} (h : piN x < N) (hx : x < 365) : (yws tc ad w N)[piN x]? = some (ad x, xE tc ad (w x)) := by
  rw [yws_at h, (ro_pi x hx).1]
theorem yws_set {tc ad : Nat → Nat} {w : xW} {N x : Nat} {e : va_E} (h : piN x < N) (hN : N ≤ 365) (hx : x < 365) : (yws tc ad w N).set (piN x) (ad x, xE tc ad e) = yws tc ad (xup w x e) N := by
  apply List.ext_getElem?
  intro j
  rw [List.getElem?_set]
  by_cases hj : j < N
  · rw [yws_at hj, yws_at hj, yws_len]
    by_cases hk : piN x = j
    · subst hk
      rw [if_pos rfl, if_pos h, (ro_pi x hx).1, xup_same]
    · rw [if_neg hk, xup_ne (fun e => hk (by rw [← e]; exact (pi_ro j (by omega)).1))]
  · have h1 : (yws tc ad w N)[j]? = none := List.getElem?_eq_none (by rw [yws_len]; omega)
    have h2 : (yws tc ad (xup w x e) N)[j]? = none := List.getElem?_eq_none (by rw [yws_len]; omega)
    rw [h1, h2, if_neg (by omega)]
theorem yws_app {tc ad : Nat → Nat} {w : xW} {N : Nat} {e : va_E} (hN : N < 365) : yws tc ad (xup w (roN N) e) (N + 1) = yws tc ad w N ++ [(ad (roN N), xE tc ad e)] := by
  unfold yws
  rw [List.range_succ, List.map_append]
  congr 1
  · apply List.map_congr_left
    intro k hk
    have hk := List.mem_range.mp hk
    rw [xup_ne (fun e => by have a := pi_ro k (by omega); have b := pi_ro N hN; rw [e, b.1] at a; omega)]
  · show [(ad (roN N), xE tc ad (xup w (roN N) e (roN N)))] = _
    rw [xup_same]
theorem yws_D {tc : Nat → Nat} {base scr : Nat} {w : xW} {N : Nat} (hN : N ≤ 365) : va_D (fun q => base ≤ q) (yws tc (yad base scr) w N) := by
  refine ⟨fun i j p q hi hj he => ?_, fun k q hk => ?_⟩
  · obtain ⟨h1, rfl⟩ := yws_lt hi
    obtain ⟨h2, rfl⟩ := yws_lt hj
    have he : yad base scr (roN i) = yad base scr (roN j) := he
    rw [yad_ro base scr (by omega), yad_ro base scr (by omega)] at he
    omega
  · obtain ⟨h1, rfl⟩ := yws_lt hk
    show base ≤ yad base scr (roN k)
    rw [yad_ro base scr (by omega)]
    omega
abbrev cPar : String := "ParcelMap$Parcel"
abbrev cWid : String := "ParcelMap$Wide"
/-- links of a nest mate's constructors, out of the tables -/
def yNb : Cond → Bool
  | .methodLinkNest .. => true
  | _ => false
def yNs : List Cond := lw_tbl.filter yNb
def yNw (U : State) : Prop := ∀ q ∈ yNs, va_Nw q U
theorem yNw.moved {s U : State} (hW : s.WarmedH U.vm) (h : yNw s) : yNw U := by
  intro q hq
  have hb : yNb q = true := (List.mem_filter.mp hq).2
  have h1 := h q hq
  cases q with
  | methodLinkNest a i b n => exact va_Nw.warmM hW h1
  | _ => simp [yNb] at hb
theorem yNw.same {s U : State} (hW : s.vm = U.vm) (h : yNw s) : yNw U := by
  intro q hq
  have hb : yNb q = true := (List.mem_filter.mp hq).2
  have h1 := h q hq
  cases q with
  | methodLinkNest a i b n => exact va_Nw.same rfl hW h1
  | _ => simp [yNb] at hb
/-- what stays through a walk -/
def YH (M : xM) (K : Nat × Nat × Nat × Nat) (p : Program) (R : Room) (s : State) (m : MethodId) (args : Array Value) (meth : Method) (c : Code) (D : va_G) (tc : Nat → Nat) (base : Nat) : Prop := xC M p R s m args c D tc ∧ meth.name = M.1.name ∧ (va_AO cPar s ∧ va_AO cWid s ∧ yNw s) ∧ (K.2.2.1 - K.1 ≤ R.cells ∧ K.2.2.2 - K.2.1 ≤ R.slots) ∧ s.heap.size = base + K.1
/-- the world as it stands -/
def YW (K : Nat × Nat × Nat × Nat) (base scr : Nat) (D : va_G) (tc : Nat → Nat) (N sl : Nat) (w : xW) (H : Heap) : Prop := (K.1 ≤ N ∧ K.2.1 ≤ sl ∧ N ≤ 365) ∧ va_P D vwCl (yws tc (yad base scr) w N) H
def yA (base : Nat) : Nat → Prop := fun q => base ≤ q
def YP (M : xM) (K : Nat × Nat × Nat × Nat) (pc : Nat) (lv : List (Nat × Value)) (st : List Value) (N sl : Nat) (w : xW) (E : Nat → List (Nat × Value) → List Value → Nat → Nat → xW → Prop) : Prop :=
  ∀ (p : Program) (l : Launch) (e : Env) (R : Room) (s : State) (m : MethodId) (args : Array Value) (below : List Frame) (meth : Method) (c : Code) (D : va_G) (tc : Nat → Nat) (base scr : Nat) (H : Heap) (locs : List Loc) (Z : State → Prop) (ls : Array Slot),
    YH M K p R s m args meth c D tc base → YW K base scr D tc N sl w H → va_S (yA base) s.heap H locs → lv_has ls M.2.2.1 (xlv (yad base scr) lv) →
    (∀ (pc' : Nat) (lv' : List (Nat × Value)) (st' : List Value) (N' sl' : Nat) (w' : xW) (H' : Heap) (locs' : List Loc) (ls' : Array Slot), E pc' lv' st' N' sl' w' → YW K base scr D tc N' sl' w' H' → va_S (yA base) s.heap H' locs' → lv_has ls' M.2.2.1 (xlv (yad base scr) lv') → W p l e R s m args below meth c H' locs' (N' - K.1) (sl' - K.2.1) Z (F0 m pc' ls' (st'.map (xv (yad base scr))))) →
    W p l e R s m args below meth c H locs (N - K.1) (sl - K.2.1) Z (F0 m pc ls (st.map (xv (yad base scr))))
/-- no more cells than were counted -/
theorem w_bound {p : Program} {l : Launch} {e : Env} {R : Room} {s : State} {m : MethodId} {args : Array Value} {below : List Frame} {meth : Method} {c : Code} {H : Heap} {locs : List Loc} {cells slots : Nat} {Q : State → Prop} {g : JFrame} (k : H.size ≤ s.heap.size + cells → W p l e R s m args below meth c H locs cells slots Q g) : W p l e R s m args below meth c H locs cells slots Q g := fun T hT X => k (by
  have h : T.heap.size ≤ s.heap.size + cells := X.same.2.2.1
  rw [hT] at h
  exact h) T hT X
/-- where a new cell lies -/
theorem y_addr {D : va_G} {tc : Nat → Nat} {base scr N q : Nat} {w : xW} {e : va_E} {H : Heap} (hN : N < 365) (hP : va_P D vwCl (yws tc (yad base scr) w N ++ [(q, e)]) H) (hD : va_D (yA base) (yws tc (yad base scr) w N ++ [(q, e)])) (hb : H.size ≤ base + N + 1) : q = yad base scr (roN N) := by
  have hq : (yws tc (yad base scr) w N ++ [(q, e)])[N]? = some (q, e) := by
    rw [List.getElem?_append_right (by rw [yws_len]; omega), yws_len, Nat.sub_self]
    rfl
  have lt : q < H.size := (hP N _ hq).lt
  have ge : base ≤ q := hD.2 N _ hq
  rw [yad_ro base scr hN]
  by_cases z : q - base < N
  · have hk : (yws tc (yad base scr) w N ++ [(q, e)])[q - base]? = some (yad base scr (roN (q - base)), xE tc (yad base scr) (w (roN (q - base)))) := by
      rw [List.getElem?_append_left (by rw [yws_len]; exact z), yws_at z]
    have := hD.1 (q - base) N _ _ hk hq (by show yad base scr (roN (q - base)) = q; rw [yad_ro base scr (by omega)]; omega)
    omega
  · omega
section YR
variable {M : xM} {K : Nat × Nat × Nat × Nat} {pc pc' tgt : Nat} {off : Int} {lv lv' : List (Nat × Value)} {st : List Value} {N sl : Nat} {w : xW} {E : Nat → List (Nat × Value) → List Value → Nat → Nat → xW → Prop}
theorem y_end (h : E pc lv st N sl w) : YP M K pc lv st N sl w E := by
  intro p l e R s m args below meth c D tc base scr H locs Z ls C hw hS hl hE
  exact hE pc lv st N sl w H locs ls h hw hS hl
theorem y_iconst {n : Int} {v : Int32} (hd : xAt M pc (.iconst n) 1 pc') (hv : Int32.ofInt n = v) (k : YP M K pc' lv (.int v :: st) N sl w E) : YP M K pc lv (st) N sl w E := by
  intro p l e R s m args below meth c D tc base scr H locs Z ls C hw hS hl hE
  obtain ⟨hd, rfl⟩ := hd
  refine lv_iconst C.1.1 C.1.2.1 hd hv ?_
  exact k p l e R s m args below meth c D tc base scr H locs Z ls C hw hS hl hE
theorem y_bipush {n : Int} {v : Int32} (hd : xAt M pc (.bipush n) 2 pc') (hv : (Int8.ofInt n).toInt32 = v) (k : YP M K pc' lv (.int v :: st) N sl w E) : YP M K pc lv (st) N sl w E := by
  intro p l e R s m args below meth c D tc base scr H locs Z ls C hw hS hl hE
  obtain ⟨hd, rfl⟩ := hd
  refine lv_bipush C.1.1 C.1.2.1 hd hv ?_
  exact k p l e R s m args below meth c D tc base scr H locs Z ls C hw hS hl hE
theorem y_sipush {n : Int} {v : Int32} (hd : xAt M pc (.sipush n) 3 pc') (hv : (Int16.ofInt n).toInt32 = v) (k : YP M K pc' lv (.int v :: st) N sl w E) : YP M K pc lv (st) N sl w E := by
  intro p l e R s m args below meth c D tc base scr H locs Z ls C hw hS hl hE
  obtain ⟨hd, rfl⟩ := hd
  refine lv_sipush C.1.1 C.1.2.1 hd hv ?_
  exact k p l e R s m args below meth c D tc base scr H locs Z ls C hw hS hl hE
theorem y_iload_n {i : Fin 4} {x : Int32} (hd : xAt M pc (.iload_n i) 1 pc') (h : xget lv i = some (.int x)) (k : YP M K pc' lv (.int x :: st) N sl w E) : YP M K pc lv (st) N sl w E := by
  intro p l e R s m args below meth c D tc base scr H locs Z ls C hw hS hl hE
  obtain ⟨hd, rfl⟩ := hd
  refine lv_iload_n C.1.1 C.1.2.1 hd rfl (xget_at hl h) ?_
  exact k p l e R s m args below meth c D tc base scr H locs Z ls C hw hS hl hE
theorem y_istore_n {i : Fin 4} {x : Int32} (hd : xAt M pc (.istore_n i) 1 pc') (hn : (i : Nat) < M.2.2.1) (hs : xs1 lv i (.int x) = lv') (k : YP M K pc' lv' st N sl w E) : YP M K pc lv (.int x :: st) N sl w E := by
  intro p l e R s m args below meth c D tc base scr H locs Z ls C hw hS hl hE
  obtain ⟨hd, rfl⟩ := hd
  subst hs
  refine lv_istore_n C.1.1 C.1.2.1 hd rfl hl hn (xs1_lv (yad base scr) lv i (.int x)) (fun ls hl => ?_)
  exact k p l e R s m args below meth c D tc base scr H locs Z ls C hw hS hl hE
theorem y_aload_n {i : Fin 4} {x : Nat} (hd : xAt M pc (.aload_n i) 1 pc') (h : xget lv i = some (.ref x)) (k : YP M K pc' lv (.ref x :: st) N sl w E) : YP M K pc lv (st) N sl w E := by
  intro p l e R s m args below meth c D tc base scr H locs Z ls C hw hS hl hE
  obtain ⟨hd, rfl⟩ := hd
  refine lv_aload_n C.1.1 C.1.2.1 hd rfl (xget_at hl h) ?_
  exact k p l e R s m args below meth c D tc base scr H locs Z ls C hw hS hl hE
theorem y_astore_n {i : Fin 4} {x : Nat} (hd : xAt M pc (.astore_n i) 1 pc') (hn : (i : Nat) < M.2.2.1) (hs : xs1 lv i (.ref x) = lv') (k : YP M K pc' lv' st N sl w E) : YP M K pc lv (.ref x :: st) N sl w E := by
  intro p l e R s m args below meth c D tc base scr H locs Z ls C hw hS hl hE
  obtain ⟨hd, rfl⟩ := hd
  subst hs
  refine lv_astore_n C.1.1 C.1.2.1 hd rfl hl hn (xs1_lv (yad base scr) lv i (.ref x)) (fun ls hl => ?_)
  exact k p l e R s m args below meth c D tc base scr H locs Z ls C hw hS hl hE
theorem y_iinc {i : Nat} {n : Int} {x v : Int32} (hd : xAt M pc (.iinc i n) 3 pc') (h : xget lv i = some (.int x)) (hv : x + Int32.ofInt n = v) (hn : i < M.2.2.1) (hs : xs1 lv i (.int v) = lv') (k : YP M K pc' lv' st N sl w E) : YP M K pc lv st N sl w E := by
  intro p l e R s m args below meth c D tc base scr H locs Z ls C hw hS hl hE
  obtain ⟨hd, rfl⟩ := hd
  subst hs
  obtain ⟨j, hj⟩ := List.getElem?_of_mem (List.mem_map.mpr ⟨(i, .int x), xget_mem h, rfl⟩ : (i, Value.int x) ∈ xlv (yad base scr) lv)
  refine lv_iinc C.1.1 C.1.2.1 hd hl hj hv hn (xs1_lv (yad base scr) lv i (.int v)) (fun ls hl => ?_)
  exact k p l e R s m args below meth c D tc base scr H locs Z ls C hw hS hl hE
theorem y_dup {v : Value} (hd : xAt M pc (.dup) 1 pc') (hv : v.category = 1) (k : YP M K pc' lv (v :: v :: st) N sl w E) : YP M K pc lv (v :: st) N sl w E := by
  intro p l e R s m args below meth c D tc base scr H locs Z ls C hw hS hl hE
  obtain ⟨hd, rfl⟩ := hd
  refine lv_dup C.1.1 C.1.2.1 hd (by rw [xv_cat]; exact hv) ?_
  exact k p l e R s m args below meth c D tc base scr H locs Z ls C hw hS hl hE
theorem y_icmp_ge {x y : Int32} (hd : xBr M pc (.if_icmp .ge) off pc' tgt) (kt : y ≤ x → YP M K tgt lv st N sl w E) (kf : ¬ y ≤ x → YP M K pc' lv st N sl w E) : YP M K pc lv (.int y :: .int x :: st) N sl w E := by
  intro p l e R s m args below meth c D tc base scr H locs Z ls C hw hS hl hE
  obtain ⟨hd, rfl, ht⟩ := hd
  refine lv_icmp_ge C.1.1 C.1.2.1 hd ht (fun h => ?_) (fun h => ?_)
  · exact kt h p l e R s m args below meth c D tc base scr H locs Z ls C hw hS hl hE
  · exact kf h p l e R s m args below meth c D tc base scr H locs Z ls C hw hS hl hE
theorem y_goto (hd : xBr M pc .goto off pc' tgt) (k : YP M K tgt lv st N sl w E) : YP M K pc lv st N sl w E := by
  intro p l e R s m args below meth c D tc base scr H locs Z ls C hw hS hl hE
  obtain ⟨hd, -, ht⟩ := hd
  refine lv_goto C.1.1 C.1.2.1 hd ht ?_
  exact k p l e R s m args below meth c D tc base scr H locs Z ls C hw hS hl hE
theorem y_objInit {i x : Nat} (hd : xAt M pc (.invokespecial i) 3 pc') (h1 : Cond.methodLink M.1.cls i Lib.objectInit ∈ xTs) (h2 : Cond.instanceMethod Lib.objectInit ∈ xTs) (h3 : Cond.code Lib.objectInit ⟨#[0xb1]⟩ 1 none ∈ xTs) (hf : 1 ≤ M.2.2.2.2) (hr : (st.map fun v => v.category).sum ≤ 8) (k : YP M K pc' lv st N sl w E) : YP M K pc lv (.ref x :: st) N sl w E := by
  intro p l e R s m args below meth c D tc base scr H locs Z ls C hw hS hl hE
  obtain ⟨hd, rfl⟩ := hd
  have q1 := C.1.2.2.2.2.2.2.2.1
  have q2 := C.1.2.2.2.2.2.2.2.2
  have ts := C.1.2.2.2.2.1
  refine W.objInit C.1.1 C.1.2.1 C.1.2.2.2.1 (ts _ h1) (ts _ h2) (ts _ h3) rfl (hl.1.trans C.1.2.2.1.symm) rfl hd (by omega) (by show 2 * 0 + ((st.map (xv (yad base scr))).map fun v => v.category).sum + 12 ≤ R.locals; rw [xcat_sum]; omega) ?_
  exact k p l e R s m args below meth c D tc base scr H locs Z ls C hw hS hl hE
theorem y_get {x ci i f : Nat} {fs : List Value} {v : Value} (hd : xAt M pc (.getfield i) 3 pc') (hF : xFld M.1.cls i ci f) (hx : x < 365) (hN : piN x < N) (hw0 : w x = .inr (ci, fs)) (hv : fs[f]? = some v) (kk : YP M K pc' lv (v :: st) N sl w E) : YP M K pc lv (.ref x :: st) N sl w E := by
  intro p l e R s m args below meth c D tc base scr H locs Z ls C hw hS hl hE
  obtain ⟨hd, rfl⟩ := hd
  obtain ⟨CN, T, n, h1, h2, h3, h4, h5⟩ := hF
  have hP := hw.2
  have he : (yws tc (yad base scr) w N)[piN x]? = some (yad base scr x, .inr (ci, fs.map (xv (yad base scr)))) := by rw [yws_pl hN hx, hw0]; rfl
  have hv' : (fs.map (xv (yad base scr)))[f]? = some (xv (yad base scr) v) := by rw [List.getElem?_map, hv]; rfl
  rcases h5 with h5 | ⟨host, h5⟩
  · refine va_get C.1.1 C.1.2.1 C.1.2.2.2.2.1 h3 C.1.2.2.2.1 C.1.2.2.2.2.2.2.1 hP _ he h1 f h2 (C.1.2.2.2.2.1 _ h5) (fun x h => by rw [h4] at h; exact h) hv' hd ?_
    exact kk p l e R s m args below meth c D tc base scr H locs Z ls C hw hS hl hE
  · refine va_getN C.1.1 C.1.2.1 C.1.2.2.2.2.1 h3 C.1.2.2.2.1 C.1.2.2.2.2.2.2.1 hP _ he h1 f h2 (va_Nw.use rfl (C.1.2.2.2.2.2.1 _ h5)) (fun x h => by rw [h4] at h; exact h) hv' hd ?_
    exact kk p l e R s m args below meth c D tc base scr H locs Z ls C hw hS hl hE
/-- a field is set: a number, or a final field of the class under construction -/
def yFld (M : xM) (i ci f : Nat) (ty : FieldType) (fin : Bool) : Prop := ∃ (C : String) (T : u_T) (n : Nat) (t : Nat → FieldType), vwCl[ci]? = some (C, T, n) ∧ f < n ∧ (∀ q ∈ u_ws C T n, q ∈ xTs) ∧ (T f).1 = C ∧ Cond.fieldLink M.1.cls i C (T f).2.1 (T f).2.2.1 ∈ xTs ∧ (∀ k, k < n → parseFieldDescriptor (T k).2.2.1 = some (t k)) ∧ (∀ a, a < n → ∀ b, b < n → a ≠ b → (T a).2.1 ≠ (T b).2.1) ∧ (T f).2.2.2 = fin ∧ parseFieldDescriptor (T f).2.2.1 = some ty ∧ (fin = true → M.1.name = "<init>" ∧ C = M.1.cls)
theorem y_put {x ci i f : Nat} {fs : List Value} {v : Value} {ty : FieldType} {fin : Bool} (hd : xAt M pc (.putfield i) 3 pc') (hF : yFld M i ci f ty fin) (hx : x < 365) (hN : piN x < N) (hw0 : w x = .inr (ci, fs)) (hn : ∀ ad, narrow ty (xv ad v) = xv ad v) (hf : ∀ ad, fits ty (xv ad v) = true) (hfl : f < fs.length) (kk : YP M K pc' lv st N sl (xup w x (.inr (ci, fs.set f v))) E) : YP M K pc lv (v :: .ref x :: st) N sl w E := by
  intro p l e R s m args below meth c D tc base scr H locs Z ls C hw hS hl hE
  obtain ⟨hd, rfl⟩ := hd
  obtain ⟨CN, T, n, t, h1, h2, h3, h4, h5, g2, g3, g4, g5, g6⟩ := hF
  have hP := hw.2
  have hD : va_D (yA base) _ := yws_D (tc := tc) (base := base) (scr := scr) (w := w) hw.1.2.2
  have he : (yws tc (yad base scr) w N)[piN x]? = some (yad base scr x, .inr (ci, fs.map (xv (yad base scr)))) := by rw [yws_pl hN hx, hw0]; rfl
  have hset : (yws tc (yad base scr) w N).set (piN x) (yad base scr x, .inr (ci, (fs.map (xv (yad base scr))).set f (xv (yad base scr) v))) = yws tc (yad base scr) (xup w x (.inr (ci, fs.set f v))) N := by
    rw [← yws_set hN hw.1.2.2 hx]
    show _ = (yws tc (yad base scr) w N).set (piN x) (yad base scr x, .inr (ci, (fs.set f v).map (xv (yad base scr))))
    rw [List.map_set]
  have hfl' : f < (fs.map (xv (yad base scr))).length := by rw [List.length_map]; exact hfl
  cases fin with
  | false =>
    refine va_put C.1.1 C.1.2.1 C.1.2.2.2.2.1 h3 t g2 g3 C.1.2.2.2.1 C.1.2.2.2.2.2.2.1 hP hD hS (piN x) he h1 f h2 (C.1.2.2.2.2.1 _ h5) (fun x h => by rw [h4] at h; exact h) g4 g5 (hn _) (hf _) hfl' hd (fun H2 locs hP _ hS => ?_)
    rw [hset] at hP
    exact kk p l e R s m args below meth c D tc base scr H2 locs Z ls C ⟨hw.1, hP⟩ hS hl hE
  | true =>
    obtain ⟨a1, a2⟩ := g6 rfl
    refine va_putF C.1.1 C.1.2.1 C.1.2.2.2.2.1 h3 t g2 g3 C.1.2.2.2.1 C.1.2.2.2.2.2.2.1 hP hD hS (piN x) he h1 f h2 (C.1.2.2.2.2.1 _ h5) (fun x h => by rw [h4] at h; exact h) g4 (C.2.1.trans a1) (h4.trans a2) g5 (hn _) (hf _) hfl' hd (fun H2 locs hP _ hS => ?_)
    rw [hset] at hP
    exact kk p l e R s m args below meth c D tc base scr H2 locs Z ls C ⟨hw.1, hP⟩ hS hl hE
/-- what 'new' makes -/
def yNew (M : xM) (i ci : Nat) (fs : List Value) (n : Nat) : Prop := ∃ (C : String) (T : u_T) (t : Nat → FieldType), vwCl[ci]? = some (C, T, n) ∧ (∀ q ∈ u_ws C T n, q ∈ xTs) ∧ (∀ k, k < n → parseFieldDescriptor (T k).2.2.1 = some (t k)) ∧ Cond.classLink M.1.cls i C ∈ xTs ∧ Cond.instantiable C n ∈ xTs ∧ Cond.initialized C ∈ xTs ∧ (∀ j, j < n → defaultValue (t j) = vp_V fs j) ∧ ∀ ad, fs.map (xv ad) = fs
theorem y_new {i ci n : Nat} {fs : List Value} (hd : xAt M pc (.new i) 3 pc') (hF : yNew M i ci fs n) (hN : N < 365) (h1 : N + 1 ≤ K.2.2.1) (h2 : sl + n ≤ K.2.2.2) (kk : YP M K pc' lv (.ref (roN N) :: st) (N + 1) (sl + n) (xup w (roN N) (.inr (ci, fs))) E) : YP M K pc lv st N sl w E := by
  intro p l e R s m args below meth c D tc base scr H locs Z ls C hw hS hl hE
  obtain ⟨hd, rfl⟩ := hd
  obtain ⟨CN, T, t, g1, g2, g3, g4, g5, g6, g7, g8⟩ := hF
  have ts := C.1.2.2.2.2.1
  have hD : va_D (yA base) _ := yws_D (tc := tc) (base := base) (scr := scr) (w := w) hw.1.2.2
  have c1 := C.2.2.2.1
  have b1 := C.2.2.2.2
  have k1 := hw.1.1
  have k2 := hw.1.2.1
  refine va_new C.1.1 C.1.2.1 ts g2 t g3 C.1.2.2.2.1 (ts _ g4) (ts _ g5) (ts _ g6) C.1.2.2.2.2.2.2.1 hw.2 hD hS (fun q h => by show base ≤ q; omega) g1 g7 (by omega) (by omega) hd (fun q H1 hP hD hS => w_bound (fun hb => ?_))
  have e1 : q = yad base scr (roN N) := y_addr hN hP hD (by omega)
  subst e1
  have e2 : (.inr (ci, fs) : va_E) = xE tc (yad base scr) (.inr (ci, fs)) := by show _ = Sum.inr (ci, fs.map (xv (yad base scr))); rw [g8]
  rw [e2, ← yws_app hN] at hP
  have := kk p l e R s m args below meth c D tc base scr H1 locs Z ls C ⟨⟨by omega, by omega, by omega⟩, hP⟩ hS hl hE
  rw [show N + 1 - K.1 = N - K.1 + 1 by omega, show sl + n - K.2.1 = sl - K.2.1 + n by omega] at this
  exact this
/-- which rows 'newarray' makes -/
def yArr (at' : ArrayType) (t n : Nat) (a0 : vp_A) (ty : FieldType) : Prop := newarray.typeOf at' = ty ∧ Cond.arrayClass ty ∈ xTs ∧ (∀ tc : Nat → Nat, (xtys tc)[t]? = some (tc t, ty)) ∧ (∀ cA : ClassId, vp_cell cA a0 = arrV cA n (fun _ => defaultValue ty)) ∧ n * componentBytes ty ≤ 536870912 ∧ (∀ (s : State) (cA cB : ClassId), va_RA s cA ty → va_RA s cB ty → cA = cB) ∧ ∀ ad, xA ad a0 = a0
theorem y_newa {at' : ArrayType} {t n : Nat} {a0 : vp_A} {ty : FieldType} {k : Int32} (hd : xAt M pc (.newarray at') 2 pc') (hF : yArr at' t n a0 ty) (hk : k = nI n) (hn : n < 2 ^ 31) (hN : N < 365) (h1 : N + 1 ≤ K.2.2.1) (h2 : sl + n ≤ K.2.2.2) (kk : YP M K pc' lv (.ref (roN N) :: st) (N + 1) (sl + n) (xup w (roN N) (.inl (t, a0))) E) : YP M K pc lv (.int k :: st) N sl w E := by
  intro p l e R s m args below meth c D tc base scr H locs Z ls C hw hS hl hE
  obtain ⟨hd, rfl⟩ := hd
  obtain ⟨g1, g2, g3, g4, g5, g6, g7⟩ := hF
  subst hk
  have ts := C.1.2.2.2.2.1
  have hD : va_D (yA base) _ := yws_D (tc := tc) (base := base) (scr := scr) (w := w) hw.1.2.2
  have hK := C.1.2.2.2.2.2.2.1
  have c1 := C.2.2.2.1
  have b1 := C.2.2.2.2
  have k1 := hw.1.1
  have k2 := hw.1.2.1
  refine va_newa C.1.1 C.1.2.1 (by rw [g1]; exact ts _ g2) g1 hK hw.2 hD hS (fun q h => by show base ≤ q; omega) g4 (nI_pos hn) (nI_clamp (by omega)) g5 (by omega) (by omega) hd (fun q cA H1 hK1 hP hD hS => w_bound (fun hb => ?_))
  have e1 : q = yad base scr (roN N) := y_addr hN hP hD (by omega)
  subst e1
  have e3 : cA = tc t := g6 s cA (tc t) (hK1.2 6 (cA, ty) rfl).2 (hK.2 t _ (g3 tc)).2
  subst e3
  have e2 : (.inl (tc t, a0) : va_E) = xE tc (yad base scr) (.inl (t, a0)) := by show _ = Sum.inl (tc t, xA (yad base scr) a0); rw [g7]
  rw [e2, ← yws_app hN] at hP
  have := kk p l e R s m args below meth c D tc base scr H1 locs Z ls C ⟨⟨by omega, by omega, by omega⟩, hP⟩ hS hl hE
  rw [show N + 1 - K.1 = N - K.1 + 1 by omega, show sl + n - K.2.1 = sl - K.2.1 + n by omega] at this
  exact this
theorem y_newq {i t n : Nat} {C9 : String} {k : Int32} (hd : xAt M pc (.anewarray i) 3 pc') (hlk : Cond.classLink M.1.cls i C9 ∈ xTs) (ht : (t = 4 ∧ C9 = cPar) ∨ (t = 5 ∧ C9 = cWid)) (hk : k = nI n) (hn : n < 1000) (hN : N < 365) (h1 : N + 1 ≤ K.2.2.1) (h2 : sl + n ≤ K.2.2.2) (kk : YP M K pc' lv (.ref (roN N) :: st) (N + 1) (sl + n) (xup w (roN N) (.inl (t, n, .inr (.inr (.inr (.inr (fun _ => none))))))) E) : YP M K pc lv (.int k :: st) N sl w E := by
  intro p l e R s m args below meth c D tc base scr H locs Z ls C hw hS hl hE
  obtain ⟨hd, rfl⟩ := hd
  subst hk
  have ts := C.1.2.2.2.2.1
  have hD : va_D (yA base) _ := yws_D (tc := tc) (base := base) (scr := scr) (w := w) hw.1.2.2
  have hK := C.1.2.2.2.2.2.2.1
  have c1 := C.2.2.2.1
  have b1 := C.2.2.2.2
  have k1 := hw.1.1
  have k2 := hw.1.2.1
  have hao : va_AO C9 s := by rcases ht with ⟨-, rfl⟩ | ⟨-, rfl⟩; exact C.2.2.1.1; exact C.2.2.1.2.1
  have ht' : (xtys tc)[t]? = some (tc t, .object C9) := by rcases ht with ⟨rfl, rfl⟩ | ⟨rfl, rfl⟩ <;> rfl
  refine va_newq C.1.1 C.1.2.1 C.1.2.2.2.1 (ts _ hlk) hao hK hw.2 hD hS (fun q h => by show base ≤ q; omega) (nI_pos (by omega)) (nI_clamp (by omega)) (by omega) (by omega) (by omega) hd (fun q cA H1 hK1 hP hD hS => w_bound (fun hb => ?_))
  have e1 : q = yad base scr (roN N) := y_addr hN hP hD (by omega)
  subst e1
  have e3 : cA = tc t := by
    obtain ⟨_, _, _, _, _, a⟩ := (hK1.2 6 (cA, .object C9) rfl).2
    obtain ⟨_, _, _, _, _, b⟩ := (hK.2 t _ ht').2
    exact Option.some.inj (a.symm.trans b)
  subst e3
  have e2 : (.inl (tc t, n, .inr (.inr (.inr (.inr (fun _ => none))))) : va_E) = xE tc (yad base scr) (.inl (t, n, .inr (.inr (.inr (.inr (fun _ => none)))))) := rfl
  rw [e2, ← yws_app hN] at hP
  have := kk p l e R s m args below meth c D tc base scr H1 locs Z ls C ⟨⟨by omega, by omega, by omega⟩, hP⟩ hS hl hE
  rw [show N + 1 - K.1 = N - K.1 + 1 by omega, show sl + n - K.2.1 = sl - K.2.1 + n by omega] at this
  exact this
theorem y_astq {t a x n j ci : Nat} {fs : List Value} {f : Nat → Option Nat} {i : Int32} {r : vw_C} (hd : xAt M pc .aastore 1 pc') (hr : vwCl[ci]? = some r) (ht : (t = 4 ∧ r.1 = cPar) ∨ (t = 5 ∧ r.1 = cWid)) (ha : a < 365) (hNa : piN a < N) (hwa : w a = .inl (t, n, .inr (.inr (.inr (.inr f))))) (hx : x < 365) (hNx : piN x < N) (hwx : w x = .inr (ci, fs)) (hi : i = nI j) (hj : j < n) (hn : n < 2 ^ 31) (kk : YP M K pc' lv st N sl (xup w a (.inl (t, n, .inr (.inr (.inr (.inr (va_up f j (some x)))))))) E) : YP M K pc lv (.ref x :: .int i :: .ref a :: st) N sl w E := by
  intro p l e R s m args below meth c D tc base scr H locs Z ls C hw hS hl hE
  obtain ⟨hd, rfl⟩ := hd
  subst hi
  have hD : va_D (yA base) _ := yws_D (tc := tc) (base := base) (scr := scr) (w := w) hw.1.2.2
  have hK := C.1.2.2.2.2.2.2.1
  have ht' : (xtys tc)[t]? = some (tc t, .object r.1) := by rcases ht with ⟨rfl, e⟩ | ⟨rfl, e⟩ <;> rw [e] <;> rfl
  have he : (yws tc (yad base scr) w N)[piN a]? = some (yad base scr a, .inl (tc t, n, .inr (.inr (.inr (.inr (fun j => (f j).map (yad base scr))))))) := by rw [yws_pl hNa ha, hwa]; rfl
  have hv : (yws tc (yad base scr) w N)[piN x]? = some (yad base scr x, .inr (ci, fs.map (xv (yad base scr)))) := by rw [yws_pl hNx hx, hwx]; rfl
  refine va_astq C.1.1 C.1.2.1 hK hw.2 hD hS (piN a) t (piN x) ci he ht' hv hr (vp_in_nI hj hn) hd (fun H2 locs hP _ hS => ?_)
  rw [nI_clamp (by omega)] at hP
  have hset : (yws tc (yad base scr) w N).set (piN a) (yad base scr a, .inl (tc t, n, .inr (.inr (.inr (.inr (va_up (fun j => (f j).map (yad base scr)) j (some (yad base scr x)))))))) = yws tc (yad base scr) (xup w a (.inl (t, n, .inr (.inr (.inr (.inr (va_up f j (some x)))))))) N := by
    rw [← yws_set hNa hw.1.2.2 ha]
    have : (fun k => (va_up f j (some x) k).map (yad base scr)) = va_up (fun j => (f j).map (yad base scr)) j (some (yad base scr x)) := by
      funext k
      unfold va_up
      by_cases q : k = j
      · simp [q]
      · simp [q]
    rw [← this]
    rfl
  rw [hset] at hP
  exact kk p l e R s m args below meth c D tc base scr H2 locs Z ls C ⟨hw.1, hP⟩ hS hl hE
end YR
