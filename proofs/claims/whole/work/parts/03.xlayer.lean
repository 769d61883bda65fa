/-! ===== worlds by places: a method's judgement XP with its surroundings hidden ===== -/
/-- a method: its name, its code, its locals, its answer's type, how deep its calls go -/
abbrev xM : Type := MethodName × ByteArray × Nat × Option FieldType × Nat
/-- a world: what stands at each place (references are places, an array's kind a number) -/
abbrev xW : Type := Nat → va_E
def xTs : List Cond := lw_tbl.filter goodWord
def xWs (M : xM) : List Cond := .code M.1 M.2.1 M.2.2.1 M.2.2.2.1 :: xTs
def xRm (d : Nat) : Room := { frames := d, cells := 0, slots := 0, locals := 45 * d }
abbrev xN : Nat := 365
def xv (ad : Nat → Nat) : Value → Value
  | .ref k => .ref (ad k)
  | v => v
def xA (ad : Nat → Nat) (a : vp_A) : vp_A := (a.1, match a.2 with
  | .inr (.inr (.inr (.inr f))) => .inr (.inr (.inr (.inr (fun j => (f j).map ad))))
  | x => x)
def xE (tc ad : Nat → Nat) : va_E → va_E
  | .inl q => .inl (tc q.1, xA ad q.2)
  | .inr q => .inr (q.1, q.2.map (xv ad))
def xws (tc ad : Nat → Nat) (w : xW) : va_W := (List.range xN).map (fun k => (ad k, xE tc ad (w k)))
def xup (w : xW) (k : Nat) (e : va_E) : xW := fun j => if j = k then e else w j
def xD (ad : Nat → Nat) (A : Nat → Prop) : Prop := (∀ i j, i < xN → j < xN → ad i = ad j → i = j) ∧ ∀ k, k < xN → A (ad k)
abbrev xtys (tc : Nat → Nat) : List (ClassId × FieldType) := [(tc 0, .int), (tc 1, .long), (tc 2, .double), (tc 3, .boolean), (tc 4, .object "ParcelMap$Parcel"), (tc 5, .object "ParcelMap$Wide")]
def xlv (ad : Nat → Nat) (lv : List (Nat × Value)) : List (Nat × Value) := lv.map (fun q => (q.1, xv ad q.2))
def xget (lv : List (Nat × Value)) (i : Nat) : Option Value := match lv with
  | [] => none
  | q :: t => if q.1 = i then some q.2 else xget t i
def xs1 (lv : List (Nat × Value)) (i : Nat) (v : Value) : List (Nat × Value) := (i, v) :: lv.filter (fun q => !(q.1 == i) && !(q.1 + 1 == i && q.2.category == 2))
def xs2 (lv : List (Nat × Value)) (i : Nat) (v : Value) : List (Nat × Value) := (i, v) :: lv.filter (fun q => !(q.1 == i) && (!(q.1 == i + 1) && !(q.1 + 1 == i && q.2.category == 2)))
/-- links of fields of a nest mate, out of the tables -/
def xNb : Cond → Bool
  | .fieldLinkNest .. => true
  | _ => false
def xNs : List Cond := lw_tbl.filter xNb
def xNw (U : State) : Prop := ∀ q ∈ xNs, va_Nw q U
def xC (M : xM) (p : Program) (R : Room) (s : State) (m : MethodId) (args : Array Value) (c : Code) (D : va_G) (tc : Nat → Nat) : Prop :=
  p.tables.exec = Jvm.exec ∧ c.code = M.2.1 ∧ c.maxLocals = M.2.2.1 ∧ s.vm.findClass M.1.cls = some m.cls ∧ (∀ w ∈ xTs, w.before args s = true) ∧ xNw s ∧ va_K D vwCl (xtys tc) s ∧ M.2.2.2.2 ≤ R.frames ∧ 45 * M.2.2.2.2 ≤ R.locals
def xRet (M : xM) (r : Option Value) (pc : Nat) : Prop := match r with
  | none => M.2.2.2.1 = none ∧ decode M.2.1 pc = .ok (.return_, 1)
  | some (.int x) => (∃ ty, M.2.2.2.1 = some ty ∧ narrow ty (.int x) = .int x) ∧ decode M.2.1 pc = .ok (.ireturn, 1)
  | some (.long _) => M.2.2.2.1 = some .long ∧ decode M.2.1 pc = .ok (.lreturn, 1)
  | some (.double _) => M.2.2.2.1 = some .double ∧ decode M.2.1 pc = .ok (.dreturn, 1)
  | _ => False
/-- THE JUDGEMENT: from pc, with these locals, this stack and this world, the method comes to its return with Q -/
def XP (M : xM) (pc : Nat) (lv : List (Nat × Value)) (st : List Value) (w : xW) (Q : Option Value → xW → Prop) : Prop :=
  ∀ (p : Program) (l : Launch) (e : Env) (R : Room) (s : State) (m : MethodId) (args : Array Value) (below : List Frame) (meth : Method) (c : Code) (D : va_G) (tc ad : Nat → Nat) (A : Nat → Prop) (H0 H : Heap) (locs : List Loc) (cells slots : Nat) (Z : State → Prop) (ls : Array Slot),
    xC M p R s m args c D tc → cells ≤ R.cells → slots ≤ R.slots → (∀ q, H0.size ≤ q → A q) → va_P D vwCl (xws tc ad w) H → xD ad A → va_S A H0 H locs → lv_has ls M.2.2.1 (xlv ad lv) →
    (∀ (r : Option Value) (w' : xW) (H' : Heap) (locs' : List Loc) (pc' : Nat) (ls' : Array Slot), Q r w' → va_P D vwCl (xws tc ad w') H' → va_S A H0 H' locs' → xRet M r pc' → W p l e R s m args below meth c H' locs' cells slots Z (F0 m pc' ls' (r.toList.map (xv ad)))) →
    W p l e R s m args below meth c H locs cells slots Z (F0 m pc ls (st.map (xv ad)))
def xAt (M : xM) (pc : Nat) (i : Instr) (n pc' : Nat) : Prop := decode M.2.1 pc = .ok (i, n) ∧ pc' = pc + n
def xBr (M : xM) (pc : Nat) (f : Int → Instr) (off : Int) (pc' tgt : Nat) : Prop := decode M.2.1 pc = .ok (f off, 3) ∧ pc' = pc + 3 ∧ (pc : Int) + off = (tgt : Int)
theorem xv_cat (ad : Nat → Nat) (v : Value) : (xv ad v).category = v.category := by cases v <;> rfl
theorem xlv_filter (ad : Nat → Nat) (lv : List (Nat × Value)) (f : Nat → Nat → Bool) : (xlv ad lv).filter (fun q => f q.1 q.2.category) = xlv ad (lv.filter (fun q => f q.1 q.2.category)) := by
  unfold xlv
  rw [List.filter_map]
  congr 1
  apply List.filter_congr
  intro q _
  simp only [Function.comp, xv_cat]
theorem xs1_lv (ad : Nat → Nat) (lv : List (Nat × Value)) (i : Nat) (v : Value) : (i, xv ad v) :: (xlv ad lv).filter (fun q => !(q.1 == i) && !(q.1 + 1 == i && q.2.category == 2)) = xlv ad (xs1 lv i v) := by
  rw [xlv_filter ad lv (fun a b => !(a == i) && !(a + 1 == i && b == 2))]
  rfl
theorem xs2_lv (ad : Nat → Nat) (lv : List (Nat × Value)) (i : Nat) (v : Value) : (i, xv ad v) :: (xlv ad lv).filter (fun q => !(q.1 == i) && (!(q.1 == i + 1) && !(q.1 + 1 == i && q.2.category == 2))) = xlv ad (xs2 lv i v) := by
  rw [xlv_filter ad lv (fun a b => !(a == i) && (!(a == i + 1) && !(a + 1 == i && b == 2)))]
  rfl
theorem xget_mem {lv : List (Nat × Value)} {i : Nat} {v : Value} (h : xget lv i = some v) : (i, v) ∈ lv := by
  induction lv with
  | nil => simp [xget] at h
  | cons q t ih =>
    unfold xget at h
    split at h
    · rename_i h1
      obtain ⟨a, b⟩ := q
      simp only [Option.some.injEq] at h
      simp only at h1
      subst h1; subst h
      exact List.mem_cons_self
    · exact List.mem_cons_of_mem _ (ih h)
theorem xget_at {ad : Nat → Nat} {ls : Array Slot} {n : Nat} {lv : List (Nat × Value)} {i : Nat} {v : Value} (hl : lv_has ls n (xlv ad lv)) (h : xget lv i = some v) : ls[i]? = some (.val (xv ad v)) :=
  hl.2.2 (i, xv ad v) (List.mem_map.mpr ⟨(i, v), xget_mem h, rfl⟩)
theorem xws_at {tc ad : Nat → Nat} {w : xW} {k : Nat} (h : k < xN) : (xws tc ad w)[k]? = some (ad k, xE tc ad (w k)) := by
  unfold xws
  rw [List.getElem?_map, List.getElem?_range h]
  rfl
theorem xws_len {tc ad : Nat → Nat} {w : xW} : (xws tc ad w).length = xN := by simp [xws]
theorem xws_set {tc ad : Nat → Nat} {w : xW} {k : Nat} {e : va_E} (_ : k < xN) : (xws tc ad w).set k (ad k, xE tc ad e) = xws tc ad (xup w k e) := by
  apply List.ext_getElem?
  intro j
  rw [List.getElem?_set]
  by_cases hj : j < xN
  · rw [xws_at hj, xws_at hj, xws_len]
    by_cases hk : k = j
    · subst hk; simp [hj, xup]
    · simp only [hk, if_false]
      have : ¬ j = k := fun h => hk h.symm
      simp [xup, this]
  · have h1 : (xws tc ad w)[j]? = none := List.getElem?_eq_none (by rw [xws_len]; omega)
    have h2 : (xws tc ad (xup w k e))[j]? = none := List.getElem?_eq_none (by rw [xws_len]; omega)
    rw [h1, h2]
    by_cases hk : k = j
    · subst hk; rw [xws_len]; simp [hj]
    · simp [hk]
theorem xws_lt {tc ad : Nat → Nat} {w : xW} {k : Nat} {q : Nat × va_E} (h : (xws tc ad w)[k]? = some q) : k < xN ∧ q = (ad k, xE tc ad (w k)) := by
  have h1 : k < xN := by
    have := (List.getElem?_eq_some_iff.mp h).1
    rwa [xws_len] at this
  rw [xws_at h1] at h
  exact ⟨h1, (Option.some.inj h).symm⟩
theorem xD.d {tc ad : Nat → Nat} {A : Nat → Prop} (h : xD ad A) (w : xW) : va_D A (xws tc ad w) := by
  refine ⟨fun i j p q hi hj he => ?_, fun k q hk => ?_⟩
  · obtain ⟨h1, rfl⟩ := xws_lt hi
    obtain ⟨h2, rfl⟩ := xws_lt hj
    exact h.1 i j h1 h2 he
  · obtain ⟨h1, rfl⟩ := xws_lt hk
    exact h.2 k h1
theorem xup_same {w : xW} {k : Nat} {e : va_E} : xup w k e k = e := by simp [xup]
theorem xup_ne {w : xW} {k j : Nat} {e : va_E} (h : j ≠ k) : xup w k e j = w j := by simp [xup, h]
theorem xTs_good : GoodIn xTs xTs := fun w hw => ⟨hw, good_of_word (List.mem_filter.mp hw).2⟩
section XR
variable {M : xM} {pc pc' tgt : Nat} {off : Int} {lv lv' : List (Nat × Value)} {st : List Value} {w : xW} {Q : Option Value → xW → Prop}
theorem XP.mono {Q' : Option Value → xW → Prop} (h : XP M pc lv st w Q') (hq : ∀ r w', Q' r w' → Q r w') : XP M pc lv st w Q := by
  intro p l e R s m args below meth c D tc ad A H0 H locs cells slots Z ls C hc hsl hA hP hD hS hl hE
  exact h p l e R s m args below meth c D tc ad A H0 H locs cells slots Z ls C hc hsl hA hP hD hS hl (fun r w' H' locs' pc' ls' h1 h2 h3 h4 => hE r w' H' locs' pc' ls' (hq r w' h1) h2 h3 h4)
theorem x_iconst {n : Int} {v : Int32} (hd : xAt M pc (.iconst n) 1 pc') (hv : Int32.ofInt n = v) (k : XP M pc' lv (.int v :: st) w Q) : XP M pc lv (st) w Q := by
  intro p l e R s m args below meth c D tc ad A H0 H locs cells slots Z ls C hc hsl hA hP hD hS hl hE
  obtain ⟨hd, rfl⟩ := hd
  refine lv_iconst C.1 C.2.1 hd hv ?_
  exact k p l e R s m args below meth c D tc ad A H0 H locs cells slots Z ls C hc hsl hA hP hD hS hl hE
theorem x_bipush {n : Int} {v : Int32} (hd : xAt M pc (.bipush n) 2 pc') (hv : (Int8.ofInt n).toInt32 = v) (k : XP M pc' lv (.int v :: st) w Q) : XP M pc lv (st) w Q := by
  intro p l e R s m args below meth c D tc ad A H0 H locs cells slots Z ls C hc hsl hA hP hD hS hl hE
  obtain ⟨hd, rfl⟩ := hd
  refine lv_bipush C.1 C.2.1 hd hv ?_
  exact k p l e R s m args below meth c D tc ad A H0 H locs cells slots Z ls C hc hsl hA hP hD hS hl hE
theorem x_sipush {n : Int} {v : Int32} (hd : xAt M pc (.sipush n) 3 pc') (hv : (Int16.ofInt n).toInt32 = v) (k : XP M pc' lv (.int v :: st) w Q) : XP M pc lv (st) w Q := by
  intro p l e R s m args below meth c D tc ad A H0 H locs cells slots Z ls C hc hsl hA hP hD hS hl hE
  obtain ⟨hd, rfl⟩ := hd
  refine lv_sipush C.1 C.2.1 hd hv ?_
  exact k p l e R s m args below meth c D tc ad A H0 H locs cells slots Z ls C hc hsl hA hP hD hS hl hE
theorem x_lconst {n : Fin 2} {v : Int64} (hd : xAt M pc (.lconst n) 1 pc') (hv : Int64.ofNat (n : Nat) = v) (k : XP M pc' lv (.long v :: st) w Q) : XP M pc lv (st) w Q := by
  intro p l e R s m args below meth c D tc ad A H0 H locs cells slots Z ls C hc hsl hA hP hD hS hl hE
  obtain ⟨hd, rfl⟩ := hd
  refine lv_lconst C.1 C.2.1 hd hv ?_
  exact k p l e R s m args below meth c D tc ad A H0 H locs cells slots Z ls C hc hsl hA hP hD hS hl hE
theorem x_dconst0 (hd : xAt M pc (.dconst 0) 1 pc') (k : XP M pc' lv (.double FP.dconst0 :: st) w Q) : XP M pc lv (st) w Q := by
  intro p l e R s m args below meth c D tc ad A H0 H locs cells slots Z ls C hc hsl hA hP hD hS hl hE
  obtain ⟨hd, rfl⟩ := hd
  refine lv_dconst0 C.1 C.2.1 hd ?_
  exact k p l e R s m args below meth c D tc ad A H0 H locs cells slots Z ls C hc hsl hA hP hD hS hl hE
theorem x_iload_n {i : Fin 4} {x : Int32} (hd : xAt M pc (.iload_n i) 1 pc') (h : xget lv i = some (.int x)) (k : XP M pc' lv (.int x :: st) w Q) : XP M pc lv (st) w Q := by
  intro p l e R s m args below meth c D tc ad A H0 H locs cells slots Z ls C hc hsl hA hP hD hS hl hE
  obtain ⟨hd, rfl⟩ := hd
  refine lv_iload_n C.1 C.2.1 hd rfl (xget_at hl h) ?_
  exact k p l e R s m args below meth c D tc ad A H0 H locs cells slots Z ls C hc hsl hA hP hD hS hl hE
theorem x_iload {i : Nat} {x : Int32} (hd : xAt M pc (.iload i) 2 pc') (h : xget lv i = some (.int x)) (k : XP M pc' lv (.int x :: st) w Q) : XP M pc lv (st) w Q := by
  intro p l e R s m args below meth c D tc ad A H0 H locs cells slots Z ls C hc hsl hA hP hD hS hl hE
  obtain ⟨hd, rfl⟩ := hd
  refine lv_iload C.1 C.2.1 hd (xget_at hl h) ?_
  exact k p l e R s m args below meth c D tc ad A H0 H locs cells slots Z ls C hc hsl hA hP hD hS hl hE
theorem x_istore_n {i : Fin 4} {x : Int32} (hd : xAt M pc (.istore_n i) 1 pc') (hn : (i : Nat) < M.2.2.1) (hs : xs1 lv i (.int x) = lv') (k : XP M pc' lv' st w Q) : XP M pc lv (.int x :: st) w Q := by
  intro p l e R s m args below meth c D tc ad A H0 H locs cells slots Z ls C hc hsl hA hP hD hS hl hE
  obtain ⟨hd, rfl⟩ := hd
  subst hs
  refine lv_istore_n C.1 C.2.1 hd rfl hl hn (xs1_lv ad lv i (.int x)) (fun ls hl => ?_)
  exact k p l e R s m args below meth c D tc ad A H0 H locs cells slots Z ls C hc hsl hA hP hD hS hl hE
theorem x_istore {i : Nat} {x : Int32} (hd : xAt M pc (.istore i) 2 pc') (hn : i < M.2.2.1) (hs : xs1 lv i (.int x) = lv') (k : XP M pc' lv' st w Q) : XP M pc lv (.int x :: st) w Q := by
  intro p l e R s m args below meth c D tc ad A H0 H locs cells slots Z ls C hc hsl hA hP hD hS hl hE
  obtain ⟨hd, rfl⟩ := hd
  subst hs
  refine lv_istore C.1 C.2.1 hd hl hn (xs1_lv ad lv i (.int x)) (fun ls hl => ?_)
  exact k p l e R s m args below meth c D tc ad A H0 H locs cells slots Z ls C hc hsl hA hP hD hS hl hE
theorem x_lload_n {i : Fin 4} {x : Int64} (hd : xAt M pc (.lload_n i) 1 pc') (h : xget lv i = some (.long x)) (k : XP M pc' lv (.long x :: st) w Q) : XP M pc lv (st) w Q := by
  intro p l e R s m args below meth c D tc ad A H0 H locs cells slots Z ls C hc hsl hA hP hD hS hl hE
  obtain ⟨hd, rfl⟩ := hd
  refine lv_lload_n C.1 C.2.1 hd rfl (xget_at hl h) ?_
  exact k p l e R s m args below meth c D tc ad A H0 H locs cells slots Z ls C hc hsl hA hP hD hS hl hE
theorem x_lload {i : Nat} {x : Int64} (hd : xAt M pc (.lload i) 2 pc') (h : xget lv i = some (.long x)) (k : XP M pc' lv (.long x :: st) w Q) : XP M pc lv (st) w Q := by
  intro p l e R s m args below meth c D tc ad A H0 H locs cells slots Z ls C hc hsl hA hP hD hS hl hE
  obtain ⟨hd, rfl⟩ := hd
  refine lv_lload C.1 C.2.1 hd (xget_at hl h) ?_
  exact k p l e R s m args below meth c D tc ad A H0 H locs cells slots Z ls C hc hsl hA hP hD hS hl hE
theorem x_lstore_n {i : Fin 4} {x : Int64} (hd : xAt M pc (.lstore_n i) 1 pc') (hn : (i : Nat) + 1 < M.2.2.1) (hs : xs2 lv i (.long x) = lv') (k : XP M pc' lv' st w Q) : XP M pc lv (.long x :: st) w Q := by
  intro p l e R s m args below meth c D tc ad A H0 H locs cells slots Z ls C hc hsl hA hP hD hS hl hE
  obtain ⟨hd, rfl⟩ := hd
  subst hs
  refine lv_lstore_n C.1 C.2.1 hd rfl hl hn (xs2_lv ad lv i (.long x)) (fun ls hl => ?_)
  exact k p l e R s m args below meth c D tc ad A H0 H locs cells slots Z ls C hc hsl hA hP hD hS hl hE
theorem x_lstore {i : Nat} {x : Int64} (hd : xAt M pc (.lstore i) 2 pc') (hn : i + 1 < M.2.2.1) (hs : xs2 lv i (.long x) = lv') (k : XP M pc' lv' st w Q) : XP M pc lv (.long x :: st) w Q := by
  intro p l e R s m args below meth c D tc ad A H0 H locs cells slots Z ls C hc hsl hA hP hD hS hl hE
  obtain ⟨hd, rfl⟩ := hd
  subst hs
  refine lv_lstore C.1 C.2.1 hd hl hn (xs2_lv ad lv i (.long x)) (fun ls hl => ?_)
  exact k p l e R s m args below meth c D tc ad A H0 H locs cells slots Z ls C hc hsl hA hP hD hS hl hE
theorem x_dload_n {i : Fin 4} {x : UInt64} (hd : xAt M pc (.dload_n i) 1 pc') (h : xget lv i = some (.double x)) (k : XP M pc' lv (.double x :: st) w Q) : XP M pc lv (st) w Q := by
  intro p l e R s m args below meth c D tc ad A H0 H locs cells slots Z ls C hc hsl hA hP hD hS hl hE
  obtain ⟨hd, rfl⟩ := hd
  refine lv_dload_n C.1 C.2.1 hd rfl (xget_at hl h) ?_
  exact k p l e R s m args below meth c D tc ad A H0 H locs cells slots Z ls C hc hsl hA hP hD hS hl hE
theorem x_dload {i : Nat} {x : UInt64} (hd : xAt M pc (.dload i) 2 pc') (h : xget lv i = some (.double x)) (k : XP M pc' lv (.double x :: st) w Q) : XP M pc lv (st) w Q := by
  intro p l e R s m args below meth c D tc ad A H0 H locs cells slots Z ls C hc hsl hA hP hD hS hl hE
  obtain ⟨hd, rfl⟩ := hd
  refine lv_dload C.1 C.2.1 hd (xget_at hl h) ?_
  exact k p l e R s m args below meth c D tc ad A H0 H locs cells slots Z ls C hc hsl hA hP hD hS hl hE
theorem x_dstore_n {i : Fin 4} {x : UInt64} (hd : xAt M pc (.dstore_n i) 1 pc') (hn : (i : Nat) + 1 < M.2.2.1) (hs : xs2 lv i (.double x) = lv') (k : XP M pc' lv' st w Q) : XP M pc lv (.double x :: st) w Q := by
  intro p l e R s m args below meth c D tc ad A H0 H locs cells slots Z ls C hc hsl hA hP hD hS hl hE
  obtain ⟨hd, rfl⟩ := hd
  subst hs
  refine lv_dstore_n C.1 C.2.1 hd rfl hl hn (xs2_lv ad lv i (.double x)) (fun ls hl => ?_)
  exact k p l e R s m args below meth c D tc ad A H0 H locs cells slots Z ls C hc hsl hA hP hD hS hl hE
theorem x_dstore {i : Nat} {x : UInt64} (hd : xAt M pc (.dstore i) 2 pc') (hn : i + 1 < M.2.2.1) (hs : xs2 lv i (.double x) = lv') (k : XP M pc' lv' st w Q) : XP M pc lv (.double x :: st) w Q := by
  intro p l e R s m args below meth c D tc ad A H0 H locs cells slots Z ls C hc hsl hA hP hD hS hl hE
  obtain ⟨hd, rfl⟩ := hd
  subst hs
  refine lv_dstore C.1 C.2.1 hd hl hn (xs2_lv ad lv i (.double x)) (fun ls hl => ?_)
  exact k p l e R s m args below meth c D tc ad A H0 H locs cells slots Z ls C hc hsl hA hP hD hS hl hE
theorem x_aload_n {i : Fin 4} {x : Nat} (hd : xAt M pc (.aload_n i) 1 pc') (h : xget lv i = some (.ref x)) (k : XP M pc' lv (.ref x :: st) w Q) : XP M pc lv (st) w Q := by
  intro p l e R s m args below meth c D tc ad A H0 H locs cells slots Z ls C hc hsl hA hP hD hS hl hE
  obtain ⟨hd, rfl⟩ := hd
  refine lv_aload_n C.1 C.2.1 hd rfl (xget_at hl h) ?_
  exact k p l e R s m args below meth c D tc ad A H0 H locs cells slots Z ls C hc hsl hA hP hD hS hl hE
theorem x_aload {i : Nat} {x : Nat} (hd : xAt M pc (.aload i) 2 pc') (h : xget lv i = some (.ref x)) (k : XP M pc' lv (.ref x :: st) w Q) : XP M pc lv (st) w Q := by
  intro p l e R s m args below meth c D tc ad A H0 H locs cells slots Z ls C hc hsl hA hP hD hS hl hE
  obtain ⟨hd, rfl⟩ := hd
  refine lv_aload C.1 C.2.1 hd (xget_at hl h) ?_
  exact k p l e R s m args below meth c D tc ad A H0 H locs cells slots Z ls C hc hsl hA hP hD hS hl hE
theorem x_astore_n {i : Fin 4} {x : Nat} (hd : xAt M pc (.astore_n i) 1 pc') (hn : (i : Nat) < M.2.2.1) (hs : xs1 lv i (.ref x) = lv') (k : XP M pc' lv' st w Q) : XP M pc lv (.ref x :: st) w Q := by
  intro p l e R s m args below meth c D tc ad A H0 H locs cells slots Z ls C hc hsl hA hP hD hS hl hE
  obtain ⟨hd, rfl⟩ := hd
  subst hs
  refine lv_astore_n C.1 C.2.1 hd rfl hl hn (xs1_lv ad lv i (.ref x)) (fun ls hl => ?_)
  exact k p l e R s m args below meth c D tc ad A H0 H locs cells slots Z ls C hc hsl hA hP hD hS hl hE
theorem x_astore {i : Nat} {x : Nat} (hd : xAt M pc (.astore i) 2 pc') (hn : i < M.2.2.1) (hs : xs1 lv i (.ref x) = lv') (k : XP M pc' lv' st w Q) : XP M pc lv (.ref x :: st) w Q := by
  intro p l e R s m args below meth c D tc ad A H0 H locs cells slots Z ls C hc hsl hA hP hD hS hl hE
  obtain ⟨hd, rfl⟩ := hd
  subst hs
  refine lv_astore C.1 C.2.1 hd hl hn (xs1_lv ad lv i (.ref x)) (fun ls hl => ?_)
  exact k p l e R s m args below meth c D tc ad A H0 H locs cells slots Z ls C hc hsl hA hP hD hS hl hE
theorem x_iinc {i : Nat} {n : Int} {x v : Int32} (hd : xAt M pc (.iinc i n) 3 pc') (h : xget lv i = some (.int x)) (hv : x + Int32.ofInt n = v) (hn : i < M.2.2.1) (hs : xs1 lv i (.int v) = lv') (k : XP M pc' lv' st w Q) : XP M pc lv st w Q := by
  intro p l e R s m args below meth c D tc ad A H0 H locs cells slots Z ls C hc hsl hA hP hD hS hl hE
  obtain ⟨hd, rfl⟩ := hd
  subst hs
  obtain ⟨j, hj⟩ := List.getElem?_of_mem (List.mem_map.mpr ⟨(i, .int x), xget_mem h, rfl⟩ : (i, Value.int x) ∈ xlv ad lv)
  refine lv_iinc C.1 C.2.1 hd hl hj hv hn (xs1_lv ad lv i (.int v)) (fun ls hl => ?_)
  exact k p l e R s m args below meth c D tc ad A H0 H locs cells slots Z ls C hc hsl hA hP hD hS hl hE
theorem x_iadd {x y : Int32} (hd : xAt M pc (.iadd) 1 pc') (k : XP M pc' lv (.int (x + y) :: st) w Q) : XP M pc lv (.int y :: .int x :: st) w Q := by
  intro p l e R s m args below meth c D tc ad A H0 H locs cells slots Z ls C hc hsl hA hP hD hS hl hE
  obtain ⟨hd, rfl⟩ := hd
  refine lv_iadd C.1 C.2.1 hd ?_
  exact k p l e R s m args below meth c D tc ad A H0 H locs cells slots Z ls C hc hsl hA hP hD hS hl hE
theorem x_isub {x y : Int32} (hd : xAt M pc (.isub) 1 pc') (k : XP M pc' lv (.int (x - y) :: st) w Q) : XP M pc lv (.int y :: .int x :: st) w Q := by
  intro p l e R s m args below meth c D tc ad A H0 H locs cells slots Z ls C hc hsl hA hP hD hS hl hE
  obtain ⟨hd, rfl⟩ := hd
  refine lv_isub C.1 C.2.1 hd ?_
  exact k p l e R s m args below meth c D tc ad A H0 H locs cells slots Z ls C hc hsl hA hP hD hS hl hE
theorem x_imul {x y : Int32} (hd : xAt M pc (.imul) 1 pc') (k : XP M pc' lv (.int (x * y) :: st) w Q) : XP M pc lv (.int y :: .int x :: st) w Q := by
  intro p l e R s m args below meth c D tc ad A H0 H locs cells slots Z ls C hc hsl hA hP hD hS hl hE
  obtain ⟨hd, rfl⟩ := hd
  refine lv_imul C.1 C.2.1 hd ?_
  exact k p l e R s m args below meth c D tc ad A H0 H locs cells slots Z ls C hc hsl hA hP hD hS hl hE
theorem x_iand {x y : Int32} (hd : xAt M pc (.iand) 1 pc') (k : XP M pc' lv (.int (x &&& y) :: st) w Q) : XP M pc lv (.int y :: .int x :: st) w Q := by
  intro p l e R s m args below meth c D tc ad A H0 H locs cells slots Z ls C hc hsl hA hP hD hS hl hE
  obtain ⟨hd, rfl⟩ := hd
  refine lv_iand C.1 C.2.1 hd ?_
  exact k p l e R s m args below meth c D tc ad A H0 H locs cells slots Z ls C hc hsl hA hP hD hS hl hE
theorem x_idiv {x y : Int32} (hd : xAt M pc (.idiv) 1 pc') (hne : ¬ y = 0) (k : XP M pc' lv (.int (x / y) :: st) w Q) : XP M pc lv (.int y :: .int x :: st) w Q := by
  intro p l e R s m args below meth c D tc ad A H0 H locs cells slots Z ls C hc hsl hA hP hD hS hl hE
  obtain ⟨hd, rfl⟩ := hd
  refine lv_idiv C.1 C.2.1 hd hne ?_
  exact k p l e R s m args below meth c D tc ad A H0 H locs cells slots Z ls C hc hsl hA hP hD hS hl hE
theorem x_irem {x y : Int32} (hd : xAt M pc (.irem) 1 pc') (hne : ¬ y = 0) (k : XP M pc' lv (.int (x - x / y * y) :: st) w Q) : XP M pc lv (.int y :: .int x :: st) w Q := by
  intro p l e R s m args below meth c D tc ad A H0 H locs cells slots Z ls C hc hsl hA hP hD hS hl hE
  obtain ⟨hd, rfl⟩ := hd
  refine lv_irem C.1 C.2.1 hd hne ?_
  exact k p l e R s m args below meth c D tc ad A H0 H locs cells slots Z ls C hc hsl hA hP hD hS hl hE
theorem x_ineg {x : Int32} (hd : xAt M pc (.ineg) 1 pc') (k : XP M pc' lv (.int (-x) :: st) w Q) : XP M pc lv (.int x :: st) w Q := by
  intro p l e R s m args below meth c D tc ad A H0 H locs cells slots Z ls C hc hsl hA hP hD hS hl hE
  obtain ⟨hd, rfl⟩ := hd
  refine lv_ineg C.1 C.2.1 hd ?_
  exact k p l e R s m args below meth c D tc ad A H0 H locs cells slots Z ls C hc hsl hA hP hD hS hl hE
theorem x_ishr {x y : Int32} (hd : xAt M pc (.ishr) 1 pc') (k : XP M pc' lv (.int (x >>> (y &&& 31)) :: st) w Q) : XP M pc lv (.int y :: .int x :: st) w Q := by
  intro p l e R s m args below meth c D tc ad A H0 H locs cells slots Z ls C hc hsl hA hP hD hS hl hE
  obtain ⟨hd, rfl⟩ := hd
  refine lv_ishr C.1 C.2.1 hd ?_
  exact k p l e R s m args below meth c D tc ad A H0 H locs cells slots Z ls C hc hsl hA hP hD hS hl hE
theorem x_ladd {x y : Int64} (hd : xAt M pc (.ladd) 1 pc') (k : XP M pc' lv (.long (x + y) :: st) w Q) : XP M pc lv (.long y :: .long x :: st) w Q := by
  intro p l e R s m args below meth c D tc ad A H0 H locs cells slots Z ls C hc hsl hA hP hD hS hl hE
  obtain ⟨hd, rfl⟩ := hd
  refine lv_ladd C.1 C.2.1 hd ?_
  exact k p l e R s m args below meth c D tc ad A H0 H locs cells slots Z ls C hc hsl hA hP hD hS hl hE
theorem x_lsub {x y : Int64} (hd : xAt M pc (.lsub) 1 pc') (k : XP M pc' lv (.long (x - y) :: st) w Q) : XP M pc lv (.long y :: .long x :: st) w Q := by
  intro p l e R s m args below meth c D tc ad A H0 H locs cells slots Z ls C hc hsl hA hP hD hS hl hE
  obtain ⟨hd, rfl⟩ := hd
  refine lv_lsub C.1 C.2.1 hd ?_
  exact k p l e R s m args below meth c D tc ad A H0 H locs cells slots Z ls C hc hsl hA hP hD hS hl hE
theorem x_lmul {x y : Int64} (hd : xAt M pc (.lmul) 1 pc') (k : XP M pc' lv (.long (x * y) :: st) w Q) : XP M pc lv (.long y :: .long x :: st) w Q := by
  intro p l e R s m args below meth c D tc ad A H0 H locs cells slots Z ls C hc hsl hA hP hD hS hl hE
  obtain ⟨hd, rfl⟩ := hd
  refine lv_lmul C.1 C.2.1 hd ?_
  exact k p l e R s m args below meth c D tc ad A H0 H locs cells slots Z ls C hc hsl hA hP hD hS hl hE
theorem x_land {x y : Int64} (hd : xAt M pc (.land) 1 pc') (k : XP M pc' lv (.long (x &&& y) :: st) w Q) : XP M pc lv (.long y :: .long x :: st) w Q := by
  intro p l e R s m args below meth c D tc ad A H0 H locs cells slots Z ls C hc hsl hA hP hD hS hl hE
  obtain ⟨hd, rfl⟩ := hd
  refine lv_land C.1 C.2.1 hd ?_
  exact k p l e R s m args below meth c D tc ad A H0 H locs cells slots Z ls C hc hsl hA hP hD hS hl hE
theorem x_lor {x y : Int64} (hd : xAt M pc (.lor) 1 pc') (k : XP M pc' lv (.long (x ||| y) :: st) w Q) : XP M pc lv (.long y :: .long x :: st) w Q := by
  intro p l e R s m args below meth c D tc ad A H0 H locs cells slots Z ls C hc hsl hA hP hD hS hl hE
  obtain ⟨hd, rfl⟩ := hd
  refine lv_lor C.1 C.2.1 hd ?_
  exact k p l e R s m args below meth c D tc ad A H0 H locs cells slots Z ls C hc hsl hA hP hD hS hl hE
theorem x_i2l {x : Int32} (hd : xAt M pc (.i2l) 1 pc') (k : XP M pc' lv (.long x.toInt64 :: st) w Q) : XP M pc lv (.int x :: st) w Q := by
  intro p l e R s m args below meth c D tc ad A H0 H locs cells slots Z ls C hc hsl hA hP hD hS hl hE
  obtain ⟨hd, rfl⟩ := hd
  refine lv_i2l C.1 C.2.1 hd rfl ?_
  exact k p l e R s m args below meth c D tc ad A H0 H locs cells slots Z ls C hc hsl hA hP hD hS hl hE
theorem x_l2i {x : Int64} (hd : xAt M pc (.l2i) 1 pc') (k : XP M pc' lv (.int x.toInt32 :: st) w Q) : XP M pc lv (.long x :: st) w Q := by
  intro p l e R s m args below meth c D tc ad A H0 H locs cells slots Z ls C hc hsl hA hP hD hS hl hE
  obtain ⟨hd, rfl⟩ := hd
  refine lv_l2i C.1 C.2.1 hd rfl ?_
  exact k p l e R s m args below meth c D tc ad A H0 H locs cells slots Z ls C hc hsl hA hP hD hS hl hE
theorem x_lushr {x v : Int64} {y : Int32} (hd : xAt M pc (.lushr) 1 pc') (hv : (x.toUInt64 >>> (y.toInt64.toUInt64 &&& Int64.toUInt64 63)).toInt64 = v) (k : XP M pc' lv (.long v :: st) w Q) : XP M pc lv (.int y :: .long x :: st) w Q := by
  intro p l e R s m args below meth c D tc ad A H0 H locs cells slots Z ls C hc hsl hA hP hD hS hl hE
  obtain ⟨hd, rfl⟩ := hd
  refine lv_lushr C.1 C.2.1 hd hv ?_
  exact k p l e R s m args below meth c D tc ad A H0 H locs cells slots Z ls C hc hsl hA hP hD hS hl hE
theorem x_lshl {x v : Int64} {y : Int32} (hd : xAt M pc (.lshl) 1 pc') (hv : x <<< (y.toInt64 &&& 63) = v) (k : XP M pc' lv (.long v :: st) w Q) : XP M pc lv (.int y :: .long x :: st) w Q := by
  intro p l e R s m args below meth c D tc ad A H0 H locs cells slots Z ls C hc hsl hA hP hD hS hl hE
  obtain ⟨hd, rfl⟩ := hd
  refine lv_lshl C.1 C.2.1 hd hv ?_
  exact k p l e R s m args below meth c D tc ad A H0 H locs cells slots Z ls C hc hsl hA hP hD hS hl hE
theorem x_lshr {x v : Int64} {y : Int32} (hd : xAt M pc (.lshr) 1 pc') (hv : x >>> (y.toInt64 &&& 63) = v) (k : XP M pc' lv (.long v :: st) w Q) : XP M pc lv (.int y :: .long x :: st) w Q := by
  intro p l e R s m args below meth c D tc ad A H0 H locs cells slots Z ls C hc hsl hA hP hD hS hl hE
  obtain ⟨hd, rfl⟩ := hd
  refine lv_lshr C.1 C.2.1 hd hv ?_
  exact k p l e R s m args below meth c D tc ad A H0 H locs cells slots Z ls C hc hsl hA hP hD hS hl hE
theorem x_lcmp {x y : Int64} (hd : xAt M pc (.lcmp) 1 pc') (k : XP M pc' lv (.int (lg_cmp x y) :: st) w Q) : XP M pc lv (.long y :: .long x :: st) w Q := by
  intro p l e R s m args below meth c D tc ad A H0 H locs cells slots Z ls C hc hsl hA hP hD hS hl hE
  obtain ⟨hd, rfl⟩ := hd
  refine W.lcmp C.1 C.2.1 hd ?_
  exact k p l e R s m args below meth c D tc ad A H0 H locs cells slots Z ls C hc hsl hA hP hD hS hl hE
theorem x_dup {v : Value} (hd : xAt M pc (.dup) 1 pc') (hv : v.category = 1) (k : XP M pc' lv (v :: v :: st) w Q) : XP M pc lv (v :: st) w Q := by
  intro p l e R s m args below meth c D tc ad A H0 H locs cells slots Z ls C hc hsl hA hP hD hS hl hE
  obtain ⟨hd, rfl⟩ := hd
  refine lv_dup C.1 C.2.1 hd (by rw [xv_cat]; exact hv) ?_
  exact k p l e R s m args below meth c D tc ad A H0 H locs cells slots Z ls C hc hsl hA hP hD hS hl hE
theorem x_dup2_11 {v u : Value} (hd : xAt M pc (.dup2) 1 pc') (hv : v.category = 1) (hu : u.category = 1) (k : XP M pc' lv (v :: u :: v :: u :: st) w Q) : XP M pc lv (v :: u :: st) w Q := by
  intro p l e R s m args below meth c D tc ad A H0 H locs cells slots Z ls C hc hsl hA hP hD hS hl hE
  obtain ⟨hd, rfl⟩ := hd
  refine lv_dup2_11 C.1 C.2.1 hd (by rw [xv_cat]; exact hv) (by rw [xv_cat]; exact hu) ?_
  exact k p l e R s m args below meth c D tc ad A H0 H locs cells slots Z ls C hc hsl hA hP hD hS hl hE
theorem x_dadd {x y : UInt64} (hd : xAt M pc (.dadd) 1 pc') (hne : vf_n64 (FP.dadd x y)) (k : XP M pc' lv (.double (FP.dadd x y) :: st) w Q) : XP M pc lv (.double y :: .double x :: st) w Q := by
  intro p l e R s m args below meth c D tc ad A H0 H locs cells slots Z ls C hc hsl hA hP hD hS hl hE
  obtain ⟨hd, rfl⟩ := hd
  refine lv_dadd C.1 C.2.1 hd hne ?_
  exact k p l e R s m args below meth c D tc ad A H0 H locs cells slots Z ls C hc hsl hA hP hD hS hl hE
theorem x_dsub {x y : UInt64} (hd : xAt M pc (.dsub) 1 pc') (hne : vf_n64 (FP.dsub x y)) (k : XP M pc' lv (.double (FP.dsub x y) :: st) w Q) : XP M pc lv (.double y :: .double x :: st) w Q := by
  intro p l e R s m args below meth c D tc ad A H0 H locs cells slots Z ls C hc hsl hA hP hD hS hl hE
  obtain ⟨hd, rfl⟩ := hd
  refine lv_dsub C.1 C.2.1 hd hne ?_
  exact k p l e R s m args below meth c D tc ad A H0 H locs cells slots Z ls C hc hsl hA hP hD hS hl hE
theorem x_dmul {x y : UInt64} (hd : xAt M pc (.dmul) 1 pc') (hne : vf_n64 (FP.dmul x y)) (k : XP M pc' lv (.double (FP.dmul x y) :: st) w Q) : XP M pc lv (.double y :: .double x :: st) w Q := by
  intro p l e R s m args below meth c D tc ad A H0 H locs cells slots Z ls C hc hsl hA hP hD hS hl hE
  obtain ⟨hd, rfl⟩ := hd
  refine lv_dmul C.1 C.2.1 hd hne ?_
  exact k p l e R s m args below meth c D tc ad A H0 H locs cells slots Z ls C hc hsl hA hP hD hS hl hE
theorem x_ddiv {x y : UInt64} (hd : xAt M pc (.ddiv) 1 pc') (hne : vf_n64 (FP.ddiv x y)) (k : XP M pc' lv (.double (FP.ddiv x y) :: st) w Q) : XP M pc lv (.double y :: .double x :: st) w Q := by
  intro p l e R s m args below meth c D tc ad A H0 H locs cells slots Z ls C hc hsl hA hP hD hS hl hE
  obtain ⟨hd, rfl⟩ := hd
  refine lv_ddiv C.1 C.2.1 hd hne ?_
  exact k p l e R s m args below meth c D tc ad A H0 H locs cells slots Z ls C hc hsl hA hP hD hS hl hE
theorem x_dneg {x : UInt64} (hd : xAt M pc (.dneg) 1 pc') (k : XP M pc' lv (.double (FP.dneg x) :: st) w Q) : XP M pc lv (.double x :: st) w Q := by
  intro p l e R s m args below meth c D tc ad A H0 H locs cells slots Z ls C hc hsl hA hP hD hS hl hE
  obtain ⟨hd, rfl⟩ := hd
  refine lv_dneg C.1 C.2.1 hd ?_
  exact k p l e R s m args below meth c D tc ad A H0 H locs cells slots Z ls C hc hsl hA hP hD hS hl hE
theorem x_dcmp {x y : UInt64} {op : CmpOp} (hd : xAt M pc (.dcmp op) 1 pc') (k : XP M pc' lv (.int (Op.cmpValue (FP.dcmp x y) op) :: st) w Q) : XP M pc lv (.double y :: .double x :: st) w Q := by
  intro p l e R s m args below meth c D tc ad A H0 H locs cells slots Z ls C hc hsl hA hP hD hS hl hE
  obtain ⟨hd, rfl⟩ := hd
  refine lv_dcmp C.1 C.2.1 hd ?_
  exact k p l e R s m args below meth c D tc ad A H0 H locs cells slots Z ls C hc hsl hA hP hD hS hl hE
theorem x_i2d {x : Int32} (hd : xAt M pc (.i2d) 1 pc') (k : XP M pc' lv (.double (FP.i2d x) :: st) w Q) : XP M pc lv (.int x :: st) w Q := by
  intro p l e R s m args below meth c D tc ad A H0 H locs cells slots Z ls C hc hsl hA hP hD hS hl hE
  obtain ⟨hd, rfl⟩ := hd
  refine lv_i2d C.1 C.2.1 hd ?_
  exact k p l e R s m args below meth c D tc ad A H0 H locs cells slots Z ls C hc hsl hA hP hD hS hl hE
theorem x_l2d {x : Int64} (hd : xAt M pc (.l2d) 1 pc') (k : XP M pc' lv (.double (FP.l2d x) :: st) w Q) : XP M pc lv (.long x :: st) w Q := by
  intro p l e R s m args below meth c D tc ad A H0 H locs cells slots Z ls C hc hsl hA hP hD hS hl hE
  obtain ⟨hd, rfl⟩ := hd
  refine lv_l2d C.1 C.2.1 hd ?_
  exact k p l e R s m args below meth c D tc ad A H0 H locs cells slots Z ls C hc hsl hA hP hD hS hl hE
theorem x_ldc2 {i : Nat} {v : Int64} (hd : xAt M pc (.ldc2_w i) 3 pc') (hm : Cond.constantLong M.1.cls i v ∈ xTs) (k : XP M pc' lv (.long v :: st) w Q) : XP M pc lv (st) w Q := by
  intro p l e R s m args below meth c D tc ad A H0 H locs cells slots Z ls C hc hsl hA hP hD hS hl hE
  obtain ⟨hd, rfl⟩ := hd
  refine lv_ldc2 C.1 C.2.1 C.2.2.2.1 (C.2.2.2.2.1 _ hm) hd ?_
  exact k p l e R s m args below meth c D tc ad A H0 H locs cells slots Z ls C hc hsl hA hP hD hS hl hE
theorem x_ldc2d {i : Nat} {v : UInt64} (hd : xAt M pc (.ldc2_w i) 3 pc') (hm : Cond.constantDouble M.1.cls i v ∈ xTs) (k : XP M pc' lv (.double v :: st) w Q) : XP M pc lv (st) w Q := by
  intro p l e R s m args below meth c D tc ad A H0 H locs cells slots Z ls C hc hsl hA hP hD hS hl hE
  obtain ⟨hd, rfl⟩ := hd
  refine lv_ldc2d C.1 C.2.1 C.2.2.2.1 (C.2.2.2.2.1 _ hm) hd ?_
  exact k p l e R s m args below meth c D tc ad A H0 H locs cells slots Z ls C hc hsl hA hP hD hS hl hE
theorem x_if_eq {x : Int32} (hd : xBr M pc (.ifCond .eq) off pc' tgt) (kt : x = 0 → XP M tgt lv st w Q) (kf : ¬ x = 0 → XP M pc' lv st w Q) : XP M pc lv (.int x :: st) w Q := by
  intro p l e R s m args below meth c D tc ad A H0 H locs cells slots Z ls C hc hsl hA hP hD hS hl hE
  obtain ⟨hd, rfl, ht⟩ := hd
  refine lv_if_eq C.1 C.2.1 hd ht (fun h => ?_) (fun h => ?_)
  · exact kt h p l e R s m args below meth c D tc ad A H0 H locs cells slots Z ls C hc hsl hA hP hD hS hl hE
  · exact kf h p l e R s m args below meth c D tc ad A H0 H locs cells slots Z ls C hc hsl hA hP hD hS hl hE
theorem x_icmp_eq {x y : Int32} (hd : xBr M pc (.if_icmp .eq) off pc' tgt) (kt : x = y → XP M tgt lv st w Q) (kf : ¬ x = y → XP M pc' lv st w Q) : XP M pc lv (.int y :: .int x :: st) w Q := by
  intro p l e R s m args below meth c D tc ad A H0 H locs cells slots Z ls C hc hsl hA hP hD hS hl hE
  obtain ⟨hd, rfl, ht⟩ := hd
  refine lv_icmp_eq C.1 C.2.1 hd ht (fun h => ?_) (fun h => ?_)
  · exact kt h p l e R s m args below meth c D tc ad A H0 H locs cells slots Z ls C hc hsl hA hP hD hS hl hE
  · exact kf h p l e R s m args below meth c D tc ad A H0 H locs cells slots Z ls C hc hsl hA hP hD hS hl hE
theorem x_if_ne {x : Int32} (hd : xBr M pc (.ifCond .ne) off pc' tgt) (kt : ¬ x = 0 → XP M tgt lv st w Q) (kf : x = 0 → XP M pc' lv st w Q) : XP M pc lv (.int x :: st) w Q := by
  intro p l e R s m args below meth c D tc ad A H0 H locs cells slots Z ls C hc hsl hA hP hD hS hl hE
  obtain ⟨hd, rfl, ht⟩ := hd
  refine lv_if_ne C.1 C.2.1 hd ht (fun h => ?_) (fun h => ?_)
  · exact kt h p l e R s m args below meth c D tc ad A H0 H locs cells slots Z ls C hc hsl hA hP hD hS hl hE
  · exact kf h p l e R s m args below meth c D tc ad A H0 H locs cells slots Z ls C hc hsl hA hP hD hS hl hE
theorem x_icmp_ne {x y : Int32} (hd : xBr M pc (.if_icmp .ne) off pc' tgt) (kt : ¬ x = y → XP M tgt lv st w Q) (kf : x = y → XP M pc' lv st w Q) : XP M pc lv (.int y :: .int x :: st) w Q := by
  intro p l e R s m args below meth c D tc ad A H0 H locs cells slots Z ls C hc hsl hA hP hD hS hl hE
  obtain ⟨hd, rfl, ht⟩ := hd
  refine lv_icmp_ne C.1 C.2.1 hd ht (fun h => ?_) (fun h => ?_)
  · exact kt h p l e R s m args below meth c D tc ad A H0 H locs cells slots Z ls C hc hsl hA hP hD hS hl hE
  · exact kf h p l e R s m args below meth c D tc ad A H0 H locs cells slots Z ls C hc hsl hA hP hD hS hl hE
theorem x_if_lt {x : Int32} (hd : xBr M pc (.ifCond .lt) off pc' tgt) (kt : x < 0 → XP M tgt lv st w Q) (kf : ¬ x < 0 → XP M pc' lv st w Q) : XP M pc lv (.int x :: st) w Q := by
  intro p l e R s m args below meth c D tc ad A H0 H locs cells slots Z ls C hc hsl hA hP hD hS hl hE
  obtain ⟨hd, rfl, ht⟩ := hd
  refine lv_if_lt C.1 C.2.1 hd ht (fun h => ?_) (fun h => ?_)
  · exact kt h p l e R s m args below meth c D tc ad A H0 H locs cells slots Z ls C hc hsl hA hP hD hS hl hE
  · exact kf h p l e R s m args below meth c D tc ad A H0 H locs cells slots Z ls C hc hsl hA hP hD hS hl hE
theorem x_icmp_lt {x y : Int32} (hd : xBr M pc (.if_icmp .lt) off pc' tgt) (kt : x < y → XP M tgt lv st w Q) (kf : ¬ x < y → XP M pc' lv st w Q) : XP M pc lv (.int y :: .int x :: st) w Q := by
  intro p l e R s m args below meth c D tc ad A H0 H locs cells slots Z ls C hc hsl hA hP hD hS hl hE
  obtain ⟨hd, rfl, ht⟩ := hd
  refine lv_icmp_lt C.1 C.2.1 hd ht (fun h => ?_) (fun h => ?_)
  · exact kt h p l e R s m args below meth c D tc ad A H0 H locs cells slots Z ls C hc hsl hA hP hD hS hl hE
  · exact kf h p l e R s m args below meth c D tc ad A H0 H locs cells slots Z ls C hc hsl hA hP hD hS hl hE
theorem x_if_ge {x : Int32} (hd : xBr M pc (.ifCond .ge) off pc' tgt) (kt : 0 ≤ x → XP M tgt lv st w Q) (kf : ¬ 0 ≤ x → XP M pc' lv st w Q) : XP M pc lv (.int x :: st) w Q := by
  intro p l e R s m args below meth c D tc ad A H0 H locs cells slots Z ls C hc hsl hA hP hD hS hl hE
  obtain ⟨hd, rfl, ht⟩ := hd
  refine lv_if_ge C.1 C.2.1 hd ht (fun h => ?_) (fun h => ?_)
  · exact kt h p l e R s m args below meth c D tc ad A H0 H locs cells slots Z ls C hc hsl hA hP hD hS hl hE
  · exact kf h p l e R s m args below meth c D tc ad A H0 H locs cells slots Z ls C hc hsl hA hP hD hS hl hE
theorem x_icmp_ge {x y : Int32} (hd : xBr M pc (.if_icmp .ge) off pc' tgt) (kt : y ≤ x → XP M tgt lv st w Q) (kf : ¬ y ≤ x → XP M pc' lv st w Q) : XP M pc lv (.int y :: .int x :: st) w Q := by
  intro p l e R s m args below meth c D tc ad A H0 H locs cells slots Z ls C hc hsl hA hP hD hS hl hE
  obtain ⟨hd, rfl, ht⟩ := hd
  refine lv_icmp_ge C.1 C.2.1 hd ht (fun h => ?_) (fun h => ?_)
  · exact kt h p l e R s m args below meth c D tc ad A H0 H locs cells slots Z ls C hc hsl hA hP hD hS hl hE
  · exact kf h p l e R s m args below meth c D tc ad A H0 H locs cells slots Z ls C hc hsl hA hP hD hS hl hE
theorem x_if_gt {x : Int32} (hd : xBr M pc (.ifCond .gt) off pc' tgt) (kt : 0 < x → XP M tgt lv st w Q) (kf : ¬ 0 < x → XP M pc' lv st w Q) : XP M pc lv (.int x :: st) w Q := by
  intro p l e R s m args below meth c D tc ad A H0 H locs cells slots Z ls C hc hsl hA hP hD hS hl hE
  obtain ⟨hd, rfl, ht⟩ := hd
  refine lv_if_gt C.1 C.2.1 hd ht (fun h => ?_) (fun h => ?_)
  · exact kt h p l e R s m args below meth c D tc ad A H0 H locs cells slots Z ls C hc hsl hA hP hD hS hl hE
  · exact kf h p l e R s m args below meth c D tc ad A H0 H locs cells slots Z ls C hc hsl hA hP hD hS hl hE
theorem x_icmp_gt {x y : Int32} (hd : xBr M pc (.if_icmp .gt) off pc' tgt) (kt : y < x → XP M tgt lv st w Q) (kf : ¬ y < x → XP M pc' lv st w Q) : XP M pc lv (.int y :: .int x :: st) w Q := by
  intro p l e R s m args below meth c D tc ad A H0 H locs cells slots Z ls C hc hsl hA hP hD hS hl hE
  obtain ⟨hd, rfl, ht⟩ := hd
  refine lv_icmp_gt C.1 C.2.1 hd ht (fun h => ?_) (fun h => ?_)
  · exact kt h p l e R s m args below meth c D tc ad A H0 H locs cells slots Z ls C hc hsl hA hP hD hS hl hE
  · exact kf h p l e R s m args below meth c D tc ad A H0 H locs cells slots Z ls C hc hsl hA hP hD hS hl hE
theorem x_if_le {x : Int32} (hd : xBr M pc (.ifCond .le) off pc' tgt) (kt : x ≤ 0 → XP M tgt lv st w Q) (kf : ¬ x ≤ 0 → XP M pc' lv st w Q) : XP M pc lv (.int x :: st) w Q := by
  intro p l e R s m args below meth c D tc ad A H0 H locs cells slots Z ls C hc hsl hA hP hD hS hl hE
  obtain ⟨hd, rfl, ht⟩ := hd
  refine lv_if_le C.1 C.2.1 hd ht (fun h => ?_) (fun h => ?_)
  · exact kt h p l e R s m args below meth c D tc ad A H0 H locs cells slots Z ls C hc hsl hA hP hD hS hl hE
  · exact kf h p l e R s m args below meth c D tc ad A H0 H locs cells slots Z ls C hc hsl hA hP hD hS hl hE
theorem x_icmp_le {x y : Int32} (hd : xBr M pc (.if_icmp .le) off pc' tgt) (kt : x ≤ y → XP M tgt lv st w Q) (kf : ¬ x ≤ y → XP M pc' lv st w Q) : XP M pc lv (.int y :: .int x :: st) w Q := by
  intro p l e R s m args below meth c D tc ad A H0 H locs cells slots Z ls C hc hsl hA hP hD hS hl hE
  obtain ⟨hd, rfl, ht⟩ := hd
  refine lv_icmp_le C.1 C.2.1 hd ht (fun h => ?_) (fun h => ?_)
  · exact kt h p l e R s m args below meth c D tc ad A H0 H locs cells slots Z ls C hc hsl hA hP hD hS hl hE
  · exact kf h p l e R s m args below meth c D tc ad A H0 H locs cells slots Z ls C hc hsl hA hP hD hS hl hE
theorem x_goto (hd : xBr M pc .goto off pc' tgt) (k : XP M tgt lv st w Q) : XP M pc lv st w Q := by
  intro p l e R s m args below meth c D tc ad A H0 H locs cells slots Z ls C hc hsl hA hP hD hS hl hE
  obtain ⟨hd, -, ht⟩ := hd
  refine lv_goto C.1 C.2.1 hd ht ?_
  exact k p l e R s m args below meth c D tc ad A H0 H locs cells slots Z ls C hc hsl hA hP hD hS hl hE
theorem x_vret (hd : xAt M pc .return_ 1 pc') (hr : M.2.2.2.1 = none) (hq : Q none w) : XP M pc lv [] w Q := by
  intro p l e R s m args below meth c D tc ad A H0 H locs cells slots Z ls C hc hsl hA hP hD hS hl hE
  exact hE none w H locs pc ls hq hP hS ⟨hr, hd.1⟩
theorem x_iret {x : Int32} {ty : FieldType} (hd : xAt M pc .ireturn 1 pc') (hr : M.2.2.2.1 = some ty) (hn : narrow ty (.int x) = .int x) (hq : Q (some (.int x)) w) : XP M pc lv [.int x] w Q := by
  intro p l e R s m args below meth c D tc ad A H0 H locs cells slots Z ls C hc hsl hA hP hD hS hl hE
  exact hE (some (.int x)) w H locs pc ls hq hP hS ⟨⟨ty, hr, hn⟩, hd.1⟩
theorem x_lret {x : Int64} (hd : xAt M pc .lreturn 1 pc') (hr : M.2.2.2.1 = some .long) (hq : Q (some (.long x)) w) : XP M pc lv [.long x] w Q := by
  intro p l e R s m args below meth c D tc ad A H0 H locs cells slots Z ls C hc hsl hA hP hD hS hl hE
  exact hE (some (.long x)) w H locs pc ls hq hP hS ⟨hr, hd.1⟩
theorem x_dret {x : UInt64} (hd : xAt M pc .dreturn 1 pc') (hr : M.2.2.2.1 = some .double) (hq : Q (some (.double x)) w) : XP M pc lv [.double x] w Q := by
  intro p l e R s m args below meth c D tc ad A H0 H locs cells slots Z ls C hc hsl hA hP hD hS hl hE
  exact hE (some (.double x)) w H locs pc ls hq hP hS ⟨hr, hd.1⟩
theorem x_topi {x : Int32} (k : ∀ y : Int32, y = x → XP M pc lv (.int y :: st) w Q) : XP M pc lv (.int x :: st) w Q := k x rfl
theorem x_topl {x : Int64} (k : ∀ y : Int64, y = x → XP M pc lv (.long y :: st) w Q) : XP M pc lv (.long x :: st) w Q := k x rfl
theorem x_topd {x : UInt64} (k : ∀ y : UInt64, y = x → XP M pc lv (.double y :: st) w Q) : XP M pc lv (.double x :: st) w Q := k x rfl
/-- the link (own, index) is slot f of kind ci -/
def xFld (own : String) (index ci f : Nat) : Prop := ∃ (C : String) (T : u_T) (N : Nat), vwCl[ci]? = some (C, T, N) ∧ f < N ∧ (∀ w ∈ u_ws C T N, w ∈ xTs) ∧ (T f).1 = C ∧ (Cond.fieldLink own index C (T f).2.1 (T f).2.2.1 ∈ xTs ∨ ∃ host, Cond.fieldLinkNest own index C (T f).2.1 (T f).2.2.1 host ∈ xNs)
/-- and may be written with values of type ty -/
def xFldW (ci f : Nat) (ty : FieldType) : Prop := ∃ (C : String) (T : u_T) (N : Nat) (t : Nat → FieldType), vwCl[ci]? = some (C, T, N) ∧ (∀ k, k < N → parseFieldDescriptor (T k).2.2.1 = some (t k)) ∧ (∀ a, a < N → ∀ b, b < N → a ≠ b → (T a).2.1 ≠ (T b).2.1) ∧ (T f).2.2.2 = false ∧ parseFieldDescriptor (T f).2.2.1 = some ty
theorem xE_obj {tc ad : Nat → Nat} {w : xW} {k ci : Nat} {fs : List Value} (hk : k < xN) (hw : w k = .inr (ci, fs)) : (xws tc ad w)[k]? = some (ad k, .inr (ci, fs.map (xv ad))) := by rw [xws_at hk, hw]; rfl
theorem x_getf {k ci i f : Nat} {fs : List Value} {v : Value} (hd : xAt M pc (.getfield i) 3 pc') (hF : xFld M.1.cls i ci f) (hw : w k = .inr (ci, fs)) (hk : k < xN) (hv : fs[f]? = some v) (kk : XP M pc' lv (v :: st) w Q) : XP M pc lv (.ref k :: st) w Q := by
  intro p l e R s m args below meth c D tc ad A H0 H locs cells slots Z ls C hc hsl hA hP hD hS hl hE
  obtain ⟨hd, rfl⟩ := hd
  obtain ⟨CN, T, N, h1, h2, h3, h4, h5⟩ := hF
  have hv' : (fs.map (xv ad))[f]? = some (xv ad v) := by rw [List.getElem?_map, hv]; rfl
  rcases h5 with h5 | ⟨host, h5⟩
  · refine va_get C.1 C.2.1 C.2.2.2.2.1 h3 C.2.2.2.1 C.2.2.2.2.2.2.1 hP k (xE_obj hk hw) h1 f h2 (C.2.2.2.2.1 _ h5) (fun x h => by rw [h4] at h; exact h) hv' hd ?_
    exact kk p l e R s m args below meth c D tc ad A H0 H locs cells slots Z ls C hc hsl hA hP hD hS hl hE
  · refine va_getN C.1 C.2.1 C.2.2.2.2.1 h3 C.2.2.2.1 C.2.2.2.2.2.2.1 hP k (xE_obj hk hw) h1 f h2 (va_Nw.use rfl (C.2.2.2.2.2.1 _ h5)) (fun x h => by rw [h4] at h; exact h) hv' hd ?_
    exact kk p l e R s m args below meth c D tc ad A H0 H locs cells slots Z ls C hc hsl hA hP hD hS hl hE
theorem x_putf {k ci i f : Nat} {fs : List Value} {x : Int32} {ty : FieldType} (hd : xAt M pc (.putfield i) 3 pc') (hF : xFld M.1.cls i ci f) (hFW : xFldW ci f ty) (hw : w k = .inr (ci, fs)) (hk : k < xN) (hn : narrow ty (.int x) = .int x) (hf : fits ty (.int x) = true) (hfl : f < fs.length) (kk : XP M pc' lv st (xup w k (.inr (ci, fs.set f (.int x)))) Q) : XP M pc lv (.int x :: .ref k :: st) w Q := by
  intro p l e R s m args below meth c D tc ad A H0 H locs cells slots Z ls C hc hsl hA hP hD hS hl hE
  obtain ⟨hd, rfl⟩ := hd
  obtain ⟨CN, T, N, h1, h2, h3, h4, h5⟩ := hF
  obtain ⟨CN', T', N', t, g1, g2, g3, g4, g5⟩ := hFW
  rw [h1] at g1
  obtain ⟨rfl, rfl, rfl⟩ : CN = CN' ∧ T = T' ∧ N = N' := by
    have := Option.some.inj g1
    exact ⟨congrArg Prod.fst this, congrArg (fun q => q.2.1) this, congrArg (fun q => q.2.2) this⟩
  have hset : (xws tc ad w).set k (ad k, .inr (ci, (fs.map (xv ad)).set f (.int x))) = xws tc ad (xup w k (.inr (ci, fs.set f (.int x)))) := by
    rw [← xws_set hk]
    show _ = (xws tc ad w).set k (ad k, .inr (ci, (fs.set f (.int x)).map (xv ad)))
    rw [List.map_set]; rfl
  have hfl' : f < (fs.map (xv ad)).length := by rw [List.length_map]; exact hfl
  rcases h5 with h5 | ⟨host, h5⟩
  · refine va_put C.1 C.2.1 C.2.2.2.2.1 h3 t g2 g3 C.2.2.2.1 C.2.2.2.2.2.2.1 hP (hD.d w) hS k (xE_obj hk hw) h1 f h2 (C.2.2.2.2.1 _ h5) (fun x h => by rw [h4] at h; exact h) g4 g5 hn hf hfl' hd (fun H locs hP _ hS => ?_)
    have hP : va_P D vwCl ((xws tc ad w).set k (ad k, .inr (ci, (fs.map (xv ad)).set f (.int x)))) H := hP
    rw [hset] at hP
    exact kk p l e R s m args below meth c D tc ad A H0 H locs cells slots Z ls C hc hsl hA hP hD hS hl hE
  · refine va_putN C.1 C.2.1 C.2.2.2.2.1 h3 t g2 g3 C.2.2.2.1 C.2.2.2.2.2.2.1 hP (hD.d w) hS k (xE_obj hk hw) h1 f h2 (va_Nw.use rfl (C.2.2.2.2.2.1 _ h5)) (fun x h => by rw [h4] at h; exact h) g4 g5 hn hf hfl' hd (fun H locs hP _ hS => ?_)
    have hP : va_P D vwCl ((xws tc ad w).set k (ad k, .inr (ci, (fs.map (xv ad)).set f (.int x)))) H := hP
    rw [hset] at hP
    exact kk p l e R s m args below meth c D tc ad A H0 H locs cells slots Z ls C hc hsl hA hP hD hS hl hE
theorem x_iald {a n j : Nat} {f : Nat → Int32} {i : Int32} (hd : xAt M pc .iaload 1 pc') (hw : w a = .inl (0, n, .inl f)) (ha : a < xN) (hi : i = nI j) (hj : j < n) (hn : n < 2 ^ 31) (kk : XP M pc' lv (.int (f j) :: st) w Q) : XP M pc lv (.int i :: .ref a :: st) w Q := by
  intro p l e R s m args below meth c D tc ad A H0 H locs cells slots Z ls C hc hsl hA hP hD hS hl hE
  obtain ⟨hd, rfl⟩ := hd
  subst hi
  have he : (xws tc ad w)[a]? = some (ad a, .inl (tc 0, n, .inl f)) := by rw [xws_at ha, hw]; rfl
  refine va_iald C.1 C.2.1 C.2.2.2.2.2.2.1 hP a 0 he rfl (vp_in_nI hj hn) hd ?_
  rw [nI_clamp (by omega)]
  exact kk p l e R s m args below meth c D tc ad A H0 H locs cells slots Z ls C hc hsl hA hP hD hS hl hE
theorem x_iast {a n j : Nat} {f : Nat → Int32} {i : Int32} {x : Int32} (hd : xAt M pc .iastore 1 pc') (hw : w a = .inl (0, n, .inl f)) (ha : a < xN) (hi : i = nI j) (hj : j < n) (hn : n < 2 ^ 31) (kk : XP M pc' lv st (xup w a (.inl (0, n, .inl (upd f j x)))) Q) : XP M pc lv (.int x :: .int i :: .ref a :: st) w Q := by
  intro p l e R s m args below meth c D tc ad A H0 H locs cells slots Z ls C hc hsl hA hP hD hS hl hE
  obtain ⟨hd, rfl⟩ := hd
  subst hi
  have he : (xws tc ad w)[a]? = some (ad a, .inl (tc 0, n, .inl f)) := by rw [xws_at ha, hw]; rfl
  refine va_iast C.1 C.2.1 C.2.2.2.2.2.2.1 hP (hD.d w) hS a 0 he rfl (vp_in_nI hj hn) hd (fun H locs hP _ hS => ?_)
  rw [nI_clamp (by omega)] at hP
  have hP := (xws_set (tc := tc) (ad := ad) (w := w) (e := .inl (0, n, .inl (upd f j x))) ha) ▸ hP
  exact kk p l e R s m args below meth c D tc ad A H0 H locs cells slots Z ls C hc hsl hA hP hD hS hl hE
theorem x_zald {a n j : Nat} {f : Nat → Int32} {i : Int32} (hd : xAt M pc .baload 1 pc') (hw : w a = .inl (3, n, .inl f)) (ha : a < xN) (hi : i = nI j) (hj : j < n) (hn : n < 2 ^ 31) (kk : XP M pc' lv (.int (f j) :: st) w Q) : XP M pc lv (.int i :: .ref a :: st) w Q := by
  intro p l e R s m args below meth c D tc ad A H0 H locs cells slots Z ls C hc hsl hA hP hD hS hl hE
  obtain ⟨hd, rfl⟩ := hd
  subst hi
  have he : (xws tc ad w)[a]? = some (ad a, .inl (tc 3, n, .inl f)) := by rw [xws_at ha, hw]; rfl
  refine va_zald C.1 C.2.1 C.2.2.2.2.2.2.1 hP a 3 he rfl (vp_in_nI hj hn) hd ?_
  rw [nI_clamp (by omega)]
  exact kk p l e R s m args below meth c D tc ad A H0 H locs cells slots Z ls C hc hsl hA hP hD hS hl hE
theorem x_zast {a n j : Nat} {f : Nat → Int32} {i : Int32} {x : Int32} (hd : xAt M pc .bastore 1 pc') (hw : w a = .inl (3, n, .inl f)) (ha : a < xN) (hi : i = nI j) (hj : j < n) (hn : n < 2 ^ 31) (kk : XP M pc' lv st (xup w a (.inl (3, n, .inl (upd f j (vp_nar .boolean x))))) Q) : XP M pc lv (.int x :: .int i :: .ref a :: st) w Q := by
  intro p l e R s m args below meth c D tc ad A H0 H locs cells slots Z ls C hc hsl hA hP hD hS hl hE
  obtain ⟨hd, rfl⟩ := hd
  subst hi
  have he : (xws tc ad w)[a]? = some (ad a, .inl (tc 3, n, .inl f)) := by rw [xws_at ha, hw]; rfl
  refine va_zast C.1 C.2.1 C.2.2.2.2.2.2.1 hP (hD.d w) hS a 3 he rfl (vp_in_nI hj hn) hd (fun H locs hP _ hS => ?_)
  rw [nI_clamp (by omega)] at hP
  have hP := (xws_set (tc := tc) (ad := ad) (w := w) (e := .inl (3, n, .inl (upd f j (vp_nar .boolean x)))) ha) ▸ hP
  exact kk p l e R s m args below meth c D tc ad A H0 H locs cells slots Z ls C hc hsl hA hP hD hS hl hE
theorem x_lald {a n j : Nat} {f : Nat → Int64} {i : Int32} (hd : xAt M pc .laload 1 pc') (hw : w a = .inl (1, n, .inr (.inl f))) (ha : a < xN) (hi : i = nI j) (hj : j < n) (hn : n < 2 ^ 31) (kk : XP M pc' lv (.long (f j) :: st) w Q) : XP M pc lv (.int i :: .ref a :: st) w Q := by
  intro p l e R s m args below meth c D tc ad A H0 H locs cells slots Z ls C hc hsl hA hP hD hS hl hE
  obtain ⟨hd, rfl⟩ := hd
  subst hi
  have he : (xws tc ad w)[a]? = some (ad a, .inl (tc 1, n, .inr (.inl f))) := by rw [xws_at ha, hw]; rfl
  refine va_lald C.1 C.2.1 C.2.2.2.2.2.2.1 hP a 1 he rfl (vp_in_nI hj hn) hd ?_
  rw [nI_clamp (by omega)]
  exact kk p l e R s m args below meth c D tc ad A H0 H locs cells slots Z ls C hc hsl hA hP hD hS hl hE
theorem x_last {a n j : Nat} {f : Nat → Int64} {i : Int32} {x : Int64} (hd : xAt M pc .lastore 1 pc') (hw : w a = .inl (1, n, .inr (.inl f))) (ha : a < xN) (hi : i = nI j) (hj : j < n) (hn : n < 2 ^ 31) (kk : XP M pc' lv st (xup w a (.inl (1, n, .inr (.inl (vp_updL f j x))))) Q) : XP M pc lv (.long x :: .int i :: .ref a :: st) w Q := by
  intro p l e R s m args below meth c D tc ad A H0 H locs cells slots Z ls C hc hsl hA hP hD hS hl hE
  obtain ⟨hd, rfl⟩ := hd
  subst hi
  have he : (xws tc ad w)[a]? = some (ad a, .inl (tc 1, n, .inr (.inl f))) := by rw [xws_at ha, hw]; rfl
  refine va_last C.1 C.2.1 C.2.2.2.2.2.2.1 hP (hD.d w) hS a 1 he rfl (vp_in_nI hj hn) hd (fun H locs hP _ hS => ?_)
  rw [nI_clamp (by omega)] at hP
  have hP := (xws_set (tc := tc) (ad := ad) (w := w) (e := .inl (1, n, .inr (.inl (vp_updL f j x)))) ha) ▸ hP
  exact kk p l e R s m args below meth c D tc ad A H0 H locs cells slots Z ls C hc hsl hA hP hD hS hl hE
theorem x_dald {a n j : Nat} {f : Nat → UInt64} {i : Int32} (hd : xAt M pc .daload 1 pc') (hw : w a = .inl (2, n, .inr (.inr (.inr (.inl f))))) (ha : a < xN) (hi : i = nI j) (hj : j < n) (hn : n < 2 ^ 31) (kk : XP M pc' lv (.double (f j) :: st) w Q) : XP M pc lv (.int i :: .ref a :: st) w Q := by
  intro p l e R s m args below meth c D tc ad A H0 H locs cells slots Z ls C hc hsl hA hP hD hS hl hE
  obtain ⟨hd, rfl⟩ := hd
  subst hi
  have he : (xws tc ad w)[a]? = some (ad a, .inl (tc 2, n, .inr (.inr (.inr (.inl f))))) := by rw [xws_at ha, hw]; rfl
  refine va_dald C.1 C.2.1 C.2.2.2.2.2.2.1 hP a 2 he rfl (vp_in_nI hj hn) hd ?_
  rw [nI_clamp (by omega)]
  exact kk p l e R s m args below meth c D tc ad A H0 H locs cells slots Z ls C hc hsl hA hP hD hS hl hE
theorem x_dast {a n j : Nat} {f : Nat → UInt64} {i : Int32} {x : UInt64} (hd : xAt M pc .dastore 1 pc') (hw : w a = .inl (2, n, .inr (.inr (.inr (.inl f))))) (ha : a < xN) (hi : i = nI j) (hj : j < n) (hn : n < 2 ^ 31) (kk : XP M pc' lv st (xup w a (.inl (2, n, .inr (.inr (.inr (.inl (vf_upd f j x))))))) Q) : XP M pc lv (.double x :: .int i :: .ref a :: st) w Q := by
  intro p l e R s m args below meth c D tc ad A H0 H locs cells slots Z ls C hc hsl hA hP hD hS hl hE
  obtain ⟨hd, rfl⟩ := hd
  subst hi
  have he : (xws tc ad w)[a]? = some (ad a, .inl (tc 2, n, .inr (.inr (.inr (.inl f))))) := by rw [xws_at ha, hw]; rfl
  refine va_dast C.1 C.2.1 C.2.2.2.2.2.2.1 hP (hD.d w) hS a 2 he rfl (vp_in_nI hj hn) hd (fun H locs hP _ hS => ?_)
  rw [nI_clamp (by omega)] at hP
  have hP := (xws_set (tc := tc) (ad := ad) (w := w) (e := .inl (2, n, .inr (.inr (.inr (.inl (vf_upd f j x)))))) ha) ▸ hP
  exact kk p l e R s m args below meth c D tc ad A H0 H locs cells slots Z ls C hc hsl hA hP hD hS hl hE
theorem x_rald {t a n j k : Nat} {C9 : String} {f : Nat → Option Nat} {i : Int32} (hd : xAt M pc .aaload 1 pc') (hw : w a = .inl (t, n, .inr (.inr (.inr (.inr f))))) (ht : (t = 4 ∧ C9 = "ParcelMap$Parcel") ∨ (t = 5 ∧ C9 = "ParcelMap$Wide")) (ha : a < xN) (hi : i = nI j) (hj : j < n) (hn : n < 2 ^ 31) (hf : f j = some k) (kk : XP M pc' lv (.ref k :: st) w Q) : XP M pc lv (.int i :: .ref a :: st) w Q := by
  intro p l e R s m args below meth c D tc ad A H0 H locs cells slots Z ls C hc hsl hA hP hD hS hl hE
  obtain ⟨hd, rfl⟩ := hd
  subst hi
  have he : (xws tc ad w)[a]? = some (ad a, .inl (tc t, n, .inr (.inr (.inr (.inr (fun j => (f j).map ad)))))) := by rw [xws_at ha, hw]; rfl
  have ht' : (xtys tc)[t]? = some (tc t, .object C9) := by rcases ht with ⟨rfl, rfl⟩ | ⟨rfl, rfl⟩ <;> rfl
  refine va_aldq C.1 C.2.1 C.2.2.2.2.2.2.1 hP a t he ht' (vp_in_nI hj hn) hd ?_
  rw [nI_clamp (by omega)]
  simp only [hf, Option.map_some, va_rf]
  exact kk p l e R s m args below meth c D tc ad A H0 H locs cells slots Z ls C hc hsl hA hP hD hS hl hE
end XR
