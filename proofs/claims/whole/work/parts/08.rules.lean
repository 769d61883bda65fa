/-! ===== rules with naturals, truth values, comparisons; calls with an answer, without one ===== -/
def bI (b : Bool) : Int32 := if b then 1 else 0
theorem bI_01 (b : Bool) : bI b = 0 ∨ bI b = 1 := by cases b <;> simp [bI]
theorem bI_nar (b : Bool) : narrow .boolean (.int (bI b)) = .int (bI b) := by cases b <;> rfl
theorem nI_inc (k : Nat) : nI k + Int32.ofInt 1 = nI (k + 1) := nI_1 k
theorem lgc_eq (x y : Int64) : lg_cmp x y = 0 ↔ x = y := by
  unfold lg_cmp
  split
  · rename_i h
    constructor
    · intro h2; exact absurd h2 (by decide)
    · intro h2; subst h2; exact absurd h Int64.lt_irrefl
  · split
    · rename_i h; exact ⟨fun _ => h, fun _ => rfl⟩
    · rename_i h
      constructor
      · intro h2; exact absurd h2 (by decide)
      · intro h2; exact absurd h2 h
theorem lgc_lt (x y : Int64) : lg_cmp x y < 0 ↔ x < y := by
  unfold lg_cmp
  split
  · rename_i h
    constructor
    · intro h2; exact absurd h2 (by decide)
    · intro h2; exact absurd h2 (Int64.lt_asymm h)
  · split
    · rename_i h; subst h
      exact ⟨fun h2 => absurd h2 (by decide), fun h2 => absurd h2 Int64.lt_irrefl⟩
    · rename_i h1 h
      refine ⟨fun _ => ?_, fun _ => by decide⟩
      rw [Int64.lt_iff_toInt_lt]
      have h3 : ¬ y.toInt < x.toInt := fun h4 => h1 (Int64.lt_iff_toInt_lt.mpr h4)
      have h5 : x.toInt ≠ y.toInt := fun h4 => h (Int64.toInt_inj.mp h4)
      omega
theorem lgc_gt (x y : Int64) : 0 < lg_cmp x y ↔ y < x := by
  unfold lg_cmp
  split
  · rename_i h
    exact ⟨fun _ => h, fun _ => by decide⟩
  · split
    · rename_i h; subst h
      exact ⟨fun h2 => absurd h2 (by decide), fun h2 => absurd h2 Int64.lt_irrefl⟩
    · rename_i h1 h
      exact ⟨fun h2 => absurd h2 (by decide), fun h2 => absurd h2 h1⟩
section NR
variable {M : xM} {pc pc' tgt : Nat} {off : Int} {lv lv' : List (Nat × Value)} {st : List Value} {w : xW} {Q : Option Value → xW → Prop} {a b : Nat}
theorem x_iaddN (hd : xAt M pc .iadd 1 pc') (k : XP M pc' lv (.int (nI (a + b)) :: st) w Q) : XP M pc lv (.int (nI b) :: .int (nI a) :: st) w Q := x_iadd hd (by rw [nI_add]; exact k)
theorem x_imulN (hd : xAt M pc .imul 1 pc') (k : XP M pc' lv (.int (nI (a * b)) :: st) w Q) : XP M pc lv (.int (nI b) :: .int (nI a) :: st) w Q := x_imul hd (by rw [pk_mul]; exact k)
theorem x_isubN (hd : xAt M pc .isub 1 pc') (h : b ≤ a) (k : XP M pc' lv (.int (nI (a - b)) :: st) w Q) : XP M pc lv (.int (nI b) :: .int (nI a) :: st) w Q := x_isub hd (by rw [pk_sub h]; exact k)
theorem x_idivN (hd : xAt M pc .idiv 1 pc') (ha : a < 2 ^ 31) (h0 : 0 < b) (hb : b < 2 ^ 31) (k : XP M pc' lv (.int (nI (a / b)) :: st) w Q) : XP M pc lv (.int (nI b) :: .int (nI a) :: st) w Q := x_idiv hd (nI_ne0 h0 hb) (by rw [pk_div ha h0 hb]; exact k)
theorem x_iremN (hd : xAt M pc .irem 1 pc') (ha : a < 2 ^ 31) (h0 : 0 < b) (hb : b < 2 ^ 31) (k : XP M pc' lv (.int (nI (a % b)) :: st) w Q) : XP M pc lv (.int (nI b) :: .int (nI a) :: st) w Q := x_irem hd (nI_ne0 h0 hb) (by rw [pk_rem ha h0 hb]; exact k)
theorem x_icmp_eqN (hd : xBr M pc (.if_icmp .eq) off pc' tgt) (ha : a < 2 ^ 31) (hb : b < 2 ^ 31) (kt : a = b → XP M tgt lv st w Q) (kf : a ≠ b → XP M pc' lv st w Q) : XP M pc lv (.int (nI b) :: .int (nI a) :: st) w Q := x_icmp_eq hd (fun h => kt ((nI_eq ha hb).mp h)) (fun h => kf (fun h2 => h ((nI_eq ha hb).mpr h2)))
theorem x_icmp_neN (hd : xBr M pc (.if_icmp .ne) off pc' tgt) (ha : a < 2 ^ 31) (hb : b < 2 ^ 31) (kt : a ≠ b → XP M tgt lv st w Q) (kf : a = b → XP M pc' lv st w Q) : XP M pc lv (.int (nI b) :: .int (nI a) :: st) w Q := x_icmp_ne hd (fun h => kt (fun h2 => h ((nI_eq ha hb).mpr h2))) (fun h => kf ((nI_eq ha hb).mp h))
theorem x_icmp_ltN (hd : xBr M pc (.if_icmp .lt) off pc' tgt) (ha : a < 2 ^ 31) (hb : b < 2 ^ 31) (kt : a < b → XP M tgt lv st w Q) (kf : b ≤ a → XP M pc' lv st w Q) : XP M pc lv (.int (nI b) :: .int (nI a) :: st) w Q := x_icmp_lt hd (fun h => kt ((nI_ltI ha hb).mp h)) (fun h => kf (Nat.le_of_not_lt (fun h2 => h ((nI_ltI ha hb).mpr h2))))
theorem x_icmp_geN (hd : xBr M pc (.if_icmp .ge) off pc' tgt) (ha : a < 2 ^ 31) (hb : b < 2 ^ 31) (kt : b ≤ a → XP M tgt lv st w Q) (kf : a < b → XP M pc' lv st w Q) : XP M pc lv (.int (nI b) :: .int (nI a) :: st) w Q := x_icmp_ge hd (fun h => kt ((nI_leI hb ha).mp h)) (fun h => kf (Nat.lt_of_not_le (fun h2 => h ((nI_leI hb ha).mpr h2))))
theorem x_icmp_gtN (hd : xBr M pc (.if_icmp .gt) off pc' tgt) (ha : a < 2 ^ 31) (hb : b < 2 ^ 31) (kt : b < a → XP M tgt lv st w Q) (kf : a ≤ b → XP M pc' lv st w Q) : XP M pc lv (.int (nI b) :: .int (nI a) :: st) w Q := x_icmp_gt hd (fun h => kt ((nI_ltI hb ha).mp h)) (fun h => kf (Nat.le_of_not_lt (fun h2 => h ((nI_ltI hb ha).mpr h2))))
theorem x_icmp_leN (hd : xBr M pc (.if_icmp .le) off pc' tgt) (ha : a < 2 ^ 31) (hb : b < 2 ^ 31) (kt : a ≤ b → XP M tgt lv st w Q) (kf : b < a → XP M pc' lv st w Q) : XP M pc lv (.int (nI b) :: .int (nI a) :: st) w Q := x_icmp_le hd (fun h => kt ((nI_leI ha hb).mp h)) (fun h => kf (Nat.lt_of_not_le (fun h2 => h ((nI_leI ha hb).mpr h2))))
theorem x_if_eqN (hd : xBr M pc (.ifCond .eq) off pc' tgt) (ha : a < 2 ^ 31) (kt : a = 0 → XP M tgt lv st w Q) (kf : 0 < a → XP M pc' lv st w Q) : XP M pc lv (.int (nI a) :: st) w Q := x_if_eq hd (fun h => kt ((nI_eq ha (by decide)).mp h)) (fun h => kf (Nat.pos_of_ne_zero (fun h2 => h ((nI_eq ha (by decide)).mpr h2))))
theorem x_if_neN (hd : xBr M pc (.ifCond .ne) off pc' tgt) (ha : a < 2 ^ 31) (kt : 0 < a → XP M tgt lv st w Q) (kf : a = 0 → XP M pc' lv st w Q) : XP M pc lv (.int (nI a) :: st) w Q := x_if_ne hd (fun h => kt (Nat.pos_of_ne_zero (fun h2 => h ((nI_eq ha (by decide)).mpr h2)))) (fun h => kf ((nI_eq ha (by decide)).mp h))
theorem x_if_ltN (hd : xBr M pc (.ifCond .lt) off pc' tgt) (ha : a < 2 ^ 31) (kf : XP M pc' lv st w Q) : XP M pc lv (.int (nI a) :: st) w Q := x_if_lt hd (fun h => absurd h (nI_pos ha)) (fun _ => kf)
theorem x_if_geN (hd : xBr M pc (.ifCond .ge) off pc' tgt) (ha : a < 2 ^ 31) (kt : XP M tgt lv st w Q) : XP M pc lv (.int (nI a) :: st) w Q := x_if_ge hd (fun _ => kt) (fun h => absurd (nI_pos' ha) h)
theorem x_if_gtN (hd : xBr M pc (.ifCond .gt) off pc' tgt) (ha : a < 2 ^ 31) (kt : 0 < a → XP M tgt lv st w Q) (kf : a = 0 → XP M pc' lv st w Q) : XP M pc lv (.int (nI a) :: st) w Q := x_if_gt hd (fun h => kt ((nI_ltI (a := 0) (by decide) ha).mp h)) (fun h => kf (Nat.eq_zero_of_not_pos (fun h2 => h ((nI_ltI (a := 0) (by decide) ha).mpr h2))))
theorem x_if_leN (hd : xBr M pc (.ifCond .le) off pc' tgt) (ha : a < 2 ^ 31) (kt : a = 0 → XP M tgt lv st w Q) (kf : 0 < a → XP M pc' lv st w Q) : XP M pc lv (.int (nI a) :: st) w Q := x_if_le hd (fun h => kt (Nat.eq_zero_of_not_pos (fun h2 => nI_nle h2 ha h))) (fun h => kf (Nat.pos_of_ne_zero (fun h2 => by subst h2; exact h (by decide))))
theorem x_if_eqB {t : Bool} (hd : xBr M pc (.ifCond .eq) off pc' tgt) (kt : t = false → XP M tgt lv st w Q) (kf : t = true → XP M pc' lv st w Q) : XP M pc lv (.int (bI t) :: st) w Q := x_if_eq hd (fun h => kt (by cases t <;> simp_all [bI])) (fun h => kf (by cases t <;> simp_all [bI]))
theorem x_if_neB {t : Bool} (hd : xBr M pc (.ifCond .ne) off pc' tgt) (kt : t = true → XP M tgt lv st w Q) (kf : t = false → XP M pc' lv st w Q) : XP M pc lv (.int (bI t) :: st) w Q := x_if_ne hd (fun h => kt (by cases t <;> simp_all [bI])) (fun h => kf (by cases t <;> simp_all [bI]))
variable {x y : Int64}
theorem x_if_eqL (hd : xBr M pc (.ifCond .eq) off pc' tgt) (kt : x = y → XP M tgt lv st w Q) (kf : ¬ x = y → XP M pc' lv st w Q) : XP M pc lv (.int (lg_cmp x y) :: st) w Q := x_if_eq hd (fun h => kt ((lgc_eq x y).mp h)) (fun h => kf (fun h2 => h ((lgc_eq x y).mpr h2)))
theorem x_if_neL (hd : xBr M pc (.ifCond .ne) off pc' tgt) (kt : ¬ x = y → XP M tgt lv st w Q) (kf : x = y → XP M pc' lv st w Q) : XP M pc lv (.int (lg_cmp x y) :: st) w Q := x_if_ne hd (fun h => kt (fun h2 => h ((lgc_eq x y).mpr h2))) (fun h => kf ((lgc_eq x y).mp h))
theorem x_if_ltL (hd : xBr M pc (.ifCond .lt) off pc' tgt) (kt : x < y → XP M tgt lv st w Q) (kf : ¬ x < y → XP M pc' lv st w Q) : XP M pc lv (.int (lg_cmp x y) :: st) w Q := x_if_lt hd (fun h => kt ((lgc_lt x y).mp h)) (fun h => kf (fun h2 => h ((lgc_lt x y).mpr h2)))
theorem x_if_geL (hd : xBr M pc (.ifCond .ge) off pc' tgt) (kt : ¬ x < y → XP M tgt lv st w Q) (kf : x < y → XP M pc' lv st w Q) : XP M pc lv (.int (lg_cmp x y) :: st) w Q := x_if_ge hd (fun h => kt (fun h2 => absurd ((lgc_lt x y).mpr h2) (Int32.not_lt.mpr h))) (fun h => kf ((lgc_lt x y).mp (Int32.not_le.mp h)))
theorem x_if_gtL (hd : xBr M pc (.ifCond .gt) off pc' tgt) (kt : y < x → XP M tgt lv st w Q) (kf : ¬ y < x → XP M pc' lv st w Q) : XP M pc lv (.int (lg_cmp x y) :: st) w Q := x_if_gt hd (fun h => kt ((lgc_gt x y).mp h)) (fun h => kf (fun h2 => h ((lgc_gt x y).mpr h2)))
theorem x_if_leL (hd : xBr M pc (.ifCond .le) off pc' tgt) (kt : ¬ y < x → XP M tgt lv st w Q) (kf : y < x → XP M pc' lv st w Q) : XP M pc lv (.int (lg_cmp x y) :: st) w Q := x_if_le hd (fun h => kt (fun h2 => absurd ((lgc_gt x y).mpr h2) (Int32.not_lt.mpr h))) (fun h => kf ((lgc_gt x y).mp (Int32.not_le.mp h)))
end NR
section CR
variable {M M' : xM} {pc pc' index n b ci : Nat} {lv : List (Nat × Value)} {st rest As : List Value} {S : xS} {Q : Option Value → xW → Prop} {v : Value} {T : xS → Prop}
/-- a call with an answer -/
theorem s_callV1 (hd : xAt M pc (.invokevirtual index) 3 pc') (hL : xLnkV M.1.cls index M' ci n) (hF : xFit M M') (hk : kd b = ci) (hci : ci < 10) (hb : b < xN) (hn : As.length = n) (hst : st = As.reverse ++ .ref b :: rest) (hr : (rest.map fun v => v.category).sum ≤ 8) (hav : (lg_sl (.ref b :: As)).length ≤ M'.2.2.1)
    (hS' : Sp M' (.ref b :: As) S (fun r S' => r = some v ∧ T S')) (kk : ∀ S', T S' → XP M pc' lv (v :: rest) (xwS S') Q) : XP M pc lv st (xwS S) Q :=
  s_callV hd hL hF hk hci hb hn hst hr hav hS' (fun r S' h => by obtain ⟨rfl, h⟩ := h; exact kk S' h)
theorem s_callV0 (hd : xAt M pc (.invokevirtual index) 3 pc') (hL : xLnkV M.1.cls index M' ci n) (hF : xFit M M') (hk : kd b = ci) (hci : ci < 10) (hb : b < xN) (hn : As.length = n) (hst : st = As.reverse ++ .ref b :: rest) (hr : (rest.map fun v => v.category).sum ≤ 8) (hav : (lg_sl (.ref b :: As)).length ≤ M'.2.2.1)
    (hS' : Sp M' (.ref b :: As) S (fun r S' => r = none ∧ T S')) (kk : ∀ S', T S' → XP M pc' lv rest (xwS S') Q) : XP M pc lv st (xwS S) Q :=
  s_callV hd hL hF hk hci hb hn hst hr hav hS' (fun r S' h => by obtain ⟨rfl, h⟩ := h; exact kk S' h)
theorem s_callS1 (hd : xAt M pc (.invokestatic index) 3 pc') (hL : xLnkS M.1.cls index M' n) (hF : xFit M M') (hn : As.length = n) (hst : st = As.reverse ++ rest) (hr : (rest.map fun v => v.category).sum ≤ 8) (hav : (lg_sl As).length ≤ M'.2.2.1)
    (hS' : Sp M' As S (fun r S' => r = some v ∧ T S')) (kk : ∀ S', T S' → XP M pc' lv (v :: rest) (xwS S') Q) : XP M pc lv st (xwS S) Q :=
  s_callS hd hL hF hn hst hr hav hS' (fun r S' h => by obtain ⟨rfl, h⟩ := h; exact kk S' h)
theorem s_callS0 (hd : xAt M pc (.invokestatic index) 3 pc') (hL : xLnkS M.1.cls index M' n) (hF : xFit M M') (hn : As.length = n) (hst : st = As.reverse ++ rest) (hr : (rest.map fun v => v.category).sum ≤ 8) (hav : (lg_sl As).length ≤ M'.2.2.1)
    (hS' : Sp M' As S (fun r S' => r = none ∧ T S')) (kk : ∀ S', T S' → XP M pc' lv rest (xwS S') Q) : XP M pc lv st (xwS S) Q :=
  s_callS hd hL hF hn hst hr hav hS' (fun r S' h => by obtain ⟨rfl, h⟩ := h; exact kk S' h)
theorem s_getR {p ci i f k : Nat} {pc pc' : Nat} (hd : xAt M pc (.getfield i) 3 pc') (hF : xFld M.1.cls i ci f) (hk : kd p = ci) (hp : p < xN) (hs : (ci < 10 ∧ f < nf ci) ∧ isR ci f = true) (hr : rf p f = k) (kk : XP M pc' lv (.ref k :: st) (xwS S) Q) : XP M pc lv (.ref p :: st) (xwS S) Q := s_getr hd hF hk hp hs (by rw [hr]; exact kk)
theorem s_raldR {a j k : Nat} {i : Int32} (hd : xAt M pc .aaload 1 pc') (hk : kd a = 14 ∨ kd a = 15) (ha : a < xN) (hi : i = nI j) (hj : j < ln a) (hr : rf a j = k) (kk : XP M pc' lv (.ref k :: st) (xwS S) Q) : XP M pc lv (.int i :: .ref a :: st) (xwS S) Q := s_rald hd hk ha hi hj (by rw [hr]; exact kk)
theorem s_vret (hd : xAt M pc .return_ 1 pc') (hr : M.2.2.2.1 = none) {P : Option Value → xS → Prop} (hq : P none S) : XP M pc lv [] (xwS S) (sQ P) := x_vret hd hr ⟨S, rfl, hq⟩
theorem s_iret {x : Int32} {ty : FieldType} (hd : xAt M pc .ireturn 1 pc') (hr : M.2.2.2.1 = some ty) (hn : narrow ty (.int x) = .int x) {P : Option Value → xS → Prop} (hq : P (some (.int x)) S) : XP M pc lv [.int x] (xwS S) (sQ P) := x_iret hd hr hn ⟨S, rfl, hq⟩
theorem s_lret {x : Int64} (hd : xAt M pc .lreturn 1 pc') (hr : M.2.2.2.1 = some .long) {P : Option Value → xS → Prop} (hq : P (some (.long x)) S) : XP M pc lv [.long x] (xwS S) (sQ P) := x_lret hd hr ⟨S, rfl, hq⟩
theorem s_dret {x : UInt64} (hd : xAt M pc .dreturn 1 pc') (hr : M.2.2.2.1 = some .double) {P : Option Value → xS → Prop} (hq : P (some (.double x)) S) : XP M pc lv [.double x] (xwS S) (sQ P) := x_dret hd hr ⟨S, rfl, hq⟩
end CR
theorem x_pick {M : xM} {pc : Nat} {lv lv' : List (Nat × Value)} {st : List Value} {w : xW} {Q : Option Value → xW → Prop} (ks : List Nat) (h : lv_pick lv ks = lv') (k : XP M pc lv' st w Q) : XP M pc lv st w Q := by
  intro p l e R s m args below meth c D tc ad A H0 H locs cells slots Z ls C hc hsl hA hP hD hS hl hE
  have hl2 : lv_has ls M.2.2.1 (xlv ad lv') := by
    refine lv_sub hl ks ?_
    subst h
    unfold lv_pick xlv
    rw [List.map_filterMap]
    congr 1
    funext i
    rw [List.getElem?_map]
  exact k p l e R s m args below meth c D tc ad A H0 H locs cells slots Z ls C hc hsl hA hP hD hS hl2 hE
