/-! ===== truth values of statements; the class's rings ===== -/
noncomputable def tI (p : Prop) : Int32 := @ite _ p (Classical.propDecidable p) 1 0
theorem tI_t {p : Prop} (h : p) : tI p = 1 := by unfold tI; exact if_pos h
theorem tI_f {p : Prop} (h : ¬ p) : tI p = 0 := by unfold tI; exact if_neg h
theorem tI_iff {p q : Prop} (h : p ↔ q) : tI p = tI q := by rw [propext h]
theorem tI_01 (p : Prop) : tI p = 0 ∨ tI p = 1 := by
  rcases Classical.em p with h | h
  · exact Or.inr (tI_t h)
  · exact Or.inl (tI_f h)
theorem tI_nar (p : Prop) : narrow .boolean (.int (tI p)) = .int (tI p) := by rcases tI_01 p with h | h <;> rw [h] <;> rfl
theorem tI_b (b : Bool) : bI b = tI (b = true) := by cases b with
  | true => rw [tI_t rfl]; rfl
  | false => rw [tI_f (by decide)]; rfl
theorem tI_ts {p : Prop} (h : p) : some (Value.int (nI 1)) = some (Value.int (tI p)) := by rw [tI_t h]; rfl
theorem tI_fs {p : Prop} (h : ¬ p) : some (Value.int (nI 0)) = some (Value.int (tI p)) := by rw [tI_f h]; rfl
section TR
variable {M : xM} {pc pc' tgt : Nat} {off : Int} {lv : List (Nat × Value)} {st : List Value} {w : xW} {Q : Option Value → xW → Prop} {p : Prop}
theorem x_if_eqT (hd : xBr M pc (.ifCond .eq) off pc' tgt) (kt : ¬ p → XP M tgt lv st w Q) (kf : p → XP M pc' lv st w Q) : XP M pc lv (.int (tI p) :: st) w Q := x_if_eq hd (fun h => kt (fun q => by rw [tI_t q] at h; exact absurd h (by decide))) (fun h => kf (Classical.byContradiction fun q => h (tI_f q)))
theorem x_if_neT (hd : xBr M pc (.ifCond .ne) off pc' tgt) (kt : p → XP M tgt lv st w Q) (kf : ¬ p → XP M pc' lv st w Q) : XP M pc lv (.int (tI p) :: st) w Q := x_if_ne hd (fun h => kt (Classical.byContradiction fun q => h (tI_f q))) (fun h => kf (fun q => by rw [tI_t q] at h; exact absurd h (by decide)))
end TR
/-- ring r of the class: n corners, c tells them -/
def crg (S : xS) (r n : Nat) (c : Nat → Nat) : Prop := r < 65 ∧ n ≤ 24 ∧ S.1 (45 + 2 * r) 1 = nI n ∧ ∀ i, i < n → S.2.1 (46 + 2 * r) i = nI (c i) ∧ c i < 201
theorem crg.mv {ps : List Nat} {S S' : xS} {r n : Nat} {c : Nat → Nat} (h : crg S r n c) (hx : Lx ps S S') : crg S' r n c := by
  obtain ⟨a, b, d, e⟩ := h
  exact ⟨a, b, by rw [hx.1]; exact d, fun i hi => by rw [hx.2.1]; exact e i hi⟩
/-- the class's points: the first nc slots and the loose one -/
def cps (S : xS) (nc : Nat) (P : Nat → Pt) : Prop := ∀ s, s < nc ∨ s = 200 → cpt S s (P s)
theorem cps.mv {ps : List Nat} {S S' : xS} {nc : Nat} {P : Nat → Pt} (h : cps S nc P) (hx : Lx ps S S') (h3 : 35 ∉ ps) : cps S' nc P := fun s hs => (h s hs).mv hx h3
theorem cps.m {S S' : xS} {nc : Nat} {P : Nat → Pt} (h : cps S nc P) (hx : Lx [364] S S') : cps S' nc P := h.mv hx (by decide)
theorem rem_neg : ∀ n, n < 25 → ∀ j, j < 25 → 0 < n → (-(nI j)) - (-(nI j)) / nI n * nI n = -(nI (j % n)) := by decide +kernel
theorem ge_neg : ∀ m, m < 25 → (0 ≤ -(nI m) ↔ m = 0) := by decide +kernel
theorem add_neg : ∀ n, n < 25 → ∀ m, m < n → -(nI m) + nI n = nI (n - m) := by decide +kernel

theorem sp_X4_around (S : xS) {r n k : Nat} {c : Nat → Nat} (h : crg S r n c) (h0 : 0 < n) (hk : k < 2 ^ 31) : Sp mX4_around [.ref (45 + 2 * r), .int (nI k)] S (fun v S' => v = some (.int (nI (c (k % n)))) ∧ S' = S) := by
  have hr := h.1
  have hn := h.2.1
  have lt := Nat.mod_lt k h0
  show XP _ _ [_, _] _ _ _
  refine x_aload_n eX4_around_0 rfl ?_
  refine s_geti eX4_around_1 fX4_15 (kd_ring h.1) (show _ < 365 by omega) (by decide) ?_
  rw [h.2.2.1]
  refine x_if_gtN eX4_around_4 (by omega) (fun c_4 => ?_) (fun c_4 => ?_)
  · refine x_iload_n eX4_around_9 rfl ?_
    refine x_aload_n eX4_around_10 rfl ?_
    refine s_geti eX4_around_11 fX4_15 (kd_ring h.1) (show _ < 365 by omega) (by decide) ?_
    rw [h.2.2.1]
    refine x_iremN eX4_around_14 (by omega) (by omega) (by omega) ?_
    refine x_istore_n (lv' := [_, _, _]) eX4_around_15 (by decide) rfl ?_
    refine x_aload_n eX4_around_16 rfl ?_
    refine s_getR (k := (46 + 2 * r)) eX4_around_17 fX4_9 (kd_ring h.1) (show _ < 365 by omega) (by decide) (rf_ring h.1) ?_
    refine x_iload_n eX4_around_20 rfl ?_
    refine x_if_geN eX4_around_21 (by omega) ?_
    refine x_iload_n eX4_around_33 rfl ?_
    refine s_iald eX4_around_34 (kd_corner h.1) (show _ < 365 by omega) rfl (by rw [(ln_corner h.1)]; omega) ?_
    rw [(h.2.2.2 _ lt).1]
    exact s_iret eX4_around_35 rfl rfl ⟨rfl, rfl⟩
  · omega
theorem sp_X4_aroundM (S : xS) {r n j : Nat} {c : Nat → Nat} (h : crg S r n c) (h0 : 0 < n) (hj : j < 25) : Sp mX4_around [.ref (45 + 2 * r), .int (-(nI j))] S (fun v S' => v = some (.int (nI (c ((n - j % n) % n)))) ∧ S' = S) := by
  have hr := h.1
  have hn := h.2.1
  have lt := Nat.mod_lt j h0
  have lt2 := Nat.mod_lt (n - j % n) h0
  show XP _ _ [_, _] _ _ _
  refine x_aload_n eX4_around_0 rfl ?_
  refine s_geti eX4_around_1 fX4_15 (kd_ring h.1) (show _ < 365 by omega) (by decide) ?_
  rw [h.2.2.1]
  refine x_if_gtN eX4_around_4 (by omega) (fun c_4 => ?_) (fun c_4 => ?_)
  · refine x_iload_n eX4_around_9 rfl ?_
    refine x_aload_n eX4_around_10 rfl ?_
    refine s_geti eX4_around_11 fX4_15 (kd_ring h.1) (show _ < 365 by omega) (by decide) ?_
    rw [h.2.2.1]
    refine x_irem eX4_around_14 (nI_ne0 h0 (by omega)) ?_
    rw [rem_neg n (by omega) j (by omega) h0]
    refine x_istore_n (lv' := [_, _, _]) eX4_around_15 (by decide) rfl ?_
    refine x_aload_n eX4_around_16 rfl ?_
    refine s_getR (k := (46 + 2 * r)) eX4_around_17 fX4_9 (kd_ring h.1) (show _ < 365 by omega) (by decide) (rf_ring h.1) ?_
    refine x_iload_n eX4_around_20 rfl ?_
    refine x_if_ge eX4_around_21 (fun c_21 => ?_) (fun c_21 => ?_)
    · have e := (ge_neg _ (by omega)).mp c_21
      rw [show -(nI (j % n)) = nI ((n - j % n) % n) by rw [e, Nat.sub_zero, Nat.mod_self]; rfl]
      refine x_iload_n eX4_around_33 rfl ?_
      refine s_iald eX4_around_34 (kd_corner h.1) (show _ < 365 by omega) rfl (by rw [(ln_corner h.1)]; omega) ?_
      rw [(h.2.2.2 _ lt2).1]
      exact s_iret eX4_around_35 rfl rfl ⟨rfl, rfl⟩
    · refine x_iload_n eX4_around_24 rfl ?_
      refine x_aload_n eX4_around_25 rfl ?_
      refine s_geti eX4_around_26 fX4_15 (kd_ring h.1) (show _ < 365 by omega) (by decide) ?_
      rw [h.2.2.1]
      refine x_iadd eX4_around_29 ?_
      have z : j % n ≠ 0 := fun e => c_21 ((ge_neg _ (by omega)).mpr e)
      rw [add_neg n (by omega) (j % n) lt, show nI (n - j % n) = nI ((n - j % n) % n) from congrArg nI (Nat.mod_eq_of_lt (by omega)).symm]
      refine x_goto eX4_around_30 ?_
      refine s_iald eX4_around_34 (kd_corner h.1) (show _ < 365 by omega) rfl (by rw [(ln_corner h.1)]; omega) ?_
      rw [(h.2.2.2 _ lt2).1]
      exact s_iret eX4_around_35 rfl rfl ⟨rfl, rfl⟩
  · omega
theorem sp_X4_aroundP (S : xS) {r n i : Nat} {c : Nat → Nat} (h : crg S r n c) (h0 : 0 < n) (hi : i < 2 ^ 30) : Sp mX4_around [.ref (45 + 2 * r), .int (nI i - nI 1)] S (fun v S' => v = some (.int (nI (c ((i + n - 1) % n)))) ∧ S' = S) := by
  by_cases q : i = 0
  · subst q
    have := sp_X4_aroundM S h h0 (j := 1) (by decide)
    by_cases q1 : n = 1
    · subst q1; exact this
    · rw [Nat.mod_eq_of_lt (show 1 < n by omega)] at this
      rw [show 0 + n - 1 = n - 1 by omega]
      exact this
  · rw [pk_sub (show 1 ≤ i by omega)]
    have := sp_X4_around S h h0 (k := i - 1) (by omega)
    rw [show i + n - 1 = i - 1 + n by omega, Nat.add_mod_right]
    exact this

theorem sp_X4_empty (S : xS) {r : Nat} (hr : r < 65) : Sp mX4_empty [.ref (45 + 2 * r)] S (fun v S' => v = none ∧ S' = setF S (45 + 2 * r) (upd (S.1 (45 + 2 * r)) 1 (nI 0))) := by
  show XP _ _ [_] _ _ _
  refine x_aload_n eX4_empty_0 rfl ?_
  refine x_iconst (v := nI 0) eX4_empty_1 (by decide) ?_
  refine s_puti eX4_empty_2 fX4_15 wX4_1 (kd_ring hr) (show _ < 365 by omega) (by decide) ?_
  exact s_vret eX4_empty_5 rfl ⟨rfl, rfl⟩
def psh (S : xS) (r n c : Nat) : xS := setF (setI S (46 + 2 * r) (upd (S.2.1 (46 + 2 * r)) n (nI c))) (45 + 2 * r) (upd (S.1 (45 + 2 * r)) 1 (nI (n + 1)))
theorem sp_X4_push (S : xS) {r n c : Nat} (hr : r < 65) (hn : S.1 (45 + 2 * r) 1 = nI n) (hl : n < 24) : Sp mX4_push [.ref (45 + 2 * r), .int (nI c)] S (fun v S' => v = none ∧ S' = psh S r n c) := by
  show XP _ _ [_, _] _ _ _
  refine x_aload_n eX4_push_0 rfl ?_
  refine s_geti eX4_push_1 fX4_15 (kd_ring hr) (show _ < 365 by omega) (by decide) ?_
  rw [hn]
  refine x_bipush (v := nI 24) eX4_push_4 (by decide) ?_
  refine x_icmp_geN eX4_push_6 (by omega) (by omega) (fun c_6 => ?_) (fun c_6 => ?_)
  · omega
  · refine x_aload_n eX4_push_9 rfl ?_
    refine s_getR (k := (46 + 2 * r)) eX4_push_10 fX4_9 (kd_ring hr) (show _ < 365 by omega) (by decide) (rf_ring hr) ?_
    refine x_aload_n eX4_push_13 rfl ?_
    refine s_geti eX4_push_14 fX4_15 (kd_ring hr) (show _ < 365 by omega) (by decide) ?_
    rw [hn]
    refine x_iload_n eX4_push_17 rfl ?_
    refine s_iast eX4_push_18 (kd_corner hr) (show _ < 365 by omega) rfl (by rw [(ln_corner hr)]; omega) ?_
    refine x_aload_n eX4_push_19 rfl ?_
    refine x_dup eX4_push_20 rfl ?_
    refine s_geti eX4_push_21 fX4_15 (kd_ring hr) (show _ < 365 by omega) (by decide) ?_
    rw [show (setI S (46 + 2 * r) (upd (S.2.1 (46 + 2 * r)) n (nI c))).1 (45 + 2 * r) 1 = nI n from hn]
    refine x_iconst (v := nI 1) eX4_push_24 (by decide) ?_
    first | refine x_iaddN eX4_push_25 ?_ | refine x_iadd eX4_push_25 ?_
    refine s_puti eX4_push_26 fX4_15 wX4_1 (kd_ring hr) (show _ < 365 by omega) (by decide) ?_
    exact s_vret eX4_push_29 rfl ⟨rfl, rfl⟩
def icopy (S : xS) (p q : Nat) (k : Nat) : Nat → Int32 := fun i => if i < k then S.2.1 q i else S.2.1 p i
theorem icopy_0 (S : xS) (p q : Nat) : icopy S p q 0 = S.2.1 p := by funext i; exact if_neg (by omega)
theorem setI_same (S : xS) (p : Nat) : setI S p (S.2.1 p) = S := by
  unfold setI rw1
  have : (fun q => if q = p then S.2.1 p else S.2.1 q) = S.2.1 := by funext q; by_cases h : q = p <;> simp [h]
  rw [this]
theorem setI_at (S : xS) (p : Nat) (g : Nat → Int32) : (setI S p g).2.1 p = g := rw1_same
theorem setI_ne (S : xS) {p q : Nat} (g : Nat → Int32) (h : q ≠ p) : (setI S p g).2.1 q = S.2.1 q := rw1_ne h
theorem setF_at (S : xS) (p : Nat) (g : Nat → Int32) : (setF S p g).1 p = g := rw1_same
theorem setF_ne (S : xS) {p q : Nat} (g : Nat → Int32) (h : q ≠ p) : (setF S p g).1 q = S.1 q := rw1_ne h
theorem setI_setI (S : xS) (p : Nat) (g g' : Nat → Int32) : setI (setI S p g) p g' = setI S p g' := by
  unfold setI rw1
  congr 2
  funext q
  by_cases h : q = p <;> simp [h]
theorem setF_setF (S : xS) (p : Nat) (g g' : Nat → Int32) : setF (setF S p g) p g' = setF S p g' := by
  unfold setF rw1
  congr 1
  funext q
  by_cases h : q = p <;> simp [h]
theorem upd_at (f : Nat → Int32) (k : Nat) (x : Int32) : upd f k x k = x := by simp [upd]
theorem upd_ne (f : Nat → Int32) {k i : Nat} (x : Int32) (h : i ≠ k) : upd f k x i = f i := by simp [upd, h]
/-- ring r becomes what ring t is -/
def rcp (S : xS) (r t : Nat) : xS := setI (setF S (45 + 2 * r) (upd (S.1 (45 + 2 * r)) 1 (S.1 (45 + 2 * t) 1))) (46 + 2 * r) (icopy S (46 + 2 * r) (46 + 2 * t) 24)
theorem sp_X4_copy (S : xS) {r t : Nat} (hr : r < 65) (ht : t < 65) (hne : r ≠ t) : Sp mX4_copy [.ref (45 + 2 * r), .ref (45 + 2 * t)] S (fun v S' => v = none ∧ S' = rcp S r t) := by
  obtain ⟨S0, e0⟩ : ∃ S0, S0 = setF S (45 + 2 * r) (upd (S.1 (45 + 2 * r)) 1 (S.1 (45 + 2 * t) 1)) := ⟨_, rfl⟩
  have loop : ∀ m k, k + m = 24 → ∀ S1, S1 = setI S0 (46 + 2 * r) (icopy S (46 + 2 * r) (46 + 2 * t) k) → XP mX4_copy 10 [(2, .int (nI k)), (0, .ref (45 + 2 * r)), (1, .ref (45 + 2 * t))] [] (xwS S1) (sQ (fun v S' => v = none ∧ S' = rcp S r t)) := by
    intro m
    induction m with
    | zero =>
      intro k hk S1 h1
      refine x_iload_n eX4_copy_10 rfl ?_
      refine x_bipush (v := nI 24) eX4_copy_11 (by decide) ?_
      refine x_icmp_geN eX4_copy_13 (by omega) (by omega) (fun c_13 => ?_) (fun c_13 => ?_)
      · exact s_vret eX4_copy_34 rfl ⟨rfl, by rw [h1, show k = 24 by omega, e0]; rfl⟩
      · omega
    | succ m ih =>
      intro k hk S1 h1
      refine x_iload_n eX4_copy_10 rfl ?_
      refine x_bipush (v := nI 24) eX4_copy_11 (by decide) ?_
      refine x_icmp_geN eX4_copy_13 (by omega) (by omega) (fun c_13 => ?_) (fun c_13 => ?_)
      · omega
      · refine x_aload_n eX4_copy_16 rfl ?_
        refine s_getR (k := (46 + 2 * r)) eX4_copy_17 fX4_9 (kd_ring hr) (show _ < 365 by omega) (by decide) (rf_ring hr) ?_
        refine x_iload_n eX4_copy_20 rfl ?_
        refine x_aload_n eX4_copy_21 rfl ?_
        refine s_getR (k := (46 + 2 * t)) eX4_copy_22 fX4_9 (kd_ring ht) (show _ < 365 by omega) (by decide) (rf_ring ht) ?_
        refine x_iload_n eX4_copy_25 rfl ?_
        refine s_iald eX4_copy_26 (kd_corner ht) (show _ < 365 by omega) rfl (by rw [(ln_corner ht)]; omega) ?_
        refine s_iast eX4_copy_27 (kd_corner hr) (show _ < 365 by omega) rfl (by rw [(ln_corner hr)]; omega) ?_
        refine x_iinc (lv' := [_, _, _]) eX4_copy_28 rfl (by first | exact nI_inc _ | exact rfl) (by decide) rfl ?_
        refine x_goto eX4_copy_31 ?_
        refine x_pick [0, 1, 2] rfl ?_
        refine ih (k + 1) (by omega) _ ?_
        rw [h1, setI_setI, setI_at, setI_ne _ _ (by omega), e0]
        congr 1
        funext i
        show upd _ k (S.2.1 (46 + 2 * t) k) i = _
        unfold icopy
        by_cases q1 : i = k
        · subst q1; rw [upd_at, if_pos (by omega)]
        · rw [upd_ne _ _ q1]
          by_cases q2 : i < k
          · rw [if_pos q2, if_pos (by omega)]
          · rw [if_neg q2, if_neg (by omega)]
  show XP _ _ [_, _] _ _ _
  refine x_aload_n eX4_copy_0 rfl ?_
  refine x_aload_n eX4_copy_1 rfl ?_
  refine s_geti eX4_copy_2 fX4_15 (kd_ring ht) (show _ < 365 by omega) (by decide) ?_
  refine s_puti eX4_copy_5 fX4_15 wX4_1 (kd_ring hr) (show _ < 365 by omega) (by decide) ?_
  refine x_iconst (v := nI 0) eX4_copy_8 (by decide) ?_
  refine x_istore_n (lv' := [_, _, _]) eX4_copy_9 (by decide) rfl ?_
  refine x_pick [0, 1, 2] rfl ?_
  refine loop 24 0 (by omega) _ ?_
  rw [icopy_0, ← e0]
  rw [show S.2.1 (46 + 2 * r) = S0.2.1 (46 + 2 * r) by rw [e0]; rfl, setI_same]
