theorem sg_eq0 (z : Int) : sg z = 0 ↔ z = 0 := by
  unfold sg
  split
  · exact ⟨fun h => absurd h (by decide), fun h => by omega⟩
  · split
    · rename_i h; exact ⟨fun _ => h, fun _ => rfl⟩
    · rename_i h; exact ⟨fun h2 => absurd h2 (by decide), fun h2 => absurd h2 h⟩
theorem sg_lt0 (z : Int) : sg z < 0 ↔ z < 0 := by
  unfold sg
  split
  · rename_i h; exact ⟨fun _ => h, fun _ => by decide⟩
  · rename_i h
    split
    · exact ⟨fun h2 => absurd h2 (by decide), fun h2 => absurd h2 h⟩
    · exact ⟨fun h2 => absurd h2 (by decide), fun h2 => absurd h2 h⟩
theorem sg_gt0 (z : Int) : 0 < sg z ↔ 0 < z := by
  unfold sg
  split
  · exact ⟨fun h2 => absurd h2 (by decide), fun h2 => by omega⟩
  · split
    · exact ⟨fun h2 => absurd h2 (by decide), fun h2 => by omega⟩
    · exact ⟨fun _ => by omega, fun _ => by decide⟩
theorem sg_ge0 (z : Int) : 0 ≤ sg z ↔ 0 ≤ z := by
  have h := sg_lt0 z
  constructor
  · intro h1; have h2 : ¬ sg z < 0 := Int32.not_lt.mpr h1; rw [h] at h2; omega
  · intro h1; apply Int32.not_lt.mp; rw [h]; omega
theorem sg_le0 (z : Int) : sg z ≤ 0 ↔ z ≤ 0 := by
  have h := sg_gt0 z
  constructor
  · intro h1; have h2 : ¬ 0 < sg z := Int32.not_lt.mpr h1; rw [h] at h2; omega
  · intro h1; apply Int32.not_lt.mp; rw [h]; omega
section SGR
variable {M : xM} {pc pc' tgt : Nat} {off : Int} {lv : List (Nat × Value)} {st : List Value} {w : xW} {Q : Option Value → xW → Prop} {z : Int}
theorem x_if_eqS (hd : xBr M pc (.ifCond .eq) off pc' tgt) (kt : z = 0 → XP M tgt lv st w Q) (kf : z ≠ 0 → XP M pc' lv st w Q) : XP M pc lv (.int (sg z) :: st) w Q := x_if_eq hd (fun h => kt ((sg_eq0 z).mp h)) (fun h => kf (fun h2 => h ((sg_eq0 z).mpr h2)))
theorem x_if_neS (hd : xBr M pc (.ifCond .ne) off pc' tgt) (kt : z ≠ 0 → XP M tgt lv st w Q) (kf : z = 0 → XP M pc' lv st w Q) : XP M pc lv (.int (sg z) :: st) w Q := x_if_ne hd (fun h => kt (fun h2 => h ((sg_eq0 z).mpr h2))) (fun h => kf ((sg_eq0 z).mp h))
theorem x_if_ltS (hd : xBr M pc (.ifCond .lt) off pc' tgt) (kt : z < 0 → XP M tgt lv st w Q) (kf : 0 ≤ z → XP M pc' lv st w Q) : XP M pc lv (.int (sg z) :: st) w Q := x_if_lt hd (fun h => kt ((sg_lt0 z).mp h)) (fun h => kf ((sg_ge0 z).mp (Int32.not_lt.mp h)))
theorem x_if_geS (hd : xBr M pc (.ifCond .ge) off pc' tgt) (kt : 0 ≤ z → XP M tgt lv st w Q) (kf : z < 0 → XP M pc' lv st w Q) : XP M pc lv (.int (sg z) :: st) w Q := x_if_ge hd (fun h => kt ((sg_ge0 z).mp h)) (fun h => kf ((sg_lt0 z).mp (Int32.not_le.mp h)))
theorem x_if_gtS (hd : xBr M pc (.ifCond .gt) off pc' tgt) (kt : 0 < z → XP M tgt lv st w Q) (kf : z ≤ 0 → XP M pc' lv st w Q) : XP M pc lv (.int (sg z) :: st) w Q := x_if_gt hd (fun h => kt ((sg_gt0 z).mp h)) (fun h => kf ((sg_le0 z).mp (Int32.not_lt.mp h)))
theorem x_if_leS (hd : xBr M pc (.ifCond .le) off pc' tgt) (kt : z ≤ 0 → XP M tgt lv st w Q) (kf : 0 < z → XP M pc' lv st w Q) : XP M pc lv (.int (sg z) :: st) w Q := x_if_le hd (fun h => kt ((sg_le0 z).mp h)) (fun h => kf ((sg_gt0 z).mp (Int32.not_le.mp h)))
end SGR
theorem cmpV {u : Nat} {a b : UInt64} {x y : Int} {op : CmpOp} (ha : vz u a x) (hb : vz u b y) : Op.cmpValue (FP.dcmp a b) op = sg (x - y) := by
  rw [vz_dcmp ha hb]
  unfold sg
  rcases Int.lt_trichotomy x y with h | h | h
  · rw [Int.compare_eq_lt.mpr h, if_pos (by omega)]; rfl
  · rw [Int.compare_eq_eq.mpr h, if_neg (by omega), if_pos (by omega)]; rfl
  · rw [Int.compare_eq_gt.mpr h, if_neg (by omega), if_neg (by omega)]; rfl

theorem sp_X7_clear {v : Nat} (hv0 : v < 64) (S : xS) : Sp mX7_clear [.ref (237 + 2 * v)] S (fun r S' => r = none ∧ S' = setL S (238 + 2 * v) (fun j => if j < 8 then 0 else S.2.2.1 (238 + 2 * v) j)) := by
  have loop : ∀ m k, k + m = 8 → ∀ S1, S1 = setL S (238 + 2 * v) (fun j => if j < k then 0 else S.2.2.1 (238 + 2 * v) j) → XP mX7_clear 2 [(1, .int (nI k)), (0, .ref (237 + 2 * v))] [] (xwS S1) (sQ (fun r S' => r = none ∧ S' = setL S (238 + 2 * v) (fun j => if j < 8 then 0 else S.2.2.1 (238 + 2 * v) j))) := by
    intro m
    induction m with
    | zero =>
      intro k hk S1 h1
      refine x_iload_n eX7_clear_2 rfl ?_
      refine x_bipush (v := nI 8) eX7_clear_3 (by decide) ?_
      refine x_icmp_geN eX7_clear_5 (by omega) (by omega) (fun c_5 => ?_) (fun c_5 => ?_)
      · exact s_vret eX7_clear_21 rfl ⟨rfl, by rw [h1, show k = 8 by omega]⟩
      · omega
    | succ m ih =>
      intro k hk S1 h1
      refine x_iload_n eX7_clear_2 rfl ?_
      refine x_bipush (v := nI 8) eX7_clear_3 (by decide) ?_
      refine x_icmp_geN eX7_clear_5 (by omega) (by omega) (fun c_5 => ?_) (fun c_5 => ?_)
      · omega
      · refine x_aload_n eX7_clear_8 rfl ?_
        refine s_getR (k := (238 + 2 * v)) eX7_clear_9 fX7_9 (kd_wide hv0) (show _ < 365 by omega) (by decide) (rf_wide hv0) ?_
        refine x_iload_n eX7_clear_12 rfl ?_
        refine x_lconst (v := 0) eX7_clear_13 (by decide) ?_
        refine s_last eX7_clear_14 (kd_col hv0) (show _ < 365 by omega) rfl (by rw [(ln_col hv0)]; omega) ?_
        refine x_iinc (lv' := [_, _]) eX7_clear_15 rfl (by first | exact nI_inc _ | exact rfl) (by decide) rfl ?_
        refine x_goto eX7_clear_18 ?_
        refine x_pick [0, 1] rfl ?_
        refine ih (k + 1) (by omega) _ ?_
        subst h1
        rw [setL_setL, setL_at]
        congr 1
        funext j
        unfold vp_updL
        by_cases hj : j = k
        · rw [if_pos hj, if_pos (by omega)]
        · rw [if_neg hj]
          dsimp only
          by_cases hj2 : j < k
          · rw [if_pos hj2, if_pos (by omega)]
          · rw [if_neg hj2, if_neg (by omega)]
  show XP _ _ [_] _ _ _
  refine x_iconst (v := nI 0) eX7_clear_0 (by decide) ?_
  refine x_istore_n (lv' := [_, _]) eX7_clear_1 (by decide) rfl ?_
  refine x_pick [0, 1] rfl ?_
  refine loop 8 0 (by omega) S ?_
  have : (fun j => if j < 0 then 0 else S.2.2.1 (238 + 2 * v) j) = S.2.2.1 (238 + 2 * v) := by funext j; rw [if_neg (by omega)]
  rw [this, setL_self]
theorem emod_pow_succ {V B : Int} (hB : 0 < B) (k : Nat) : V % B ^ (k + 1) = V % B ^ k + B ^ k * (V / B ^ k % B) := by
  have hP : 0 < B ^ k := Int.pow_pos hB
  have h2 := Int.emod_add_mul_ediv V (B ^ k)
  have h3 := Int.emod_add_mul_ediv (V / B ^ k) B
  have a1 := Int.emod_nonneg V (Int.ne_of_gt hP)
  have a2 := Int.emod_lt_of_pos V hP
  have m1 := Int.emod_nonneg (V / B ^ k) (Int.ne_of_gt hB)
  have m2 := Int.emod_lt_of_pos (V / B ^ k) hB
  have e : B ^ (k + 1) = B ^ k * B := Int.pow_succ _ _
  rw [e]
  generalize V / B ^ k / B = q at *
  generalize V / B ^ k % B = m at *
  generalize V / B ^ k = t at *
  generalize V % B ^ k = a at *
  generalize B ^ k = u at *
  have hu : u * m ≤ u * (B - 1) := Int.mul_le_mul_of_nonneg_left (by omega) (Int.le_of_lt hP)
  have hu0 : 0 ≤ u * m := Int.mul_nonneg (Int.le_of_lt hP) m1
  rw [Int.mul_sub, Int.mul_one] at hu
  have hV : V = (a + u * m) + (u * B) * q := by rw [← h2, ← h3]; grind
  rw [hV, Int.add_mul_emod_self_left]
  exact Int.emod_eq_of_lt (by omega) (by omega)
theorem any_succ {V B : Int} (hB : 0 < B) (k : Nat) : V % B ^ (k + 1) ≠ 0 ↔ V % B ^ k ≠ 0 ∨ V / B ^ k % B ≠ 0 := by
  rw [emod_pow_succ hB]
  have hP : 0 < B ^ k := Int.pow_pos hB
  have a1 := Int.emod_nonneg V (Int.ne_of_gt hP)
  have m1 := Int.emod_nonneg (V / B ^ k) (Int.ne_of_gt hB)
  generalize V / B ^ k % B = m at *
  generalize V % B ^ k = a at *
  generalize B ^ k = u at *
  by_cases h : m = 0
  · subst h; simp
  · have : 0 < u * m := Int.mul_pos hP (by omega)
    constructor
    · intro _; exact Or.inr h
    · intro _; omega
theorem sp_X7_sign {v : Nat} (hv0 : v < 64) (S : xS) (f : Nat → Int) (hf : ∀ i, i < 8 → S.2.2.1 (238 + 2 * v) i = lI (f i)) (hb : ∀ i, i < 8 → -(2 ^ 62) ≤ f i ∧ f i ≤ 2 ^ 62) : Sp mX7_sign [.ref (237 + 2 * v)] S (fun r S' => r = some (.int (sg (hv (2 ^ 26) f 0 8))) ∧ S' = S) := by
  have hB := cy_bound (B := 2 ^ 26) (by decide) hb
  have step : ∀ k, k < 8 → ∀ (y : Int64), (∀ t, t = bI (decide (hv (2 ^ 26) f 0 8 % (2 ^ 26) ^ (k + 1) ≠ 0)) → XP mX7_sign 45 [(5, .long (lI (f k + cy (2 ^ 26) f 8 k))), (4, .int (nI k)), (3, .int (bI (decide (hv (2 ^ 26) f 0 8 % (2 ^ 26) ^ k ≠ 0)))), (1, .long (lI (cy (2 ^ 26) f 8 k))), (0, .ref (237 + 2 * v))] [.int t] (xwS S) (sQ (fun r S' => r = some (.int (sg (hv (2 ^ 26) f 0 8))) ∧ S' = S))) → XP mX7_sign 25 [(5, .long (lI (f k + cy (2 ^ 26) f 8 k))), (4, .int (nI k)), (3, .int (bI (decide (hv (2 ^ 26) f 0 8 % (2 ^ 26) ^ k ≠ 0)))), (1, .long (lI (cy (2 ^ 26) f 8 k))), (0, .ref (237 + 2 * v))] [] (xwS S) (sQ (fun r S' => r = some (.int (sg (hv (2 ^ 26) f 0 8))) ∧ S' = S)) := by
    intro k hk y kk
    have hs := any_succ (V := hv (2 ^ 26) f 0 8) (B := 2 ^ 26) (by decide) k
    have e2 := cy_mod (B := 2 ^ 26) (f := f) (n := 8) (k := k) hk
    have u1 := Int.emod_nonneg (f k + cy (2 ^ 26) f 8 k) (show (2 ^ 26 : Int) ≠ 0 by decide)
    have u2 := Int.emod_lt_of_pos (f k + cy (2 ^ 26) f 8 k) (show (0 : Int) < 2 ^ 26 by decide)
    have i1 : inL ((f k + cy (2 ^ 26) f 8 k) % 2 ^ 26) := ⟨by omega, by omega⟩
    refine x_iload_n eX7_sign_25 rfl ?_
    refine x_if_neB eX7_sign_26 (fun c_26 => ?_) (fun c_26 => ?_)
    · refine x_iconst (v := nI 1) eX7_sign_40 (by decide) ?_
      refine x_goto eX7_sign_41 ?_
      refine kk _ ?_
      first
        | (have h9 := hs.mpr (Or.inl (of_decide_eq_true c_26)); rw [decide_eq_true h9]; rfl)
        | (have h9 := hs.mpr (Or.inr (fun h => c_37 ((lI_inj i1 inL_0).mpr (e2 ▸ h)))); rw [decide_eq_true h9]; rfl)
        | (have h9 : ¬ (hv (2 ^ 26) f 0 8 % (2 ^ 26) ^ (k + 1) ≠ 0) := (fun h => (hs.mp h).elim (of_decide_eq_false c_26) (fun h2 => h2 (e2.trans ((lI_inj i1 inL_0).mp c_37)))); rw [decide_eq_false h9]; rfl)
    · refine x_lload eX7_sign_29 rfl ?_
      refine x_ldc2 (v := 67108863) eX7_sign_31 (xT 324 (by decide +kernel) rfl) ?_
      refine x_land eX7_sign_34 ?_
      rw [lI_mask (k := 26) (by decide) (by decide)]
      refine x_lconst (v := 0) eX7_sign_35 (by decide) ?_
      refine x_lcmp eX7_sign_36 ?_
      refine x_if_eqL eX7_sign_37 (fun c_37 => ?_) (fun c_37 => ?_)
      · refine x_iconst (v := nI 0) eX7_sign_44 (by decide) ?_
        refine kk _ ?_
        first
          | (have h9 := hs.mpr (Or.inl (of_decide_eq_true c_26)); rw [decide_eq_true h9]; rfl)
          | (have h9 := hs.mpr (Or.inr (fun h => c_37 ((lI_inj i1 inL_0).mpr (e2 ▸ h)))); rw [decide_eq_true h9]; rfl)
          | (have h9 : ¬ (hv (2 ^ 26) f 0 8 % (2 ^ 26) ^ (k + 1) ≠ 0) := (fun h => (hs.mp h).elim (of_decide_eq_false c_26) (fun h2 => h2 (e2.trans ((lI_inj i1 inL_0).mp c_37)))); rw [decide_eq_false h9]; rfl)
      · refine x_iconst (v := nI 1) eX7_sign_40 (by decide) ?_
        refine x_goto eX7_sign_41 ?_
        refine kk _ ?_
        first
          | (have h9 := hs.mpr (Or.inl (of_decide_eq_true c_26)); rw [decide_eq_true h9]; rfl)
          | (have h9 := hs.mpr (Or.inr (fun h => c_37 ((lI_inj i1 inL_0).mpr (e2 ▸ h)))); rw [decide_eq_true h9]; rfl)
          | (have h9 : ¬ (hv (2 ^ 26) f 0 8 % (2 ^ 26) ^ (k + 1) ≠ 0) := (fun h => (hs.mp h).elim (of_decide_eq_false c_26) (fun h2 => h2 (e2.trans ((lI_inj i1 inL_0).mp c_37)))); rw [decide_eq_false h9]; rfl)
  have fin : XP mX7_sign 58 [(4, .int (nI 8)), (3, .int (bI (decide (hv (2 ^ 26) f 0 8 % (2 ^ 26) ^ 8 ≠ 0)))), (1, .long (lI (cy (2 ^ 26) f 8 8))), (0, .ref (237 + 2 * v))] [] (xwS S) (sQ (fun r S' => r = some (.int (sg (hv (2 ^ 26) f 0 8))) ∧ S' = S)) := by
    have hc8 : cy (2 ^ 26) f 8 8 = hv (2 ^ 26) f 0 8 / (2 ^ 26) ^ 8 := by
      unfold cy
      show _ - 0 = _
      omega
    rw [hc8]
    have hb8 := hB 8 (by decide)
    rw [hc8] at hb8
    generalize hv (2 ^ 26) f 0 8 = V at *
    have i1 : inL (V / (2 ^ 26) ^ 8) := ⟨by omega, by omega⟩
    have l0 : (lI (V / (2 ^ 26) ^ 8) < 0) ↔ V / (2 ^ 26) ^ 8 < 0 := lI_lt i1 inL_0
    have l1 : ((0 : Int64) < lI (V / (2 ^ 26) ^ 8)) ↔ 0 < V / (2 ^ 26) ^ 8 := lI_lt inL_0 i1
    have q1 := ediv_neg_iff (V := V) (P := (2 ^ 26) ^ 8) (by decide)
    have q2 := Int.emod_add_mul_ediv V ((2 ^ 26) ^ 8)
    have q3 := Int.emod_nonneg V (show ((2 ^ 26) ^ 8 : Int) ≠ 0 by decide)
    refine x_lload_n eX7_sign_58 rfl ?_
    refine x_lconst (v := 0) eX7_sign_59 (by decide) ?_
    refine x_lcmp eX7_sign_60 ?_
    refine x_if_geL eX7_sign_61 (fun c_61 => ?_) (fun c_61 => ?_)
    · refine x_lload_n eX7_sign_68 rfl ?_
      refine x_lconst (v := 0) eX7_sign_69 (by decide) ?_
      refine x_lcmp eX7_sign_70 ?_
      refine x_if_gtL eX7_sign_71 (fun c_71 => ?_) (fun c_71 => ?_)
      · refine x_iconst (v := nI 1) eX7_sign_78 (by decide) ?_
        refine x_goto eX7_sign_79 ?_
        refine s_iret eX7_sign_83 rfl rfl ⟨?_, rfl⟩
        unfold sg
        first
          | (rw [if_pos (q1.mp (l0.mp c_61))])
          | (have h7 := l1.mp c_71; have h8 : ¬ V < 0 := (fun h => c_61 (l0.mpr (q1.mpr h))); rw [if_neg h8, if_neg (by omega)]; rfl)
          | (have h7 := of_decide_eq_true c_75; have h8 : ¬ V < 0 := (fun h => c_61 (l0.mpr (q1.mpr h))); rw [if_neg h8, if_neg (by omega)]; rfl)
          | (have h7 := Decidable.not_not.mp (of_decide_eq_false c_75); have h8 : ¬ V < 0 := (fun h => c_61 (l0.mpr (q1.mpr h))); have h9 : ¬ 0 < V / (2 ^ 26) ^ 8 := (fun h => c_71 (l1.mpr h)); rw [if_neg h8, if_pos (by omega)]; rfl)
      · refine x_iload_n eX7_sign_74 rfl ?_
        refine x_if_eqB eX7_sign_75 (fun c_75 => ?_) (fun c_75 => ?_)
        · refine x_iconst (v := nI 0) eX7_sign_82 (by decide) ?_
          refine s_iret eX7_sign_83 rfl rfl ⟨?_, rfl⟩
          unfold sg
          first
            | (rw [if_pos (q1.mp (l0.mp c_61))])
            | (have h7 := l1.mp c_71; have h8 : ¬ V < 0 := (fun h => c_61 (l0.mpr (q1.mpr h))); rw [if_neg h8, if_neg (by omega)]; rfl)
            | (have h7 := of_decide_eq_true c_75; have h8 : ¬ V < 0 := (fun h => c_61 (l0.mpr (q1.mpr h))); rw [if_neg h8, if_neg (by omega)]; rfl)
            | (have h7 := Decidable.not_not.mp (of_decide_eq_false c_75); have h8 : ¬ V < 0 := (fun h => c_61 (l0.mpr (q1.mpr h))); have h9 : ¬ 0 < V / (2 ^ 26) ^ 8 := (fun h => c_71 (l1.mpr h)); rw [if_neg h8, if_pos (by omega)]; rfl)
        · refine x_iconst (v := nI 1) eX7_sign_78 (by decide) ?_
          refine x_goto eX7_sign_79 ?_
          refine s_iret eX7_sign_83 rfl rfl ⟨?_, rfl⟩
          unfold sg
          first
            | (rw [if_pos (q1.mp (l0.mp c_61))])
            | (have h7 := l1.mp c_71; have h8 : ¬ V < 0 := (fun h => c_61 (l0.mpr (q1.mpr h))); rw [if_neg h8, if_neg (by omega)]; rfl)
            | (have h7 := of_decide_eq_true c_75; have h8 : ¬ V < 0 := (fun h => c_61 (l0.mpr (q1.mpr h))); rw [if_neg h8, if_neg (by omega)]; rfl)
            | (have h7 := Decidable.not_not.mp (of_decide_eq_false c_75); have h8 : ¬ V < 0 := (fun h => c_61 (l0.mpr (q1.mpr h))); have h9 : ¬ 0 < V / (2 ^ 26) ^ 8 := (fun h => c_71 (l1.mpr h)); rw [if_neg h8, if_pos (by omega)]; rfl)
    · refine x_iconst (v := -1) eX7_sign_64 (by decide) ?_
      refine x_goto eX7_sign_65 ?_
      refine s_iret eX7_sign_83 rfl rfl ⟨?_, rfl⟩
      unfold sg
      first
        | (rw [if_pos (q1.mp (l0.mp c_61))])
        | (have h7 := l1.mp c_71; have h8 : ¬ V < 0 := (fun h => c_61 (l0.mpr (q1.mpr h))); rw [if_neg h8, if_neg (by omega)]; rfl)
        | (have h7 := of_decide_eq_true c_75; have h8 : ¬ V < 0 := (fun h => c_61 (l0.mpr (q1.mpr h))); rw [if_neg h8, if_neg (by omega)]; rfl)
        | (have h7 := Decidable.not_not.mp (of_decide_eq_false c_75); have h8 : ¬ V < 0 := (fun h => c_61 (l0.mpr (q1.mpr h))); have h9 : ¬ 0 < V / (2 ^ 26) ^ 8 := (fun h => c_71 (l1.mpr h)); rw [if_neg h8, if_pos (by omega)]; rfl)
  have loop : ∀ m k, k + m = 8 → XP mX7_sign 7 [(4, .int (nI k)), (3, .int (bI (decide (hv (2 ^ 26) f 0 8 % (2 ^ 26) ^ k ≠ 0)))), (1, .long (lI (cy (2 ^ 26) f 8 k))), (0, .ref (237 + 2 * v))] [] (xwS S) (sQ (fun r S' => r = some (.int (sg (hv (2 ^ 26) f 0 8))) ∧ S' = S)) := by
    intro m
    induction m with
    | zero =>
      intro k hk
      obtain rfl : k = 8 := by omega
      refine x_iload eX7_sign_7 rfl ?_
      refine x_bipush (v := nI 8) eX7_sign_9 (by decide) ?_
      refine x_icmp_geN eX7_sign_11 (by omega) (by omega) (fun c_11 => ?_) (fun c_11 => ?_)
      · exact fin
      · omega
    | succ m ih =>
      intro k hk
      have hbk := hB k (by omega)
      have hfk := hb k (by omega)
      have hin : inL (f k + cy (2 ^ 26) f 8 k) := ⟨by omega, by omega⟩
      refine x_iload eX7_sign_7 rfl ?_
      refine x_bipush (v := nI 8) eX7_sign_9 (by decide) ?_
      refine x_icmp_geN eX7_sign_11 (by omega) (by omega) (fun c_11 => ?_) (fun c_11 => ?_)
      · omega
      · refine x_aload_n eX7_sign_14 rfl ?_
        refine s_getR (k := (238 + 2 * v)) eX7_sign_15 fX7_9 (kd_wide hv0) (show _ < 365 by omega) (by decide) (rf_wide hv0) ?_
        refine x_iload eX7_sign_18 rfl ?_
        refine s_lald eX7_sign_20 (kd_col hv0) (show _ < 365 by omega) rfl (by rw [(ln_col hv0)]; omega) ?_
        rw [hf k (by omega)]
        refine x_lload_n eX7_sign_21 rfl ?_
        refine x_ladd eX7_sign_22 ?_
        rw [lI_add]
        refine x_lstore (lv' := [_, _, _, _, _]) eX7_sign_23 (by decide) rfl ?_
        refine step k (by omega) 0 (fun t ht => ?_)
        subst ht
        refine x_istore_n (lv' := [_, _, _, _, _]) eX7_sign_45 (by decide) rfl ?_
        refine x_lload eX7_sign_46 rfl ?_
        refine x_bipush (v := nI 26) eX7_sign_48 (by decide) ?_
        refine x_lshr eX7_sign_50 rfl ?_
        rw [lI_shr hin (k := 26) (by decide), ← cy_step (by decide) (by omega)]
        refine x_lstore_n (lv' := [_, _, _, _, _]) eX7_sign_51 (by decide) rfl ?_
        refine x_iinc (lv' := [_, _, _, _, _]) eX7_sign_52 rfl (by first | exact nI_inc _ | exact rfl) (by decide) rfl ?_
        refine x_goto eX7_sign_55 ?_
        refine x_pick [0, 2, 1, 4] rfl ?_
        exact ih (k + 1) (by omega)
  show XP _ _ [_] _ _ _
  refine x_lconst (v := lI (cy (2 ^ 26) f 8 0)) eX7_sign_0 (by rw [cy_0]; decide) ?_
  refine x_lstore_n (lv' := [_, _]) eX7_sign_1 (by decide) rfl ?_
  refine x_iconst (v := bI (decide (hv (2 ^ 26) f 0 8 % (2 ^ 26) ^ 0 ≠ 0))) eX7_sign_2 (by simp [bI]) ?_
  refine x_istore_n (lv' := [_, _, _]) eX7_sign_3 (by decide) rfl ?_
  refine x_iconst (v := nI 0) eX7_sign_4 (by decide) ?_
  refine x_istore (lv' := [_, _, _, _]) eX7_sign_5 (by decide) rfl ?_
  refine x_pick [0, 1, 2, 3] rfl ?_
  exact loop 8 0 rfl

