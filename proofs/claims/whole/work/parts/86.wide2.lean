/-! ===== Wide ===== -/
def wid (S : xS) (v : Nat) (V : Int) : Prop := ∀ i, i < 8 → S.2.2.1 (238 + 2 * v) i = lI (can (2 ^ 26) 8 V i)
theorem can_lo26 {i : Nat} {V : Int} (h : i + 1 < 8) : 0 ≤ can (2 ^ 26) 8 V i ∧ can (2 ^ 26) 8 V i < 2 ^ 26 := by
  rw [can_lo h]; exact ⟨Int.emod_nonneg _ (by decide), Int.emod_lt_of_pos _ (by decide)⟩
theorem can_in26 {V : Int} (ht : inL (V / (2 ^ 26) ^ 7)) {i : Nat} (hi : i < 8) : inL (can (2 ^ 26) 8 V i) := by
  by_cases q : i + 1 < 8
  · have := can_lo26 (V := V) q; exact ⟨by omega, by omega⟩
  · obtain rfl : i = 7 := by omega
    rw [can_hi (by decide)]; exact ht
def cyW (f : Nat → Int) (g : Nat → Int64) (k j : Nat) : Int64 := if j < 8 then (if j < k then lI (hv (2 ^ 26) f 0 8 / (2 ^ 26) ^ j % 2 ^ 26) else if j = k then lI (f k + cy (2 ^ 26) f 8 k) else lI (f j)) else g j

theorem sp_X7_carry {v : Nat} (hv0 : v < 64) (S : xS) (f : Nat → Int) (hf : ∀ i, i < 8 → S.2.2.1 (238 + 2 * v) i = lI (f i)) (hb : ∀ i, i < 8 → -(2 ^ 62) ≤ f i ∧ f i ≤ 2 ^ 62) : Sp mX7_carry [.ref (237 + 2 * v)] S (fun r S' => r = none ∧ S' = setL S (238 + 2 * v) (fun j => if j < 8 then lI (can (2 ^ 26) 8 (hv (2 ^ 26) f 0 8) j) else S.2.2.1 (238 + 2 * v) j)) := by
  have loop : ∀ μ k, k + μ = 7 → ∀ S1, S1 = setL S (238 + 2 * v) (cyW f (S.2.2.1 (238 + 2 * v)) k) → XP mX7_carry 2 [(1, .int (nI k)), (0, .ref (237 + 2 * v))] [] (xwS S1) (sQ (fun r S' => r = none ∧ S' = setL S (238 + 2 * v) (fun j => if j < 8 then lI (can (2 ^ 26) 8 (hv (2 ^ 26) f 0 8) j) else S.2.2.1 (238 + 2 * v) j))) := by
    intro μ
    induction μ with
    | zero =>
      intro k hk S1 h1
      refine x_iload_n eX7_carry_2 rfl ?_
      refine x_bipush (v := nI 7) eX7_carry_3 (by decide) ?_
      refine x_icmp_geN eX7_carry_5 (by omega) (by omega) (fun c_5 => ?_) (fun c_5 => ?_)
      · refine s_vret eX7_carry_49 rfl ⟨rfl, ?_⟩
        rw [h1, show k = 7 by omega]
        congr 1
        funext j
        unfold cyW can
        by_cases h3 : j < 8
        · rw [if_pos h3, if_pos h3]
          by_cases h4 : j < 7
          · rw [if_pos h4, if_pos (by omega)]
          · obtain rfl : j = 7 := by omega
            rw [if_neg (by omega), if_pos rfl, if_neg (by omega)]
            have := cy_last (B := 2 ^ 26) (f := f) (n := 8) (by decide)
            rw [← this]
        · rw [if_neg h3, if_neg h3]
      · omega
    | succ μ ih =>
      intro k hk S1 h1
      have hB := cy_bound (B := 2 ^ 26) (by decide) hb k (by omega)
      have hfk := hb k (by omega)
      have hin : inL (f k + cy (2 ^ 26) f 8 k) := ⟨by omega, by omega⟩
      have v0 : S1.2.2.1 (238 + 2 * v) k = lI (f k + cy (2 ^ 26) f 8 k) := by rw [h1, setL_at]; unfold cyW; rw [if_pos (by omega), if_neg (by omega), if_pos rfl]
      have v1 : S1.2.2.1 (238 + 2 * v) (k + 1) = lI (f (k + 1)) := by rw [h1, setL_at]; unfold cyW; rw [if_pos (by omega), if_neg (by omega), if_neg (by omega)]
      refine x_iload_n eX7_carry_2 rfl ?_
      refine x_bipush (v := nI 7) eX7_carry_3 (by decide) ?_
      refine x_icmp_geN eX7_carry_5 (by omega) (by omega) (fun c_5 => ?_) (fun c_5 => ?_)
      · omega
      · refine x_aload_n eX7_carry_8 rfl ?_
        refine s_getR (k := (238 + 2 * v)) eX7_carry_9 fX7_9 (kd_wide hv0) (show _ < 365 by omega) (by decide) (rf_wide hv0) ?_
        refine x_iload_n eX7_carry_12 rfl ?_
        refine s_lald eX7_carry_13 (kd_col hv0) (show _ < 365 by omega) rfl (by rw [(ln_col hv0)]; omega) ?_
        rw [v0]
        refine x_bipush (v := nI 26) eX7_carry_14 (by decide) ?_
        refine x_lshr eX7_carry_16 rfl ?_
        rw [lI_shr hin (k := 26) (by decide)]
        refine x_lstore_n (lv' := [_, _, _]) eX7_carry_17 (by decide) rfl ?_
        refine x_aload_n eX7_carry_18 rfl ?_
        refine s_getR (k := (238 + 2 * v)) eX7_carry_19 fX7_9 (kd_wide hv0) (show _ < 365 by omega) (by decide) (rf_wide hv0) ?_
        refine x_iload_n eX7_carry_22 rfl ?_
        refine x_dup2_11 eX7_carry_23 rfl rfl ?_
        refine s_lald eX7_carry_24 (kd_col hv0) (show _ < 365 by omega) rfl (by rw [(ln_col hv0)]; omega) ?_
        rw [v0]
        refine x_lload_n eX7_carry_25 rfl ?_
        refine x_bipush (v := nI 26) eX7_carry_26 (by decide) ?_
        refine x_lshl eX7_carry_28 rfl ?_
        rw [lI_shl _ (k := 26) (by decide)]
        refine x_lsub eX7_carry_29 ?_
        rw [lI_sub, show f k + cy (2 ^ 26) f 8 k - (f k + cy (2 ^ 26) f 8 k) / 2 ^ 26 * 2 ^ 26 = (f k + cy (2 ^ 26) f 8 k) % 2 ^ 26 by omega]
        refine s_last eX7_carry_30 (kd_col hv0) (show _ < 365 by omega) rfl (by rw [(ln_col hv0)]; omega) ?_
        refine x_aload_n eX7_carry_31 rfl ?_
        refine s_getR (k := (238 + 2 * v)) eX7_carry_32 fX7_9 (kd_wide hv0) (show _ < 365 by omega) (by decide) (rf_wide hv0) ?_
        refine x_iload_n eX7_carry_35 rfl ?_
        refine x_iconst (v := nI 1) eX7_carry_36 (by decide) ?_
        first | refine x_iaddN eX7_carry_37 ?_ | refine x_iadd eX7_carry_37 ?_
        refine x_dup2_11 eX7_carry_38 rfl rfl ?_
        refine s_lald eX7_carry_39 (kd_col hv0) (show _ < 365 by omega) rfl (by rw [(ln_col hv0)]; omega) ?_
        rw [setL_at, vul_ne _ _ (by omega), v1]
        refine x_lload_n eX7_carry_40 rfl ?_
        refine x_ladd eX7_carry_41 ?_
        rw [lI_add]
        refine s_last eX7_carry_42 (kd_col hv0) (show _ < 365 by omega) rfl (by rw [(ln_col hv0)]; omega) ?_
        refine x_iinc (lv' := [_, _, _]) eX7_carry_43 rfl (by first | exact nI_inc _ | exact rfl) (by decide) rfl ?_
        refine x_goto eX7_carry_46 ?_
        refine x_pick [0, 2] rfl ?_
        refine ih (k + 1) (by omega) _ ?_
        have e1 := cy_step (B := 2 ^ 26) (by decide) (f := f) (n := 8) (k := k) (by omega)
        have e2 := cy_mod (B := 2 ^ 26) (f := f) (n := 8) (k := k) (by omega)
        rw [h1, setL_setL, setL_setL, setL_at]
        congr 1
        funext j
        by_cases q1 : j = k + 1
        · subst q1; rw [vul_at]; unfold cyW; rw [if_pos (by omega), if_neg (by omega), if_pos rfl, e1]
        · rw [vul_ne _ _ q1, setL_at]
          by_cases q2 : j = k
          · subst q2; rw [vul_at]; unfold cyW; rw [if_pos (by omega), if_pos (by omega), e2]
          · rw [vul_ne _ _ q2]; unfold cyW
            by_cases h3 : j < 8
            · rw [if_pos h3, if_pos h3]
              by_cases h4 : j < k
              · rw [if_pos h4, if_pos (by omega)]
              · rw [if_neg h4, if_neg q2, if_neg (by omega), if_neg q1]
            · rw [if_neg h3, if_neg h3]
  show XP _ _ [_] _ _ _
  refine x_iconst (v := nI 0) eX7_carry_0 (by decide) ?_
  refine x_istore_n (lv' := [_, _]) eX7_carry_1 (by decide) rfl ?_
  refine x_pick [0, 1] rfl ?_
  refine loop 7 0 (by omega) _ ?_
  have : cyW f (S.2.2.1 (238 + 2 * v)) 0 = S.2.2.1 (238 + 2 * v) := by
    funext j
    unfold cyW
    by_cases h3 : j < 8
    · rw [if_pos h3, if_neg (by omega), hf j h3]
      by_cases h4 : j = 0
      · subst h4; rw [if_pos rfl, cy_0, Int.add_zero]
      · rw [if_neg h4]
    · rw [if_neg h3]
  rw [this, setL_self]
theorem sp_X7_copy {v w : Nat} (hv0 : v < 64) (hw0 : w < 64) (hne : v ≠ w) (S : xS) : Sp mX7_copy [.ref (237 + 2 * v), .ref (237 + 2 * w)] S (fun r S' => r = none ∧ S' = setL S (238 + 2 * v) (fun j => if j < 8 then S.2.2.1 (238 + 2 * w) j else S.2.2.1 (238 + 2 * v) j)) := by
  have loop : ∀ μ k, k + μ = 8 → ∀ S1, S1 = setL S (238 + 2 * v) (fun j => if j < k then S.2.2.1 (238 + 2 * w) j else S.2.2.1 (238 + 2 * v) j) → XP mX7_copy 2 [(2, .int (nI k)), (0, .ref (237 + 2 * v)), (1, .ref (237 + 2 * w))] [] (xwS S1) (sQ (fun r S' => r = none ∧ S' = setL S (238 + 2 * v) (fun j => if j < 8 then S.2.2.1 (238 + 2 * w) j else S.2.2.1 (238 + 2 * v) j))) := by
    intro μ
    induction μ with
    | zero =>
      intro k hk S1 h1
      refine x_iload_n eX7_copy_2 rfl ?_
      refine x_bipush (v := nI 8) eX7_copy_3 (by decide) ?_
      refine x_icmp_geN eX7_copy_5 (by omega) (by omega) (fun c_5 => ?_) (fun c_5 => ?_)
      · exact s_vret eX7_copy_26 rfl ⟨rfl, by rw [h1, show k = 8 by omega]⟩
      · omega
    | succ μ ih =>
      intro k hk S1 h1
      refine x_iload_n eX7_copy_2 rfl ?_
      refine x_bipush (v := nI 8) eX7_copy_3 (by decide) ?_
      refine x_icmp_geN eX7_copy_5 (by omega) (by omega) (fun c_5 => ?_) (fun c_5 => ?_)
      · omega
      · refine x_aload_n eX7_copy_8 rfl ?_
        refine s_getR (k := (238 + 2 * v)) eX7_copy_9 fX7_9 (kd_wide hv0) (show _ < 365 by omega) (by decide) (rf_wide hv0) ?_
        refine x_iload_n eX7_copy_12 rfl ?_
        refine x_aload_n eX7_copy_13 rfl ?_
        refine s_getR (k := (238 + 2 * w)) eX7_copy_14 fX7_9 (kd_wide hw0) (show _ < 365 by omega) (by decide) (rf_wide hw0) ?_
        refine x_iload_n eX7_copy_17 rfl ?_
        refine s_lald eX7_copy_18 (kd_col hw0) (show _ < 365 by omega) rfl (by rw [(ln_col hw0)]; omega) ?_
        refine s_last eX7_copy_19 (kd_col hv0) (show _ < 365 by omega) rfl (by rw [(ln_col hv0)]; omega) ?_
        refine x_iinc (lv' := [_, _, _]) eX7_copy_20 rfl (by first | exact nI_inc _ | exact rfl) (by decide) rfl ?_
        refine x_goto eX7_copy_23 ?_
        refine x_pick [0, 1, 2] rfl ?_
        refine ih (k + 1) (by omega) _ ?_
        rw [h1, setL_setL, setL_at, setL_ne _ _ (by omega)]
        congr 1
        funext j
        by_cases q : j = k
        · subst q; rw [vul_at, if_pos (by omega)]
        · rw [vul_ne _ _ q]
          by_cases q2 : j < k
          · rw [if_pos q2, if_pos (by omega)]
          · rw [if_neg q2, if_neg (by omega)]
  show XP _ _ [_, _] _ _ _
  refine x_iconst (v := nI 0) eX7_copy_0 (by decide) ?_
  refine x_istore_n (lv' := [_, _, _]) eX7_copy_1 (by decide) rfl ?_
  refine x_pick [0, 1, 2] rfl ?_
  refine loop 8 0 (by omega) _ ?_
  have : (fun j => if j < 0 then S.2.2.1 (238 + 2 * w) j else S.2.2.1 (238 + 2 * v) j) = S.2.2.1 (238 + 2 * v) := by funext j; rw [if_neg (by omega)]
  rw [this, setL_self]
theorem sp_X7_plus {v w : Nat} (hv0 : v < 64) (hw0 : w < 64) (hne : v ≠ w) (S : xS) (t : Int64) : Sp mX7_plus [.ref (237 + 2 * v), .ref (237 + 2 * w), .long t] S (fun r S' => r = none ∧ S' = setL S (238 + 2 * v) (fun j => if j < 8 then S.2.2.1 (238 + 2 * v) j + t * S.2.2.1 (238 + 2 * w) j else S.2.2.1 (238 + 2 * v) j)) := by
  have loop : ∀ μ k, k + μ = 8 → ∀ S1, S1 = setL S (238 + 2 * v) (fun j => if j < k then S.2.2.1 (238 + 2 * v) j + t * S.2.2.1 (238 + 2 * w) j else S.2.2.1 (238 + 2 * v) j) → XP mX7_plus 3 [(4, .int (nI k)), (0, .ref (237 + 2 * v)), (1, .ref (237 + 2 * w)), (2, .long t)] [] (xwS S1) (sQ (fun r S' => r = none ∧ S' = setL S (238 + 2 * v) (fun j => if j < 8 then S.2.2.1 (238 + 2 * v) j + t * S.2.2.1 (238 + 2 * w) j else S.2.2.1 (238 + 2 * v) j))) := by
    intro μ
    induction μ with
    | zero =>
      intro k hk S1 h1
      refine x_iload eX7_plus_3 rfl ?_
      refine x_bipush (v := nI 8) eX7_plus_5 (by decide) ?_
      refine x_icmp_geN eX7_plus_7 (by omega) (by omega) (fun c_7 => ?_) (fun c_7 => ?_)
      · exact s_vret eX7_plus_35 rfl ⟨rfl, by rw [h1, show k = 8 by omega]⟩
      · omega
    | succ μ ih =>
      intro k hk S1 h1
      have v0 : S1.2.2.1 (238 + 2 * v) k = S.2.2.1 (238 + 2 * v) k := by rw [h1, setL_at, if_neg (by omega)]
      have v1 : S1.2.2.1 (238 + 2 * w) k = S.2.2.1 (238 + 2 * w) k := by rw [h1, setL_ne _ _ (by omega)]
      refine x_iload eX7_plus_3 rfl ?_
      refine x_bipush (v := nI 8) eX7_plus_5 (by decide) ?_
      refine x_icmp_geN eX7_plus_7 (by omega) (by omega) (fun c_7 => ?_) (fun c_7 => ?_)
      · omega
      · refine x_aload_n eX7_plus_10 rfl ?_
        refine s_getR (k := (238 + 2 * v)) eX7_plus_11 fX7_9 (kd_wide hv0) (show _ < 365 by omega) (by decide) (rf_wide hv0) ?_
        refine x_iload eX7_plus_14 rfl ?_
        refine x_dup2_11 eX7_plus_16 rfl rfl ?_
        refine s_lald eX7_plus_17 (kd_col hv0) (show _ < 365 by omega) rfl (by rw [(ln_col hv0)]; omega) ?_
        rw [v0]
        refine x_lload_n eX7_plus_18 rfl ?_
        refine x_aload_n eX7_plus_19 rfl ?_
        refine s_getR (k := (238 + 2 * w)) eX7_plus_20 fX7_9 (kd_wide hw0) (show _ < 365 by omega) (by decide) (rf_wide hw0) ?_
        refine x_iload eX7_plus_23 rfl ?_
        refine s_lald eX7_plus_25 (kd_col hw0) (show _ < 365 by omega) rfl (by rw [(ln_col hw0)]; omega) ?_
        rw [v1]
        refine x_lmul eX7_plus_26 ?_
        refine x_ladd eX7_plus_27 ?_
        refine s_last eX7_plus_28 (kd_col hv0) (show _ < 365 by omega) rfl (by rw [(ln_col hv0)]; omega) ?_
        refine x_iinc (lv' := [_, _, _, _]) eX7_plus_29 rfl (by first | exact nI_inc _ | exact rfl) (by decide) rfl ?_
        refine x_goto eX7_plus_32 ?_
        refine x_pick [0, 1, 2, 3] rfl ?_
        refine ih (k + 1) (by omega) _ ?_
        rw [h1, setL_setL, setL_at]
        congr 1
        funext j
        by_cases q : j = k
        · subst q; rw [vul_at, if_pos (by omega)]
        · rw [vul_ne _ _ q]
          by_cases q2 : j < k
          · rw [if_pos q2, if_pos (by omega)]
          · rw [if_neg q2, if_neg (by omega)]
  show XP _ _ [_, _, _] _ _ _
  refine x_iconst (v := nI 0) eX7_plus_0 (by decide) ?_
  refine x_istore (lv' := [_, _, _, _]) eX7_plus_1 (by decide) rfl ?_
  refine x_pick [0, 1, 2, 3] rfl ?_
  refine loop 8 0 (by omega) _ ?_
  have : (fun j => if j < 0 then S.2.2.1 (238 + 2 * v) j + t * S.2.2.1 (238 + 2 * w) j else S.2.2.1 (238 + 2 * v) j) = S.2.2.1 (238 + 2 * v) := by funext j; rw [if_neg (by omega)]
  rw [this, setL_self]
theorem sp_X7_against {v w : Nat} (hv0 : v < 64) (hw0 : w < 64) (S : xS) {V Z : Int} (hf : wid S v V) (hg : wid S w Z) (ht : inL (V / (2 ^ 26) ^ 7)) (hu : inL (Z / (2 ^ 26) ^ 7)) : Sp mX7_against [.ref (237 + 2 * v), .ref (237 + 2 * w)] S (fun r S' => r = some (.int (sg (V - Z))) ∧ S' = S) := by
  have loop : ∀ k, k ≤ 8 → (k < 8 → V / (2 ^ 26) ^ k = Z / (2 ^ 26) ^ k) → XP mX7_against 3 [(2, .int (dI k)), (0, .ref (237 + 2 * v)), (1, .ref (237 + 2 * w))] [] (xwS S) (sQ (fun r S' => r = some (.int (sg (V - Z))) ∧ S' = S)) := by
    intro k
    induction k with
    | zero =>
      intro _ h
      have h := h (by decide)
      simp only [Int.pow_zero, Int.ediv_one] at h
      refine x_iload_n eX7_against_3 rfl ?_
      refine x_if_lt eX7_against_4 (fun c_4 => ?_) (fun c_4 => ?_)
      · refine x_iconst (v := nI 0) eX7_against_51 (by decide) ?_
        exact s_iret eX7_against_52 rfl rfl ⟨by rw [h, Int.sub_self]; rfl, rfl⟩
      · exact absurd (by decide : dI 0 < 0) c_4
    | succ k ih =>
      intro hk h
      rw [dI_s]
      have hc := can_eq (B := 2 ^ 26) (by decide) (n := 8) (i := k) (V := V) (U := Z) (fun h1 => h (by omega))
      have hl := can_lt (B := 2 ^ 26) (by decide) (n := 8) (i := k) (V := V) (U := Z) (fun h1 => h (by omega))
      have hl2 := can_lt (B := 2 ^ 26) (by decide) (n := 8) (i := k) (V := Z) (U := V) (fun h1 => (h (by omega)).symm)
      have i1 := can_in26 ht (i := k) (by omega)
      have i2 := can_in26 hu (i := k) (by omega)
      have hP : (0 : Int) < (2 ^ 26) ^ k := Int.pow_pos (by decide)
      refine x_iload_n eX7_against_3 rfl ?_
      refine x_if_ltN eX7_against_4 (by omega) ?_
      refine x_aload_n eX7_against_7 rfl ?_
      refine s_getR (k := (238 + 2 * v)) eX7_against_8 fX7_9 (kd_wide hv0) (show _ < 365 by omega) (by decide) (rf_wide hv0) ?_
      refine x_iload_n eX7_against_11 rfl ?_
      refine s_lald eX7_against_12 (kd_col hv0) (show _ < 365 by omega) rfl (by rw [(ln_col hv0)]; omega) ?_
      rw [hf k (by omega)]
      refine x_aload_n eX7_against_13 rfl ?_
      refine s_getR (k := (238 + 2 * w)) eX7_against_14 fX7_9 (kd_wide hw0) (show _ < 365 by omega) (by decide) (rf_wide hw0) ?_
      refine x_iload_n eX7_against_17 rfl ?_
      refine s_lald eX7_against_18 (kd_col hw0) (show _ < 365 by omega) rfl (by rw [(ln_col hw0)]; omega) ?_
      rw [hg k (by omega)]
      refine x_lcmp eX7_against_19 ?_
      refine x_if_eqL eX7_against_20 (fun c_20 => ?_) (fun c_20 => ?_)
      · refine x_iinc (lv' := [_, _, _]) eX7_against_45 rfl (nI_dec _) (by decide) rfl ?_
        refine x_goto eX7_against_48 ?_
        refine x_pick [0, 1, 2] rfl ?_
        exact ih (by omega) (fun _ => hc.mp ((lI_inj i1 i2).mp c_20))
      · refine x_aload_n eX7_against_23 rfl ?_
        refine s_getR (k := (238 + 2 * v)) eX7_against_24 fX7_9 (kd_wide hv0) (show _ < 365 by omega) (by decide) (rf_wide hv0) ?_
        refine x_iload_n eX7_against_27 rfl ?_
        refine s_lald eX7_against_28 (kd_col hv0) (show _ < 365 by omega) rfl (by rw [(ln_col hv0)]; omega) ?_
        rw [hf k (by omega)]
        refine x_aload_n eX7_against_29 rfl ?_
        refine s_getR (k := (238 + 2 * w)) eX7_against_30 fX7_9 (kd_wide hw0) (show _ < 365 by omega) (by decide) (rf_wide hw0) ?_
        refine x_iload_n eX7_against_33 rfl ?_
        refine s_lald eX7_against_34 (kd_col hw0) (show _ < 365 by omega) rfl (by rw [(ln_col hw0)]; omega) ?_
        rw [hg k (by omega)]
        refine x_lcmp eX7_against_35 ?_
        refine x_if_geL eX7_against_36 (fun c_36 => ?_) (fun c_36 => ?_)
        · refine x_iconst (v := nI 1) eX7_against_43 (by decide) ?_
          first
            | exact s_iret eX7_against_44 rfl rfl ⟨by have h5 := lt_of_ediv_lt hP (hl.mp ((lI_lt i1 i2).mp c_36)); unfold sg; rw [if_pos (by omega)], rfl⟩
            | exact s_iret eX7_against_44 rfl rfl ⟨by have h6 : ¬ can (2 ^ 26) 8 V k = can (2 ^ 26) 8 Z k := fun h => c_20 ((lI_inj i1 i2).mpr h); have h7 : ¬ can (2 ^ 26) 8 V k < can (2 ^ 26) 8 Z k := fun h => c_36 ((lI_lt i1 i2).mpr h); have h5 := lt_of_ediv_lt hP (hl2.mp (by omega)); unfold sg; rw [if_neg (by omega), if_neg (by omega)]; rfl, rfl⟩
        · refine x_iconst (v := -1) eX7_against_39 (by decide) ?_
          refine x_goto eX7_against_40 ?_
          first
            | exact s_iret eX7_against_44 rfl rfl ⟨by have h5 := lt_of_ediv_lt hP (hl.mp ((lI_lt i1 i2).mp c_36)); unfold sg; rw [if_pos (by omega)], rfl⟩
            | exact s_iret eX7_against_44 rfl rfl ⟨by have h6 : ¬ can (2 ^ 26) 8 V k = can (2 ^ 26) 8 Z k := fun h => c_20 ((lI_inj i1 i2).mpr h); have h7 : ¬ can (2 ^ 26) 8 V k < can (2 ^ 26) 8 Z k := fun h => c_36 ((lI_lt i1 i2).mpr h); have h5 := lt_of_ediv_lt hP (hl2.mp (by omega)); unfold sg; rw [if_neg (by omega), if_neg (by omega)]; rfl, rfl⟩
  show XP _ _ [_, _] _ _ _
  refine x_bipush (v := nI 7) eX7_against_0 (by decide) ?_
  refine x_istore_n (lv' := [_, _, _]) eX7_against_2 (by decide) rfl ?_
  refine x_pick [0, 1, 2] rfl ?_
  exact loop 8 (by decide) (fun h => absurd h (by decide))
theorem whole_part (V : Int) : can (2 ^ 26) 8 V 5 / 2 ^ 14 + can (2 ^ 26) 8 V 6 * 2 ^ 12 + can (2 ^ 26) 8 V 7 * 2 ^ 38 = V / 2 ^ 144 := by
  rw [can_lo (by decide), can_lo (by decide), can_hi (by decide)]
  have e6 : V / (2 ^ 26) ^ 6 = V / (2 ^ 26) ^ 5 / 2 ^ 26 := by rw [Int.ediv_ediv_of_nonneg (by decide)]; rfl
  have e7 : V / (2 ^ 26) ^ 7 = V / (2 ^ 26) ^ 5 / 2 ^ 26 / 2 ^ 26 := by rw [Int.ediv_ediv_of_nonneg (by decide), Int.ediv_ediv_of_nonneg (by decide)]; rfl
  have e : V / 2 ^ 144 = V / (2 ^ 26) ^ 5 / 2 ^ 14 := by rw [Int.ediv_ediv_of_nonneg (by decide)]; rfl
  rw [e6, e7, e]
  generalize V / (2 ^ 26) ^ 5 = x
  omega
theorem sp_X7_wholePart {v : Nat} (hv0 : v < 64) (S : xS) {V : Int} (hf : wid S v V) (ht : inL (V / (2 ^ 26) ^ 7)) : Sp mX7_wholePart [.ref (237 + 2 * v)] S (fun r S' => r = some (.long (lI (V / 2 ^ 144))) ∧ S' = S) := by
  show XP _ _ [_] _ _ _
  refine x_aload_n eX7_wholePart_0 rfl ?_
  refine s_getR (k := (238 + 2 * v)) eX7_wholePart_1 fX7_9 (kd_wide hv0) (show _ < 365 by omega) (by decide) (rf_wide hv0) ?_
  refine x_iconst (v := nI 5) eX7_wholePart_4 (by decide) ?_
  refine s_lald eX7_wholePart_5 (kd_col hv0) (show _ < 365 by omega) rfl (by rw [(ln_col hv0)]; omega) ?_
  rw [hf 5 (by decide)]
  refine x_bipush (v := nI 14) eX7_wholePart_6 (by decide) ?_
  refine x_lshr eX7_wholePart_8 rfl ?_
  rw [lI_shr (can_in26 ht (by decide)) (k := 14) (by decide)]
  refine x_aload_n eX7_wholePart_9 rfl ?_
  refine s_getR (k := (238 + 2 * v)) eX7_wholePart_10 fX7_9 (kd_wide hv0) (show _ < 365 by omega) (by decide) (rf_wide hv0) ?_
  refine x_bipush (v := nI 6) eX7_wholePart_13 (by decide) ?_
  refine s_lald eX7_wholePart_15 (kd_col hv0) (show _ < 365 by omega) rfl (by rw [(ln_col hv0)]; omega) ?_
  rw [hf 6 (by decide)]
  refine x_bipush (v := nI 12) eX7_wholePart_16 (by decide) ?_
  refine x_lshl eX7_wholePart_18 rfl ?_
  rw [lI_shl _ (k := 12) (by decide)]
  refine x_ladd eX7_wholePart_19 ?_
  rw [lI_add]
  refine x_aload_n eX7_wholePart_20 rfl ?_
  refine s_getR (k := (238 + 2 * v)) eX7_wholePart_21 fX7_9 (kd_wide hv0) (show _ < 365 by omega) (by decide) (rf_wide hv0) ?_
  refine x_bipush (v := nI 7) eX7_wholePart_24 (by decide) ?_
  refine s_lald eX7_wholePart_26 (kd_col hv0) (show _ < 365 by omega) rfl (by rw [(ln_col hv0)]; omega) ?_
  rw [hf 7 (by decide)]
  refine x_bipush (v := nI 38) eX7_wholePart_27 (by decide) ?_
  refine x_lshl eX7_wholePart_29 rfl ?_
  rw [lI_shl _ (k := 38) (by decide)]
  refine x_ladd eX7_wholePart_30 ?_
  rw [lI_add, whole_part]
  exact s_lret eX7_wholePart_31 rfl ⟨rfl, rfl⟩
