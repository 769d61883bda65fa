theorem setL_setL (S : xS) (a : Nat) (f g : Nat → Int64) : setL (setL S a f) a g = setL S a g := by
  unfold setL
  congr 3
  funext p
  unfold rw1
  by_cases h : p = a <;> simp [h]
theorem setL_self (S : xS) (a : Nat) : setL S a (S.2.2.1 a) = S := by
  unfold setL
  have : rw1 S.2.2.1 a (S.2.2.1 a) = S.2.2.1 := by
    funext p
    unfold rw1
    split
    · rename_i h; rw [h]
    · rfl
  rw [this]
theorem setL_at (S : xS) (a : Nat) (f : Nat → Int64) : (setL S a f).2.2.1 a = f := rw1_same
theorem setL_ne (S : xS) {a b : Nat} (f : Nat → Int64) (h : b ≠ a) : (setL S a f).2.2.1 b = S.2.2.1 b := rw1_ne h
theorem sp_X9_clear {a : Nat} (hk0 : kd a = 11) (ha : a < 365) {fr n : Nat} (hn : fr + n ≤ ln a) (S : xS) : Sp mX9_clear [.ref a, .int (nI fr), .int (nI n)] S (fun r S' => r = none ∧ S' = setL S a (fun j => if fr ≤ j ∧ j < fr + n then 0 else S.2.2.1 a j)) := by
  have hs := ln_small a
  have loop : ∀ m k, k + m = n → ∀ S1, S1 = setL S a (fun j => if fr ≤ j ∧ j < fr + k then 0 else S.2.2.1 a j) → XP mX9_clear 2 [(3, .int (nI k)), (0, .ref a), (1, .int (nI fr)), (2, .int (nI n))] [] (xwS S1) (sQ (fun r S' => r = none ∧ S' = setL S a (fun j => if fr ≤ j ∧ j < fr + n then 0 else S.2.2.1 a j))) := by
    intro m
    induction m with
    | zero =>
      intro k hk S1 h1
      refine x_iload_n eX9_clear_2 rfl ?_
      refine x_iload_n eX9_clear_3 rfl ?_
      refine x_icmp_geN eX9_clear_4 (by omega) (by omega) (fun c_4 => ?_) (fun c_4 => ?_)
      · exact s_vret eX9_clear_19 rfl ⟨rfl, by rw [h1, show k = n by omega]⟩
      · omega
    | succ m ih =>
      intro k hk S1 h1
      refine x_iload_n eX9_clear_2 rfl ?_
      refine x_iload_n eX9_clear_3 rfl ?_
      refine x_icmp_geN eX9_clear_4 (by omega) (by omega) (fun c_4 => ?_) (fun c_4 => ?_)
      · omega
      · refine x_aload_n eX9_clear_7 rfl ?_
        refine x_iload_n eX9_clear_8 rfl ?_
        refine x_iload_n eX9_clear_9 rfl ?_
        first | refine x_iaddN eX9_clear_10 ?_ | refine x_iadd eX9_clear_10 ?_
        refine x_lconst (v := 0) eX9_clear_11 (by decide) ?_
        refine s_last eX9_clear_12 hk0 ha rfl (by omega) ?_
        refine x_iinc (lv' := [_, _, _, _]) eX9_clear_13 rfl (by first | exact nI_inc _ | exact rfl) (by decide) rfl ?_
        refine x_goto eX9_clear_16 ?_
        refine x_pick [0, 1, 2, 3] rfl ?_
        refine ih (k + 1) (by omega) _ ?_
        subst h1
        rw [setL_setL, setL_at]
        congr 1
        funext j
        unfold vp_updL
        by_cases hj : j = fr + k
        · rw [if_pos hj, if_pos (by omega)]
        · rw [if_neg hj]
          dsimp only
          by_cases hj2 : fr ≤ j ∧ j < fr + k
          · rw [if_pos hj2, if_pos (by omega)]
          · rw [if_neg hj2, if_neg (by omega)]
  show XP _ _ [_, _, _] _ _ _
  refine x_iconst (v := nI 0) eX9_clear_0 (by decide) ?_
  refine x_istore_n (lv' := [_, _, _, _]) eX9_clear_1 (by decide) rfl ?_
  refine x_pick [0, 1, 2, 3] rfl ?_
  refine loop n 0 (by omega) S ?_
  have : (fun j => if fr ≤ j ∧ j < fr + 0 then 0 else S.2.2.1 a j) = S.2.2.1 a := by funext j; rw [if_neg (by omega)]
  rw [this, setL_self]
/-- the row while limb k is being carried -/
def cyR (B : Int) (f : Nat → Int) (n fr : Nat) (g : Nat → Int64) (k j : Nat) : Int64 := if fr ≤ j ∧ j < fr + n then (if j - fr < k then lI (hv B f 0 n / B ^ (j - fr) % B) else if j - fr = k then lI (f k + cy B f n k) else lI (f (j - fr))) else g j
theorem sp_X9_carry {a : Nat} (hk0 : kd a = 11) (ha : a < 365) {fr n : Nat} (hn : fr + n ≤ ln a) (h0 : 0 < n) (S : xS) (f : Nat → Int) (hf : ∀ i, i < n → S.2.2.1 a (fr + i) = lI (f i)) (hb : ∀ i, i < n → -(2 ^ 62) ≤ f i ∧ f i ≤ 2 ^ 62) : Sp mX9_carry [.ref a, .int (nI fr), .int (nI n)] S (fun r S' => r = none ∧ S' = setL S a (fun j => if fr ≤ j ∧ j < fr + n then lI (can (2 ^ 24) n (hv (2 ^ 24) f 0 n) (j - fr)) else S.2.2.1 a j)) := by
  have hs := ln_small a
  have hfin : ∀ k, k = n - 1 → ∀ S1, S1 = setL S a (cyR (2 ^ 24) f n fr (S.2.2.1 a) k) → S1 = setL S a (fun j => if fr ≤ j ∧ j < fr + n then lI (can (2 ^ 24) n (hv (2 ^ 24) f 0 n) (j - fr)) else S.2.2.1 a j) := by
    intro k hk S1 h1
    subst hk
    rw [h1]
    congr 1
    funext j
    unfold cyR can
    by_cases h3 : fr ≤ j ∧ j < fr + n
    · rw [if_pos h3, if_pos h3]
      by_cases h4 : j - fr < n - 1
      · rw [if_pos h4, if_pos (by omega)]
      · rw [if_neg h4, if_pos (by omega), if_neg (by omega), show j - fr = n - 1 by omega, cy_last h0]
    · rw [if_neg h3, if_neg h3]
  have loop : ∀ m k, k + m = n - 1 → ∀ S1, S1 = setL S a (cyR (2 ^ 24) f n fr (S.2.2.1 a) k) → XP mX9_carry 2 [(3, .int (nI k)), (0, .ref a), (1, .int (nI fr)), (2, .int (nI n))] [] (xwS S1) (sQ (fun r S' => r = none ∧ S' = setL S a (fun j => if fr ≤ j ∧ j < fr + n then lI (can (2 ^ 24) n (hv (2 ^ 24) f 0 n) (j - fr)) else S.2.2.1 a j))) := by
    intro m
    induction m with
    | zero =>
      intro k hk S1 h1
      refine x_iload_n eX9_carry_2 rfl ?_
      refine x_iload_n eX9_carry_3 rfl ?_
      refine x_iconst (v := nI 1) eX9_carry_4 (by decide) ?_
      first | refine x_isubN eX9_carry_5 (by omega) ?_ | refine x_isub eX9_carry_5 ?_
      refine x_icmp_geN eX9_carry_6 (by omega) (by omega) (fun c_6 => ?_) (fun c_6 => ?_)
      · exact s_vret eX9_carry_48 rfl ⟨rfl, hfin k (by omega) S1 h1⟩
      · omega
    | succ m ih =>
      intro k hk S1 h1
      refine x_iload_n eX9_carry_2 rfl ?_
      refine x_iload_n eX9_carry_3 rfl ?_
      refine x_iconst (v := nI 1) eX9_carry_4 (by decide) ?_
      first | refine x_isubN eX9_carry_5 (by omega) ?_ | refine x_isub eX9_carry_5 ?_
      refine x_icmp_geN eX9_carry_6 (by omega) (by omega) (fun c_6 => ?_) (fun c_6 => ?_)
      · omega
      · refine x_aload_n eX9_carry_9 rfl ?_
        refine x_iload_n eX9_carry_10 rfl ?_
        refine x_iload_n eX9_carry_11 rfl ?_
        first | refine x_iaddN eX9_carry_12 ?_ | refine x_iadd eX9_carry_12 ?_
        refine s_lald eX9_carry_13 hk0 ha rfl (by omega) ?_
        have hB := cy_bound (B := 2 ^ 24) (by decide) hb k (by omega)
        have hfk := hb k (by omega)
        have hin : inL (f k + cy (2 ^ 24) f n k) := ⟨by omega, by omega⟩
        have hv0 : S1.2.2.1 a (fr + k) = lI (f k + cy (2 ^ 24) f n k) := by
          subst h1
          rw [setL_at]
          unfold cyR
          rw [if_pos (by omega), if_neg (by omega), if_pos (by omega)]
        rw [hv0]
        refine x_bipush (v := nI 24) eX9_carry_14 (by decide) ?_
        refine x_lshr eX9_carry_16 rfl ?_
        rw [lI_shr hin (k := 24) (by decide)]
        refine x_lstore (lv' := [_, _, _, _, _]) eX9_carry_17 (by decide) rfl ?_
        refine x_aload_n eX9_carry_19 rfl ?_
        refine x_iload_n eX9_carry_20 rfl ?_
        refine x_iload_n eX9_carry_21 rfl ?_
        first | refine x_iaddN eX9_carry_22 ?_ | refine x_iadd eX9_carry_22 ?_
        refine x_dup2_11 eX9_carry_23 rfl rfl ?_
        refine s_lald eX9_carry_24 hk0 ha rfl (by omega) ?_
        rw [hv0]
        refine x_ldc2 (v := 16777215) eX9_carry_25 (xT 843 (by decide +kernel) rfl) ?_
        refine x_land eX9_carry_28 ?_
        rw [lI_mask (k := 24) (by decide) (by decide)]
        refine s_last eX9_carry_29 hk0 ha rfl (by omega) ?_
        refine x_aload_n eX9_carry_30 rfl ?_
        refine x_iload_n eX9_carry_31 rfl ?_
        refine x_iload_n eX9_carry_32 rfl ?_
        first | refine x_iaddN eX9_carry_33 ?_ | refine x_iadd eX9_carry_33 ?_
        refine x_iconst (v := nI 1) eX9_carry_34 (by decide) ?_
        first | refine x_iaddN eX9_carry_35 ?_ | refine x_iadd eX9_carry_35 ?_
        refine x_dup2_11 eX9_carry_36 rfl rfl ?_
        refine s_lald eX9_carry_37 hk0 ha rfl (by omega) ?_
        rw [setL_at]
        have hv1 : vp_updL (S1.2.2.1 a) (fr + k) (lI ((f k + cy (2 ^ 24) f n k) % 2 ^ 24)) (fr + k + 1) = lI (f (k + 1)) := by
          unfold vp_updL
          rw [if_neg (by omega)]
          subst h1
          rw [setL_at]
          unfold cyR
          rw [if_pos (by omega), if_neg (by omega), if_neg (by omega)]
          congr 2; omega
        rw [hv1]
        refine x_lload eX9_carry_38 rfl ?_
        refine x_ladd eX9_carry_40 ?_
        rw [lI_add]
        refine s_last eX9_carry_41 hk0 ha rfl (by omega) ?_
        refine x_iinc (lv' := [_, _, _, _, _]) eX9_carry_42 rfl (by first | exact nI_inc _ | exact rfl) (by decide) rfl ?_
        refine x_goto eX9_carry_45 ?_
        refine x_pick [0, 2, 3, 4] rfl ?_
        refine ih (k + 1) (by omega) _ ?_
        rw [setL_setL, setL_at]
        have e1 := cy_step (B := 2 ^ 24) (by decide) (f := f) (n := n) (k := k) (by omega)
        have e2 := cy_mod (B := 2 ^ 24) (f := f) (n := n) (k := k) (by omega)
        subst h1
        rw [setL_setL, setL_at]
        congr 1
        funext j
        unfold vp_updL cyR
        by_cases h1 : j = fr + k + 1
        · rw [if_pos h1, if_pos (by omega), if_neg (by omega), if_pos (by omega), e1]
        · rw [if_neg h1]
          by_cases h2 : j = fr + k
          · rw [if_pos h2, if_pos (by omega), if_pos (by omega), show j - fr = k by omega, e2]
          · rw [if_neg h2]
            by_cases h3 : fr ≤ j ∧ j < fr + n
            · rw [if_pos h3, if_pos h3]
              by_cases h4 : j - fr < k
              · rw [if_pos h4, if_pos (by omega)]
              · rw [if_neg h4, if_neg (by omega), if_neg (by omega), if_neg (by omega)]
            · rw [if_neg h3, if_neg h3]
  show XP _ _ [_, _, _] _ _ _
  refine x_iconst (v := nI 0) eX9_carry_0 (by decide) ?_
  refine x_istore_n (lv' := [_, _, _, _]) eX9_carry_1 (by decide) rfl ?_
  refine x_pick [0, 1, 2, 3] rfl ?_
  refine loop (n - 1) 0 (by omega) S ?_
  have : cyR (2 ^ 24) f n fr (S.2.2.1 a) 0 = S.2.2.1 a := by
    funext j
    unfold cyR
    by_cases h3 : fr ≤ j ∧ j < fr + n
    · rw [if_pos h3, if_neg (by omega)]
      have h5 := hf (j - fr) (by omega)
      rw [show fr + (j - fr) = j by omega] at h5
      rw [h5]
      by_cases h4 : j - fr = 0
      · rw [if_pos h4, cy_0, h4, Int.add_zero]
      · rw [if_neg h4]
    · rw [if_neg h3]
  rw [this, setL_self]
theorem inL_0 : inL 0 := ⟨by decide, by decide⟩
def sg (z : Int) : Int32 := if z < 0 then -1 else if z = 0 then 0 else 1
theorem can_top {B : Int} {n : Nat} {V : Int} (h : 0 < n) : can B n V (n - 1) = V / B ^ (n - 1) := by unfold can; rw [if_neg (by omega)]
theorem can_hi {B : Int} {n i : Nat} {V : Int} (h : n ≤ i + 1) : can B n V i = V / B ^ i := by unfold can; rw [if_neg (by omega)]
theorem can_lo {B : Int} {n i : Nat} {V : Int} (h : i + 1 < n) : can B n V i = V / B ^ i % B := by unfold can; rw [if_pos h]
/-- all limbs 0 from k on: the rest is 0 -/
theorem can_zero {B : Int} (hB : 0 < B) {n : Nat} {V : Int} (h0 : 0 < n) (h : ∀ i, i < n → can B n V i = 0) : V = 0 := by
  have key : ∀ m, m < n → V / B ^ (n - 1 - m) = 0 := by
    intro m
    induction m with
    | zero => intro _; have := h (n - 1) (by omega); rw [can_top h0] at this; exact this
    | succ m ih =>
      intro hm
      have h1 := ih (by omega)
      have h2 := h (n - 1 - (m + 1)) (by omega)
      rw [can_lo (by omega)] at h2
      have h3 : n - 1 - m = (n - 1 - (m + 1)) + 1 := by omega
      rw [h3, Int.pow_succ, ← Int.ediv_ediv_of_nonneg (Int.le_of_lt (Int.pow_pos hB))] at h1
      have h4 := Int.emod_add_mul_ediv (V / B ^ (n - 1 - (m + 1))) B
      rw [h1, h2] at h4
      omega
  have := key (n - 1) (by omega)
  simpa using this
theorem can_of_zero {B : Int} {n i : Nat} : can B n 0 i = 0 := by unfold can; split <;> simp
theorem ediv_neg_iff {V P : Int} (hP : 0 < P) : V / P < 0 ↔ V < 0 := by
  constructor
  · intro h
    rcases Int.lt_or_le V 0 with h1 | h1
    · exact h1
    · exact absurd (Int.ediv_nonneg h1 (Int.le_of_lt hP)) (by omega)
  · intro h; exact Int.ediv_neg_of_neg_of_pos h hP
theorem can_low_in {n i : Nat} {V : Int} (h : i + 1 < n) : 0 ≤ can (2 ^ 24) n V i ∧ can (2 ^ 24) n V i < 2 ^ 24 := by
  rw [can_lo h]
  exact ⟨Int.emod_nonneg _ (by decide), Int.emod_lt_of_pos _ (by decide)⟩
theorem can_inL {n : Nat} {V : Int} (ht : inL (V / (2 ^ 24) ^ (n - 1))) {i : Nat} (hi : i < n) : inL (can (2 ^ 24) n V i) := by
  by_cases h : i + 1 < n
  · have := can_low_in (V := V) h
    exact ⟨by omega, by omega⟩
  · have e : i = n - 1 := by omega
    subst e
    rw [can_hi (by omega)]
    exact ht
theorem sp_X9_signOf {a : Nat} (hk0 : kd a = 11) (ha : a < 365) {fr n : Nat} (hn : fr + n ≤ ln a) (h0 : 0 < n) (S : xS) (V : Int) (hf : ∀ i, i < n → S.2.2.1 a (fr + i) = lI (can (2 ^ 24) n V i)) (ht : inL (V / (2 ^ 24) ^ (n - 1))) : Sp mX9_signOf [.ref a, .int (nI fr), .int (nI n)] S (fun r S' => r = some (.int (sg V)) ∧ S' = S) := by
  have hs := ln_small a
  have htop : (V / (2 ^ 24) ^ (n - 1) < 0) ↔ V < 0 := ediv_neg_iff (Int.pow_pos (by decide))
  have loop : ∀ m k, k + m = n → ∀ S1, (S1 = S ∧ ¬ V < 0 ∧ ∀ i, i < k → can (2 ^ 24) n V i = 0) → XP mX9_signOf 16 [(3, .int (nI k)), (0, .ref a), (1, .int (nI fr)), (2, .int (nI n))] [] (xwS S1) (sQ (fun r S' => r = some (.int (sg V)) ∧ S' = S)) := by
    intro m
    induction m with
    | zero =>
      intro k hk S1 h1
      refine x_iload_n eX9_signOf_16 rfl ?_
      refine x_iload_n eX9_signOf_17 rfl ?_
      refine x_icmp_geN eX9_signOf_18 (by omega) (by omega) (fun c_18 => ?_) (fun c_18 => ?_)
      · refine x_iconst (v := nI 0) eX9_signOf_39 (by decide) ?_
        exact s_iret eX9_signOf_40 rfl rfl ⟨by rw [can_zero (by decide) h0 (fun i hi => h1.2.2 i (by omega))]; rfl, h1.1⟩
      · omega
    | succ m ih =>
      intro k hk S1 h1
      refine x_iload_n eX9_signOf_16 rfl ?_
      refine x_iload_n eX9_signOf_17 rfl ?_
      refine x_icmp_geN eX9_signOf_18 (by omega) (by omega) (fun c_18 => ?_) (fun c_18 => ?_)
      · omega
      · obtain ⟨rfl, hpos, hz⟩ := h1
        refine x_aload_n eX9_signOf_21 rfl ?_
        refine x_iload_n eX9_signOf_22 rfl ?_
        refine x_iload_n eX9_signOf_23 rfl ?_
        first | refine x_iaddN eX9_signOf_24 ?_ | refine x_iadd eX9_signOf_24 ?_
        refine s_lald eX9_signOf_25 hk0 ha rfl (by omega) ?_
        rw [hf k (by omega)]
        refine x_lconst (v := 0) eX9_signOf_26 (by decide) ?_
        refine x_lcmp eX9_signOf_27 ?_
        refine x_if_eqL eX9_signOf_28 (fun c_28 => ?_) (fun c_28 => ?_)
        · refine x_iinc (lv' := [_, _, _, _]) eX9_signOf_33 rfl (by first | exact nI_inc _ | exact rfl) (by decide) rfl ?_
          refine x_goto eX9_signOf_36 ?_
          refine x_pick [0, 1, 2, 3] rfl ?_
          refine ih (k + 1) (by omega) S1 ⟨rfl, hpos, fun i hi => ?_⟩
          by_cases h : i = k
          · subst h
            exact (lI_inj (can_inL ht (by omega)) inL_0).mp c_28
          · exact hz i (by omega)
        · refine x_iconst (v := nI 1) eX9_signOf_31 (by decide) ?_
          exact s_iret eX9_signOf_32 rfl rfl ⟨by have hne : V ≠ 0 := (fun hV => c_28 (by rw [hV, can_of_zero]; rfl)); unfold sg; rw [if_neg hpos, if_neg hne]; rfl, rfl⟩
  show XP _ _ [_, _, _] _ _ _
  refine x_aload_n eX9_signOf_0 rfl ?_
  refine x_iload_n eX9_signOf_1 rfl ?_
  refine x_iload_n eX9_signOf_2 rfl ?_
  first | refine x_iaddN eX9_signOf_3 ?_ | refine x_iadd eX9_signOf_3 ?_
  refine x_iconst (v := nI 1) eX9_signOf_4 (by decide) ?_
  first | refine x_isubN eX9_signOf_5 (by omega) ?_ | refine x_isub eX9_signOf_5 ?_
  refine s_lald eX9_signOf_6 hk0 ha rfl (by omega) ?_
  have e1 : fr + n - 1 = fr + (n - 1) := by omega
  rw [e1, hf (n - 1) (by omega), can_top h0]
  refine x_lconst (v := 0) eX9_signOf_7 (by decide) ?_
  refine x_lcmp eX9_signOf_8 ?_
  refine x_if_geL eX9_signOf_9 (fun c_9 => ?_) (fun c_9 => ?_)
  · refine x_iconst (v := nI 0) eX9_signOf_14 (by decide) ?_
    refine x_istore_n (lv' := [_, _, _, _]) eX9_signOf_15 (by decide) rfl ?_
    refine x_pick [0, 1, 2, 3] rfl ?_
    refine loop n 0 (by omega) S ⟨rfl, ?_, fun i hi => absurd hi (by omega)⟩
    intro hV
    exact c_9 ((lI_lt ht inL_0).mpr (htop.mpr hV))
  · refine x_iconst (v := -1) eX9_signOf_12 (by decide) ?_
    exact s_iret eX9_signOf_13 rfl rfl ⟨by unfold sg; rw [if_pos (htop.mp ((lI_lt ht inL_0).mp c_9))], rfl⟩
def dI (k : Nat) : Int32 := nI k - 1
theorem dI_0 : dI 0 = -1 := by decide
theorem dI_s (k : Nat) : dI (k + 1) = nI k := nI_pred k
theorem nI_dec (k : Nat) : nI k + Int32.ofInt (-1) = dI k := by
  unfold dI
  rw [Int32.sub_eq_add_neg]
  rfl
theorem can_eq {B : Int} (hB : 0 < B) {n i : Nat} {V U : Int} (h : i + 1 < n → V / B ^ (i + 1) = U / B ^ (i + 1)) : can B n V i = can B n U i ↔ V / B ^ i = U / B ^ i := by
  by_cases hi : i + 1 < n
  · rw [can_lo hi, can_lo hi]
    have h1 := h hi
    rw [Int.pow_succ, ← Int.ediv_ediv_of_nonneg (Int.le_of_lt (Int.pow_pos hB)), ← Int.ediv_ediv_of_nonneg (Int.le_of_lt (Int.pow_pos hB))] at h1
    have h2 := Int.emod_add_mul_ediv (V / B ^ i) B
    have h3 := Int.emod_add_mul_ediv (U / B ^ i) B
    rw [h1] at h2
    constructor
    · intro h4; rw [h4] at h2; omega
    · intro h4; rw [h4]
  · rw [can_hi (by omega), can_hi (by omega)]
theorem can_lt {B : Int} (hB : 0 < B) {n i : Nat} {V U : Int} (h : i + 1 < n → V / B ^ (i + 1) = U / B ^ (i + 1)) : can B n V i < can B n U i ↔ V / B ^ i < U / B ^ i := by
  by_cases hi : i + 1 < n
  · rw [can_lo hi, can_lo hi]
    have h1 := h hi
    rw [Int.pow_succ, ← Int.ediv_ediv_of_nonneg (Int.le_of_lt (Int.pow_pos hB)), ← Int.ediv_ediv_of_nonneg (Int.le_of_lt (Int.pow_pos hB))] at h1
    have h2 := Int.emod_add_mul_ediv (V / B ^ i) B
    have h3 := Int.emod_add_mul_ediv (U / B ^ i) B
    rw [h1] at h2
    omega
  · rw [can_hi (by omega), can_hi (by omega)]
theorem lt_of_ediv_lt {V U P : Int} (hP : 0 < P) (h : V / P < U / P) : V < U := by
  rcases Int.lt_or_le V U with h1 | h1
  · exact h1
  · exact absurd (Int.ediv_le_ediv hP h1) (by omega)
theorem sp_X9_order {p : Nat} (hk0 : kd p = 11) (ha : p < 365) {a b : Nat} (hna : 5 * a + 5 ≤ ln p) (hnb : 5 * b + 5 ≤ ln p) (S : xS) (V U : Int) (hf : ∀ i, i < 5 → S.2.2.1 p (5 * a + i) = lI (can (2 ^ 24) 5 V i)) (hg : ∀ i, i < 5 → S.2.2.1 p (5 * b + i) = lI (can (2 ^ 24) 5 U i)) (ht : inL (V / (2 ^ 24) ^ 4)) (hu : inL (U / (2 ^ 24) ^ 4)) : Sp mX9_order [.ref p, .int (nI a), .int (nI b)] S (fun r S' => r = some (.int (sg (V - U))) ∧ S' = S) := by
  have hs := ln_small p
  have loop : ∀ k, k ≤ 5 → (k < 5 → V / (2 ^ 24) ^ k = U / (2 ^ 24) ^ k) → XP mX9_order 2 [(3, .int (dI k)), (0, .ref p), (1, .int (nI a)), (2, .int (nI b))] [] (xwS S) (sQ (fun r S' => r = some (.int (sg (V - U))) ∧ S' = S)) := by
    intro k
    induction k with
    | zero =>
      intro _ h
      have h := h (by decide)
      simp only [Int.pow_zero, Int.ediv_one] at h
      refine x_iload_n eX9_order_2 rfl ?_
      refine x_if_lt eX9_order_3 (fun c_3 => ?_) (fun c_3 => ?_)
      · refine x_iconst (v := nI 0) eX9_order_52 (by decide) ?_
        exact s_iret eX9_order_53 rfl rfl ⟨by rw [h, Int.sub_self]; rfl, rfl⟩
      · exact absurd (by decide : dI 0 < 0) c_3
    | succ k ih =>
      intro hk h
      rw [dI_s]
      have hc := can_eq (B := 2 ^ 24) (by decide) (n := 5) (i := k) (V := V) (U := U) (fun h1 => h (by omega))
      have hl := can_lt (B := 2 ^ 24) (by decide) (n := 5) (i := k) (V := V) (U := U) (fun h1 => h (by omega))
      have hl2 := can_lt (B := 2 ^ 24) (by decide) (n := 5) (i := k) (V := U) (U := V) (fun h1 => (h (by omega)).symm)
      have i1 := can_inL (n := 5) ht (i := k) (by omega)
      have i2 := can_inL (n := 5) hu (i := k) (by omega)
      have hP : (0 : Int) < (2 ^ 24) ^ k := Int.pow_pos (by decide)
      refine x_iload_n eX9_order_2 rfl ?_
      refine x_if_ltN eX9_order_3 (by omega) ?_
      refine x_aload_n eX9_order_6 rfl ?_
      refine x_iconst (v := nI 5) eX9_order_7 (by decide) ?_
      refine x_iload_n eX9_order_8 rfl ?_
      first | refine x_imulN eX9_order_9 ?_ | refine x_imul eX9_order_9 ?_
      refine x_iload_n eX9_order_10 rfl ?_
      first | refine x_iaddN eX9_order_11 ?_ | refine x_iadd eX9_order_11 ?_
      refine s_lald eX9_order_12 hk0 ha rfl (by omega) ?_
      rw [hf k (by omega)]
      refine x_lstore (lv' := [_, _, _, _, _]) eX9_order_13 (by decide) rfl ?_
      refine x_aload_n eX9_order_15 rfl ?_
      refine x_iconst (v := nI 5) eX9_order_16 (by decide) ?_
      refine x_iload_n eX9_order_17 rfl ?_
      first | refine x_imulN eX9_order_18 ?_ | refine x_imul eX9_order_18 ?_
      refine x_iload_n eX9_order_19 rfl ?_
      first | refine x_iaddN eX9_order_20 ?_ | refine x_iadd eX9_order_20 ?_
      refine s_lald eX9_order_21 hk0 ha rfl (by omega) ?_
      rw [hg k (by omega)]
      refine x_lstore (lv' := [_, _, _, _, _, _]) eX9_order_22 (by decide) rfl ?_
      refine x_lload eX9_order_24 rfl ?_
      refine x_lload eX9_order_26 rfl ?_
      refine x_lcmp eX9_order_28 ?_
      refine x_if_eqL eX9_order_29 (fun c_29 => ?_) (fun c_29 => ?_)
      · refine x_iinc (lv' := [_, _, _, _, _, _]) eX9_order_46 rfl (nI_dec _) (by decide) rfl ?_
        refine x_goto eX9_order_49 ?_
        refine x_pick [0, 3, 4, 5] rfl ?_
        exact ih (by omega) (fun _ => hc.mp ((lI_inj i1 i2).mp c_29))
      · refine x_lload eX9_order_32 rfl ?_
        refine x_lload eX9_order_34 rfl ?_
        refine x_lcmp eX9_order_36 ?_
        refine x_if_geL eX9_order_37 (fun c_37 => ?_) (fun c_37 => ?_)
        · refine x_iconst (v := nI 1) eX9_order_44 (by decide) ?_
          first
            | exact s_iret eX9_order_45 rfl rfl ⟨by have h5 := lt_of_ediv_lt hP (hl.mp ((lI_lt i1 i2).mp c_37)); unfold sg; rw [if_pos (by omega)], rfl⟩
            | exact s_iret eX9_order_45 rfl rfl ⟨by have h6 : ¬ can (2 ^ 24) 5 V k = can (2 ^ 24) 5 U k := fun h => c_29 ((lI_inj i1 i2).mpr h); have h7 : ¬ can (2 ^ 24) 5 V k < can (2 ^ 24) 5 U k := fun h => c_37 ((lI_lt i1 i2).mpr h); have h5 := lt_of_ediv_lt hP (hl2.mp (by omega)); unfold sg; rw [if_neg (by omega), if_neg (by omega)]; rfl, rfl⟩
        · refine x_iconst (v := -1) eX9_order_40 (by decide) ?_
          refine x_goto eX9_order_41 ?_
          first
            | exact s_iret eX9_order_45 rfl rfl ⟨by have h5 := lt_of_ediv_lt hP (hl.mp ((lI_lt i1 i2).mp c_37)); unfold sg; rw [if_pos (by omega)], rfl⟩
            | exact s_iret eX9_order_45 rfl rfl ⟨by have h6 : ¬ can (2 ^ 24) 5 V k = can (2 ^ 24) 5 U k := fun h => c_29 ((lI_inj i1 i2).mpr h); have h7 : ¬ can (2 ^ 24) 5 V k < can (2 ^ 24) 5 U k := fun h => c_37 ((lI_lt i1 i2).mpr h); have h5 := lt_of_ediv_lt hP (hl2.mp (by omega)); unfold sg; rw [if_neg (by omega), if_neg (by omega)]; rfl, rfl⟩
  show XP _ _ [_, _, _] _ _ _
  refine x_iconst (v := nI 4) eX9_order_0 (by decide) ?_
  refine x_istore_n (lv' := [_, _, _, _]) eX9_order_1 (by decide) rfl ?_
  refine x_pick [0, 1, 2, 3] rfl ?_
  exact loop 5 (by decide) (fun h => absurd h (by decide))
theorem sp_X9_less {p q : Nat} (hk0 : kd p = 11) (ha : p < 365) (hk1 : kd q = 11) (hq : q < 365) {a b : Nat} (hna : a + 10 ≤ ln p) (hnb : b + 10 ≤ ln q) (S : xS) (V U : Int) (hf : ∀ i, i < 10 → S.2.2.1 p (a + i) = lI (can (2 ^ 24) 10 V i)) (hg : ∀ i, i < 10 → S.2.2.1 q (b + i) = lI (can (2 ^ 24) 10 U i)) (ht : inL (V / (2 ^ 24) ^ 9)) (hu : inL (U / (2 ^ 24) ^ 9)) : Sp mX9_less [.ref p, .int (nI a), .ref q, .int (nI b)] S (fun r S' => r = some (.int (bI (decide (V < U)))) ∧ S' = S) := by
  have hs := ln_small p
  have hs2 := ln_small q
  have fin : ∀ k, k < 10 → (k + 1 < 10 → V / (2 ^ 24) ^ (k + 1) = U / (2 ^ 24) ^ (k + 1)) → (V / (2 ^ 24) ^ k ≠ U / (2 ^ 24) ^ k ∨ k = 0) → XP mX9_less 31 [(4, .int (nI k)), (0, .ref p), (1, .int (nI a)), (2, .ref q), (3, .int (nI b))] [] (xwS S) (sQ (fun r S' => r = some (.int (bI (decide (V < U)))) ∧ S' = S)) := by
    intro k hk h hne
    have hl := can_lt (B := 2 ^ 24) (by decide) (n := 10) (i := k) (V := V) (U := U) (fun h1 => h (by omega))
    have i1 := can_inL (n := 10) ht (i := k) (by omega)
    have i2 := can_inL (n := 10) hu (i := k) (by omega)
    have hP : (0 : Int) < (2 ^ 24) ^ k := Int.pow_pos (by decide)
    have key : can (2 ^ 24) 10 V k < can (2 ^ 24) 10 U k ↔ V < U := by
      rw [hl]
      constructor
      · exact lt_of_ediv_lt hP
      · intro h2
        rcases hne with h3 | h3
        · have h4 := Int.ediv_le_ediv hP (Int.le_of_lt h2)
          omega
        · subst h3
          simpa using h2
    refine x_aload_n eX9_less_31 rfl ?_
    refine x_iload_n eX9_less_32 rfl ?_
    refine x_iload eX9_less_33 rfl ?_
    first | refine x_iaddN eX9_less_35 ?_ | refine x_iadd eX9_less_35 ?_
    refine s_lald eX9_less_36 hk0 ha rfl (by omega) ?_
    rw [hf k (by omega)]
    refine x_aload_n eX9_less_37 rfl ?_
    refine x_iload_n eX9_less_38 rfl ?_
    refine x_iload eX9_less_39 rfl ?_
    first | refine x_iaddN eX9_less_41 ?_ | refine x_iadd eX9_less_41 ?_
    refine s_lald eX9_less_42 hk1 hq rfl (by omega) ?_
    rw [hg k (by omega)]
    refine x_lcmp eX9_less_43 ?_
    refine x_if_geL eX9_less_44 (fun c_44 => ?_) (fun c_44 => ?_)
    · refine x_iconst (v := nI 0) eX9_less_51 (by decide) ?_
      first
        | exact s_iret eX9_less_52 rfl (by rfl) ⟨by rw [decide_eq_true (key.mp ((lI_lt i1 i2).mp c_44))]; rfl, rfl⟩
        | exact s_iret eX9_less_52 rfl (by rfl) ⟨by rw [decide_eq_false (fun h => c_44 ((lI_lt i1 i2).mpr (key.mpr h)))]; rfl, rfl⟩
    · refine x_iconst (v := nI 1) eX9_less_47 (by decide) ?_
      refine x_goto eX9_less_48 ?_
      first
        | exact s_iret eX9_less_52 rfl (by rfl) ⟨by rw [decide_eq_true (key.mp ((lI_lt i1 i2).mp c_44))]; rfl, rfl⟩
        | exact s_iret eX9_less_52 rfl (by rfl) ⟨by rw [decide_eq_false (fun h => c_44 ((lI_lt i1 i2).mpr (key.mpr h)))]; rfl, rfl⟩
  have loop : ∀ k, k < 10 → (k + 1 < 10 → V / (2 ^ 24) ^ (k + 1) = U / (2 ^ 24) ^ (k + 1)) → XP mX9_less 4 [(4, .int (nI k)), (0, .ref p), (1, .int (nI a)), (2, .ref q), (3, .int (nI b))] [] (xwS S) (sQ (fun r S' => r = some (.int (bI (decide (V < U)))) ∧ S' = S)) := by
    intro k
    induction k with
    | zero =>
      intro h1 h
      refine x_iload eX9_less_4 rfl ?_
      refine x_if_leN eX9_less_6 (by omega) (fun c_6 => ?_) (fun c_6 => ?_)
      · exact fin 0 h1 h (Or.inr rfl)
      · omega
    | succ k ih =>
      intro h1 h
      have hc := can_eq (B := 2 ^ 24) (by decide) (n := 10) (i := k + 1) (V := V) (U := U) (fun h2 => h (by omega))
      have i1 := can_inL (n := 10) ht (i := k + 1) (by omega)
      have i2 := can_inL (n := 10) hu (i := k + 1) (by omega)
      refine x_iload eX9_less_4 rfl ?_
      refine x_if_leN eX9_less_6 (by omega) (fun c_6 => ?_) (fun c_6 => ?_)
      · omega
      · refine x_aload_n eX9_less_9 rfl ?_
        refine x_iload_n eX9_less_10 rfl ?_
        refine x_iload eX9_less_11 rfl ?_
        first | refine x_iaddN eX9_less_13 ?_ | refine x_iadd eX9_less_13 ?_
        refine s_lald eX9_less_14 hk0 ha rfl (by omega) ?_
        rw [hf (k + 1) (by omega)]
        refine x_aload_n eX9_less_15 rfl ?_
        refine x_iload_n eX9_less_16 rfl ?_
        refine x_iload eX9_less_17 rfl ?_
        first | refine x_iaddN eX9_less_19 ?_ | refine x_iadd eX9_less_19 ?_
        refine s_lald eX9_less_20 hk1 hq rfl (by omega) ?_
        rw [hg (k + 1) (by omega)]
        refine x_lcmp eX9_less_21 ?_
        refine x_if_neL eX9_less_22 (fun c_22 => ?_) (fun c_22 => ?_)
        · exact fin (k + 1) h1 h (Or.inl (fun h2 => c_22 ((lI_inj i1 i2).mpr (hc.mpr h2))))
        · refine x_iinc (v := nI k) (lv' := [_, _, _, _, _]) eX9_less_25 rfl ((nI_dec _).trans (dI_s k)) (by decide) rfl ?_
          refine x_goto eX9_less_28 ?_
          exact ih (by omega) (fun _ => hc.mp ((lI_inj i1 i2).mp c_22))
  show XP _ _ [_, _, _, _] _ _ _
  refine x_bipush (v := nI 9) eX9_less_0 (by decide) ?_
  refine x_istore (lv' := [_, _, _, _, _]) eX9_less_2 (by decide) rfl ?_
  refine x_pick [0, 1, 2, 3, 4] rfl ?_
  exact loop 9 (by decide) (fun h => absurd h (by decide))
theorem sp_X9_in (S : xS) (v lo hi : Int32) : Sp mX9_in [.int v, .int lo, .int hi] S (fun r S' => r = some (.int (bI (decide (lo ≤ v ∧ v ≤ hi)))) ∧ S' = S) := by
  show XP _ _ [_, _, _] _ _ _
  refine x_iload_n eX9_in_0 rfl ?_
  refine x_iload_n eX9_in_1 rfl ?_
  refine x_icmp_lt eX9_in_2 (fun c_2 => ?_) (fun c_2 => ?_)
  · refine x_iconst (v := nI 0) eX9_in_14 (by decide) ?_
    first
      | exact s_iret eX9_in_15 rfl rfl ⟨by rw [decide_eq_true ⟨Int32.not_lt.mp c_2, Int32.not_lt.mp c_7⟩]; rfl, rfl⟩
      | exact s_iret eX9_in_15 rfl rfl ⟨by rw [decide_eq_false (fun h => absurd h.2 (Int32.not_le.mpr c_7))]; rfl, rfl⟩
      | exact s_iret eX9_in_15 rfl rfl ⟨by rw [decide_eq_false (fun h => absurd h.1 (Int32.not_le.mpr c_2))]; rfl, rfl⟩
  · refine x_iload_n eX9_in_5 rfl ?_
    refine x_iload_n eX9_in_6 rfl ?_
    refine x_icmp_gt eX9_in_7 (fun c_7 => ?_) (fun c_7 => ?_)
    · refine x_iconst (v := nI 0) eX9_in_14 (by decide) ?_
      first
        | exact s_iret eX9_in_15 rfl rfl ⟨by rw [decide_eq_true ⟨Int32.not_lt.mp c_2, Int32.not_lt.mp c_7⟩]; rfl, rfl⟩
        | exact s_iret eX9_in_15 rfl rfl ⟨by rw [decide_eq_false (fun h => absurd h.2 (Int32.not_le.mpr c_7))]; rfl, rfl⟩
        | exact s_iret eX9_in_15 rfl rfl ⟨by rw [decide_eq_false (fun h => absurd h.1 (Int32.not_le.mpr c_2))]; rfl, rfl⟩
    · refine x_iconst (v := nI 1) eX9_in_10 (by decide) ?_
      refine x_goto eX9_in_11 ?_
      first
        | exact s_iret eX9_in_15 rfl rfl ⟨by rw [decide_eq_true ⟨Int32.not_lt.mp c_2, Int32.not_lt.mp c_7⟩]; rfl, rfl⟩
        | exact s_iret eX9_in_15 rfl rfl ⟨by rw [decide_eq_false (fun h => absurd h.2 (Int32.not_le.mpr c_7))]; rfl, rfl⟩
        | exact s_iret eX9_in_15 rfl rfl ⟨by rw [decide_eq_false (fun h => absurd h.1 (Int32.not_le.mpr c_2))]; rfl, rfl⟩
/-- the sizes that a number may have, by its bits -/
def isNum (x : Int64) : Bool := (x &&& 9223372036854775807 = 0) || (!(decide (x &&& 9223372036854775807 < 4517110426252607488)) && !(decide (4733283208366391296 < x &&& 9223372036854775807)))
def plainB (x : Int64) : Int64 := if x &&& 9223372036854775807 = 0 then 0 else x
theorem sp_X9_isNumber (S : xS) (x : Int64) : Sp mX9_isNumber [.long x] S (fun r S' => r = some (.int (bI (isNum x))) ∧ S' = S) := by
  show XP _ _ [_] _ _ _
  refine x_lload_n eX9_isNumber_0 rfl ?_
  refine x_ldc2 (v := 9223372036854775807) eX9_isNumber_1 (xT 826 (by decide +kernel) rfl) ?_
  refine x_land eX9_isNumber_4 ?_
  refine x_lstore_n (lv' := [_, _]) eX9_isNumber_5 (by decide) rfl ?_
  refine x_lload_n eX9_isNumber_6 rfl ?_
  refine x_lconst (v := 0) eX9_isNumber_7 (by decide) ?_
  refine x_lcmp eX9_isNumber_8 ?_
  refine x_if_eqL eX9_isNumber_9 (fun c_9 => ?_) (fun c_9 => ?_)
  · refine x_iconst (v := nI 1) eX9_isNumber_28 (by decide) ?_
    refine x_goto eX9_isNumber_29 ?_
    first
      | exact s_iret eX9_isNumber_33 rfl rfl ⟨by unfold isNum; rw [decide_eq_true c_9]; rfl, rfl⟩
      | exact s_iret eX9_isNumber_33 rfl rfl ⟨by unfold isNum; rw [decide_eq_false c_9, decide_eq_true c_17]; rfl, rfl⟩
      | exact s_iret eX9_isNumber_33 rfl rfl ⟨by unfold isNum; rw [decide_eq_false c_9, decide_eq_false c_17, decide_eq_true c_25]; rfl, rfl⟩
      | exact s_iret eX9_isNumber_33 rfl rfl ⟨by unfold isNum; rw [decide_eq_false c_9, decide_eq_false c_17, decide_eq_false c_25]; rfl, rfl⟩
  · refine x_lload_n eX9_isNumber_12 rfl ?_
    refine x_ldc2 (v := 4517110426252607488) eX9_isNumber_13 (xT 827 (by decide +kernel) rfl) ?_
    refine x_lcmp eX9_isNumber_16 ?_
    refine x_if_ltL eX9_isNumber_17 (fun c_17 => ?_) (fun c_17 => ?_)
    · refine x_iconst (v := nI 0) eX9_isNumber_32 (by decide) ?_
      first
        | exact s_iret eX9_isNumber_33 rfl rfl ⟨by unfold isNum; rw [decide_eq_true c_9]; rfl, rfl⟩
        | exact s_iret eX9_isNumber_33 rfl rfl ⟨by unfold isNum; rw [decide_eq_false c_9, decide_eq_true c_17]; rfl, rfl⟩
        | exact s_iret eX9_isNumber_33 rfl rfl ⟨by unfold isNum; rw [decide_eq_false c_9, decide_eq_false c_17, decide_eq_true c_25]; rfl, rfl⟩
        | exact s_iret eX9_isNumber_33 rfl rfl ⟨by unfold isNum; rw [decide_eq_false c_9, decide_eq_false c_17, decide_eq_false c_25]; rfl, rfl⟩
    · refine x_lload_n eX9_isNumber_20 rfl ?_
      refine x_ldc2 (v := 4733283208366391296) eX9_isNumber_21 (xT 828 (by decide +kernel) rfl) ?_
      refine x_lcmp eX9_isNumber_24 ?_
      refine x_if_gtL eX9_isNumber_25 (fun c_25 => ?_) (fun c_25 => ?_)
      · refine x_iconst (v := nI 0) eX9_isNumber_32 (by decide) ?_
        first
          | exact s_iret eX9_isNumber_33 rfl rfl ⟨by unfold isNum; rw [decide_eq_true c_9]; rfl, rfl⟩
          | exact s_iret eX9_isNumber_33 rfl rfl ⟨by unfold isNum; rw [decide_eq_false c_9, decide_eq_true c_17]; rfl, rfl⟩
          | exact s_iret eX9_isNumber_33 rfl rfl ⟨by unfold isNum; rw [decide_eq_false c_9, decide_eq_false c_17, decide_eq_true c_25]; rfl, rfl⟩
          | exact s_iret eX9_isNumber_33 rfl rfl ⟨by unfold isNum; rw [decide_eq_false c_9, decide_eq_false c_17, decide_eq_false c_25]; rfl, rfl⟩
      · refine x_iconst (v := nI 1) eX9_isNumber_28 (by decide) ?_
        refine x_goto eX9_isNumber_29 ?_
        first
          | exact s_iret eX9_isNumber_33 rfl rfl ⟨by unfold isNum; rw [decide_eq_true c_9]; rfl, rfl⟩
          | exact s_iret eX9_isNumber_33 rfl rfl ⟨by unfold isNum; rw [decide_eq_false c_9, decide_eq_true c_17]; rfl, rfl⟩
          | exact s_iret eX9_isNumber_33 rfl rfl ⟨by unfold isNum; rw [decide_eq_false c_9, decide_eq_false c_17, decide_eq_true c_25]; rfl, rfl⟩
          | exact s_iret eX9_isNumber_33 rfl rfl ⟨by unfold isNum; rw [decide_eq_false c_9, decide_eq_false c_17, decide_eq_false c_25]; rfl, rfl⟩
theorem sp_X9_plain (S : xS) (x : Int64) : Sp mX9_plain [.long x] S (fun r S' => r = some (.long (plainB x)) ∧ S' = S) := by
  show XP _ _ [_] _ _ _
  refine x_lload_n eX9_plain_0 rfl ?_
  refine x_ldc2 (v := 9223372036854775807) eX9_plain_1 (xT 826 (by decide +kernel) rfl) ?_
  refine x_land eX9_plain_4 ?_
  refine x_lconst (v := 0) eX9_plain_5 (by decide) ?_
  refine x_lcmp eX9_plain_6 ?_
  refine x_if_neL eX9_plain_7 (fun c_7 => ?_) (fun c_7 => ?_)
  · refine x_lload_n eX9_plain_14 rfl ?_
    first
      | exact s_lret eX9_plain_15 rfl ⟨by simp [plainB, c_7], rfl⟩
  · refine x_lconst (v := 0) eX9_plain_10 (by decide) ?_
    refine x_goto eX9_plain_11 ?_
    first
      | exact s_lret eX9_plain_15 rfl ⟨by simp [plainB, c_7], rfl⟩
