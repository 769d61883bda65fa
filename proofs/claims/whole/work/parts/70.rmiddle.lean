/-! ===== the reference: half of a number, the middle of two points ===== -/
theorem half_div (V : Int) {P : Int} (hP : 0 < P) : V / 2 / P = V / P / 2 := by
  rw [Int.ediv_ediv_of_nonneg (by decide), Int.ediv_ediv_of_nonneg (Int.le_of_lt hP), Int.mul_comm]
theorem half_lo (V : Int) {i : Nat} (h : i < 4) : (can (2 ^ 24) 5 V i + can (2 ^ 24) 5 V (i + 1) % 2 ^ 1 * 2 ^ 24) / 2 ^ 1 = can (2 ^ 24) 5 (V / 2) i := by
  have hB : (0 : Int) < (2 ^ 24) ^ i := Int.pow_pos (by decide)
  have e1 : V / (2 ^ 24) ^ (i + 1) = V / (2 ^ 24) ^ i / 2 ^ 24 := by rw [Int.pow_succ, Int.ediv_ediv_of_nonneg (Int.le_of_lt hB)]
  rw [can_lo (show i + 1 < 5 by omega), can_lo (show i + 1 < 5 by omega), half_div V hB]
  have e2 : can (2 ^ 24) 5 V (i + 1) % 2 ^ 1 = V / (2 ^ 24) ^ i / 2 ^ 24 % 2 := by
    by_cases q : i + 1 + 1 < 5
    · rw [can_lo q, e1]; omega
    · rw [can_hi (by omega), e1]; rfl
  rw [e2]
  generalize V / (2 ^ 24) ^ i = x
  omega
theorem half_hi (V : Int) : can (2 ^ 24) 5 V 4 / 2 ^ 1 = can (2 ^ 24) 5 (V / 2) 4 := by
  rw [can_hi (by decide), can_hi (by decide), half_div V (Int.pow_pos (by decide))]; rfl
def hfR (V : Int) (g : Nat → Int64) (k j : Nat) : Int64 := if 1005 ≤ j ∧ j < 1010 then (if j - 1005 < k then lI (can (2 ^ 24) 5 (V / 2) (j - 1005)) else lI (can (2 ^ 24) 5 V (j - 1005))) else g j

theorem sp_X9_halve {p : Nat} (hk0 : kd p = 11) (ha : p < 365) (hl : ln p = 1010) (S : xS) (V : Int) (hf : ∀ i, i < 5 → S.2.2.1 p (1005 + i) = lI (can (2 ^ 24) 5 V i)) (hb : inL (V / (2 ^ 24) ^ 4)) : Sp mX9_halve [.ref p] S (fun r S' => r = none ∧ S' = setL S p (hfR V (S.2.2.1 p) 5)) := by
  have loop : ∀ μ k, k + μ = 5 → ∀ S1, S1 = setL S p (hfR V (S.2.2.1 p) k) → XP mX9_halve 2 [(1, .int (nI k)), (0, .ref p)] [] (xwS S1) (sQ (fun r S' => r = none ∧ S' = setL S p (hfR V (S.2.2.1 p) 5))) := by
    intro μ
    induction μ with
    | zero =>
      intro k hk S1 h1
      refine x_iload_n eX9_halve_2 rfl ?_
      refine x_iconst (v := nI 5) eX9_halve_3 (by decide) ?_
      refine x_icmp_geN eX9_halve_4 (by omega) (by omega) (fun c_4 => ?_) (fun c_4 => ?_)
      · exact s_vret eX9_halve_62 rfl ⟨rfl, by rw [h1, show k = 5 by omega]⟩
      · omega
    | succ μ ih =>
      intro k hk S1 h1
      have v0 : S1.2.2.1 p (1005 + k) = lI (can (2 ^ 24) 5 V k) := by rw [h1, setL_at]; unfold hfR; rw [if_pos (by omega), if_neg (by omega), show 1005 + k - 1005 = k by omega]
      have v1 : k < 4 → S1.2.2.1 p (1005 + k + 1) = lI (can (2 ^ 24) 5 V (k + 1)) := by intro h; rw [h1, setL_at]; unfold hfR; rw [if_pos (by omega), if_neg (by omega), show 1005 + k + 1 - 1005 = k + 1 by omega]
      have i0 := can_inL (n := 5) hb (i := k) (by omega)
      refine x_iload_n eX9_halve_2 rfl ?_
      refine x_iconst (v := nI 5) eX9_halve_3 (by decide) ?_
      refine x_icmp_geN eX9_halve_4 (by omega) (by omega) (fun c_4 => ?_) (fun c_4 => ?_)
      · omega
      · refine x_sipush (v := nI 1005) eX9_halve_7 (by decide) ?_
        refine x_iload_n eX9_halve_10 rfl ?_
        first | refine x_iaddN eX9_halve_11 ?_ | refine x_iadd eX9_halve_11 ?_
        refine x_istore_n (lv' := [_, _, _]) eX9_halve_12 (by decide) rfl ?_
        refine x_iload_n eX9_halve_13 rfl ?_
        refine x_iconst (v := nI 4) eX9_halve_14 (by decide) ?_
        refine x_icmp_geN eX9_halve_15 (by omega) (by omega) (fun c_15 => ?_) (fun c_15 => ?_)
        · refine x_lconst (v := 0) eX9_halve_28 (by decide) ?_
          refine x_lstore_n (lv' := [_, _, _, _]) eX9_halve_29 (by decide) rfl ?_
          refine x_aload_n eX9_halve_30 rfl ?_
          refine x_iload_n eX9_halve_31 rfl ?_
          refine x_iload_n eX9_halve_32 rfl ?_
          refine x_iconst (v := nI 4) eX9_halve_33 (by decide) ?_
          refine x_icmp_geN eX9_halve_34 (by omega) (by omega) (fun c_34 => ?_) (fun c_34 => ?_)
          · refine x_aload_n eX9_halve_50 rfl ?_
            refine x_iload_n eX9_halve_51 rfl ?_
            refine s_lald eX9_halve_52 hk0 ha rfl (by rw [hl]; omega) ?_
            rw [v0]
            refine x_iconst (v := nI 1) eX9_halve_53 (by decide) ?_
            refine x_lshr eX9_halve_54 rfl ?_
            rw [lI_shr i0 (k := 1) (by decide)]
            refine s_last eX9_halve_55 hk0 ha rfl (by rw [hl]; omega) ?_
            refine x_iinc (lv' := [_, _, _, _]) eX9_halve_56 rfl (by first | exact nI_inc _ | exact rfl) (by decide) rfl ?_
            refine x_goto eX9_halve_59 ?_
            refine x_pick [0, 3] rfl ?_
            first
              | omega
              | (refine ih (k + 1) (by omega) _ ?_
                 rw [h1, setL_setL, setL_at]
                 congr 1
                 funext j
                 unfold vp_updL
                 by_cases hj : j = 1005 + k
                 · rw [if_pos hj]; subst hj; unfold hfR
                   rw [if_pos (by omega), if_pos (by omega), show 1005 + k - 1005 = k by omega]
                   first
                     | rw [half_lo V (by omega)]
                     | (obtain rfl : k = 4 := (by omega); rw [half_hi])
                 · rw [if_neg hj]; unfold hfR
                   by_cases h3 : 1005 ≤ j ∧ j < 1010
                   · rw [if_pos h3, if_pos h3]
                     by_cases h4 : j - 1005 < k
                     · rw [if_pos h4, if_pos (by omega)]
                     · rw [if_neg h4, if_neg (by omega)]
                   · rw [if_neg h3, if_neg h3])
          · refine x_aload_n eX9_halve_37 rfl ?_
            refine x_iload_n eX9_halve_38 rfl ?_
            refine s_lald eX9_halve_39 hk0 ha rfl (by rw [hl]; omega) ?_
            rw [v0]
            refine x_lload_n eX9_halve_40 rfl ?_
            refine x_bipush (v := nI 24) eX9_halve_41 (by decide) ?_
            refine x_lshl eX9_halve_43 rfl ?_
            try rw [lI_shl _ (k := 24) (by decide)]
            refine x_ladd eX9_halve_44 ?_
            try rw [lI_add]
            refine x_iconst (v := nI 1) eX9_halve_45 (by decide) ?_
            refine x_lshr eX9_halve_46 rfl ?_
            have i2 : k < 4 → inL (can (2 ^ 24) 5 V k + can (2 ^ 24) 5 V (k + 1) % 2 ^ 1 * 2 ^ 24) := fun h => by
              have b := can_low_in (n := 5) (i := k) (V := V) (by omega)
              generalize can (2 ^ 24) 5 V k = u at *
              generalize can (2 ^ 24) 5 V (k + 1) = u2
              exact ⟨by omega, by omega⟩
            try rw [lI_shr (i2 (by omega)) (k := 1) (by decide)]
            refine x_goto eX9_halve_47 ?_
            refine s_last eX9_halve_55 hk0 ha rfl (by rw [hl]; omega) ?_
            refine x_iinc (lv' := [_, _, _, _]) eX9_halve_56 rfl (by first | exact nI_inc _ | exact rfl) (by decide) rfl ?_
            refine x_goto eX9_halve_59 ?_
            refine x_pick [0, 3] rfl ?_
            first
              | omega
              | (refine ih (k + 1) (by omega) _ ?_
                 rw [h1, setL_setL, setL_at]
                 congr 1
                 funext j
                 unfold vp_updL
                 by_cases hj : j = 1005 + k
                 · rw [if_pos hj]; subst hj; unfold hfR
                   rw [if_pos (by omega), if_pos (by omega), show 1005 + k - 1005 = k by omega]
                   first
                     | rw [half_lo V (by omega)]
                     | (obtain rfl : k = 4 := (by omega); rw [half_hi])
                 · rw [if_neg hj]; unfold hfR
                   by_cases h3 : 1005 ≤ j ∧ j < 1010
                   · rw [if_pos h3, if_pos h3]
                     by_cases h4 : j - 1005 < k
                     · rw [if_pos h4, if_pos (by omega)]
                     · rw [if_neg h4, if_neg (by omega)]
                   · rw [if_neg h3, if_neg h3])
        · refine x_aload_n eX9_halve_18 rfl ?_
          refine x_iload_n eX9_halve_19 rfl ?_
          refine x_iconst (v := nI 1) eX9_halve_20 (by decide) ?_
          first | refine x_iaddN eX9_halve_21 ?_ | refine x_iadd eX9_halve_21 ?_
          refine s_lald eX9_halve_22 hk0 ha rfl (by rw [hl]; omega) ?_
          rw [v1 (by omega)]
          refine x_lconst (v := 1) eX9_halve_23 (by decide) ?_
          refine x_land eX9_halve_24 ?_
          rw [show (1 : Int64) = 1 from rfl, lI_mask (k := 1) (by decide) (by decide)]
          refine x_goto eX9_halve_25 ?_
          refine x_lstore_n (lv' := [_, _, _, _]) eX9_halve_29 (by decide) rfl ?_
          refine x_aload_n eX9_halve_30 rfl ?_
          refine x_iload_n eX9_halve_31 rfl ?_
          refine x_iload_n eX9_halve_32 rfl ?_
          refine x_iconst (v := nI 4) eX9_halve_33 (by decide) ?_
          refine x_icmp_geN eX9_halve_34 (by omega) (by omega) (fun c_34 => ?_) (fun c_34 => ?_)
          · refine x_aload_n eX9_halve_50 rfl ?_
            refine x_iload_n eX9_halve_51 rfl ?_
            refine s_lald eX9_halve_52 hk0 ha rfl (by rw [hl]; omega) ?_
            rw [v0]
            refine x_iconst (v := nI 1) eX9_halve_53 (by decide) ?_
            refine x_lshr eX9_halve_54 rfl ?_
            rw [lI_shr i0 (k := 1) (by decide)]
            refine s_last eX9_halve_55 hk0 ha rfl (by rw [hl]; omega) ?_
            refine x_iinc (lv' := [_, _, _, _]) eX9_halve_56 rfl (by first | exact nI_inc _ | exact rfl) (by decide) rfl ?_
            refine x_goto eX9_halve_59 ?_
            refine x_pick [0, 3] rfl ?_
            first
              | omega
              | (refine ih (k + 1) (by omega) _ ?_
                 rw [h1, setL_setL, setL_at]
                 congr 1
                 funext j
                 unfold vp_updL
                 by_cases hj : j = 1005 + k
                 · rw [if_pos hj]; subst hj; unfold hfR
                   rw [if_pos (by omega), if_pos (by omega), show 1005 + k - 1005 = k by omega]
                   first
                     | rw [half_lo V (by omega)]
                     | (obtain rfl : k = 4 := (by omega); rw [half_hi])
                 · rw [if_neg hj]; unfold hfR
                   by_cases h3 : 1005 ≤ j ∧ j < 1010
                   · rw [if_pos h3, if_pos h3]
                     by_cases h4 : j - 1005 < k
                     · rw [if_pos h4, if_pos (by omega)]
                     · rw [if_neg h4, if_neg (by omega)]
                   · rw [if_neg h3, if_neg h3])
          · refine x_aload_n eX9_halve_37 rfl ?_
            refine x_iload_n eX9_halve_38 rfl ?_
            refine s_lald eX9_halve_39 hk0 ha rfl (by rw [hl]; omega) ?_
            rw [v0]
            refine x_lload_n eX9_halve_40 rfl ?_
            refine x_bipush (v := nI 24) eX9_halve_41 (by decide) ?_
            refine x_lshl eX9_halve_43 rfl ?_
            try rw [lI_shl _ (k := 24) (by decide)]
            refine x_ladd eX9_halve_44 ?_
            try rw [lI_add]
            refine x_iconst (v := nI 1) eX9_halve_45 (by decide) ?_
            refine x_lshr eX9_halve_46 rfl ?_
            have i2 : k < 4 → inL (can (2 ^ 24) 5 V k + can (2 ^ 24) 5 V (k + 1) % 2 ^ 1 * 2 ^ 24) := fun h => by
              have b := can_low_in (n := 5) (i := k) (V := V) (by omega)
              generalize can (2 ^ 24) 5 V k = u at *
              generalize can (2 ^ 24) 5 V (k + 1) = u2
              exact ⟨by omega, by omega⟩
            try rw [lI_shr (i2 (by omega)) (k := 1) (by decide)]
            refine x_goto eX9_halve_47 ?_
            refine s_last eX9_halve_55 hk0 ha rfl (by rw [hl]; omega) ?_
            refine x_iinc (lv' := [_, _, _, _]) eX9_halve_56 rfl (by first | exact nI_inc _ | exact rfl) (by decide) rfl ?_
            refine x_goto eX9_halve_59 ?_
            refine x_pick [0, 3] rfl ?_
            first
              | omega
              | (refine ih (k + 1) (by omega) _ ?_
                 rw [h1, setL_setL, setL_at]
                 congr 1
                 funext j
                 unfold vp_updL
                 by_cases hj : j = 1005 + k
                 · rw [if_pos hj]; subst hj; unfold hfR
                   rw [if_pos (by omega), if_pos (by omega), show 1005 + k - 1005 = k by omega]
                   first
                     | rw [half_lo V (by omega)]
                     | (obtain rfl : k = 4 := (by omega); rw [half_hi])
                 · rw [if_neg hj]; unfold hfR
                   by_cases h3 : 1005 ≤ j ∧ j < 1010
                   · rw [if_pos h3, if_pos h3]
                     by_cases h4 : j - 1005 < k
                     · rw [if_pos h4, if_pos (by omega)]
                     · rw [if_neg h4, if_neg (by omega)]
                   · rw [if_neg h3, if_neg h3])
  show XP _ _ [_] _ _ _
  refine x_iconst (v := nI 0) eX9_halve_0 (by decide) ?_
  refine x_istore_n (lv' := [_, _]) eX9_halve_1 (by decide) rfl ?_
  refine x_pick [0, 1] rfl ?_
  refine loop 5 0 (by omega) _ ?_
  have : hfR V (S.2.2.1 p) 0 = S.2.2.1 p := by
    funext j
    unfold hfR
    by_cases h3 : 1005 ≤ j ∧ j < 1010
    · rw [if_pos h3, if_neg (by omega), ← hf (j - 1005) (by omega), show 1005 + (j - 1005) = j by omega]
    · rw [if_neg h3]
  rw [this, setL_self]
