/-! ===== the class's Points: put, make, sameAsLoose, has ===== -/
def putP (S : xS) (slot : Nat) (x y : Int64) (S' : xS) : Prop := S'.1 = S.1 ∧ S'.2.1 = S.2.1 ∧ (∀ p, p ≠ 33 → p ≠ 35 → S'.2.2.1 p = S.2.2.1 p) ∧ (∀ j, S'.2.2.1 33 j = if j = 2 * slot then plainB x else if j = 2 * slot + 1 then plainB y else S.2.2.1 33 j) ∧ (∀ p, p ≠ 34 → S'.2.2.2 p = S.2.2.2 p) ∧ cpt S' slot (zc x, zc y) ∧ ∀ s T, s ≠ slot → cpt S s T → cpt S' s T
theorem sp_X2_put (S : xS) {slot : Nat} (hs : slot < 201) {x y : Int64} (hx : isNum x = true) (hy : isNum y = true) : Sp mX2_put [.ref 32, .int (nI slot), .long x, .long y] S (fun r S' => r = none ∧ putP S slot x y S') := by
  show XP _ _ [_, _, _, _] _ _ _
  refine x_aload_n eX2_put_0 rfl ?_
  refine x_iconst (v := nI 2) eX2_put_1 (by decide) ?_
  refine x_iload_n eX2_put_2 rfl ?_
  first | refine x_imulN eX2_put_3 ?_ | refine x_imul eX2_put_3 ?_
  refine x_lload_n eX2_put_4 rfl ?_
  refine s_callV0 (As := [_, _]) eX2_put_5 kX2_37 ⟨by decide, by decide⟩ rfl (by decide) (by decide) rfl rfl (Nat.le_of_ble_eq_true rfl) (Nat.le_of_ble_eq_true rfl) (sp_X2_putOne _ (by omega) hx) (fun S_5 h_5 => ?_)
  refine x_aload_n eX2_put_8 rfl ?_
  refine x_iconst (v := nI 2) eX2_put_9 (by decide) ?_
  refine x_iload_n eX2_put_10 rfl ?_
  first | refine x_imulN eX2_put_11 ?_ | refine x_imul eX2_put_11 ?_
  refine x_iconst (v := nI 1) eX2_put_12 (by decide) ?_
  first | refine x_iaddN eX2_put_13 ?_ | refine x_iadd eX2_put_13 ?_
  refine x_lload eX2_put_14 rfl ?_
  refine s_callV0 (As := [_, _]) eX2_put_16 kX2_37 ⟨by decide, by decide⟩ rfl (by decide) (by decide) rfl rfl (Nat.le_of_ble_eq_true rfl) (Nat.le_of_ble_eq_true rfl) (sp_X2_putOne _ (by omega) hy) (fun S_16 h_16 => ?_)
  obtain ⟨a1, a2, a3, a4, a5, a6, a7, a8, f, a9, a10⟩ := h_5
  obtain ⟨b1, b2, b3, b4, b5, b6, b7, b8, g, b9, b10⟩ := h_16
  have zx := zc_bound hx
  have zy := zc_bound hy
  refine s_vret eX2_put_19 rfl ⟨rfl, b1.trans a1, b2.trans a2, fun p q r => (b3 p q r).trans (a3 p q r), fun j => ?_, fun p q => (b5 p q).trans (a5 p q), ⟨hs, ?_, b7, ⟨by omega, by omega⟩, ⟨by omega, by omega⟩, f, g, fun k hk => ⟨?_, ?_⟩, a10, b10⟩, fun s T hne hc => ?_⟩
  · rw [b4, a4]
    by_cases q : j = 2 * slot
    · rw [if_neg (by omega), if_pos q, if_pos q]
    · rw [if_neg q, if_neg q]
  · rw [b6 _ (by omega)]; exact a7
  · have := a9 k hk
    rw [b8 _ (by omega), show 8 * slot + k = 4 * (2 * slot) + k by omega]; exact this
  · have := b9 k hk
    rw [show 8 * slot + 4 + k = 4 * (2 * slot + 1) + k by omega]; exact this
  · obtain ⟨c1, c2, c3, c4, c5, u, v, c6, c7⟩ := hc
    refine ⟨c1, ?_, ?_, c4, c5, u, v, fun k hk => ?_, c7⟩
    · rw [b6 _ (by omega), a6 _ (by omega)]; exact c2
    · rw [b6 _ (by omega), a6 _ (by omega)]; exact c3
    · have := c6 k hk
      rw [b8 _ (by omega), a8 _ (by omega), b8 _ (by omega), a8 _ (by omega)]; exact this
theorem sp_X2_has (S : xS) {n : Nat} (hn : S.1 32 4 = nI n) (h2 : n ≤ 200) (c : Int32) : Sp mX2_has [.ref 32, .int c] S (fun r S' => r = some (.int (tI (∃ k, k < n ∧ c = nI k))) ∧ S' = S) := by
  show XP _ _ [_, _] _ _ _
  rcases pk_ix c (n := n) (by omega) with q | q | ⟨k, hk, rfl⟩
  · refine x_iload_n eX2_has_0 rfl ?_
    refine x_if_lt eX2_has_1 (fun c_1 => ?_) (fun c_1 => ?_)
    · refine x_iconst (v := nI 0) eX2_has_16 (by decide) ?_
      exact s_iret eX2_has_17 rfl (by first | rfl | exact bI_nar _ | exact tI_nar _) ⟨tI_fs (fun ⟨k, hk, e⟩ => by subst e; exact absurd q (nI_pos (by omega))), rfl⟩
    · exact absurd q c_1
  · refine x_iload_n eX2_has_0 rfl ?_
    refine x_if_lt eX2_has_1 (fun c_1 => ?_) (fun c_1 => ?_)
    · exact absurd (Int32.lt_of_le_of_lt q c_1) (nI_pos (by omega))
    · refine x_iload_n eX2_has_4 rfl ?_
      refine x_aload_n eX2_has_5 rfl ?_
      refine s_geti eX2_has_6 fX2_29 rfl (by decide) (by decide) ?_
      rw [hn]
      refine x_icmp_ge eX2_has_9 (fun c_9 => ?_) (fun c_9 => ?_)
      · refine x_iconst (v := nI 0) eX2_has_16 (by decide) ?_
        exact s_iret eX2_has_17 rfl (by first | rfl | exact bI_nar _ | exact tI_nar _) ⟨tI_fs (fun ⟨k, hk, e⟩ => by subst e; exact absurd ((nI_leI (by omega) (by omega)).mp q) (by omega)), rfl⟩
      · exact absurd q c_9
  · refine x_iload_n eX2_has_0 rfl ?_
    refine x_if_ltN eX2_has_1 (by omega) ?_
    refine x_iload_n eX2_has_4 rfl ?_
    refine x_aload_n eX2_has_5 rfl ?_
    refine s_geti eX2_has_6 fX2_29 rfl (by decide) (by decide) ?_
    rw [hn]
    refine x_icmp_geN eX2_has_9 (by omega) (by omega) (fun c_9 => ?_) (fun c_9 => ?_)
    · omega
    · refine x_iconst (v := nI 1) eX2_has_12 (by decide) ?_
      refine x_goto eX2_has_13 ?_
      exact s_iret eX2_has_17 rfl (by first | rfl | exact bI_nar _ | exact tI_nar _) ⟨tI_ts ⟨k, hk, rfl⟩, rfl⟩
theorem sp_X2_sameAsLoose (S : xS) {n : Nat} (hn : S.1 32 4 = nI n) (h2 : n ≤ 200) : Sp mX2_sameAsLoose [.ref 32] S (fun r S' => r = some (.int (match fst1 (fun k => S.2.2.1 33 (2 * k) = S.2.2.1 33 400 ∧ S.2.2.1 33 (2 * k + 1) = S.2.2.1 33 401) n with | some k => nI k | none => -1)) ∧ S' = S) := by
  have loop : ∀ μ k, k + μ = n → ∀ S1, (S1 = S ∧ ∀ j, j < k → ¬ (fun k => S.2.2.1 33 (2 * k) = S.2.2.1 33 400 ∧ S.2.2.1 33 (2 * k + 1) = S.2.2.1 33 401) j) → XP mX2_sameAsLoose 2 [(1, .int (nI k)), (0, .ref 32)] [] (xwS S1) (sQ (fun r S' => r = some (.int (match fst1 (fun k => S.2.2.1 33 (2 * k) = S.2.2.1 33 400 ∧ S.2.2.1 33 (2 * k + 1) = S.2.2.1 33 401) n with | some k => nI k | none => -1)) ∧ S' = S)) := by
    intro μ
    induction μ with
    | zero =>
      intro k hk S1 h1
      obtain ⟨e1, hno⟩ := h1
      have e1 := e1.symm
      subst e1
      refine x_iload_n eX2_sameAsLoose_2 rfl ?_
      refine x_aload_n eX2_sameAsLoose_3 rfl ?_
      refine s_geti eX2_sameAsLoose_4 fX2_29 rfl (by decide) (by decide) ?_
      rw [hn]
      refine x_icmp_geN eX2_sameAsLoose_7 (by omega) (by omega) (fun c_7 => ?_) (fun c_7 => ?_)
      · refine x_iconst (v := -1) eX2_sameAsLoose_60 (by decide) ?_
        exact s_iret eX2_sameAsLoose_61 rfl rfl ⟨by rw [fst1_none (fun j hj => hno j (by omega))], rfl⟩
      · omega
    | succ μ ih =>
      intro k hk S1 h1
      obtain ⟨e1, hno⟩ := h1
      have e1 := e1.symm
      subst e1
      refine x_iload_n eX2_sameAsLoose_2 rfl ?_
      refine x_aload_n eX2_sameAsLoose_3 rfl ?_
      refine s_geti eX2_sameAsLoose_4 fX2_29 rfl (by decide) (by decide) ?_
      rw [hn]
      refine x_icmp_geN eX2_sameAsLoose_7 (by omega) (by omega) (fun c_7 => ?_) (fun c_7 => ?_)
      · omega
      · refine x_aload_n eX2_sameAsLoose_10 rfl ?_
        refine s_getR (k := 33) eX2_sameAsLoose_11 fX2_9 rfl (by decide) (by decide) rfl ?_
        refine x_iconst (v := nI 2) eX2_sameAsLoose_14 (by decide) ?_
        refine x_iload_n eX2_sameAsLoose_15 rfl ?_
        first | refine x_imulN eX2_sameAsLoose_16 ?_ | refine x_imul eX2_sameAsLoose_16 ?_
        refine s_lald eX2_sameAsLoose_17 rfl (by decide) rfl (show _ < 402 by omega) ?_
        refine x_aload_n eX2_sameAsLoose_18 rfl ?_
        refine s_getR (k := 33) eX2_sameAsLoose_19 fX2_9 rfl (by decide) (by decide) rfl ?_
        refine x_sipush (v := nI 400) eX2_sameAsLoose_22 (by decide) ?_
        refine s_lald eX2_sameAsLoose_25 rfl (by decide) rfl (show _ < 402 by omega) ?_
        refine x_lcmp eX2_sameAsLoose_26 ?_
        refine x_if_neL eX2_sameAsLoose_27 (fun c_27 => ?_) (fun c_27 => ?_)
        · refine x_iinc (lv' := [_, _]) eX2_sameAsLoose_54 rfl (by first | exact nI_inc _ | exact rfl) (by decide) rfl ?_
          refine x_goto eX2_sameAsLoose_57 ?_
          refine x_pick [0, 1] rfl ?_
          refine ih (k + 1) (by omega) _ ⟨rfl, fun j hj z => ?_⟩
          by_cases q : j < k
          · exact hno j q z
          obtain rfl : j = k := by omega
          first
            | exact c_27 z.1
            | exact c_49 z.2
        · refine x_aload_n eX2_sameAsLoose_30 rfl ?_
          refine s_getR (k := 33) eX2_sameAsLoose_31 fX2_9 rfl (by decide) (by decide) rfl ?_
          refine x_iconst (v := nI 2) eX2_sameAsLoose_34 (by decide) ?_
          refine x_iload_n eX2_sameAsLoose_35 rfl ?_
          first | refine x_imulN eX2_sameAsLoose_36 ?_ | refine x_imul eX2_sameAsLoose_36 ?_
          refine x_iconst (v := nI 1) eX2_sameAsLoose_37 (by decide) ?_
          first | refine x_iaddN eX2_sameAsLoose_38 ?_ | refine x_iadd eX2_sameAsLoose_38 ?_
          refine s_lald eX2_sameAsLoose_39 rfl (by decide) rfl (show _ < 402 by omega) ?_
          refine x_aload_n eX2_sameAsLoose_40 rfl ?_
          refine s_getR (k := 33) eX2_sameAsLoose_41 fX2_9 rfl (by decide) (by decide) rfl ?_
          refine x_sipush (v := nI 401) eX2_sameAsLoose_44 (by decide) ?_
          refine s_lald eX2_sameAsLoose_47 rfl (by decide) rfl (show _ < 402 by omega) ?_
          refine x_lcmp eX2_sameAsLoose_48 ?_
          refine x_if_neL eX2_sameAsLoose_49 (fun c_49 => ?_) (fun c_49 => ?_)
          · refine x_iinc (lv' := [_, _]) eX2_sameAsLoose_54 rfl (by first | exact nI_inc _ | exact rfl) (by decide) rfl ?_
            refine x_goto eX2_sameAsLoose_57 ?_
            refine x_pick [0, 1] rfl ?_
            refine ih (k + 1) (by omega) _ ⟨rfl, fun j hj z => ?_⟩
            by_cases q : j < k
            · exact hno j q z
            obtain rfl : j = k := by omega
            first
              | exact c_27 z.1
              | exact c_49 z.2
          · refine x_iload_n eX2_sameAsLoose_52 rfl ?_
            exact s_iret eX2_sameAsLoose_53 rfl rfl ⟨by rw [fst1_some (by omega) ⟨c_27, c_49⟩ hno], rfl⟩
  show XP _ _ [_] _ _ _
  refine x_iconst (v := nI 0) eX2_sameAsLoose_0 (by decide) ?_
  refine x_istore_n (lv' := [_, _]) eX2_sameAsLoose_1 (by decide) rfl ?_
  refine x_pick [0, 1] rfl ?_
  exact loop n 0 (by omega) _ ⟨rfl, fun j hj => by omega⟩
theorem sp_X2_make (S : xS) {n : Nat} (hn : S.1 32 4 = nI n) (h2 : n < 200) {x y : Int64} (hx : isNum x = true) (hy : isNum y = true) : Sp mX2_make [.ref 32, .long x, .long y] S (fun r S' => r = some (.int (nI n)) ∧ ∃ S1, putP S n x y S1 ∧ S' = setF S1 32 (upd (S1.1 32) 4 (nI (n + 1)))) := by
  show XP _ _ [_, _, _] _ _ _
  refine x_aload_n eX2_make_0 rfl ?_
  refine x_aload_n eX2_make_1 rfl ?_
  refine s_geti eX2_make_2 fX2_29 rfl (by decide) (by decide) ?_
  rw [hn]
  refine x_lload_n eX2_make_5 rfl ?_
  refine x_lload_n eX2_make_6 rfl ?_
  refine s_callV0 (As := [_, _, _]) eX2_make_7 kX2_33 ⟨by decide, by decide⟩ rfl (by decide) (by decide) rfl rfl (Nat.le_of_ble_eq_true rfl) (Nat.le_of_ble_eq_true rfl) (sp_X2_put _ (by omega) hx hy) (fun S_7 h_7 => ?_)
  refine x_aload_n eX2_make_10 rfl ?_
  refine x_dup eX2_make_11 rfl ?_
  refine s_geti eX2_make_12 fX2_29 rfl (by decide) (by decide) ?_
  rw [show S_7.1 32 4 = nI n by rw [h_7.1]; exact hn]
  refine x_iconst (v := nI 1) eX2_make_15 (by decide) ?_
  first | refine x_iaddN eX2_make_16 ?_ | refine x_iadd eX2_make_16 ?_
  refine s_puti eX2_make_17 fX2_29 wX2_4 rfl (by decide) (by decide) ?_
  refine x_aload_n eX2_make_20 rfl ?_
  refine s_geti eX2_make_21 fX2_29 rfl (by decide) (by decide) ?_
  rw [setF_at, upd_at]
  refine x_iconst (v := nI 1) eX2_make_24 (by decide) ?_
  first | refine x_isubN eX2_make_25 (by omega) ?_ | refine x_isub eX2_make_25 ?_
  rw [show n + 1 - 1 = n by omega]
  exact s_iret eX2_make_26 rfl rfl ⟨rfl, S_7, h_7, rfl⟩
theorem sp_X8_isNumber (S : xS) (x : Int64) : Sp mX8_isNumber [.long x] S (fun r S' => r = some (.int (tI (isNum x = true))) ∧ S' = S) := by
  have h0 : (lI (szZ x) = 0) ↔ szZ x = 0 := lI_inj (szZ_in x) inL_0
  have h1 : (lI (szZ x) < 4517110426252607488) ↔ szZ x < 4517110426252607488 := lI_lt (b := 4517110426252607488) (szZ_in x) ⟨by decide, by decide⟩
  have h2 : (4733283208366391296 < lI (szZ x)) ↔ 4733283208366391296 < szZ x := lI_lt (a := 4733283208366391296) ⟨by decide, by decide⟩ (szZ_in x)
  have hi := isNum_iff x
  show XP _ _ [_] _ _ _
  refine x_lload_n eX8_isNumber_0 rfl ?_
  refine x_ldc2 (v := 9223372036854775807) eX8_isNumber_1 (xT 250 (by decide +kernel) rfl) ?_
  refine x_land eX8_isNumber_4 ?_
  rw [and_size]
  refine x_lstore_n (lv' := [_, _]) eX8_isNumber_5 (by decide) rfl ?_
  refine x_lload_n eX8_isNumber_6 rfl ?_
  refine x_lconst (v := 0) eX8_isNumber_7 (by decide) ?_
  refine x_lcmp eX8_isNumber_8 ?_
  refine x_if_eqL eX8_isNumber_9 (fun c_9 => ?_) (fun c_9 => ?_)
  · refine x_iconst (v := nI 1) eX8_isNumber_28 (by decide) ?_
    refine x_goto eX8_isNumber_29 ?_
    first
      | (refine s_iret eX8_isNumber_33 rfl rfl ⟨tI_ts (hi.mpr ?_), rfl⟩; rw [h0] at c_9; first | omega | (rw [h1] at c_17; rw [h2] at c_25; omega))
      | (refine s_iret eX8_isNumber_33 rfl rfl ⟨tI_fs (fun z => ?_), rfl⟩; have z := hi.mp z; rw [h0] at c_9; rw [h1] at c_17; first | omega | (rw [h2] at c_25; omega))
  · refine x_lload_n eX8_isNumber_12 rfl ?_
    refine x_ldc2 (v := 4517110426252607488) eX8_isNumber_13 (xT 251 (by decide +kernel) rfl) ?_
    refine x_lcmp eX8_isNumber_16 ?_
    refine x_if_ltL eX8_isNumber_17 (fun c_17 => ?_) (fun c_17 => ?_)
    · refine x_iconst (v := nI 0) eX8_isNumber_32 (by decide) ?_
      first
        | (refine s_iret eX8_isNumber_33 rfl rfl ⟨tI_ts (hi.mpr ?_), rfl⟩; rw [h0] at c_9; first | omega | (rw [h1] at c_17; rw [h2] at c_25; omega))
        | (refine s_iret eX8_isNumber_33 rfl rfl ⟨tI_fs (fun z => ?_), rfl⟩; have z := hi.mp z; rw [h0] at c_9; rw [h1] at c_17; first | omega | (rw [h2] at c_25; omega))
    · refine x_lload_n eX8_isNumber_20 rfl ?_
      refine x_ldc2 (v := 4733283208366391296) eX8_isNumber_21 (xT 252 (by decide +kernel) rfl) ?_
      refine x_lcmp eX8_isNumber_24 ?_
      refine x_if_gtL eX8_isNumber_25 (fun c_25 => ?_) (fun c_25 => ?_)
      · refine x_iconst (v := nI 0) eX8_isNumber_32 (by decide) ?_
        first
          | (refine s_iret eX8_isNumber_33 rfl rfl ⟨tI_ts (hi.mpr ?_), rfl⟩; rw [h0] at c_9; first | omega | (rw [h1] at c_17; rw [h2] at c_25; omega))
          | (refine s_iret eX8_isNumber_33 rfl rfl ⟨tI_fs (fun z => ?_), rfl⟩; have z := hi.mp z; rw [h0] at c_9; rw [h1] at c_17; first | omega | (rw [h2] at c_25; omega))
      · refine x_iconst (v := nI 1) eX8_isNumber_28 (by decide) ?_
        refine x_goto eX8_isNumber_29 ?_
        first
          | (refine s_iret eX8_isNumber_33 rfl rfl ⟨tI_ts (hi.mpr ?_), rfl⟩; rw [h0] at c_9; first | omega | (rw [h1] at c_17; rw [h2] at c_25; omega))
          | (refine s_iret eX8_isNumber_33 rfl rfl ⟨tI_fs (fun z => ?_), rfl⟩; have z := hi.mp z; rw [h0] at c_9; rw [h1] at c_17; first | omega | (rw [h2] at c_25; omega))
theorem sp_X8_isLayer (S : xS) (l : Int32) : Sp mX8_isLayer [.int l] S (fun r S' => r = some (.int (tI (∃ k, k < 4 ∧ l = nI k))) ∧ S' = S) := by
  show XP _ _ [_] _ _ _
  rcases pk_ix l (n := 4) (by omega) with q | q | ⟨k, hk, rfl⟩
  · refine x_iload_n eX8_isLayer_0 rfl ?_
    refine x_if_lt eX8_isLayer_1 (fun c_1 => ?_) (fun c_1 => ?_)
    · refine x_iconst (v := nI 0) eX8_isLayer_13 (by decide) ?_
      exact s_iret eX8_isLayer_14 rfl (by first | rfl | exact bI_nar _ | exact tI_nar _) ⟨tI_fs (fun ⟨k, hk, e⟩ => by subst e; exact absurd q (nI_pos (by omega))), rfl⟩
    · exact absurd q c_1
  · refine x_iload_n eX8_isLayer_0 rfl ?_
    refine x_if_lt eX8_isLayer_1 (fun c_1 => ?_) (fun c_1 => ?_)
    · exact absurd (Int32.lt_of_le_of_lt q c_1) (nI_pos (by omega))
    · refine x_iload_n eX8_isLayer_4 rfl ?_
      refine x_iconst (v := nI 4) eX8_isLayer_5 (by decide) ?_
      refine x_icmp_ge eX8_isLayer_6 (fun c_6 => ?_) (fun c_6 => ?_)
      · refine x_iconst (v := nI 0) eX8_isLayer_13 (by decide) ?_
        exact s_iret eX8_isLayer_14 rfl (by first | rfl | exact bI_nar _ | exact tI_nar _) ⟨tI_fs (fun ⟨k, hk, e⟩ => by subst e; exact absurd ((nI_leI (by omega) (by omega)).mp q) (by omega)), rfl⟩
      · exact absurd q c_6
  · refine x_iload_n eX8_isLayer_0 rfl ?_
    refine x_if_ltN eX8_isLayer_1 (by omega) ?_
    refine x_iload_n eX8_isLayer_4 rfl ?_
    refine x_iconst (v := nI 4) eX8_isLayer_5 (by decide) ?_
    refine x_icmp_geN eX8_isLayer_6 (by omega) (by omega) (fun c_6 => ?_) (fun c_6 => ?_)
    · omega
    · refine x_iconst (v := nI 1) eX8_isLayer_9 (by decide) ?_
      refine x_goto eX8_isLayer_10 ?_
      exact s_iret eX8_isLayer_14 rfl (by first | rfl | exact bI_nar _ | exact tI_nar _) ⟨tI_ts ⟨k, hk, rfl⟩, rfl⟩
