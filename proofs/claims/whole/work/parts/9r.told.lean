/-! ===== told, count, digest ===== -/
theorem inN (hi : Nat) (h31 : hi < 2 ^ 31) (l : Int32) : decide (nI 0 ≤ l ∧ l ≤ nI hi) = decide (∃ k : Nat, k < hi + 1 ∧ l = nI k) := by
  by_cases h : ∃ k, k < hi + 1 ∧ l = nI k
  · rw [decide_eq_true h]
    obtain ⟨k, hk, rfl⟩ := h
    exact decide_eq_true ⟨nI_le (by omega) (by omega), nI_le (by omega) (by omega)⟩
  · rw [decide_eq_false h]
    apply decide_eq_false
    intro h3
    obtain ⟨j, hj, rfl⟩ := nI_of (Int32.not_lt.mpr h3.1)
    exact h ⟨j, by have := (nI_leI hj h31).mp h3.2; omega, rfl⟩
theorem in47 (l : Int32) : decide (nI 4 ≤ l ∧ l ≤ nI 7) = decide (∃ k : Nat, k < 4 ∧ l - nI 4 = nI k) := by
  by_cases h : ∃ k, k < 4 ∧ l - nI 4 = nI k
  · rw [decide_eq_true h]
    obtain ⟨k, hk, e⟩ := h
    have e2 : l = nI (k + 4) := by
      rw [← nI_add, ← e, Int32.sub_add_cancel]
    subst e2
    exact decide_eq_true ⟨nI_le (by omega) (by omega), nI_le (by omega) (by omega)⟩
  · rw [decide_eq_false h]
    apply decide_eq_false
    intro h3
    obtain ⟨j, hj, rfl⟩ := nI_of (x := l) (Int32.not_lt.mpr (Int32.le_trans (show (0 : Int32) ≤ nI 4 by decide) h3.1))
    have a := (nI_leI (by decide) hj).mp h3.1
    have b := (nI_leI hj (by decide)).mp h3.2
    exact h ⟨j - 4, by omega, pk_sub (by omega)⟩
noncomputable def tdI (X : LM) (a k : Nat) : Int32 := if k = 0 then nI (xLy X a) else if k = 1 then tOw (xTb X) a else if k = 2 then nI (xSz X a) else if k - 3 < xSz X a then nI (xRg X a (k - 3)) else -1

theorem b_told {X : LM} (w : wf X) (p v : Int32) : both X mX8_told mX9_told [.int p, .int v] := by
  have n60 : xNp X ≤ 60 := w.2.2.2.2.1.1
  by_cases hp : xHas X p
  rotate_left
  · refine ⟨.int (-101), X, w, fun S h => ?_, fun S h => ?_⟩
    · show XP _ _ [_, _, _] _ _ _
      refine x_aload_n eX8_told_0 rfl ?_
      refine s_getR (k := 37) eX8_told_1 fX8_28 rfl (by decide) (by decide) rfl ?_
      refine x_iload_n eX8_told_4 rfl ?_
      refine s_callV1 (As := [_]) eX8_told_5 kX8_144 ⟨by decide, by decide⟩ rfl (by decide) (by decide) rfl rfl (Nat.le_of_ble_eq_true rfl) (Nat.le_of_ble_eq_true rfl) (sp_X3_has (h.tab w) p) (fun S_5 h_5 => ?_)
      have h_5 := h_5.symm
      subst h_5
      refine x_if_neT eX8_told_8 (fun c_8 => ?_) (fun c_8 => ?_)
      · exact absurd c_8 hp
      · refine x_bipush (v := -101) eX8_told_11 (by decide) ?_
        exact s_iret eX8_told_13 rfl rfl ⟨rfl, h, frC.rf _⟩
    · show XP _ _ [_, _, _] _ _ _
      refine x_aload_n eX9_told_0 rfl ?_
      refine x_iload_n eX9_told_1 rfl ?_
      refine s_callV1 (As := [_]) eX9_told_2 kX9_284 ⟨by decide, by decide⟩ rfl (by decide) (by decide) rfl rfl (Nat.le_of_ble_eq_true rfl) (Nat.le_of_ble_eq_true rfl) (sp_X9_isParcel (h.tab w) p) (fun S_2 h_2 => ?_)
      have h_2 := h_2.symm
      subst h_2
      refine x_if_neT eX9_told_5 (fun c_5 => ?_) (fun c_5 => ?_)
      · exact absurd c_5 hp
      · refine x_bipush (v := -101) eX9_told_8 (by decide) ?_
        exact s_iret eX9_told_10 rfl rfl ⟨rfl, h, frM.rf _⟩
  obtain ⟨a, ha, rfl, ta⟩ := hp
  have ya : xHas X (nI a) := ⟨a, ha, rfl, ta⟩
  by_cases hv : ∃ k, k < 14 + 1 ∧ v = nI k
  rotate_left
  · refine ⟨.int (-102), X, w, fun S h => ?_, fun S h => ?_⟩
    · show XP _ _ [_, _, _] _ _ _
      refine x_aload_n eX8_told_0 rfl ?_
      refine s_getR (k := 37) eX8_told_1 fX8_28 rfl (by decide) (by decide) rfl ?_
      refine x_iload_n eX8_told_4 rfl ?_
      refine s_callV1 (As := [_]) eX8_told_5 kX8_144 ⟨by decide, by decide⟩ rfl (by decide) (by decide) rfl rfl (Nat.le_of_ble_eq_true rfl) (Nat.le_of_ble_eq_true rfl) (sp_X3_has (h.tab w) (nI a)) (fun S_5 h_5 => ?_)
      have h_5 := h_5.symm
      subst h_5
      refine x_if_neT eX8_told_8 (fun c_8 => ?_) (fun c_8 => ?_)
      · refine x_iload_n eX8_told_14 rfl ?_
        refine x_if_lt eX8_told_15 (fun c_15 => ?_) (fun c_15 => ?_)
        · refine x_bipush (v := -102) eX8_told_24 (by decide) ?_
          exact s_iret eX8_told_26 rfl rfl ⟨rfl, h, frC.rf _⟩
        · refine x_iload_n eX8_told_18 rfl ?_
          refine x_bipush (v := nI 15) eX8_told_19 (by decide) ?_
          refine x_icmp_lt eX8_told_21 (fun c_21 => ?_) (fun c_21 => ?_)
          · obtain ⟨j, hj, rfl⟩ := nI_of c_15
            exact absurd ⟨j, by have := (nI_ltI hj (by decide)).mp c_21; omega, rfl⟩ hv
          · refine x_bipush (v := -102) eX8_told_24 (by decide) ?_
            exact s_iret eX8_told_26 rfl rfl ⟨rfl, h, frC.rf _⟩
      · exact absurd ya c_8
    · show XP _ _ [_, _, _] _ _ _
      refine x_aload_n eX9_told_0 rfl ?_
      refine x_iload_n eX9_told_1 rfl ?_
      refine s_callV1 (As := [_]) eX9_told_2 kX9_284 ⟨by decide, by decide⟩ rfl (by decide) (by decide) rfl rfl (Nat.le_of_ble_eq_true rfl) (Nat.le_of_ble_eq_true rfl) (sp_X9_isParcel (h.tab w) (nI a)) (fun S_2 h_2 => ?_)
      have h_2 := h_2.symm
      subst h_2
      refine x_if_neT eX9_told_5 (fun c_5 => ?_) (fun c_5 => ?_)
      · refine x_iload_n eX9_told_11 rfl ?_
        refine x_iconst (v := nI 0) eX9_told_12 (by decide) ?_
        refine x_bipush (v := nI 14) eX9_told_13 (by decide) ?_
        refine s_callS1 (As := [_, _, _]) eX9_told_15 kX9_173 ⟨by decide, by decide⟩ rfl rfl (Nat.le_of_ble_eq_true rfl) (Nat.le_of_ble_eq_true rfl) (sp_X9_in _ _ _ _) (fun S_15 h_15 => ?_)
        have h_15 := h_15.symm
        subst h_15
        rw [inN 14 (by decide)]
        refine x_if_neB eX9_told_18 (fun c_18 => ?_) (fun c_18 => ?_)
        · exact absurd (of_decide_eq_true c_18) hv
        · refine x_bipush (v := -102) eX9_told_21 (by decide) ?_
          exact s_iret eX9_told_23 rfl rfl ⟨rfl, h, frM.rf _⟩
      · exact absurd ya c_5
  obtain ⟨k, hk, rfl⟩ := hv
  have yk : ∃ j, j < 14 + 1 ∧ nI k = nI j := ⟨k, hk, rfl⟩
  have s12 : xSz X a ≤ 12 := (wf_good w ta).2.1
  refine ⟨.int (tdI X a k), X, w, fun S h => ?_, fun S h => ?_⟩
  · have ce := ((h.tab w).2.2 a ha).2 ta
    show XP _ _ [_, _, _] _ _ _
    refine x_aload_n eX8_told_0 rfl ?_
    refine s_getR (k := 37) eX8_told_1 fX8_28 rfl (by decide) (by decide) rfl ?_
    refine x_iload_n eX8_told_4 rfl ?_
    refine s_callV1 (As := [_]) eX8_told_5 kX8_144 ⟨by decide, by decide⟩ rfl (by decide) (by decide) rfl rfl (Nat.le_of_ble_eq_true rfl) (Nat.le_of_ble_eq_true rfl) (sp_X3_has (h.tab w) (nI a)) (fun S_5 h_5 => ?_)
    have h_5 := h_5.symm
    subst h_5
    refine x_if_neT eX8_told_8 (fun c_8 => ?_) (fun c_8 => ?_)
    · refine x_iload_n eX8_told_14 rfl ?_
      refine x_if_ltN eX8_told_15 (by omega) ?_
      refine x_iload_n eX8_told_18 rfl ?_
      refine x_bipush (v := nI 15) eX8_told_19 (by decide) ?_
      refine x_icmp_ltN eX8_told_21 (by omega) (by omega) (fun c_21 => ?_) (fun c_21 => ?_)
      · refine x_aload_n eX8_told_27 rfl ?_
        refine s_getR (k := 37) eX8_told_28 fX8_28 rfl (by decide) (by decide) rfl ?_
        refine s_getR (k := 38) eX8_told_31 fX8_145 rfl (by decide) (by decide) rfl ?_
        refine x_iload_n eX8_told_34 rfl ?_
        refine s_raldR eX8_told_35 (by first | exact Or.inl rfl | exact Or.inr rfl) (by decide) rfl (show _ < 60 by omega) (rf_parcels a) ?_
        refine x_astore_n (lv' := [_, _, _, _]) eX8_told_36 (by decide) rfl ?_
        refine x_iload_n eX8_told_37 rfl ?_
        rcases (show k = 0 ∨ k = 1 ∨ k = 2 ∨ 3 ≤ k by omega) with rfl | rfl | rfl | k3
        · refine x_tableIn (off := 26) (tgt := 64) eX8_told_38 (by decide) (by decide) (by decide) (by decide) ?_
          refine x_aload_n eX8_told_64 rfl ?_
          refine s_geti eX8_told_65 fX8_149 (kd_parcel (by omega)) (show _ < 365 by omega) (by decide) ?_
          exact s_iret eX8_told_68 rfl rfl ⟨congrArg (fun v => some (Value.int v)) (show _ = tdI X a _ by unfold tdI; rw [if_pos rfl]; exact ce.1), h, frC.rf _⟩
        · refine x_tableIn (off := 31) (tgt := 69) eX8_told_38 (by decide) (by decide) (by decide) (by decide) ?_
          refine x_aload_n eX8_told_69 rfl ?_
          refine s_geti eX8_told_70 fX8_154 (kd_parcel (by omega)) (show _ < 365 by omega) (by decide) ?_
          exact s_iret eX8_told_73 rfl rfl ⟨congrArg (fun v => some (Value.int v)) (show _ = tdI X a _ by unfold tdI; rw [if_neg (by decide), if_pos rfl]; exact ce.2.1), h, frC.rf _⟩
        · refine x_tableIn (off := 36) (tgt := 74) eX8_told_38 (by decide) (by decide) (by decide) (by decide) ?_
          refine x_aload_n eX8_told_74 rfl ?_
          refine s_getR (k := (45 + 2 * a)) eX8_told_75 fX8_157 (kd_parcel (by omega)) (show _ < 365 by omega) (by decide) (rf_parcel (by omega)) ?_
          refine s_geti eX8_told_78 fX8_115 (kd_ring (by omega)) (show _ < 365 by omega) (by decide) ?_
          exact s_iret eX8_told_81 rfl rfl ⟨congrArg (fun v => some (Value.int v)) (show _ = tdI X a _ by unfold tdI; rw [if_neg (by decide), if_neg (by decide), if_pos rfl]; exact ce.2.2.2.2.1), h, frC.rf _⟩
        · refine x_tableOut (tgt := 82) eX8_told_38 (Or.inr (by rw [nI_toInt (by omega)]; omega)) (by decide) ?_
          refine x_iload_n eX8_told_82 rfl ?_
          refine x_iconst (v := nI 3) eX8_told_83 (by decide) ?_
          first | refine x_isubN eX8_told_84 (by omega) ?_ | refine x_isub eX8_told_84 ?_
          refine x_aload_n eX8_told_85 rfl ?_
          refine s_getR (k := (45 + 2 * a)) eX8_told_86 fX8_157 (kd_parcel (by omega)) (show _ < 365 by omega) (by decide) (rf_parcel (by omega)) ?_
          refine s_geti eX8_told_89 fX8_115 (kd_ring (by omega)) (show _ < 365 by omega) (by decide) ?_
          rw [show S.1 (45 + 2 * a) 1 = nI (xSz X a) from ce.2.2.2.2.1]
          refine x_icmp_geN eX8_told_92 (by omega) (by omega) (fun c_92 => ?_) (fun c_92 => ?_)
          · have ev : tdI X a k = -1 := by unfold tdI; rw [if_neg (by omega), if_neg (by omega), if_neg (by omega), if_neg (by omega)]
            refine x_iconst (v := -1) eX8_told_108 (by decide) ?_
            exact s_iret eX8_told_109 rfl rfl ⟨congrArg (fun v => some (Value.int v)) ev.symm, h, frC.rf _⟩
          · have ev : tdI X a k = nI (xRg X a (k - 3)) := by unfold tdI; rw [if_neg (by omega), if_neg (by omega), if_neg (by omega), if_pos (by omega)]
            refine x_aload_n eX8_told_95 rfl ?_
            refine s_getR (k := (45 + 2 * a)) eX8_told_96 fX8_157 (kd_parcel (by omega)) (show _ < 365 by omega) (by decide) (rf_parcel (by omega)) ?_
            refine x_iload_n eX8_told_99 rfl ?_
            refine x_iconst (v := nI 3) eX8_told_100 (by decide) ?_
            first | refine x_isubN eX8_told_101 (by omega) ?_ | refine x_isub eX8_told_101 ?_
            refine s_callV1 (As := [_]) eX8_told_102 kX8_160 ⟨by decide, by decide⟩ (kd_ring (by omega)) (by decide) (show _ < 365 by omega) rfl rfl (Nat.le_of_ble_eq_true rfl) (Nat.le_of_ble_eq_true rfl) (sp_X4_around _ ce.2.2 (good_c w ta).1 (by omega)) (fun S_102 h_102 => ?_)
            have h_102 := h_102.symm
            subst h_102
            rw [Nat.mod_eq_of_lt (show k - 3 < tSz (xTb X) a from c_92)]
            refine x_goto eX8_told_105 ?_
            exact s_iret eX8_told_109 rfl rfl ⟨congrArg (fun v => some (Value.int v)) ev.symm, h, frC.rf _⟩
      · omega
    · exact absurd ya c_8
  · have ce := ((h.tab w).2.2 a ha).2 ta
    show XP _ _ [_, _, _] _ _ _
    refine x_aload_n eX9_told_0 rfl ?_
    refine x_iload_n eX9_told_1 rfl ?_
    refine s_callV1 (As := [_]) eX9_told_2 kX9_284 ⟨by decide, by decide⟩ rfl (by decide) (by decide) rfl rfl (Nat.le_of_ble_eq_true rfl) (Nat.le_of_ble_eq_true rfl) (sp_X9_isParcel (h.tab w) (nI a)) (fun S_2 h_2 => ?_)
    have h_2 := h_2.symm
    subst h_2
    refine x_if_neT eX9_told_5 (fun c_5 => ?_) (fun c_5 => ?_)
    · refine x_iload_n eX9_told_11 rfl ?_
      refine x_iconst (v := nI 0) eX9_told_12 (by decide) ?_
      refine x_bipush (v := nI 14) eX9_told_13 (by decide) ?_
      refine s_callS1 (As := [_, _, _]) eX9_told_15 kX9_173 ⟨by decide, by decide⟩ rfl rfl (Nat.le_of_ble_eq_true rfl) (Nat.le_of_ble_eq_true rfl) (sp_X9_in _ _ _ _) (fun S_15 h_15 => ?_)
      have h_15 := h_15.symm
      subst h_15
      rw [inN 14 (by decide)]
      refine x_if_neB eX9_told_18 (fun c_18 => ?_) (fun c_18 => ?_)
      · refine x_iload_n eX9_told_24 rfl ?_
        refine x_iconst (v := nI 3) eX9_told_25 (by decide) ?_
        refine x_icmp_geN eX9_told_26 (by omega) (by omega) (fun c_26 => ?_) (fun c_26 => ?_)
        · refine x_iload_n eX9_told_63 rfl ?_
          refine x_iconst (v := nI 3) eX9_told_64 (by decide) ?_
          first | refine x_isubN eX9_told_65 (by omega) ?_ | refine x_isub eX9_told_65 ?_
          refine x_aload_n eX9_told_66 rfl ?_
          refine s_getR (k := 15) eX9_told_67 fX9_58 rfl (by decide) (by decide) rfl ?_
          refine x_iload_n eX9_told_70 rfl ?_
          refine s_iald eX9_told_71 rfl (by decide) rfl (show _ < 60 by omega) ?_
          rw [show S.2.1 15 a = nI (xSz X a) from ce.2.2.2.2.2.1]
          refine x_icmp_geN eX9_told_72 (by omega) (by omega) (fun c_72 => ?_) (fun c_72 => ?_)
          · have ev : tdI X a k = -1 := by unfold tdI; rw [if_neg (by omega), if_neg (by omega), if_neg (by omega), if_neg (by omega)]
            refine x_iconst (v := -1) eX9_told_91 (by decide) ?_
            exact s_iret eX9_told_92 rfl rfl ⟨congrArg (fun v => some (Value.int v)) ev.symm, h, frM.rf _⟩
          · have ev : tdI X a k = nI (xRg X a (k - 3)) := by unfold tdI; rw [if_neg (by omega), if_neg (by omega), if_neg (by omega), if_pos (by omega)]
            refine x_aload_n eX9_told_75 rfl ?_
            refine s_getR (k := 16) eX9_told_76 fX9_61 rfl (by decide) (by decide) rfl ?_
            refine x_bipush (v := nI 12) eX9_told_79 (by decide) ?_
            refine x_iload_n eX9_told_81 rfl ?_
            first | refine x_imulN eX9_told_82 ?_ | refine x_imul eX9_told_82 ?_
            refine x_iload_n eX9_told_83 rfl ?_
            first | refine x_iaddN eX9_told_84 ?_ | refine x_iadd eX9_told_84 ?_
            refine x_iconst (v := nI 3) eX9_told_85 (by decide) ?_
            first | refine x_isubN eX9_told_86 (by omega) ?_ | refine x_isub eX9_told_86 ?_
            refine s_iald eX9_told_87 rfl (by decide) rfl (show 12 * a + k - 3 < 720 by omega) ?_
            rw [show 12 * a + k - 3 = 12 * a + (k - 3) by omega, (ce.2.2.2.2.2.2 (k - 3) c_72).1]
            refine x_goto eX9_told_88 ?_
            exact s_iret eX9_told_92 rfl rfl ⟨congrArg (fun v => some (Value.int v)) ev.symm, h, frM.rf _⟩
        · refine x_iload_n eX9_told_29 rfl ?_
          refine x_if_neN eX9_told_30 (by omega) (fun c_30 => ?_) (fun c_30 => ?_)
          · refine x_iload_n eX9_told_42 rfl ?_
            refine x_iconst (v := nI 1) eX9_told_43 (by decide) ?_
            refine x_icmp_neN eX9_told_44 (by omega) (by omega) (fun c_44 => ?_) (fun c_44 => ?_)
            · have ev : tdI X a k = nI (xSz X a) := by unfold tdI; rw [if_neg (by omega), if_neg (by omega), if_pos (by omega)]
              refine x_aload_n eX9_told_56 rfl ?_
              refine s_getR (k := 15) eX9_told_57 fX9_58 rfl (by decide) (by decide) rfl ?_
              refine x_iload_n eX9_told_60 rfl ?_
              refine s_iald eX9_told_61 rfl (by decide) rfl (show _ < 60 by omega) ?_
              rw [ce.2.2.2.2.2.1]
              exact s_iret eX9_told_62 rfl rfl ⟨congrArg (fun v => some (Value.int v)) ev.symm, h, frM.rf _⟩
            · have ev : tdI X a k = tOw (xTb X) a := by unfold tdI; rw [if_neg (by omega), if_pos (by omega)]
              refine x_aload_n eX9_told_47 rfl ?_
              refine s_getR (k := 14) eX9_told_48 fX9_55 rfl (by decide) (by decide) rfl ?_
              refine x_iload_n eX9_told_51 rfl ?_
              refine s_iald eX9_told_52 rfl (by decide) rfl (show _ < 60 by omega) ?_
              rw [ce.2.1]
              refine x_goto eX9_told_53 ?_
              exact s_iret eX9_told_62 rfl rfl ⟨congrArg (fun v => some (Value.int v)) ev.symm, h, frM.rf _⟩
          · have ev : tdI X a k = nI (xLy X a) := by unfold tdI; rw [if_pos c_30]
            refine x_aload_n eX9_told_33 rfl ?_
            refine s_getR (k := 13) eX9_told_34 fX9_52 rfl (by decide) (by decide) rfl ?_
            refine x_iload_n eX9_told_37 rfl ?_
            refine s_iald eX9_told_38 rfl (by decide) rfl (show _ < 60 by omega) ?_
            rw [ce.1]
            refine x_goto eX9_told_39 ?_
            exact s_iret eX9_told_62 rfl rfl ⟨congrArg (fun v => some (Value.int v)) ev.symm, h, frM.rf _⟩
      · exact absurd yk (of_decide_eq_false c_18)
    · exact absurd ya c_5
theorem b_count {X : LM} (w : wf X) (v : Int32) : both X mX8_count mX9_count [.int v] := by
  have n60 : xNp X ≤ 60 := w.2.2.2.2.1.1
  by_cases e0 : v = nI 0
  · subst e0
    refine ⟨.int (nI (xNc X)), X, w, fun S h => ?_, fun S h => ?_⟩
    · show XP _ _ [_, _] _ _ _
      refine x_iload_n eX8_count_0 rfl ?_
      refine x_tableIn (off := 31) (tgt := 32) eX8_count_1 (by decide) (by decide) (by decide) (by decide) ?_
      refine x_aload_n eX8_count_32 rfl ?_
      refine s_getR (k := 32) eX8_count_33 fX8_12 rfl (by decide) (by decide) rfl ?_
      refine s_geti eX8_count_36 fX8_81 rfl (by decide) (by decide) ?_
      rw [h.1.1]
      exact s_iret eX8_count_39 rfl rfl ⟨rfl, h, frC.rf _⟩
    · show XP _ _ [_, _] _ _ _
      refine x_iload_n eX9_count_0 rfl ?_
      refine x_if_ne eX9_count_1 (fun c_1 => ?_) (fun c_1 => ?_)
      · exact absurd rfl c_1
      · refine x_aload_n eX9_count_4 rfl ?_
        refine s_geti eX9_count_5 fX9_170 rfl (by decide) (by decide) ?_
        rw [h.1.1]
        refine x_goto eX9_count_8 ?_
        exact s_iret eX9_count_70 rfl rfl ⟨rfl, h, frM.rf _⟩
  by_cases e1 : v = nI 1
  · subst e1
    refine ⟨.int (nI (cnt (fun q => xTh X q = true) (xNp X))), X, w, fun S h => ?_, fun S h => ?_⟩
    · show XP _ _ [_, _] _ _ _
      refine x_iload_n eX8_count_0 rfl ?_
      refine x_tableIn (off := 39) (tgt := 40) eX8_count_1 (by decide) (by decide) (by decide) (by decide) ?_
      refine x_aload_n eX8_count_40 rfl ?_
      refine s_getR (k := 37) eX8_count_41 fX8_28 rfl (by decide) (by decide) rfl ?_
      refine s_callV1 (As := []) eX8_count_44 kX8_168 ⟨by decide, by decide⟩ rfl (by decide) (by decide) rfl rfl (Nat.le_of_ble_eq_true rfl) (Nat.le_of_ble_eq_true rfl) (sp_X3_thereNow (h.tab w)) (fun S_44 h_44 => ?_)
      have h_44 := h_44.symm
      subst h_44
      exact s_iret eX8_count_47 rfl rfl ⟨rfl, h, frC.rf _⟩
    · show XP _ _ [_, _] _ _ _
      refine x_iload_n eX9_count_0 rfl ?_
      refine x_if_ne eX9_count_1 (fun c_1 => ?_) (fun c_1 => ?_)
      · refine x_iload_n eX9_count_11 rfl ?_
        refine x_iconst (v := nI 1) eX9_count_12 (by decide) ?_
        refine x_icmp_ne eX9_count_13 (fun c_13 => ?_) (fun c_13 => ?_)
        · exact absurd rfl c_13
        · refine x_aload_n eX9_count_16 rfl ?_
          refine x_iconst (v := -1) eX9_count_17 (by decide) ?_
          refine s_callV1 (As := [_]) eX9_count_18 kX9_287 ⟨by decide, by decide⟩ rfl (by decide) (by decide) rfl rfl (Nat.le_of_ble_eq_true rfl) (Nat.le_of_ble_eq_true rfl) (sp_X9_there (h.tab w) (-1)) (fun S_18 h_18 => ?_)
          have h_18 := h_18.symm
          subst h_18
          refine x_goto eX9_count_21 ?_
          exact s_iret eX9_count_70 rfl rfl ⟨congrArg (fun v => some (Value.int (nI v))) (cnt_congr _ (fun q _ => ⟨And.left, fun z => ⟨z, Or.inl rfl⟩⟩)), h, frM.rf _⟩
      · exact absurd c_1 (by decide)
  by_cases e2 : v = nI 2
  · subst e2
    refine ⟨.int (nI (xNp X)), X, w, fun S h => ?_, fun S h => ?_⟩
    · show XP _ _ [_, _] _ _ _
      refine x_iload_n eX8_count_0 rfl ?_
      refine x_tableIn (off := 47) (tgt := 48) eX8_count_1 (by decide) (by decide) (by decide) (by decide) ?_
      refine x_aload_n eX8_count_48 rfl ?_
      refine s_getR (k := 37) eX8_count_49 fX8_28 rfl (by decide) (by decide) rfl ?_
      refine s_geti eX8_count_52 fX8_136 rfl (by decide) (by decide) ?_
      rw [(h.tab w).1]
      exact s_iret eX8_count_55 rfl rfl ⟨rfl, h, frC.rf _⟩
    · show XP _ _ [_, _] _ _ _
      refine x_iload_n eX9_count_0 rfl ?_
      refine x_if_ne eX9_count_1 (fun c_1 => ?_) (fun c_1 => ?_)
      · refine x_iload_n eX9_count_11 rfl ?_
        refine x_iconst (v := nI 1) eX9_count_12 (by decide) ?_
        refine x_icmp_ne eX9_count_13 (fun c_13 => ?_) (fun c_13 => ?_)
        · refine x_iload_n eX9_count_24 rfl ?_
          refine x_iconst (v := nI 2) eX9_count_25 (by decide) ?_
          refine x_icmp_ne eX9_count_26 (fun c_26 => ?_) (fun c_26 => ?_)
          · exact absurd rfl c_26
          · refine x_aload_n eX9_count_29 rfl ?_
            refine s_geti eX9_count_30 fX9_224 rfl (by decide) (by decide) ?_
            rw [(h.tab w).1]
            refine x_goto eX9_count_33 ?_
            exact s_iret eX9_count_70 rfl rfl ⟨rfl, h, frM.rf _⟩
        · exact absurd c_13 (by decide)
      · exact absurd c_1 (by decide)
  by_cases e3 : v = nI 3
  · subst e3
    refine ⟨.int (nI (xNd X)), X, w, fun S h => ?_, fun S h => ?_⟩
    · show XP _ _ [_, _] _ _ _
      refine x_iload_n eX8_count_0 rfl ?_
      refine x_tableIn (off := 55) (tgt := 56) eX8_count_1 (by decide) (by decide) (by decide) (by decide) ?_
      refine x_aload_n eX8_count_56 rfl ?_
      refine s_getR (k := 169) eX8_count_57 fX8_49 rfl (by decide) (by decide) rfl ?_
      refine s_geti eX8_count_60 fX8_115 rfl (by decide) (by decide) ?_
      rw [show S.1 169 1 = nI (xNd X) from h.2.1.2.2.1]
      exact s_iret eX8_count_63 rfl rfl ⟨rfl, h, frC.rf _⟩
    · show XP _ _ [_, _] _ _ _
      refine x_iload_n eX9_count_0 rfl ?_
      refine x_if_ne eX9_count_1 (fun c_1 => ?_) (fun c_1 => ?_)
      · refine x_iload_n eX9_count_11 rfl ?_
        refine x_iconst (v := nI 1) eX9_count_12 (by decide) ?_
        refine x_icmp_ne eX9_count_13 (fun c_13 => ?_) (fun c_13 => ?_)
        · refine x_iload_n eX9_count_24 rfl ?_
          refine x_iconst (v := nI 2) eX9_count_25 (by decide) ?_
          refine x_icmp_ne eX9_count_26 (fun c_26 => ?_) (fun c_26 => ?_)
          · refine x_iload_n eX9_count_36 rfl ?_
            refine x_iconst (v := nI 3) eX9_count_37 (by decide) ?_
            refine x_icmp_ne eX9_count_38 (fun c_38 => ?_) (fun c_38 => ?_)
            · exact absurd rfl c_38
            · refine x_aload_n eX9_count_41 rfl ?_
              refine s_geti eX9_count_42 fX9_212 rfl (by decide) (by decide) ?_
              rw [h.2.1.1]
              refine x_goto eX9_count_45 ?_
              exact s_iret eX9_count_70 rfl rfl ⟨rfl, h, frM.rf _⟩
          · exact absurd c_26 (by decide)
        · exact absurd c_13 (by decide)
      · exact absurd c_1 (by decide)
  have out : v.toInt < 0 ∨ 3 < v.toInt := by
    by_cases z : v < 0
    · exact Or.inl (Int32.lt_iff_toInt_lt.mp z)
    · obtain ⟨j, hj, rfl⟩ := nI_of z
      have : j ≠ 0 := fun q => e0 (by rw [q])
      have : j ≠ 1 := fun q => e1 (by rw [q])
      have : j ≠ 2 := fun q => e2 (by rw [q])
      have : j ≠ 3 := fun q => e3 (by rw [q])
      exact Or.inr (by rw [nI_toInt hj]; omega)
  by_cases z : ∃ k, k < 4 ∧ v - nI 4 = nI k
  rotate_left
  · refine ⟨.int (-102), X, w, fun S h => ?_, fun S h => ?_⟩
    · show XP _ _ [_, _] _ _ _
      refine x_iload_n eX8_count_0 rfl ?_
      refine x_tableOut (tgt := 64) eX8_count_1 out (by decide) ?_
      refine x_iload_n eX8_count_64 rfl ?_
      refine x_iconst (v := nI 4) eX8_count_65 (by decide) ?_
      first | refine x_isubN eX8_count_66 (by omega) ?_ | refine x_isub eX8_count_66 ?_
      refine s_callS1 (As := [_]) eX8_count_67 kX8_125 ⟨by decide, by decide⟩ rfl rfl (Nat.le_of_ble_eq_true rfl) (Nat.le_of_ble_eq_true rfl) (sp_X8_isLayer _ _) (fun S_67 h_67 => ?_)
      have h_67 := h_67.symm
      subst h_67
      refine x_if_eqT eX8_count_70 (fun c_70 => ?_) (fun c_70 => ?_)
      · refine x_bipush (v := -102) eX8_count_86 (by decide) ?_
        exact s_iret eX8_count_88 rfl rfl ⟨rfl, h, frC.rf _⟩
      · exact absurd c_70 z
    · show XP _ _ [_, _] _ _ _
      refine x_iload_n eX9_count_0 rfl ?_
      refine x_if_ne eX9_count_1 (fun c_1 => ?_) (fun c_1 => ?_)
      · refine x_iload_n eX9_count_11 rfl ?_
        refine x_iconst (v := nI 1) eX9_count_12 (by decide) ?_
        refine x_icmp_ne eX9_count_13 (fun c_13 => ?_) (fun c_13 => ?_)
        · refine x_iload_n eX9_count_24 rfl ?_
          refine x_iconst (v := nI 2) eX9_count_25 (by decide) ?_
          refine x_icmp_ne eX9_count_26 (fun c_26 => ?_) (fun c_26 => ?_)
          · refine x_iload_n eX9_count_36 rfl ?_
            refine x_iconst (v := nI 3) eX9_count_37 (by decide) ?_
            refine x_icmp_ne eX9_count_38 (fun c_38 => ?_) (fun c_38 => ?_)
            · refine x_iload_n eX9_count_48 rfl ?_
              refine x_iconst (v := nI 4) eX9_count_49 (by decide) ?_
              refine x_bipush (v := nI 7) eX9_count_50 (by decide) ?_
              refine s_callS1 (As := [_, _, _]) eX9_count_52 kX9_173 ⟨by decide, by decide⟩ rfl rfl (Nat.le_of_ble_eq_true rfl) (Nat.le_of_ble_eq_true rfl) (sp_X9_in _ _ _ _) (fun S_52 h_52 => ?_)
              have h_52 := h_52.symm
              subst h_52
              rw [in47]
              refine x_if_eqB eX9_count_55 (fun c_55 => ?_) (fun c_55 => ?_)
              · refine x_bipush (v := -102) eX9_count_68 (by decide) ?_
                exact s_iret eX9_count_70 rfl rfl ⟨rfl, h, frM.rf _⟩
              · exact absurd (of_decide_eq_true c_55) z
            · exact absurd c_38 e3
          · exact absurd c_26 e2
        · exact absurd c_13 e1
      · exact absurd c_1 e0
  · have nz : ¬ v - nI 4 = -1 := fun q => by
      obtain ⟨k, hk, e⟩ := z
      rw [e] at q
      have := congrArg Int32.toInt q
      rw [nI_toInt (by omega)] at this
      have m1 : (-1 : Int32).toInt = -1 := by decide
      omega
    refine ⟨.int (nI (cnt (fun q => xTh X q = true ∧ nI (xLy X q) = v - nI 4) (xNp X))), X, w, fun S h => ?_, fun S h => ?_⟩
    · show XP _ _ [_, _] _ _ _
      refine x_iload_n eX8_count_0 rfl ?_
      refine x_tableOut (tgt := 64) eX8_count_1 out (by decide) ?_
      refine x_iload_n eX8_count_64 rfl ?_
      refine x_iconst (v := nI 4) eX8_count_65 (by decide) ?_
      first | refine x_isubN eX8_count_66 (by omega) ?_ | refine x_isub eX8_count_66 ?_
      refine s_callS1 (As := [_]) eX8_count_67 kX8_125 ⟨by decide, by decide⟩ rfl rfl (Nat.le_of_ble_eq_true rfl) (Nat.le_of_ble_eq_true rfl) (sp_X8_isLayer _ _) (fun S_67 h_67 => ?_)
      have h_67 := h_67.symm
      subst h_67
      refine x_if_eqT eX8_count_70 (fun c_70 => ?_) (fun c_70 => ?_)
      · exact absurd z c_70
      · refine x_aload_n eX8_count_73 rfl ?_
        refine s_getR (k := 37) eX8_count_74 fX8_28 rfl (by decide) (by decide) rfl ?_
        refine x_iload_n eX8_count_77 rfl ?_
        refine x_iconst (v := nI 4) eX8_count_78 (by decide) ?_
        first | refine x_isubN eX8_count_79 (by omega) ?_ | refine x_isub eX8_count_79 ?_
        refine s_callV1 (As := [_]) eX8_count_80 kX8_220 ⟨by decide, by decide⟩ rfl (by decide) (by decide) rfl rfl (Nat.le_of_ble_eq_true rfl) (Nat.le_of_ble_eq_true rfl) (sp_X3_thereIn (h.tab w) _) (fun S_80 h_80 => ?_)
        have h_80 := h_80.symm
        subst h_80
        refine x_goto eX8_count_83 ?_
        exact s_iret eX8_count_88 rfl rfl ⟨rfl, h, frC.rf _⟩
    · show XP _ _ [_, _] _ _ _
      refine x_iload_n eX9_count_0 rfl ?_
      refine x_if_ne eX9_count_1 (fun c_1 => ?_) (fun c_1 => ?_)
      · refine x_iload_n eX9_count_11 rfl ?_
        refine x_iconst (v := nI 1) eX9_count_12 (by decide) ?_
        refine x_icmp_ne eX9_count_13 (fun c_13 => ?_) (fun c_13 => ?_)
        · refine x_iload_n eX9_count_24 rfl ?_
          refine x_iconst (v := nI 2) eX9_count_25 (by decide) ?_
          refine x_icmp_ne eX9_count_26 (fun c_26 => ?_) (fun c_26 => ?_)
          · refine x_iload_n eX9_count_36 rfl ?_
            refine x_iconst (v := nI 3) eX9_count_37 (by decide) ?_
            refine x_icmp_ne eX9_count_38 (fun c_38 => ?_) (fun c_38 => ?_)
            · refine x_iload_n eX9_count_48 rfl ?_
              refine x_iconst (v := nI 4) eX9_count_49 (by decide) ?_
              refine x_bipush (v := nI 7) eX9_count_50 (by decide) ?_
              refine s_callS1 (As := [_, _, _]) eX9_count_52 kX9_173 ⟨by decide, by decide⟩ rfl rfl (Nat.le_of_ble_eq_true rfl) (Nat.le_of_ble_eq_true rfl) (sp_X9_in _ _ _ _) (fun S_52 h_52 => ?_)
              have h_52 := h_52.symm
              subst h_52
              rw [in47]
              refine x_if_eqB eX9_count_55 (fun c_55 => ?_) (fun c_55 => ?_)
              · exact absurd z (of_decide_eq_false c_55)
              · refine x_aload_n eX9_count_58 rfl ?_
                refine x_iload_n eX9_count_59 rfl ?_
                refine x_iconst (v := nI 4) eX9_count_60 (by decide) ?_
                first | refine x_isubN eX9_count_61 (by omega) ?_ | refine x_isub eX9_count_61 ?_
                refine s_callV1 (As := [_]) eX9_count_62 kX9_287 ⟨by decide, by decide⟩ rfl (by decide) (by decide) rfl rfl (Nat.le_of_ble_eq_true rfl) (Nat.le_of_ble_eq_true rfl) (sp_X9_there (h.tab w) _) (fun S_62 h_62 => ?_)
                have h_62 := h_62.symm
                subst h_62
                refine x_goto eX9_count_65 ?_
                exact s_iret eX9_count_70 rfl rfl ⟨congrArg (fun v => some (Value.int (nI v))) (cnt_congr _ (fun q _ => ⟨fun y => ⟨y.1, y.2.resolve_left nz⟩, fun y => ⟨y.1, Or.inr y.2⟩⟩)), h, frM.rf _⟩
            · exact absurd c_38 e3
          · exact absurd c_26 e2
        · exact absurd c_13 e1
      · exact absurd c_1 e0

def dgI (c : Nat → Nat) (h : Int64) : Nat → Int64
  | 0 => h
  | i + 1 => 31 * dgI c h i + (nI (c i)).toInt64
def dgH (X : LM) (p : Nat) (h : Int64) : Int64 := 31 * (31 * (31 * (31 * h + (nI p).toInt64) + (nI (xLy X p)).toInt64) + (tOw (xTb X) p).toInt64) + (nI (xSz X p)).toInt64
def dgP (X : LM) : Nat → Int64
  | 0 => 23
  | p + 1 => if xTh X p = true then dgI (xRg X p) (dgH X p (dgP X p)) (xSz X p) else dgP X p
theorem dgP_t {X : LM} {p : Nat} (h : xTh X p = true) : dgP X (p + 1) = dgI (xRg X p) (dgH X p (dgP X p)) (xSz X p) := if_pos h
theorem dgP_f {X : LM} {p : Nat} (h : ¬ xTh X p = true) : dgP X (p + 1) = dgP X p := if_neg h

theorem has_t {np : Nat} {th : Nat → Bool} {j : Nat} (n60 : np ≤ 60) (h : hasP np th (nI j)) (hj : j < 2 ^ 31 := by omega) : th j = true := by
  obtain ⟨k, hk, e, t⟩ := h
  rw [(nI_eq hj (by omega)).mp e]
  exact t
theorem b_digest {X : LM} (w : wf X) : both X mX8_digest mX9_digest [] := by
  have n60 : xNp X ≤ 60 := w.2.2.2.2.1.1
  refine ⟨.long (dgP X (xNp X)), X, w, fun S h => ?_, fun S h => ?_⟩
  · skip
    have loop : ∀ μ j, j + μ = (xNp X) → ∀ S1, S1 = S → XP mX8_digest 6 [(3, .int (nI j)), (1, .long (dgP X j)), (0, .ref 31)] [] (xwS S1) (sQ (fun r S' => r = some (.long (dgP X (xNp X))) ∧ RC S' X ∧ frC S S')) := by
      intro μ
      induction μ with
      | zero =>
        intro j hk S1 h1
        have h1 := h1.symm
        subst h1
        refine x_iload_n eX8_digest_6 rfl ?_
        refine x_aload_n eX8_digest_7 rfl ?_
        refine s_getR (k := 37) eX8_digest_8 fX8_28 rfl (by decide) (by decide) rfl ?_
        refine s_geti eX8_digest_11 fX8_136 rfl (by decide) (by decide) ?_
        rw [(h.tab w).1]
        refine x_icmp_geN eX8_digest_14 (by omega) (by omega) (fun c_14 => ?_) (fun c_14 => ?_)
        · refine x_lload_n eX8_digest_136 rfl ?_
          exact s_lret eX8_digest_137 rfl ⟨by rw [show j = xNp X by omega], h, frC.rf _⟩
        · omega
      | succ μ ih =>
        intro j hk S1 h1
        have h1 := h1.symm
        subst h1
        refine x_iload_n eX8_digest_6 rfl ?_
        refine x_aload_n eX8_digest_7 rfl ?_
        refine s_getR (k := 37) eX8_digest_8 fX8_28 rfl (by decide) (by decide) rfl ?_
        refine s_geti eX8_digest_11 fX8_136 rfl (by decide) (by decide) ?_
        rw [(h.tab w).1]
        refine x_icmp_geN eX8_digest_14 (by omega) (by omega) (fun c_14 => ?_) (fun c_14 => ?_)
        · omega
        · refine x_aload_n eX8_digest_17 rfl ?_
          refine s_getR (k := 37) eX8_digest_18 fX8_28 rfl (by decide) (by decide) rfl ?_
          refine x_iload_n eX8_digest_21 rfl ?_
          refine s_callV1 (As := [_]) eX8_digest_22 kX8_144 ⟨by decide, by decide⟩ rfl (by decide) (by decide) rfl rfl (Nat.le_of_ble_eq_true rfl) (Nat.le_of_ble_eq_true rfl) (sp_X3_has (h.tab w) _) (fun S_22 h_22 => ?_)
          have h_22 := h_22.symm
          subst h_22
          refine x_if_eqT eX8_digest_25 (fun c_25 => ?_) (fun c_25 => ?_)
          · refine x_iinc (lv' := [_, _, _]) eX8_digest_130 rfl (by first | exact nI_inc _ | exact rfl) (by decide) rfl ?_
            refine x_goto eX8_digest_133 ?_
            refine x_pick [0, 1, 2] rfl ?_
            have := ih (j + 1) (by omega) S rfl
            rw [dgP_f (fun z => c_25 ⟨j, by omega, rfl, z⟩)] at this
            exact this
          · have tj : xTh X j = true := has_t n60 c_25
            have ce := ((h.tab w).2.2 j (by omega)).2 tj
            have s12 : xSz X j ≤ 12 := (wf_good w tj).2.1
            have fin : XP mX8_digest 130 [(3, .int (nI j)), (1, .long (dgI (xRg X j) (dgH X j (dgP X j)) (xSz X j))), (0, .ref 31)] [] (xwS S) (sQ (fun r S' => r = some (.long (dgP X (xNp X))) ∧ RC S' X ∧ frC S S')) := by
              refine x_iinc (lv' := [_, _, _]) eX8_digest_130 rfl (by first | exact nI_inc _ | exact rfl) (by decide) rfl ?_
              refine x_goto eX8_digest_133 ?_
              refine x_pick [0, 1, 2] rfl ?_
              have := ih (j + 1) (by omega) S rfl
              rw [dgP_t tj] at this
              exact this
            have inner : ∀ μ i, i + μ = (xSz X j) → ∀ S1, S1 = S → XP mX8_digest 93 [(5, .int (nI i)), (4, .ref (175 + j)), (1, .long (dgI (xRg X j) (dgH X j (dgP X j)) i)), (3, .int (nI j)), (0, .ref 31)] [] (xwS S1) (sQ (fun r S' => r = some (.long (dgP X (xNp X))) ∧ RC S' X ∧ frC S S')) := by
              intro μ
              induction μ with
              | zero =>
                intro i hk S1 h1
                have h1 := h1.symm
                subst h1
                refine x_iload eX8_digest_93 rfl ?_
                refine x_aload eX8_digest_95 rfl ?_
                refine s_getR (k := (45 + 2 * j)) eX8_digest_97 fX8_157 (kd_parcel (by omega)) (show _ < 365 by omega) (by decide) (rf_parcel (by omega)) ?_
                refine s_geti eX8_digest_100 fX8_115 (kd_ring (by omega)) (show _ < 365 by omega) (by decide) ?_
                rw [show S.1 (45 + 2 * j) 1 = nI (xSz X j) from ce.2.2.2.2.1]
                refine x_icmp_geN eX8_digest_103 (by omega) (by omega) (fun c_103 => ?_) (fun c_103 => ?_)
                · obtain rfl : i = xSz X j := (by omega)
                  refine x_pick [3, 2, 4] rfl ?_
                  exact fin
                · omega
              | succ μ ih =>
                intro i hk S1 h1
                have h1 := h1.symm
                subst h1
                refine x_iload eX8_digest_93 rfl ?_
                refine x_aload eX8_digest_95 rfl ?_
                refine s_getR (k := (45 + 2 * j)) eX8_digest_97 fX8_157 (kd_parcel (by omega)) (show _ < 365 by omega) (by decide) (rf_parcel (by omega)) ?_
                refine s_geti eX8_digest_100 fX8_115 (kd_ring (by omega)) (show _ < 365 by omega) (by decide) ?_
                rw [show S.1 (45 + 2 * j) 1 = nI (xSz X j) from ce.2.2.2.2.1]
                refine x_icmp_geN eX8_digest_103 (by omega) (by omega) (fun c_103 => ?_) (fun c_103 => ?_)
                · omega
                · refine x_ldc2 (v := 31) eX8_digest_106 (xT 682 (by decide +kernel) rfl) ?_
                  refine x_lload_n eX8_digest_109 rfl ?_
                  refine x_lmul eX8_digest_110 ?_
                  refine x_aload eX8_digest_111 rfl ?_
                  refine s_getR (k := (45 + 2 * j)) eX8_digest_113 fX8_157 (kd_parcel (by omega)) (show _ < 365 by omega) (by decide) (rf_parcel (by omega)) ?_
                  refine x_iload eX8_digest_116 rfl ?_
                  refine s_callV1 (As := [_]) eX8_digest_118 kX8_160 ⟨by decide, by decide⟩ (kd_ring (by omega)) (by decide) (show _ < 365 by omega) rfl rfl (Nat.le_of_ble_eq_true rfl) (Nat.le_of_ble_eq_true rfl) (sp_X4_around _ ce.2.2 (good_c w tj).1 (by omega)) (fun S_118 h_118 => ?_)
                  have h_118 := h_118.symm
                  subst h_118
                  rw [Nat.mod_eq_of_lt (show i < tSz (xTb X) j by show i < xSz X j; omega)]
                  refine x_i2l eX8_digest_121 ?_
                  refine x_ladd eX8_digest_122 ?_
                  refine x_lstore_n (lv' := [_, _, _, _, _]) eX8_digest_123 (by decide) rfl ?_
                  refine x_iinc (lv' := [_, _, _, _, _]) eX8_digest_124 rfl (by first | exact nI_inc _ | exact rfl) (by decide) rfl ?_
                  refine x_goto eX8_digest_127 ?_
                  refine x_pick [0, 2, 1, 3, 4] rfl ?_
                  exact ih (i + 1) (by omega) _ rfl
            refine x_aload_n eX8_digest_28 rfl ?_
            refine s_getR (k := 37) eX8_digest_29 fX8_28 rfl (by decide) (by decide) rfl ?_
            refine s_getR (k := 38) eX8_digest_32 fX8_145 rfl (by decide) (by decide) rfl ?_
            refine x_iload_n eX8_digest_35 rfl ?_
            refine s_raldR eX8_digest_36 (by first | exact Or.inl rfl | exact Or.inr rfl) (by decide) rfl (show _ < 60 by omega) (rf_parcels j) ?_
            refine x_astore (lv' := [_, _, _, _]) eX8_digest_37 (by decide) rfl ?_
            refine x_ldc2 (v := 31) eX8_digest_39 (xT 682 (by decide +kernel) rfl) ?_
            refine x_lload_n eX8_digest_42 rfl ?_
            refine x_lmul eX8_digest_43 ?_
            refine x_iload_n eX8_digest_44 rfl ?_
            refine x_i2l eX8_digest_45 ?_
            refine x_ladd eX8_digest_46 ?_
            refine x_lstore_n (lv' := [_, _, _, _]) eX8_digest_47 (by decide) rfl ?_
            refine x_ldc2 (v := 31) eX8_digest_48 (xT 682 (by decide +kernel) rfl) ?_
            refine x_lload_n eX8_digest_51 rfl ?_
            refine x_lmul eX8_digest_52 ?_
            refine x_aload eX8_digest_53 rfl ?_
            refine s_geti eX8_digest_55 fX8_149 (kd_parcel (by omega)) (show _ < 365 by omega) (by decide) ?_
            rw [ce.1]
            refine x_i2l eX8_digest_58 ?_
            refine x_ladd eX8_digest_59 ?_
            refine x_lstore_n (lv' := [_, _, _, _]) eX8_digest_60 (by decide) rfl ?_
            refine x_ldc2 (v := 31) eX8_digest_61 (xT 682 (by decide +kernel) rfl) ?_
            refine x_lload_n eX8_digest_64 rfl ?_
            refine x_lmul eX8_digest_65 ?_
            refine x_aload eX8_digest_66 rfl ?_
            refine s_geti eX8_digest_68 fX8_154 (kd_parcel (by omega)) (show _ < 365 by omega) (by decide) ?_
            rw [ce.2.1]
            refine x_i2l eX8_digest_71 ?_
            refine x_ladd eX8_digest_72 ?_
            refine x_lstore_n (lv' := [_, _, _, _]) eX8_digest_73 (by decide) rfl ?_
            refine x_ldc2 (v := 31) eX8_digest_74 (xT 682 (by decide +kernel) rfl) ?_
            refine x_lload_n eX8_digest_77 rfl ?_
            refine x_lmul eX8_digest_78 ?_
            refine x_aload eX8_digest_79 rfl ?_
            refine s_getR (k := (45 + 2 * j)) eX8_digest_81 fX8_157 (kd_parcel (by omega)) (show _ < 365 by omega) (by decide) (rf_parcel (by omega)) ?_
            refine s_geti eX8_digest_84 fX8_115 (kd_ring (by omega)) (show _ < 365 by omega) (by decide) ?_
            rw [show S.1 (45 + 2 * j) 1 = nI (xSz X j) from ce.2.2.2.2.1]
            refine x_i2l eX8_digest_87 ?_
            refine x_ladd eX8_digest_88 ?_
            refine x_lstore_n (lv' := [_, _, _, _]) eX8_digest_89 (by decide) rfl ?_
            refine x_iconst (v := nI 0) eX8_digest_90 (by decide) ?_
            refine x_istore (lv' := [_, _, _, _, _]) eX8_digest_91 (by decide) rfl ?_
            refine x_pick [0, 2, 1, 3, 4] rfl ?_
            exact inner (xSz X j) 0 (by omega) _ rfl
    show XP _ _ [_] _ _ _
    refine x_ldc2 (v := 23) eX8_digest_0 (xT 681 (by decide +kernel) rfl) ?_
    refine x_lstore_n (lv' := [_, _]) eX8_digest_3 (by decide) rfl ?_
    refine x_iconst (v := nI 0) eX8_digest_4 (by decide) ?_
    refine x_istore_n (lv' := [_, _, _]) eX8_digest_5 (by decide) rfl ?_
    refine x_pick [0, 1, 2] rfl ?_
    exact loop (xNp X) 0 (by omega) _ rfl
  · skip
    have loop : ∀ μ j, j + μ = (xNp X) → ∀ S1, S1 = S → XP mX9_digest 6 [(3, .int (nI j)), (1, .long (dgP X j)), (0, .ref 0)] [] (xwS S1) (sQ (fun r S' => r = some (.long (dgP X (xNp X))) ∧ RM S' X ∧ frM S S')) := by
      intro μ
      induction μ with
      | zero =>
        intro j hk S1 h1
        have h1 := h1.symm
        subst h1
        refine x_iload_n eX9_digest_6 rfl ?_
        refine x_aload_n eX9_digest_7 rfl ?_
        refine s_geti eX9_digest_8 fX9_224 rfl (by decide) (by decide) ?_
        rw [(h.tab w).1]
        refine x_icmp_geN eX9_digest_11 (by omega) (by omega) (fun c_11 => ?_) (fun c_11 => ?_)
        · refine x_lload_n eX9_digest_120 rfl ?_
          exact s_lret eX9_digest_121 rfl ⟨by rw [show j = xNp X by omega], h, frM.rf _⟩
        · omega
      | succ μ ih =>
        intro j hk S1 h1
        have h1 := h1.symm
        subst h1
        refine x_iload_n eX9_digest_6 rfl ?_
        refine x_aload_n eX9_digest_7 rfl ?_
        refine s_geti eX9_digest_8 fX9_224 rfl (by decide) (by decide) ?_
        rw [(h.tab w).1]
        refine x_icmp_geN eX9_digest_11 (by omega) (by omega) (fun c_11 => ?_) (fun c_11 => ?_)
        · omega
        · refine x_aload_n eX9_digest_14 rfl ?_
          refine s_getR (k := 12) eX9_digest_15 fX9_48 rfl (by decide) (by decide) rfl ?_
          refine x_iload_n eX9_digest_18 rfl ?_
          refine s_zald eX9_digest_19 rfl (by decide) rfl (show _ < 60 by omega) ?_
          rw [((h.tab w).2.2 j (by omega)).1]
          refine x_if_eqB eX9_digest_20 (fun c_20 => ?_) (fun c_20 => ?_)
          · refine x_iinc (lv' := [_, _, _]) eX9_digest_114 rfl (by first | exact nI_inc _ | exact rfl) (by decide) rfl ?_
            refine x_goto eX9_digest_117 ?_
            refine x_pick [0, 1, 2] rfl ?_
            have := ih (j + 1) (by omega) S rfl
            rw [dgP_f (fun z => by rw [show xTh X j = false from c_20] at z; exact absurd z (by decide))] at this
            exact this
          · have tj : xTh X j = true := c_20
            have ce := ((h.tab w).2.2 j (by omega)).2 tj
            have s12 : xSz X j ≤ 12 := (wf_good w tj).2.1
            have fin : XP mX9_digest 114 [(3, .int (nI j)), (1, .long (dgI (xRg X j) (dgH X j (dgP X j)) (xSz X j))), (0, .ref 0)] [] (xwS S) (sQ (fun r S' => r = some (.long (dgP X (xNp X))) ∧ RM S' X ∧ frM S S')) := by
              refine x_iinc (lv' := [_, _, _]) eX9_digest_114 rfl (by first | exact nI_inc _ | exact rfl) (by decide) rfl ?_
              refine x_goto eX9_digest_117 ?_
              refine x_pick [0, 1, 2] rfl ?_
              have := ih (j + 1) (by omega) S rfl
              rw [dgP_t tj] at this
              exact this
            have inner : ∀ μ i, i + μ = (xSz X j) → ∀ S1, S1 = S → XP mX9_digest 77 [(4, .int (nI i)), (1, .long (dgI (xRg X j) (dgH X j (dgP X j)) i)), (3, .int (nI j)), (0, .ref 0)] [] (xwS S1) (sQ (fun r S' => r = some (.long (dgP X (xNp X))) ∧ RM S' X ∧ frM S S')) := by
              intro μ
              induction μ with
              | zero =>
                intro i hk S1 h1
                have h1 := h1.symm
                subst h1
                refine x_iload eX9_digest_77 rfl ?_
                refine x_aload_n eX9_digest_79 rfl ?_
                refine s_getR (k := 15) eX9_digest_80 fX9_58 rfl (by decide) (by decide) rfl ?_
                refine x_iload_n eX9_digest_83 rfl ?_
                refine s_iald eX9_digest_84 rfl (by decide) rfl (show _ < 60 by omega) ?_
                rw [show S.2.1 15 j = nI (xSz X j) from ce.2.2.2.2.2.1]
                refine x_icmp_geN eX9_digest_85 (by omega) (by omega) (fun c_85 => ?_) (fun c_85 => ?_)
                · obtain rfl : i = xSz X j := (by omega)
                  refine x_pick [2, 1, 3] rfl ?_
                  exact fin
                · omega
              | succ μ ih =>
                intro i hk S1 h1
                have h1 := h1.symm
                subst h1
                refine x_iload eX9_digest_77 rfl ?_
                refine x_aload_n eX9_digest_79 rfl ?_
                refine s_getR (k := 15) eX9_digest_80 fX9_58 rfl (by decide) (by decide) rfl ?_
                refine x_iload_n eX9_digest_83 rfl ?_
                refine s_iald eX9_digest_84 rfl (by decide) rfl (show _ < 60 by omega) ?_
                rw [show S.2.1 15 j = nI (xSz X j) from ce.2.2.2.2.2.1]
                refine x_icmp_geN eX9_digest_85 (by omega) (by omega) (fun c_85 => ?_) (fun c_85 => ?_)
                · omega
                · refine x_ldc2 (v := 31) eX9_digest_88 (xT 1099 (by decide +kernel) rfl) ?_
                  refine x_lload_n eX9_digest_91 rfl ?_
                  refine x_lmul eX9_digest_92 ?_
                  refine x_aload_n eX9_digest_93 rfl ?_
                  refine s_getR (k := 16) eX9_digest_94 fX9_61 rfl (by decide) (by decide) rfl ?_
                  refine x_bipush (v := nI 12) eX9_digest_97 (by decide) ?_
                  refine x_iload_n eX9_digest_99 rfl ?_
                  first | refine x_imulN eX9_digest_100 ?_ | refine x_imul eX9_digest_100 ?_
                  refine x_iload eX9_digest_101 rfl ?_
                  first | refine x_iaddN eX9_digest_103 ?_ | refine x_iadd eX9_digest_103 ?_
                  refine s_iald eX9_digest_104 rfl (by decide) rfl (show 12 * j + i < 720 by omega) ?_
                  rw [(ce.2.2.2.2.2.2 i (show i < xSz X j by omega)).1]
                  refine x_i2l eX9_digest_105 ?_
                  refine x_ladd eX9_digest_106 ?_
                  refine x_lstore_n (lv' := [_, _, _, _]) eX9_digest_107 (by decide) rfl ?_
                  refine x_iinc (lv' := [_, _, _, _]) eX9_digest_108 rfl (by first | exact nI_inc _ | exact rfl) (by decide) rfl ?_
                  refine x_goto eX9_digest_111 ?_
                  refine x_pick [0, 1, 2, 3] rfl ?_
                  exact ih (i + 1) (by omega) _ rfl
            refine x_ldc2 (v := 31) eX9_digest_23 (xT 1099 (by decide +kernel) rfl) ?_
            refine x_lload_n eX9_digest_26 rfl ?_
            refine x_lmul eX9_digest_27 ?_
            refine x_iload_n eX9_digest_28 rfl ?_
            refine x_i2l eX9_digest_29 ?_
            refine x_ladd eX9_digest_30 ?_
            refine x_lstore_n (lv' := [_, _, _]) eX9_digest_31 (by decide) rfl ?_
            refine x_ldc2 (v := 31) eX9_digest_32 (xT 1099 (by decide +kernel) rfl) ?_
            refine x_lload_n eX9_digest_35 rfl ?_
            refine x_lmul eX9_digest_36 ?_
            refine x_aload_n eX9_digest_37 rfl ?_
            refine s_getR (k := 13) eX9_digest_38 fX9_52 rfl (by decide) (by decide) rfl ?_
            refine x_iload_n eX9_digest_41 rfl ?_
            refine s_iald eX9_digest_42 rfl (by decide) rfl (show _ < 60 by omega) ?_
            rw [ce.1]
            refine x_i2l eX9_digest_43 ?_
            refine x_ladd eX9_digest_44 ?_
            refine x_lstore_n (lv' := [_, _, _]) eX9_digest_45 (by decide) rfl ?_
            refine x_ldc2 (v := 31) eX9_digest_46 (xT 1099 (by decide +kernel) rfl) ?_
            refine x_lload_n eX9_digest_49 rfl ?_
            refine x_lmul eX9_digest_50 ?_
            refine x_aload_n eX9_digest_51 rfl ?_
            refine s_getR (k := 14) eX9_digest_52 fX9_55 rfl (by decide) (by decide) rfl ?_
            refine x_iload_n eX9_digest_55 rfl ?_
            refine s_iald eX9_digest_56 rfl (by decide) rfl (show _ < 60 by omega) ?_
            rw [ce.2.1]
            refine x_i2l eX9_digest_57 ?_
            refine x_ladd eX9_digest_58 ?_
            refine x_lstore_n (lv' := [_, _, _]) eX9_digest_59 (by decide) rfl ?_
            refine x_ldc2 (v := 31) eX9_digest_60 (xT 1099 (by decide +kernel) rfl) ?_
            refine x_lload_n eX9_digest_63 rfl ?_
            refine x_lmul eX9_digest_64 ?_
            refine x_aload_n eX9_digest_65 rfl ?_
            refine s_getR (k := 15) eX9_digest_66 fX9_58 rfl (by decide) (by decide) rfl ?_
            refine x_iload_n eX9_digest_69 rfl ?_
            refine s_iald eX9_digest_70 rfl (by decide) rfl (show _ < 60 by omega) ?_
            rw [show S.2.1 15 j = nI (xSz X j) from ce.2.2.2.2.2.1]
            refine x_i2l eX9_digest_71 ?_
            refine x_ladd eX9_digest_72 ?_
            refine x_lstore_n (lv' := [_, _, _]) eX9_digest_73 (by decide) rfl ?_
            refine x_iconst (v := nI 0) eX9_digest_74 (by decide) ?_
            refine x_istore (lv' := [_, _, _, _]) eX9_digest_75 (by decide) rfl ?_
            refine x_pick [0, 1, 2, 3] rfl ?_
            exact inner (xSz X j) 0 (by omega) _ rfl
    show XP _ _ [_] _ _ _
    refine x_ldc2 (v := 23) eX9_digest_0 (xT 1098 (by decide +kernel) rfl) ?_
    refine x_lstore_n (lv' := [_, _]) eX9_digest_3 (by decide) rfl ?_
    refine x_iconst (v := nI 0) eX9_digest_4 (by decide) ?_
    refine x_istore_n (lv' := [_, _, _]) eX9_digest_5 (by decide) rfl ?_
    refine x_pick [0, 1, 2] rfl ?_
    exact loop (xNp X) 0 (by omega) _ rfl
