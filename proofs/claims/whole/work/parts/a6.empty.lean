/-! ===== the empty state of both sides ===== -/
def T00 : TB := (fun _ => false, fun _ => 0, fun _ => 0, fun _ => 0, fun _ _ => 0)
def X00 : LM := ((0, fun _ => 0, fun _ => 0), (0, fun _ => 0), (0, -1, -1), (0, T00), (false, T00), (0, fun _ => 0))
theorem wf_X00 : wf X00 := by
  refine ⟨by decide, fun s h => absurd h (Nat.not_lt_zero s), fun s t h => absurd h (Nat.not_lt_zero s), ⟨by decide, fun i h => absurd h (Nat.not_lt_zero i)⟩, ⟨by decide, fun q h => ?_, fun q h => ?_⟩, fun h => ?_, by decide, fun k h => absurd h (Nat.not_lt_zero k)⟩
  · exact absurd h (by show ¬ (false = true); decide)
  · exact absurd h (by show ¬ (false = true); decide)
  · exact absurd h (by show ¬ (false = true); decide)
theorem cent_00 (a e : Nat) (ha : a < 62) : cent S00 a T00 e := by
  refine ⟨?_, fun h => absurd h (by show ¬ (false = true); decide)⟩
  have : ∀ a, a < 62 → S00.1 (175 + a) 1 = bI false := by decide +kernel
  exact this a ha
theorem cpt_00 : cpt S00 200 (0, 0) := by
  refine ⟨by decide, vz_0 72, vz_0 72, by decide, by decide, fun _ => 0, fun _ => 0, fun k _ => ⟨⟨rfl, (show -(2 ^ 26) < (0 : Int) by decide), (show (0 : Int) < 2 ^ 26 by decide)⟩, rfl, (show -(2 ^ 26) < (0 : Int) by decide), (show (0 : Int) < 2 ^ 26 by decide)⟩, by decide, by decide⟩
theorem pt_00 : pt S00 200 (scP 2 (0, 0)) := by
  have e : ∀ i, i < 5 → can (2 ^ 24) 5 (2 * 0) i = 0 := by decide
  refine ⟨fun i hi => ?_, fun i hi => ?_, by decide, by decide, by decide⟩
  · show (0 : Int64) = lI (can (2 ^ 24) 5 (2 * 0) i)
    rw [e i hi]
    rfl
  · show (0 : Int64) = lI (can (2 ^ 24) 5 (2 * 0) i)
    rw [e i hi]
    rfl
theorem RC_00 : RC S00 X00 := by
  refine ⟨⟨rfl, fun s h => absurd h (Nat.not_lt_zero s), _, cpt_00⟩, ⟨by decide, by decide, rfl, fun i h => absurd h (Nat.not_lt_zero i)⟩, ⟨rfl, rfl, rfl⟩, ⟨rfl, fun e he => cent_00 e e (by omega)⟩, fun a ha => Or.inl ((cent_00 a a ha).1), ⟨rfl, fun h => absurd h (by show ¬ (false = true); decide)⟩, rfl, fun k h => absurd h (Nat.not_lt_zero k)⟩
theorem RM_00 : RM S00 X00 := by
  refine ⟨⟨rfl, fun s h => absurd h (Nat.not_lt_zero s), _, pt_00⟩, ⟨rfl, fun i h => absurd h (Nat.not_lt_zero i)⟩, ⟨rfl, rfl, rfl⟩, ⟨rfl, fun e h => absurd h (Nat.not_lt_zero e)⟩, ⟨rfl, fun j _ => Or.inl rfl, fun h => absurd h (by show ¬ (false = true); decide)⟩, rfl, fun k h => absurd h (Nat.not_lt_zero k)⟩
/-! ===== the calls that answer a long ===== -/
def bothJ (X : LM) (Mc Mm : xM) (args : List Value) : Prop := ∃ (v : Int64) (X' : LM), wf X' ∧ (∀ S, RC S X → Sp Mc (.ref 31 :: args) S (fun r S' => r = some (.long v) ∧ RC S' X' ∧ frC S S')) ∧ ∀ S, RM S X → Sp Mm (.ref 0 :: args) S (fun r S' => r = some (.long v) ∧ RM S' X' ∧ frM S S')
theorem bj_at {X : LM} (w : wf X) (c a : Int32) : bothJ X mX8_at mX9_at [.int c, .int a] := by
  have n200 := w.1
  by_cases q : ∃ k, k < xNc X ∧ c = nI k
  · obtain ⟨k, hk, rfl⟩ := q
    by_cases a0 : a = nI 0
    · subst a0
      refine ⟨(xBx X k), X, w, fun S h => ?_, fun S h => ?_⟩
      · show XP _ _ [_, _, _] _ _ _
        refine x_aload_n eX8_at_0 rfl ?_
        refine s_getR (k := 32) eX8_at_1 fX8_12 rfl (by decide) (by decide) rfl ?_
        refine x_iload_n eX8_at_4 rfl ?_
        refine s_callV1 (As := [_]) eX8_at_5 kX8_88 ⟨by decide, by decide⟩ rfl (by decide) (by decide) rfl rfl (Nat.le_of_ble_eq_true rfl) (Nat.le_of_ble_eq_true rfl) (sp_X2_has _ h.1.1 w.1 (nI k)) (fun S_5 h_5 => ?_)
        have h_5 := h_5.symm
        subst h_5
        refine x_if_neT eX8_at_8 (fun c_8 => ?_) (fun c_8 => ?_)
        · refine x_iload_n eX8_at_15 rfl ?_
          refine x_if_eqN eX8_at_16 (by omega) (fun c_16 => ?_) (fun c_16 => ?_)
          · refine x_aload_n eX8_at_28 rfl ?_
            refine s_getR (k := 32) eX8_at_29 fX8_12 rfl (by decide) (by decide) rfl ?_
            refine s_getR (k := 33) eX8_at_32 fX8_96 rfl (by decide) (by decide) rfl ?_
            refine x_iconst (v := nI 2) eX8_at_35 (by decide) ?_
            refine x_iload_n eX8_at_36 rfl ?_
            first | refine x_imulN eX8_at_37 ?_ | refine x_imul eX8_at_37 ?_
            refine x_iload_n eX8_at_38 rfl ?_
            first | refine x_iaddN eX8_at_39 ?_ | refine x_iadd eX8_at_39 ?_
            refine s_lald eX8_at_40 rfl (by decide) rfl (show _ < 402 by omega) ?_
            rw [show 2 * k + 0 = 2 * k from rfl, (h.1.2.1 k hk).1]
            exact s_lret eX8_at_41 rfl ⟨rfl, h, frC.rf _⟩
          · omega
        · exact absurd ⟨k, hk, rfl⟩ c_8
      · show XP _ _ [_, _, _] _ _ _
        refine x_aload_n eX9_at_0 rfl ?_
        refine x_iload_n eX9_at_1 rfl ?_
        refine s_callV1 (As := [_]) eX9_at_2 kX9_184 ⟨by decide, by decide⟩ rfl (by decide) (by decide) rfl rfl (Nat.le_of_ble_eq_true rfl) (Nat.le_of_ble_eq_true rfl) (sp_X9_isCorner _ h.1.1 w.1 (nI k)) (fun S_2 h_2 => ?_)
        have h_2 := h_2.symm
        subst h_2
        refine x_if_neB eX9_at_5 (fun c_5 => ?_) (fun c_5 => ?_)
        · refine x_iload_n eX9_at_12 rfl ?_
          refine x_if_neN eX9_at_13 (by omega) (fun c_13 => ?_) (fun c_13 => ?_)
          · omega
          · refine x_aload_n eX9_at_16 rfl ?_
            refine s_getR (k := 1) eX9_at_17 fX9_7 rfl (by decide) (by decide) rfl ?_
            refine x_iload_n eX9_at_20 rfl ?_
            refine s_lald eX9_at_21 rfl (by decide) rfl (show _ < 202 by omega) ?_
            rw [(h.1.2.1 k hk).1]
            refine x_goto eX9_at_22 ?_
            exact s_lret eX9_at_42 rfl ⟨rfl, h, frM.rf _⟩
        · exact absurd ⟨k, hk, rfl⟩ (of_decide_eq_false c_5)
    · by_cases a1 : a = nI 1
      · subst a1
        refine ⟨(xBy X k), X, w, fun S h => ?_, fun S h => ?_⟩
        · show XP _ _ [_, _, _] _ _ _
          refine x_aload_n eX8_at_0 rfl ?_
          refine s_getR (k := 32) eX8_at_1 fX8_12 rfl (by decide) (by decide) rfl ?_
          refine x_iload_n eX8_at_4 rfl ?_
          refine s_callV1 (As := [_]) eX8_at_5 kX8_88 ⟨by decide, by decide⟩ rfl (by decide) (by decide) rfl rfl (Nat.le_of_ble_eq_true rfl) (Nat.le_of_ble_eq_true rfl) (sp_X2_has _ h.1.1 w.1 (nI k)) (fun S_5 h_5 => ?_)
          have h_5 := h_5.symm
          subst h_5
          refine x_if_neT eX8_at_8 (fun c_8 => ?_) (fun c_8 => ?_)
          · refine x_iload_n eX8_at_15 rfl ?_
            refine x_if_eqN eX8_at_16 (by omega) (fun c_16 => ?_) (fun c_16 => ?_)
            · omega
            · refine x_iload_n eX8_at_19 rfl ?_
              refine x_iconst (v := nI 1) eX8_at_20 (by decide) ?_
              refine x_icmp_eqN eX8_at_21 (by omega) (by omega) (fun c_21 => ?_) (fun c_21 => ?_)
              · refine x_aload_n eX8_at_28 rfl ?_
                refine s_getR (k := 32) eX8_at_29 fX8_12 rfl (by decide) (by decide) rfl ?_
                refine s_getR (k := 33) eX8_at_32 fX8_96 rfl (by decide) (by decide) rfl ?_
                refine x_iconst (v := nI 2) eX8_at_35 (by decide) ?_
                refine x_iload_n eX8_at_36 rfl ?_
                first | refine x_imulN eX8_at_37 ?_ | refine x_imul eX8_at_37 ?_
                refine x_iload_n eX8_at_38 rfl ?_
                first | refine x_iaddN eX8_at_39 ?_ | refine x_iadd eX8_at_39 ?_
                refine s_lald eX8_at_40 rfl (by decide) rfl (show _ < 402 by omega) ?_
                rw [(h.1.2.1 k hk).2.1]
                exact s_lret eX8_at_41 rfl ⟨rfl, h, frC.rf _⟩
              · omega
          · exact absurd ⟨k, hk, rfl⟩ c_8
        · show XP _ _ [_, _, _] _ _ _
          refine x_aload_n eX9_at_0 rfl ?_
          refine x_iload_n eX9_at_1 rfl ?_
          refine s_callV1 (As := [_]) eX9_at_2 kX9_184 ⟨by decide, by decide⟩ rfl (by decide) (by decide) rfl rfl (Nat.le_of_ble_eq_true rfl) (Nat.le_of_ble_eq_true rfl) (sp_X9_isCorner _ h.1.1 w.1 (nI k)) (fun S_2 h_2 => ?_)
          have h_2 := h_2.symm
          subst h_2
          refine x_if_neB eX9_at_5 (fun c_5 => ?_) (fun c_5 => ?_)
          · refine x_iload_n eX9_at_12 rfl ?_
            refine x_if_neN eX9_at_13 (by omega) (fun c_13 => ?_) (fun c_13 => ?_)
            · refine x_iload_n eX9_at_25 rfl ?_
              refine x_iconst (v := nI 1) eX9_at_26 (by decide) ?_
              refine x_icmp_neN eX9_at_27 (by omega) (by omega) (fun c_27 => ?_) (fun c_27 => ?_)
              · omega
              · refine x_aload_n eX9_at_30 rfl ?_
                refine s_getR (k := 2) eX9_at_31 fX9_13 rfl (by decide) (by decide) rfl ?_
                refine x_iload_n eX9_at_34 rfl ?_
                refine s_lald eX9_at_35 rfl (by decide) rfl (show _ < 202 by omega) ?_
                rw [(h.1.2.1 k hk).2.1]
                refine x_goto eX9_at_36 ?_
                exact s_lret eX9_at_42 rfl ⟨rfl, h, frM.rf _⟩
            · omega
          · exact absurd ⟨k, hk, rfl⟩ (of_decide_eq_false c_5)
      · refine ⟨(-102), X, w, fun S h => ?_, fun S h => ?_⟩
        · show XP _ _ [_, _, _] _ _ _
          refine x_aload_n eX8_at_0 rfl ?_
          refine s_getR (k := 32) eX8_at_1 fX8_12 rfl (by decide) (by decide) rfl ?_
          refine x_iload_n eX8_at_4 rfl ?_
          refine s_callV1 (As := [_]) eX8_at_5 kX8_88 ⟨by decide, by decide⟩ rfl (by decide) (by decide) rfl rfl (Nat.le_of_ble_eq_true rfl) (Nat.le_of_ble_eq_true rfl) (sp_X2_has _ h.1.1 w.1 (nI k)) (fun S_5 h_5 => ?_)
          have h_5 := h_5.symm
          subst h_5
          refine x_if_neT eX8_at_8 (fun c_8 => ?_) (fun c_8 => ?_)
          · refine x_iload_n eX8_at_15 rfl ?_
            refine x_if_eq eX8_at_16 (fun c_16 => ?_) (fun c_16 => ?_)
            · exact absurd c_16 a0
            · refine x_iload_n eX8_at_19 rfl ?_
              refine x_iconst (v := nI 1) eX8_at_20 (by decide) ?_
              refine x_icmp_eq eX8_at_21 (fun c_21 => ?_) (fun c_21 => ?_)
              · exact absurd c_21 a1
              · refine x_ldc2 (v := -102) eX8_at_24 (xT 287 (by decide +kernel) rfl) ?_
                exact s_lret eX8_at_27 rfl ⟨rfl, h, frC.rf _⟩
          · exact absurd ⟨k, hk, rfl⟩ c_8
        · show XP _ _ [_, _, _] _ _ _
          refine x_aload_n eX9_at_0 rfl ?_
          refine x_iload_n eX9_at_1 rfl ?_
          refine s_callV1 (As := [_]) eX9_at_2 kX9_184 ⟨by decide, by decide⟩ rfl (by decide) (by decide) rfl rfl (Nat.le_of_ble_eq_true rfl) (Nat.le_of_ble_eq_true rfl) (sp_X9_isCorner _ h.1.1 w.1 (nI k)) (fun S_2 h_2 => ?_)
          have h_2 := h_2.symm
          subst h_2
          refine x_if_neB eX9_at_5 (fun c_5 => ?_) (fun c_5 => ?_)
          · refine x_iload_n eX9_at_12 rfl ?_
            refine x_if_ne eX9_at_13 (fun c_13 => ?_) (fun c_13 => ?_)
            · refine x_iload_n eX9_at_25 rfl ?_
              refine x_iconst (v := nI 1) eX9_at_26 (by decide) ?_
              refine x_icmp_ne eX9_at_27 (fun c_27 => ?_) (fun c_27 => ?_)
              · refine x_ldc2 (v := -102) eX9_at_39 (xT 859 (by decide +kernel) rfl) ?_
                exact s_lret eX9_at_42 rfl ⟨rfl, h, frM.rf _⟩
              · exact absurd c_27 a1
            · exact absurd c_13 a0
          · exact absurd ⟨k, hk, rfl⟩ (of_decide_eq_false c_5)
  · refine ⟨(-101), X, w, fun S h => ?_, fun S h => ?_⟩
    · show XP _ _ [_, _, _] _ _ _
      refine x_aload_n eX8_at_0 rfl ?_
      refine s_getR (k := 32) eX8_at_1 fX8_12 rfl (by decide) (by decide) rfl ?_
      refine x_iload_n eX8_at_4 rfl ?_
      refine s_callV1 (As := [_]) eX8_at_5 kX8_88 ⟨by decide, by decide⟩ rfl (by decide) (by decide) rfl rfl (Nat.le_of_ble_eq_true rfl) (Nat.le_of_ble_eq_true rfl) (sp_X2_has _ h.1.1 w.1 c) (fun S_5 h_5 => ?_)
      have h_5 := h_5.symm
      subst h_5
      refine x_if_neT eX8_at_8 (fun c_8 => ?_) (fun c_8 => ?_)
      · exact absurd c_8 q
      · refine x_ldc2 (v := -101) eX8_at_11 (xT 286 (by decide +kernel) rfl) ?_
        exact s_lret eX8_at_14 rfl ⟨rfl, h, frC.rf _⟩
    · show XP _ _ [_, _, _] _ _ _
      refine x_aload_n eX9_at_0 rfl ?_
      refine x_iload_n eX9_at_1 rfl ?_
      refine s_callV1 (As := [_]) eX9_at_2 kX9_184 ⟨by decide, by decide⟩ rfl (by decide) (by decide) rfl rfl (Nat.le_of_ble_eq_true rfl) (Nat.le_of_ble_eq_true rfl) (sp_X9_isCorner _ h.1.1 w.1 c) (fun S_2 h_2 => ?_)
      have h_2 := h_2.symm
      subst h_2
      refine x_if_neB eX9_at_5 (fun c_5 => ?_) (fun c_5 => ?_)
      · exact absurd (of_decide_eq_true c_5) q
      · refine x_ldc2 (v := -101) eX9_at_8 (xT 858 (by decide +kernel) rfl) ?_
        exact s_lret eX9_at_11 rfl ⟨rfl, h, frM.rf _⟩
theorem bj_twice {X : LM} (w : wf X) (p : Int32) : bothJ X mX8_twice mX9_twice [.int p] := by
  have n60 : xNp X ≤ 60 := w.2.2.2.2.1.1
  by_cases hp : xHas X p
  rotate_left
  · refine ⟨(-101), X, w, fun S h => ?_, fun S h => ?_⟩
    · show XP _ _ [_, _] _ _ _
      refine x_aload_n eX8_twice_0 rfl ?_
      refine s_getR (k := 37) eX8_twice_1 fX8_28 rfl (by decide) (by decide) rfl ?_
      refine x_iload_n eX8_twice_4 rfl ?_
      refine s_callV1 (As := [_]) eX8_twice_5 kX8_144 ⟨by decide, by decide⟩ rfl (by decide) (by decide) rfl rfl (Nat.le_of_ble_eq_true rfl) (Nat.le_of_ble_eq_true rfl) (sp_X3_has (h.tab w) p) (fun S_5 h_5 => ?_)
      have h_5 := h_5.symm
      subst h_5
      refine x_if_neT eX8_twice_8 (fun c_8 => ?_) (fun c_8 => ?_)
      · exact absurd c_8 hp
      · refine x_ldc2 (v := -101) eX8_twice_11 (xT 286 (by decide +kernel) rfl) ?_
        exact s_lret eX8_twice_14 rfl ⟨rfl, h, frC.rf _⟩
    · show XP _ _ [_, _] _ _ _
      refine x_aload_n eX9_twice_0 rfl ?_
      refine x_iload_n eX9_twice_1 rfl ?_
      refine s_callV1 (As := [_]) eX9_twice_2 kX9_284 ⟨by decide, by decide⟩ rfl (by decide) (by decide) rfl rfl (Nat.le_of_ble_eq_true rfl) (Nat.le_of_ble_eq_true rfl) (sp_X9_isParcel (h.tab w) p) (fun S_2 h_2 => ?_)
      have h_2 := h_2.symm
      subst h_2
      refine x_if_neT eX9_twice_5 (fun c_5 => ?_) (fun c_5 => ?_)
      · exact absurd c_5 hp
      · refine x_ldc2 (v := -101) eX9_twice_8 (xT 858 (by decide +kernel) rfl) ?_
        exact s_lret eX9_twice_11 rfl ⟨rfl, h, frM.rf _⟩
  obtain ⟨a, ha, rfl, ta⟩ := hp
  have ya : xHas X (nI a) := ⟨a, ha, rfl, ta⟩
  have ab := xAr_bd w ta
  refine ⟨(lI (xAr X a / 2 ^ 144)), X, w, fun S h => ?_, fun S h => ?_⟩
  · show XP _ _ [_, _] _ _ _
    refine x_aload_n eX8_twice_0 rfl ?_
    refine s_getR (k := 37) eX8_twice_1 fX8_28 rfl (by decide) (by decide) rfl ?_
    refine x_iload_n eX8_twice_4 rfl ?_
    refine s_callV1 (As := [_]) eX8_twice_5 kX8_144 ⟨by decide, by decide⟩ rfl (by decide) (by decide) rfl rfl (Nat.le_of_ble_eq_true rfl) (Nat.le_of_ble_eq_true rfl) (sp_X3_has (h.tab w) (nI a)) (fun S_5 h_5 => ?_)
    have h_5 := h_5.symm
    subst h_5
    refine x_if_neT eX8_twice_8 (fun c_8 => ?_) (fun c_8 => ?_)
    · refine x_aload_n eX8_twice_15 rfl ?_
      refine s_getR (k := 32) eX8_twice_16 fX8_12 rfl (by decide) (by decide) rfl ?_
      refine x_aload_n eX8_twice_19 rfl ?_
      refine s_getR (k := 37) eX8_twice_20 fX8_28 rfl (by decide) (by decide) rfl ?_
      refine s_getR (k := 38) eX8_twice_23 fX8_145 rfl (by decide) (by decide) rfl ?_
      refine x_iload_n eX8_twice_26 rfl ?_
      refine s_raldR eX8_twice_27 (by first | exact Or.inl rfl | exact Or.inr rfl) (by decide) rfl (show _ < 60 by omega) (rf_parcels a) ?_
      refine s_getR (k := (45 + 2 * a)) eX8_twice_28 fX8_157 (kd_parcel (by omega)) (show _ < 365 by omega) (by decide) (rf_parcel (by omega)) ?_
      refine x_aload_n eX8_twice_31 rfl ?_
      refine s_getR (k := 39) eX8_twice_32 fX8_35 rfl (by decide) (by decide) rfl ?_
      refine s_getR (k := 359) eX8_twice_35 fX8_237 rfl (by decide) (by decide) rfl ?_
      refine s_callV0 (As := [_, _]) eX8_twice_38 kX8_241 ⟨by decide, by decide⟩ rfl (by decide) (by decide) rfl rfl (Nat.le_of_ble_eq_true rfl) (Nat.le_of_ble_eq_true rfl) (c_measure w h (v := 61) ha ta (by decide)) (fun S_38 h_38 => ?_)
      refine x_aload_n eX8_twice_41 rfl ?_
      refine s_getR (k := 39) eX8_twice_42 fX8_35 rfl (by decide) (by decide) rfl ?_
      refine s_getR (k := 359) eX8_twice_45 fX8_237 rfl (by decide) (by decide) rfl ?_
      refine s_callV1 (As := []) eX8_twice_48 kX8_245 ⟨by decide, by decide⟩ rfl (by decide) (by decide) rfl rfl (Nat.le_of_ble_eq_true rfl) (Nat.le_of_ble_eq_true rfl) (sp_X7_wholePart (v := 61) (by decide) _ h_38.2 (in26 (xAr_240 w ta).1)) (fun S_48 h_48 => ?_)
      have h_48 := h_48.symm
      subst h_48
      exact s_lret eX8_twice_51 rfl ⟨rfl, RC_L h h_38.1, h_38.1.frC (by simp)⟩
    · exact absurd ya c_8
  · show XP _ _ [_, _] _ _ _
    refine x_aload_n eX9_twice_0 rfl ?_
    refine x_iload_n eX9_twice_1 rfl ?_
    refine s_callV1 (As := [_]) eX9_twice_2 kX9_284 ⟨by decide, by decide⟩ rfl (by decide) (by decide) rfl rfl (Nat.le_of_ble_eq_true rfl) (Nat.le_of_ble_eq_true rfl) (sp_X9_isParcel (h.tab w) (nI a)) (fun S_2 h_2 => ?_)
    have h_2 := h_2.symm
    subst h_2
    refine x_if_neT eX9_twice_5 (fun c_5 => ?_) (fun c_5 => ?_)
    · refine x_aload_n eX9_twice_12 rfl ?_
      refine x_iload_n eX9_twice_13 rfl ?_
      refine s_callV0 (As := [_]) eX9_twice_14 kX9_306 ⟨by decide, by decide⟩ rfl (by decide) (by decide) rfl rfl (Nat.le_of_ble_eq_true rfl) (Nat.le_of_ble_eq_true rfl) (m_weigh w h ha ta) (fun S_14 h_14 => ?_)
      have loop : ∀ d, d < 4 → XP mX9_twice 34 [(4, .int (nI (5 + d))), (2, .long (lI ((4 * xAr X a) / (2 ^ 24) ^ (5 + d + 1)))), (0, .ref 0), (1, .int (nI a))] [] (xwS S_14) (sQ (fun r S' => r = some (.long (lI (xAr X a / 2 ^ 144))) ∧ RM S' X ∧ frM S S')) := by
        intro d
        induction d with
        | zero =>
          intro _
          refine x_iload eX9_twice_34 rfl ?_
          refine x_bipush (v := nI 6) eX9_twice_36 (by decide) ?_
          refine x_icmp_ltN eX9_twice_38 (by omega) (by omega) (fun c_38 => ?_) (fun c_38 => ?_)
          · refine x_lload_n eX9_twice_65 rfl ?_
            refine x_iconst (v := nI 2) eX9_twice_66 (by decide) ?_
            refine x_lshr eX9_twice_67 rfl ?_
            rw [lI_shr (z := (4 * xAr X a) / (2 ^ 24) ^ (5 + 0 + 1)) (by rw [show ((2 : Int) ^ 24) ^ (5 + 0 + 1) = 2 ^ 144 by decide]; unfold inL; omega) (shc (d := 2) (by decide))]
            exact s_lret eX9_twice_68 rfl ⟨by congr 3; rw [show ((2 : Int) ^ 24) ^ (5 + 0 + 1) = 2 ^ 144 by decide]; omega, RM_Lx h h_14.1 (by simp) (by simp) (by simp) (by simp), h_14.1.frM (by simp)⟩
          · omega
        | succ d ih =>
          intro hd
          refine x_iload eX9_twice_34 rfl ?_
          refine x_bipush (v := nI 6) eX9_twice_36 (by decide) ?_
          refine x_icmp_ltN eX9_twice_38 (by omega) (by omega) (fun c_38 => ?_) (fun c_38 => ?_)
          · omega
          · refine x_lload_n eX9_twice_41 rfl ?_
            refine x_bipush (v := nI 24) eX9_twice_42 (by decide) ?_
            refine x_lshl eX9_twice_44 rfl ?_
            rw [lI_shl _ (shc (d := 24) (by decide))]
            refine x_aload_n eX9_twice_45 rfl ?_
            refine s_getR (k := 27) eX9_twice_46 fX9_97 rfl (by decide) (by decide) rfl ?_
            refine x_bipush (v := nI 10) eX9_twice_49 (by decide) ?_
            refine x_iload_n eX9_twice_51 rfl ?_
            first | refine x_imulN eX9_twice_52 ?_ | refine x_imul eX9_twice_52 ?_
            refine x_iload eX9_twice_53 rfl ?_
            first | refine x_iaddN eX9_twice_55 ?_ | refine x_iadd eX9_twice_55 ?_
            refine s_lald eX9_twice_56 rfl (by decide) rfl (show 10 * a + (5 + (d + 1)) < 600 by omega) ?_
            rw [show S_14.2.2.1 27 (10 * a + (5 + (d + 1))) = lI (can (2 ^ 24) 10 (4 * xAr X a) (5 + (d + 1))) from h_14.2.1 _ (by omega)]
            refine x_lor eX9_twice_57 ?_
            rw [can_lo (show 5 + (d + 1) + 1 < 10 by omega), lI_orl (Int.emod_nonneg _ (by decide)) (Int.emod_lt_of_pos _ (by decide)), show (4 * xAr X a) / (2 ^ 24) ^ (5 + (d + 1) + 1) * 2 ^ 24 + (4 * xAr X a) / (2 ^ 24) ^ (5 + (d + 1)) % 2 ^ 24 = (4 * xAr X a) / (2 ^ 24) ^ (5 + d + 1) from by rw [Int.pow_succ _ (5 + (d + 1)), ← Int.ediv_ediv_of_nonneg (Int.le_of_lt (Int.pow_pos (by decide))), show 5 + (d + 1) = 5 + d + 1 by omega, Int.mul_comm _ ((2 : Int) ^ 24), Int.mul_ediv_add_emod]]
            refine x_lstore_n (lv' := [_, _, _, _]) eX9_twice_58 (by decide) rfl ?_
            refine x_iinc (lv' := [_, _, _, _]) eX9_twice_59 rfl (show nI (5 + (d + 1)) + Int32.ofInt (-1) = nI (5 + d) by rw [show 5 + (d + 1) = 5 + d + 1 by omega, nI_dec, dI_s]) (by decide) rfl ?_
            refine x_goto eX9_twice_62 ?_
            refine x_pick [0, 1, 2, 3] rfl ?_
            exact ih (by omega)
      refine x_aload_n eX9_twice_17 rfl ?_
      refine s_getR (k := 27) eX9_twice_18 fX9_97 rfl (by decide) (by decide) rfl ?_
      refine x_bipush (v := nI 10) eX9_twice_21 (by decide) ?_
      refine x_iload_n eX9_twice_23 rfl ?_
      first | refine x_imulN eX9_twice_24 ?_ | refine x_imul eX9_twice_24 ?_
      refine x_bipush (v := nI 9) eX9_twice_25 (by decide) ?_
      first | refine x_iaddN eX9_twice_27 ?_ | refine x_iadd eX9_twice_27 ?_
      refine s_lald eX9_twice_28 rfl (by decide) rfl (show _ < 600 by omega) ?_
      rw [show S_14.2.2.1 27 (10 * a + 9) = lI (can (2 ^ 24) 10 (4 * xAr X a) 9) from h_14.2.1 9 (by decide), can_hi (by decide)]
      refine x_lstore_n (lv' := [_, _, _]) eX9_twice_29 (by decide) rfl ?_
      refine x_bipush (v := nI 8) eX9_twice_30 (by decide) ?_
      refine x_istore (lv' := [_, _, _, _]) eX9_twice_32 (by decide) rfl ?_
      refine x_pick [0, 1, 2, 3] rfl ?_
      exact loop 3 (by decide)
    · exact absurd ya c_5
theorem bj_digest {X : LM} (w : wf X) : bothJ X mX8_digest mX9_digest [] := by
  have n60 : xNp X ≤ 60 := w.2.2.2.2.1.1
  refine ⟨(dgP X (xNp X)), X, w, fun S h => ?_, fun S h => ?_⟩
  · skip
    have loop : ∀ μ j, j + μ = (xNp X) → ∀ S1, S1 = S → XP mX8_digest 6 [(3, .int (nI j)), (1, .long (dgP X j)), (0, .ref 31)] [] (xwS S1) (sQ (fun r S' => r = some (.long (dgP X (xNp X))) ∧ RC S' X ∧ frC S S')) := by
      intro μ
      induction μ with
      | zero =>
        intro j hk S1 h1
        have h1 := h1.symm
        subst h1
        refine x_iload_n eX8_digest_6 rfl ?_
        refine x_aload_n eX8_digest_7 rfl ?_
        refine s_getR (k := 37) eX8_digest_8 fX8_28 rfl (by decide) (by decide) rfl ?_
        refine s_geti eX8_digest_11 fX8_136 rfl (by decide) (by decide) ?_
        rw [(h.tab w).1]
        refine x_icmp_geN eX8_digest_14 (by omega) (by omega) (fun c_14 => ?_) (fun c_14 => ?_)
        · refine x_lload_n eX8_digest_136 rfl ?_
          exact s_lret eX8_digest_137 rfl ⟨by rw [show j = xNp X by omega], h, frC.rf _⟩
        · omega
      | succ μ ih =>
        intro j hk S1 h1
        have h1 := h1.symm
        subst h1
        refine x_iload_n eX8_digest_6 rfl ?_
        refine x_aload_n eX8_digest_7 rfl ?_
        refine s_getR (k := 37) eX8_digest_8 fX8_28 rfl (by decide) (by decide) rfl ?_
        refine s_geti eX8_digest_11 fX8_136 rfl (by decide) (by decide) ?_
        rw [(h.tab w).1]
        refine x_icmp_geN eX8_digest_14 (by omega) (by omega) (fun c_14 => ?_) (fun c_14 => ?_)
        · omega
        · refine x_aload_n eX8_digest_17 rfl ?_
          refine s_getR (k := 37) eX8_digest_18 fX8_28 rfl (by decide) (by decide) rfl ?_
          refine x_iload_n eX8_digest_21 rfl ?_
          refine s_callV1 (As := [_]) eX8_digest_22 kX8_144 ⟨by decide, by decide⟩ rfl (by decide) (by decide) rfl rfl (Nat.le_of_ble_eq_true rfl) (Nat.le_of_ble_eq_true rfl) (sp_X3_has (h.tab w) _) (fun S_22 h_22 => ?_)
          have h_22 := h_22.symm
          subst h_22
          refine x_if_eqT eX8_digest_25 (fun c_25 => ?_) (fun c_25 => ?_)
          · refine x_iinc (lv' := [_, _, _]) eX8_digest_130 rfl (by first | exact nI_inc _ | exact rfl) (by decide) rfl ?_
            refine x_goto eX8_digest_133 ?_
            refine x_pick [0, 1, 2] rfl ?_
            have := ih (j + 1) (by omega) S rfl
            rw [dgP_f (fun z => c_25 ⟨j, by omega, rfl, z⟩)] at this
            exact this
          · have tj : xTh X j = true := has_t n60 c_25
            have ce := ((h.tab w).2.2 j (by omega)).2 tj
            have s12 : xSz X j ≤ 12 := (wf_good w tj).2.1
            have fin : XP mX8_digest 130 [(3, .int (nI j)), (1, .long (dgI (xRg X j) (dgH X j (dgP X j)) (xSz X j))), (0, .ref 31)] [] (xwS S) (sQ (fun r S' => r = some (.long (dgP X (xNp X))) ∧ RC S' X ∧ frC S S')) := by
              refine x_iinc (lv' := [_, _, _]) eX8_digest_130 rfl (by first | exact nI_inc _ | exact rfl) (by decide) rfl ?_
              refine x_goto eX8_digest_133 ?_
              refine x_pick [0, 1, 2] rfl ?_
              have := ih (j + 1) (by omega) S rfl
              rw [dgP_t tj] at this
              exact this
            have inner : ∀ μ i, i + μ = (xSz X j) → ∀ S1, S1 = S → XP mX8_digest 93 [(5, .int (nI i)), (4, .ref (175 + j)), (1, .long (dgI (xRg X j) (dgH X j (dgP X j)) i)), (3, .int (nI j)), (0, .ref 31)] [] (xwS S1) (sQ (fun r S' => r = some (.long (dgP X (xNp X))) ∧ RC S' X ∧ frC S S')) := by
              intro μ
              induction μ with
              | zero =>
                intro i hk S1 h1
                have h1 := h1.symm
                subst h1
                refine x_iload eX8_digest_93 rfl ?_
                refine x_aload eX8_digest_95 rfl ?_
                refine s_getR (k := (45 + 2 * j)) eX8_digest_97 fX8_157 (kd_parcel (by omega)) (show _ < 365 by omega) (by decide) (rf_parcel (by omega)) ?_
                refine s_geti eX8_digest_100 fX8_115 (kd_ring (by omega)) (show _ < 365 by omega) (by decide) ?_
                rw [show S.1 (45 + 2 * j) 1 = nI (xSz X j) from ce.2.2.2.2.1]
                refine x_icmp_geN eX8_digest_103 (by omega) (by omega) (fun c_103 => ?_) (fun c_103 => ?_)
                · obtain rfl : i = xSz X j := (by omega)
                  refine x_pick [3, 2, 4] rfl ?_
                  exact fin
                · omega
              | succ μ ih =>
                intro i hk S1 h1
                have h1 := h1.symm
                subst h1
                refine x_iload eX8_digest_93 rfl ?_
                refine x_aload eX8_digest_95 rfl ?_
                refine s_getR (k := (45 + 2 * j)) eX8_digest_97 fX8_157 (kd_parcel (by omega)) (show _ < 365 by omega) (by decide) (rf_parcel (by omega)) ?_
                refine s_geti eX8_digest_100 fX8_115 (kd_ring (by omega)) (show _ < 365 by omega) (by decide) ?_
                rw [show S.1 (45 + 2 * j) 1 = nI (xSz X j) from ce.2.2.2.2.1]
                refine x_icmp_geN eX8_digest_103 (by omega) (by omega) (fun c_103 => ?_) (fun c_103 => ?_)
                · omega
                · refine x_ldc2 (v := 31) eX8_digest_106 (xT 682 (by decide +kernel) rfl) ?_
                  refine x_lload_n eX8_digest_109 rfl ?_
                  refine x_lmul eX8_digest_110 ?_
                  refine x_aload eX8_digest_111 rfl ?_
                  refine s_getR (k := (45 + 2 * j)) eX8_digest_113 fX8_157 (kd_parcel (by omega)) (show _ < 365 by omega) (by decide) (rf_parcel (by omega)) ?_
                  refine x_iload eX8_digest_116 rfl ?_
                  refine s_callV1 (As := [_]) eX8_digest_118 kX8_160 ⟨by decide, by decide⟩ (kd_ring (by omega)) (by decide) (show _ < 365 by omega) rfl rfl (Nat.le_of_ble_eq_true rfl) (Nat.le_of_ble_eq_true rfl) (sp_X4_around _ ce.2.2 (good_c w tj).1 (by omega)) (fun S_118 h_118 => ?_)
                  have h_118 := h_118.symm
                  subst h_118
                  rw [Nat.mod_eq_of_lt (show i < tSz (xTb X) j by show i < xSz X j; omega)]
                  refine x_i2l eX8_digest_121 ?_
                  refine x_ladd eX8_digest_122 ?_
                  refine x_lstore_n (lv' := [_, _, _, _, _]) eX8_digest_123 (by decide) rfl ?_
                  refine x_iinc (lv' := [_, _, _, _, _]) eX8_digest_124 rfl (by first | exact nI_inc _ | exact rfl) (by decide) rfl ?_
                  refine x_goto eX8_digest_127 ?_
                  refine x_pick [0, 2, 1, 3, 4] rfl ?_
                  exact ih (i + 1) (by omega) _ rfl
            refine x_aload_n eX8_digest_28 rfl ?_
            refine s_getR (k := 37) eX8_digest_29 fX8_28 rfl (by decide) (by decide) rfl ?_
            refine s_getR (k := 38) eX8_digest_32 fX8_145 rfl (by decide) (by decide) rfl ?_
            refine x_iload_n eX8_digest_35 rfl ?_
            refine s_raldR eX8_digest_36 (by first | exact Or.inl rfl | exact Or.inr rfl) (by decide) rfl (show _ < 60 by omega) (rf_parcels j) ?_
            refine x_astore (lv' := [_, _, _, _]) eX8_digest_37 (by decide) rfl ?_
            refine x_ldc2 (v := 31) eX8_digest_39 (xT 682 (by decide +kernel) rfl) ?_
            refine x_lload_n eX8_digest_42 rfl ?_
            refine x_lmul eX8_digest_43 ?_
            refine x_iload_n eX8_digest_44 rfl ?_
            refine x_i2l eX8_digest_45 ?_
            refine x_ladd eX8_digest_46 ?_
            refine x_lstore_n (lv' := [_, _, _, _]) eX8_digest_47 (by decide) rfl ?_
            refine x_ldc2 (v := 31) eX8_digest_48 (xT 682 (by decide +kernel) rfl) ?_
            refine x_lload_n eX8_digest_51 rfl ?_
            refine x_lmul eX8_digest_52 ?_
            refine x_aload eX8_digest_53 rfl ?_
            refine s_geti eX8_digest_55 fX8_149 (kd_parcel (by omega)) (show _ < 365 by omega) (by decide) ?_
            rw [ce.1]
            refine x_i2l eX8_digest_58 ?_
            refine x_ladd eX8_digest_59 ?_
            refine x_lstore_n (lv' := [_, _, _, _]) eX8_digest_60 (by decide) rfl ?_
            refine x_ldc2 (v := 31) eX8_digest_61 (xT 682 (by decide +kernel) rfl) ?_
            refine x_lload_n eX8_digest_64 rfl ?_
            refine x_lmul eX8_digest_65 ?_
            refine x_aload eX8_digest_66 rfl ?_
            refine s_geti eX8_digest_68 fX8_154 (kd_parcel (by omega)) (show _ < 365 by omega) (by decide) ?_
            rw [ce.2.1]
            refine x_i2l eX8_digest_71 ?_
            refine x_ladd eX8_digest_72 ?_
            refine x_lstore_n (lv' := [_, _, _, _]) eX8_digest_73 (by decide) rfl ?_
            refine x_ldc2 (v := 31) eX8_digest_74 (xT 682 (by decide +kernel) rfl) ?_
            refine x_lload_n eX8_digest_77 rfl ?_
            refine x_lmul eX8_digest_78 ?_
            refine x_aload eX8_digest_79 rfl ?_
            refine s_getR (k := (45 + 2 * j)) eX8_digest_81 fX8_157 (kd_parcel (by omega)) (show _ < 365 by omega) (by decide) (rf_parcel (by omega)) ?_
            refine s_geti eX8_digest_84 fX8_115 (kd_ring (by omega)) (show _ < 365 by omega) (by decide) ?_
            rw [show S.1 (45 + 2 * j) 1 = nI (xSz X j) from ce.2.2.2.2.1]
            refine x_i2l eX8_digest_87 ?_
            refine x_ladd eX8_digest_88 ?_
            refine x_lstore_n (lv' := [_, _, _, _]) eX8_digest_89 (by decide) rfl ?_
            refine x_iconst (v := nI 0) eX8_digest_90 (by decide) ?_
            refine x_istore (lv' := [_, _, _, _, _]) eX8_digest_91 (by decide) rfl ?_
            refine x_pick [0, 2, 1, 3, 4] rfl ?_
            exact inner (xSz X j) 0 (by omega) _ rfl
    show XP _ _ [_] _ _ _
    refine x_ldc2 (v := 23) eX8_digest_0 (xT 681 (by decide +kernel) rfl) ?_
    refine x_lstore_n (lv' := [_, _]) eX8_digest_3 (by decide) rfl ?_
    refine x_iconst (v := nI 0) eX8_digest_4 (by decide) ?_
    refine x_istore_n (lv' := [_, _, _]) eX8_digest_5 (by decide) rfl ?_
    refine x_pick [0, 1, 2] rfl ?_
    exact loop (xNp X) 0 (by omega) _ rfl
  · skip
    have loop : ∀ μ j, j + μ = (xNp X) → ∀ S1, S1 = S → XP mX9_digest 6 [(3, .int (nI j)), (1, .long (dgP X j)), (0, .ref 0)] [] (xwS S1) (sQ (fun r S' => r = some (.long (dgP X (xNp X))) ∧ RM S' X ∧ frM S S')) := by
      intro μ
      induction μ with
      | zero =>
        intro j hk S1 h1
        have h1 := h1.symm
        subst h1
        refine x_iload_n eX9_digest_6 rfl ?_
        refine x_aload_n eX9_digest_7 rfl ?_
        refine s_geti eX9_digest_8 fX9_224 rfl (by decide) (by decide) ?_
        rw [(h.tab w).1]
        refine x_icmp_geN eX9_digest_11 (by omega) (by omega) (fun c_11 => ?_) (fun c_11 => ?_)
        · refine x_lload_n eX9_digest_120 rfl ?_
          exact s_lret eX9_digest_121 rfl ⟨by rw [show j = xNp X by omega], h, frM.rf _⟩
        · omega
      | succ μ ih =>
        intro j hk S1 h1
        have h1 := h1.symm
        subst h1
        refine x_iload_n eX9_digest_6 rfl ?_
        refine x_aload_n eX9_digest_7 rfl ?_
        refine s_geti eX9_digest_8 fX9_224 rfl (by decide) (by decide) ?_
        rw [(h.tab w).1]
        refine x_icmp_geN eX9_digest_11 (by omega) (by omega) (fun c_11 => ?_) (fun c_11 => ?_)
        · omega
        · refine x_aload_n eX9_digest_14 rfl ?_
          refine s_getR (k := 12) eX9_digest_15 fX9_48 rfl (by decide) (by decide) rfl ?_
          refine x_iload_n eX9_digest_18 rfl ?_
          refine s_zald eX9_digest_19 rfl (by decide) rfl (show _ < 60 by omega) ?_
          rw [((h.tab w).2.2 j (by omega)).1]
          refine x_if_eqB eX9_digest_20 (fun c_20 => ?_) (fun c_20 => ?_)
          · refine x_iinc (lv' := [_, _, _]) eX9_digest_114 rfl (by first | exact nI_inc _ | exact rfl) (by decide) rfl ?_
            refine x_goto eX9_digest_117 ?_
            refine x_pick [0, 1, 2] rfl ?_
            have := ih (j + 1) (by omega) S rfl
            rw [dgP_f (fun z => by rw [show xTh X j = false from c_20] at z; exact absurd z (by decide))] at this
            exact this
          · have tj : xTh X j = true := c_20
            have ce := ((h.tab w).2.2 j (by omega)).2 tj
            have s12 : xSz X j ≤ 12 := (wf_good w tj).2.1
            have fin : XP mX9_digest 114 [(3, .int (nI j)), (1, .long (dgI (xRg X j) (dgH X j (dgP X j)) (xSz X j))), (0, .ref 0)] [] (xwS S) (sQ (fun r S' => r = some (.long (dgP X (xNp X))) ∧ RM S' X ∧ frM S S')) := by
              refine x_iinc (lv' := [_, _, _]) eX9_digest_114 rfl (by first | exact nI_inc _ | exact rfl) (by decide) rfl ?_
              refine x_goto eX9_digest_117 ?_
              refine x_pick [0, 1, 2] rfl ?_
              have := ih (j + 1) (by omega) S rfl
              rw [dgP_t tj] at this
              exact this
            have inner : ∀ μ i, i + μ = (xSz X j) → ∀ S1, S1 = S → XP mX9_digest 77 [(4, .int (nI i)), (1, .long (dgI (xRg X j) (dgH X j (dgP X j)) i)), (3, .int (nI j)), (0, .ref 0)] [] (xwS S1) (sQ (fun r S' => r = some (.long (dgP X (xNp X))) ∧ RM S' X ∧ frM S S')) := by
              intro μ
              induction μ with
              | zero =>
                intro i hk S1 h1
                have h1 := h1.symm
                subst h1
                refine x_iload eX9_digest_77 rfl ?_
                refine x_aload_n eX9_digest_79 rfl ?_
                refine s_getR (k := 15) eX9_digest_80 fX9_58 rfl (by decide) (by decide) rfl ?_
                refine x_iload_n eX9_digest_83 rfl ?_
                refine s_iald eX9_digest_84 rfl (by decide) rfl (show _ < 60 by omega) ?_
                rw [show S.2.1 15 j = nI (xSz X j) from ce.2.2.2.2.2.1]
                refine x_icmp_geN eX9_digest_85 (by omega) (by omega) (fun c_85 => ?_) (fun c_85 => ?_)
                · obtain rfl : i = xSz X j := (by omega)
                  refine x_pick [2, 1, 3] rfl ?_
                  exact fin
                · omega
              | succ μ ih =>
                intro i hk S1 h1
                have h1 := h1.symm
                subst h1
                refine x_iload eX9_digest_77 rfl ?_
                refine x_aload_n eX9_digest_79 rfl ?_
                refine s_getR (k := 15) eX9_digest_80 fX9_58 rfl (by decide) (by decide) rfl ?_
                refine x_iload_n eX9_digest_83 rfl ?_
                refine s_iald eX9_digest_84 rfl (by decide) rfl (show _ < 60 by omega) ?_
                rw [show S.2.1 15 j = nI (xSz X j) from ce.2.2.2.2.2.1]
                refine x_icmp_geN eX9_digest_85 (by omega) (by omega) (fun c_85 => ?_) (fun c_85 => ?_)
                · omega
                · refine x_ldc2 (v := 31) eX9_digest_88 (xT 1099 (by decide +kernel) rfl) ?_
                  refine x_lload_n eX9_digest_91 rfl ?_
                  refine x_lmul eX9_digest_92 ?_
                  refine x_aload_n eX9_digest_93 rfl ?_
                  refine s_getR (k := 16) eX9_digest_94 fX9_61 rfl (by decide) (by decide) rfl ?_
                  refine x_bipush (v := nI 12) eX9_digest_97 (by decide) ?_
                  refine x_iload_n eX9_digest_99 rfl ?_
                  first | refine x_imulN eX9_digest_100 ?_ | refine x_imul eX9_digest_100 ?_
                  refine x_iload eX9_digest_101 rfl ?_
                  first | refine x_iaddN eX9_digest_103 ?_ | refine x_iadd eX9_digest_103 ?_
                  refine s_iald eX9_digest_104 rfl (by decide) rfl (show 12 * j + i < 720 by omega) ?_
                  rw [(ce.2.2.2.2.2.2 i (show i < xSz X j by omega)).1]
                  refine x_i2l eX9_digest_105 ?_
                  refine x_ladd eX9_digest_106 ?_
                  refine x_lstore_n (lv' := [_, _, _, _]) eX9_digest_107 (by decide) rfl ?_
                  refine x_iinc (lv' := [_, _, _, _]) eX9_digest_108 rfl (by first | exact nI_inc _ | exact rfl) (by decide) rfl ?_
                  refine x_goto eX9_digest_111 ?_
                  refine x_pick [0, 1, 2, 3] rfl ?_
                  exact ih (i + 1) (by omega) _ rfl
            refine x_ldc2 (v := 31) eX9_digest_23 (xT 1099 (by decide +kernel) rfl) ?_
            refine x_lload_n eX9_digest_26 rfl ?_
            refine x_lmul eX9_digest_27 ?_
            refine x_iload_n eX9_digest_28 rfl ?_
            refine x_i2l eX9_digest_29 ?_
            refine x_ladd eX9_digest_30 ?_
            refine x_lstore_n (lv' := [_, _, _]) eX9_digest_31 (by decide) rfl ?_
            refine x_ldc2 (v := 31) eX9_digest_32 (xT 1099 (by decide +kernel) rfl) ?_
            refine x_lload_n eX9_digest_35 rfl ?_
            refine x_lmul eX9_digest_36 ?_
            refine x_aload_n eX9_digest_37 rfl ?_
            refine s_getR (k := 13) eX9_digest_38 fX9_52 rfl (by decide) (by decide) rfl ?_
            refine x_iload_n eX9_digest_41 rfl ?_
            refine s_iald eX9_digest_42 rfl (by decide) rfl (show _ < 60 by omega) ?_
            rw [ce.1]
            refine x_i2l eX9_digest_43 ?_
            refine x_ladd eX9_digest_44 ?_
            refine x_lstore_n (lv' := [_, _, _]) eX9_digest_45 (by decide) rfl ?_
            refine x_ldc2 (v := 31) eX9_digest_46 (xT 1099 (by decide +kernel) rfl) ?_
            refine x_lload_n eX9_digest_49 rfl ?_
            refine x_lmul eX9_digest_50 ?_
            refine x_aload_n eX9_digest_51 rfl ?_
            refine s_getR (k := 14) eX9_digest_52 fX9_55 rfl (by decide) (by decide) rfl ?_
            refine x_iload_n eX9_digest_55 rfl ?_
            refine s_iald eX9_digest_56 rfl (by decide) rfl (show _ < 60 by omega) ?_
            rw [ce.2.1]
            refine x_i2l eX9_digest_57 ?_
            refine x_ladd eX9_digest_58 ?_
            refine x_lstore_n (lv' := [_, _, _]) eX9_digest_59 (by decide) rfl ?_
            refine x_ldc2 (v := 31) eX9_digest_60 (xT 1099 (by decide +kernel) rfl) ?_
            refine x_lload_n eX9_digest_63 rfl ?_
            refine x_lmul eX9_digest_64 ?_
            refine x_aload_n eX9_digest_65 rfl ?_
            refine s_getR (k := 15) eX9_digest_66 fX9_58 rfl (by decide) (by decide) rfl ?_
            refine x_iload_n eX9_digest_69 rfl ?_
            refine s_iald eX9_digest_70 rfl (by decide) rfl (show _ < 60 by omega) ?_
            rw [show S.2.1 15 j = nI (xSz X j) from ce.2.2.2.2.2.1]
            refine x_i2l eX9_digest_71 ?_
            refine x_ladd eX9_digest_72 ?_
            refine x_lstore_n (lv' := [_, _, _]) eX9_digest_73 (by decide) rfl ?_
            refine x_iconst (v := nI 0) eX9_digest_74 (by decide) ?_
            refine x_istore (lv' := [_, _, _, _]) eX9_digest_75 (by decide) rfl ?_
            refine x_pick [0, 1, 2, 3] rfl ?_
            exact inner (xSz X j) 0 (by omega) _ rfl
    show XP _ _ [_] _ _ _
    refine x_ldc2 (v := 23) eX9_digest_0 (xT 1098 (by decide +kernel) rfl) ?_
    refine x_lstore_n (lv' := [_, _]) eX9_digest_3 (by decide) rfl ?_
    refine x_iconst (v := nI 0) eX9_digest_4 (by decide) ?_
    refine x_istore_n (lv' := [_, _, _]) eX9_digest_5 (by decide) rfl ?_
    refine x_pick [0, 1, 2] rfl ?_
    exact loop (xNp X) 0 (by omega) _ rfl
