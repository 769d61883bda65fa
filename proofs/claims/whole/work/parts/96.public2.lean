/-- the rows of sums don't matter -/
theorem RC_L {S S' : xS} {X : LM} (h : RC S X) {ps : List Nat} (hx : Lx ps S S') (h3 : 33 ∉ ps := by decide) (h5 : 35 ∉ ps := by decide) : RC S' X := by
  obtain ⟨⟨p1, p2, T, p3⟩, d, ⟨w1, w2, w3⟩, ⟨n1, n2⟩, z, ⟨k1, k2⟩, h1, h2⟩ := h
  have ec : ∀ {a e : Nat} {t : TB}, cent S a t e → cent S' a t e := fun {a e t} g => ⟨by rw [hx.1]; exact g.1, fun q => by have := g.2 q; rw [hx.1]; exact ⟨this.1, this.2.1, this.2.2.mv hx⟩⟩
  refine ⟨⟨by rw [hx.1]; exact p1, fun s hs => ?_, T, p3.mv hx h5⟩, d.mv hx, by rw [hx.1]; exact ⟨w1, w2, w3⟩, ⟨by rw [hx.1]; exact n1, fun e he => ec (n2 e he)⟩, fun a ha => by rw [hx.1]; exact z a ha, ⟨by rw [hx.1]; exact k1, fun q => ?_⟩, by rw [hx.1]; exact h1, fun k hk => by rw [hx.2.1]; exact h2 k hk⟩
  · have := p2 s hs
    rw [hx.2.2.2 33 h3]
    exact ⟨this.1, this.2.1, this.2.2.mv hx h5⟩
  · obtain ⟨p, q2, a1, a2, a3, a4, a5, a6⟩ := k2 q
    exact ⟨p, q2, a1, by rw [hx.1]; exact a2, by rw [hx.1]; exact a3, ec a4, fun w => ec (a5 w), fun e x y w => ec (a6 e x y w)⟩
/-- what the reference's readers change doesn't matter -/
theorem RM_G {S S' : xS} {X : LM} (w : wf X) (h : RM S X) (g : Gx S S') : RM S' X := by
  have n200 := w.1
  obtain ⟨⟨p1, p2, T, p3⟩, ⟨d1, d2⟩, ⟨w1, w2, w3⟩, ⟨n1, n2⟩, ⟨k1, k2, k3⟩, h1, h2⟩ := h
  have f : ∀ x, x ≠ 29 → x ≠ 30 → x ≠ 32 → S'.1 0 x = S.1 0 x := g.2.1
  have i : ∀ p, p ≠ 22 → S'.2.1 p = S.2.1 p := g.2.2.1
  have em : ∀ {r q : Nat} {t : TB}, r = 12 ∨ r = 17 → ment S r t q → ment S' r t q := fun {r q t} hr m => ⟨by rw [i _ (by omega)]; exact m.1, fun z => by have := m.2 z; exact ⟨by rw [i _ (by omega)]; exact this.1, by rw [i _ (by omega)]; exact this.2.1, by rw [i _ (by omega)]; exact this.2.2.1, fun j hj => by rw [i _ (by omega)]; exact this.2.2.2 j hj⟩⟩
  refine ⟨⟨by rw [f _ (by decide) (by decide) (by decide)]; exact p1, fun s hs => ?_, T, p3.gx g (by decide)⟩, ⟨by rw [f _ (by decide) (by decide) (by decide)]; exact d1, fun j hj => by rw [i _ (by decide)]; exact d2 j hj⟩, ⟨by rw [f _ (by decide) (by decide) (by decide)]; exact w1, by rw [f _ (by decide) (by decide) (by decide)]; exact w2, by rw [f _ (by decide) (by decide) (by decide)]; exact w3⟩, ⟨by rw [f _ (by decide) (by decide) (by decide)]; exact n1, fun q hq => em (Or.inl rfl) (n2 q hq)⟩, ⟨by rw [f _ (by decide) (by decide) (by decide)]; exact k1, fun j hj => by rw [i _ (by decide)]; exact k2 j hj, fun z q hq => em (Or.inr rfl) (k3 z q hq)⟩, by rw [f _ (by decide) (by decide) (by decide)]; exact h1, fun k hk => by rw [i _ (by decide)]; exact h2 k hk⟩
  have := p2 s hs
  rw [g.2.2.2.2.1 1 (by decide), g.2.2.2.2.1 2 (by decide)]
  exact ⟨this.1, this.2.1, this.2.2.gx g (by omega)⟩
theorem RM_L {S S' : xS} {X : LM} (w : wf X) (h : RM S X) (hx : Lx [5, 6, 7] S S') : RM S' X := RM_G w h hx.gx

theorem b_at {X : LM} (w : wf X) (c a : Int32) : both X mX8_at mX9_at [.int c, .int a] := by
  have n200 := w.1
  by_cases q : ∃ k, k < xNc X ∧ c = nI k
  · obtain ⟨k, hk, rfl⟩ := q
    by_cases a0 : a = nI 0
    · subst a0
      refine ⟨.long (xBx X k), X, w, fun S h => ?_, fun S h => ?_⟩
      · show XP _ _ [_, _, _] _ _ _
        refine x_aload_n eX8_at_0 rfl ?_
        refine s_getR (k := 32) eX8_at_1 fX8_12 rfl (by decide) (by decide) rfl ?_
        refine x_iload_n eX8_at_4 rfl ?_
        refine s_callV1 (As := [_]) eX8_at_5 kX8_88 ⟨by decide, by decide⟩ rfl (by decide) (by decide) rfl rfl (Nat.le_of_ble_eq_true rfl) (Nat.le_of_ble_eq_true rfl) (sp_X2_has _ h.1.1 w.1 (nI k)) (fun S_5 h_5 => ?_)
        have h_5 := h_5.symm
        subst h_5
        refine x_if_neT eX8_at_8 (fun c_8 => ?_) (fun c_8 => ?_)
        · refine x_iload_n eX8_at_15 rfl ?_
          refine x_if_eqN eX8_at_16 (by omega) (fun c_16 => ?_) (fun c_16 => ?_)
          · refine x_aload_n eX8_at_28 rfl ?_
            refine s_getR (k := 32) eX8_at_29 fX8_12 rfl (by decide) (by decide) rfl ?_
            refine s_getR (k := 33) eX8_at_32 fX8_96 rfl (by decide) (by decide) rfl ?_
            refine x_iconst (v := nI 2) eX8_at_35 (by decide) ?_
            refine x_iload_n eX8_at_36 rfl ?_
            first | refine x_imulN eX8_at_37 ?_ | refine x_imul eX8_at_37 ?_
            refine x_iload_n eX8_at_38 rfl ?_
            first | refine x_iaddN eX8_at_39 ?_ | refine x_iadd eX8_at_39 ?_
            refine s_lald eX8_at_40 rfl (by decide) rfl (show _ < 402 by omega) ?_
            rw [show 2 * k + 0 = 2 * k from rfl, (h.1.2.1 k hk).1]
            exact s_lret eX8_at_41 rfl ⟨rfl, h, frC.rf _⟩
          · omega
        · exact absurd ⟨k, hk, rfl⟩ c_8
      · show XP _ _ [_, _, _] _ _ _
        refine x_aload_n eX9_at_0 rfl ?_
        refine x_iload_n eX9_at_1 rfl ?_
        refine s_callV1 (As := [_]) eX9_at_2 kX9_184 ⟨by decide, by decide⟩ rfl (by decide) (by decide) rfl rfl (Nat.le_of_ble_eq_true rfl) (Nat.le_of_ble_eq_true rfl) (sp_X9_isCorner _ h.1.1 w.1 (nI k)) (fun S_2 h_2 => ?_)
        have h_2 := h_2.symm
        subst h_2
        refine x_if_neB eX9_at_5 (fun c_5 => ?_) (fun c_5 => ?_)
        · refine x_iload_n eX9_at_12 rfl ?_
          refine x_if_neN eX9_at_13 (by omega) (fun c_13 => ?_) (fun c_13 => ?_)
          · omega
          · refine x_aload_n eX9_at_16 rfl ?_
            refine s_getR (k := 1) eX9_at_17 fX9_7 rfl (by decide) (by decide) rfl ?_
            refine x_iload_n eX9_at_20 rfl ?_
            refine s_lald eX9_at_21 rfl (by decide) rfl (show _ < 202 by omega) ?_
            rw [(h.1.2.1 k hk).1]
            refine x_goto eX9_at_22 ?_
            exact s_lret eX9_at_42 rfl ⟨rfl, h, frM.rf _⟩
        · exact absurd ⟨k, hk, rfl⟩ (of_decide_eq_false c_5)
    · by_cases a1 : a = nI 1
      · subst a1
        refine ⟨.long (xBy X k), X, w, fun S h => ?_, fun S h => ?_⟩
        · show XP _ _ [_, _, _] _ _ _
          refine x_aload_n eX8_at_0 rfl ?_
          refine s_getR (k := 32) eX8_at_1 fX8_12 rfl (by decide) (by decide) rfl ?_
          refine x_iload_n eX8_at_4 rfl ?_
          refine s_callV1 (As := [_]) eX8_at_5 kX8_88 ⟨by decide, by decide⟩ rfl (by decide) (by decide) rfl rfl (Nat.le_of_ble_eq_true rfl) (Nat.le_of_ble_eq_true rfl) (sp_X2_has _ h.1.1 w.1 (nI k)) (fun S_5 h_5 => ?_)
          have h_5 := h_5.symm
          subst h_5
          refine x_if_neT eX8_at_8 (fun c_8 => ?_) (fun c_8 => ?_)
          · refine x_iload_n eX8_at_15 rfl ?_
            refine x_if_eqN eX8_at_16 (by omega) (fun c_16 => ?_) (fun c_16 => ?_)
            · omega
            · refine x_iload_n eX8_at_19 rfl ?_
              refine x_iconst (v := nI 1) eX8_at_20 (by decide) ?_
              refine x_icmp_eqN eX8_at_21 (by omega) (by omega) (fun c_21 => ?_) (fun c_21 => ?_)
              · refine x_aload_n eX8_at_28 rfl ?_
                refine s_getR (k := 32) eX8_at_29 fX8_12 rfl (by decide) (by decide) rfl ?_
                refine s_getR (k := 33) eX8_at_32 fX8_96 rfl (by decide) (by decide) rfl ?_
                refine x_iconst (v := nI 2) eX8_at_35 (by decide) ?_
                refine x_iload_n eX8_at_36 rfl ?_
                first | refine x_imulN eX8_at_37 ?_ | refine x_imul eX8_at_37 ?_
                refine x_iload_n eX8_at_38 rfl ?_
                first | refine x_iaddN eX8_at_39 ?_ | refine x_iadd eX8_at_39 ?_
                refine s_lald eX8_at_40 rfl (by decide) rfl (show _ < 402 by omega) ?_
                rw [(h.1.2.1 k hk).2.1]
                exact s_lret eX8_at_41 rfl ⟨rfl, h, frC.rf _⟩
              · omega
          · exact absurd ⟨k, hk, rfl⟩ c_8
        · show XP _ _ [_, _, _] _ _ _
          refine x_aload_n eX9_at_0 rfl ?_
          refine x_iload_n eX9_at_1 rfl ?_
          refine s_callV1 (As := [_]) eX9_at_2 kX9_184 ⟨by decide, by decide⟩ rfl (by decide) (by decide) rfl rfl (Nat.le_of_ble_eq_true rfl) (Nat.le_of_ble_eq_true rfl) (sp_X9_isCorner _ h.1.1 w.1 (nI k)) (fun S_2 h_2 => ?_)
          have h_2 := h_2.symm
          subst h_2
          refine x_if_neB eX9_at_5 (fun c_5 => ?_) (fun c_5 => ?_)
          · refine x_iload_n eX9_at_12 rfl ?_
            refine x_if_neN eX9_at_13 (by omega) (fun c_13 => ?_) (fun c_13 => ?_)
            · refine x_iload_n eX9_at_25 rfl ?_
              refine x_iconst (v := nI 1) eX9_at_26 (by decide) ?_
              refine x_icmp_neN eX9_at_27 (by omega) (by omega) (fun c_27 => ?_) (fun c_27 => ?_)
              · omega
              · refine x_aload_n eX9_at_30 rfl ?_
                refine s_getR (k := 2) eX9_at_31 fX9_13 rfl (by decide) (by decide) rfl ?_
                refine x_iload_n eX9_at_34 rfl ?_
                refine s_lald eX9_at_35 rfl (by decide) rfl (show _ < 202 by omega) ?_
                rw [(h.1.2.1 k hk).2.1]
                refine x_goto eX9_at_36 ?_
                exact s_lret eX9_at_42 rfl ⟨rfl, h, frM.rf _⟩
            · omega
          · exact absurd ⟨k, hk, rfl⟩ (of_decide_eq_false c_5)
      · refine ⟨.long (-102), X, w, fun S h => ?_, fun S h => ?_⟩
        · show XP _ _ [_, _, _] _ _ _
          refine x_aload_n eX8_at_0 rfl ?_
          refine s_getR (k := 32) eX8_at_1 fX8_12 rfl (by decide) (by decide) rfl ?_
          refine x_iload_n eX8_at_4 rfl ?_
          refine s_callV1 (As := [_]) eX8_at_5 kX8_88 ⟨by decide, by decide⟩ rfl (by decide) (by decide) rfl rfl (Nat.le_of_ble_eq_true rfl) (Nat.le_of_ble_eq_true rfl) (sp_X2_has _ h.1.1 w.1 (nI k)) (fun S_5 h_5 => ?_)
          have h_5 := h_5.symm
          subst h_5
          refine x_if_neT eX8_at_8 (fun c_8 => ?_) (fun c_8 => ?_)
          · refine x_iload_n eX8_at_15 rfl ?_
            refine x_if_eq eX8_at_16 (fun c_16 => ?_) (fun c_16 => ?_)
            · exact absurd c_16 a0
            · refine x_iload_n eX8_at_19 rfl ?_
              refine x_iconst (v := nI 1) eX8_at_20 (by decide) ?_
              refine x_icmp_eq eX8_at_21 (fun c_21 => ?_) (fun c_21 => ?_)
              · exact absurd c_21 a1
              · refine x_ldc2 (v := -102) eX8_at_24 (xT 287 (by decide +kernel) rfl) ?_
                exact s_lret eX8_at_27 rfl ⟨rfl, h, frC.rf _⟩
          · exact absurd ⟨k, hk, rfl⟩ c_8
        · show XP _ _ [_, _, _] _ _ _
          refine x_aload_n eX9_at_0 rfl ?_
          refine x_iload_n eX9_at_1 rfl ?_
          refine s_callV1 (As := [_]) eX9_at_2 kX9_184 ⟨by decide, by decide⟩ rfl (by decide) (by decide) rfl rfl (Nat.le_of_ble_eq_true rfl) (Nat.le_of_ble_eq_true rfl) (sp_X9_isCorner _ h.1.1 w.1 (nI k)) (fun S_2 h_2 => ?_)
          have h_2 := h_2.symm
          subst h_2
          refine x_if_neB eX9_at_5 (fun c_5 => ?_) (fun c_5 => ?_)
          · refine x_iload_n eX9_at_12 rfl ?_
            refine x_if_ne eX9_at_13 (fun c_13 => ?_) (fun c_13 => ?_)
            · refine x_iload_n eX9_at_25 rfl ?_
              refine x_iconst (v := nI 1) eX9_at_26 (by decide) ?_
              refine x_icmp_ne eX9_at_27 (fun c_27 => ?_) (fun c_27 => ?_)
              · refine x_ldc2 (v := -102) eX9_at_39 (xT 859 (by decide +kernel) rfl) ?_
                exact s_lret eX9_at_42 rfl ⟨rfl, h, frM.rf _⟩
              · exact absurd c_27 a1
            · exact absurd c_13 a0
          · exact absurd ⟨k, hk, rfl⟩ (of_decide_eq_false c_5)
  · refine ⟨.long (-101), X, w, fun S h => ?_, fun S h => ?_⟩
    · show XP _ _ [_, _, _] _ _ _
      refine x_aload_n eX8_at_0 rfl ?_
      refine s_getR (k := 32) eX8_at_1 fX8_12 rfl (by decide) (by decide) rfl ?_
      refine x_iload_n eX8_at_4 rfl ?_
      refine s_callV1 (As := [_]) eX8_at_5 kX8_88 ⟨by decide, by decide⟩ rfl (by decide) (by decide) rfl rfl (Nat.le_of_ble_eq_true rfl) (Nat.le_of_ble_eq_true rfl) (sp_X2_has _ h.1.1 w.1 c) (fun S_5 h_5 => ?_)
      have h_5 := h_5.symm
      subst h_5
      refine x_if_neT eX8_at_8 (fun c_8 => ?_) (fun c_8 => ?_)
      · exact absurd c_8 q
      · refine x_ldc2 (v := -101) eX8_at_11 (xT 286 (by decide +kernel) rfl) ?_
        exact s_lret eX8_at_14 rfl ⟨rfl, h, frC.rf _⟩
    · show XP _ _ [_, _, _] _ _ _
      refine x_aload_n eX9_at_0 rfl ?_
      refine x_iload_n eX9_at_1 rfl ?_
      refine s_callV1 (As := [_]) eX9_at_2 kX9_184 ⟨by decide, by decide⟩ rfl (by decide) (by decide) rfl rfl (Nat.le_of_ble_eq_true rfl) (Nat.le_of_ble_eq_true rfl) (sp_X9_isCorner _ h.1.1 w.1 c) (fun S_2 h_2 => ?_)
      have h_2 := h_2.symm
      subst h_2
      refine x_if_neB eX9_at_5 (fun c_5 => ?_) (fun c_5 => ?_)
      · exact absurd (of_decide_eq_true c_5) q
      · refine x_ldc2 (v := -101) eX9_at_8 (xT 858 (by decide +kernel) rfl) ?_
        exact s_lret eX9_at_11 rfl ⟨rfl, h, frM.rf _⟩

theorem b_hullAt {X : LM} (w : wf X) (k : Int32) : both X mX8_hullAt mX9_hullAt [.int k] := by
  have n200 : xHn X ≤ 200 := w.2.2.2.2.2.2.1
  have hd : decide (nI 0 ≤ k ∧ k ≤ nI (xHn X) - nI 1) = decide (∃ j, j < xHn X ∧ k = nI j) := by
    by_cases h : ∃ j, j < xHn X ∧ k = nI j
    · rw [decide_eq_true h]
      obtain ⟨j, hj, rfl⟩ := h
      rw [pk_sub (by omega)]
      exact decide_eq_true ⟨nI_le (by omega) (by omega), nI_le (by omega) (by omega)⟩
    · rw [decide_eq_false h]
      apply decide_eq_false
      intro h3
      apply h
      obtain ⟨j, hj, rfl⟩ := nI_of (Int32.not_lt.mpr h3.1)
      refine ⟨j, ?_, rfl⟩
      have h5 := h3.2
      by_cases hn0 : xHn X = 0
      · rw [hn0] at h5
        exact absurd (Int32.le_trans h3.1 h5) (by decide)
      · rw [pk_sub (by omega), nI_leI hj (by omega)] at h5
        omega
  have rf : ∀ S, RM S X → (¬ ∃ j, j < xHn X ∧ k = nI j) → Sp mX9_hullAt [.ref 0, .int k] S (fun r S' => r = some (.int (-1)) ∧ RM S' X ∧ frM S S') := by
    intro S h q
    show XP _ _ [_, _] _ _ _
    refine x_iload_n eX9_hullAt_0 rfl ?_
    refine x_iconst (v := nI 0) eX9_hullAt_1 (by decide) ?_
    refine x_aload_n eX9_hullAt_2 rfl ?_
    refine s_geti eX9_hullAt_3 fX9_109 rfl (by decide) (by decide) ?_
    rw [h.2.2.2.2.2.1]
    refine x_iconst (v := nI 1) eX9_hullAt_6 (by decide) ?_
    refine x_isub eX9_hullAt_7 ?_
    refine s_callS1 (As := [_, _, _]) eX9_hullAt_8 kX9_173 ⟨by decide, by decide⟩ rfl rfl (Nat.le_of_ble_eq_true rfl) (Nat.le_of_ble_eq_true rfl) (sp_X9_in _ _ _ _) (fun S_8 h_8 => ?_)
    have h_8 := h_8.symm
    subst h_8
    rw [hd]
    refine x_if_eqB eX9_hullAt_11 (fun c_11 => ?_) (fun c_11 => ?_)
    · refine x_iconst (v := -1) eX9_hullAt_23 (by decide) ?_
      exact s_iret eX9_hullAt_24 rfl rfl ⟨rfl, h, frM.rf _⟩
    · exact absurd (of_decide_eq_true c_11) q
  rcases pk_ix k (n := xHn X) (by omega) with q | q | ⟨j, hj, rfl⟩
  · refine ⟨.int (-1), X, w, fun S h => ?_, fun S h => rf S h (fun ⟨j, hj, e⟩ => by subst e; exact absurd q (nI_pos (by omega)))⟩
    show XP _ _ [_, _] _ _ _
    refine x_iload_n eX8_hullAt_0 rfl ?_
    refine x_if_lt eX8_hullAt_1 (fun c_1 => ?_) (fun c_1 => ?_)
    · refine x_iconst (v := -1) eX8_hullAt_27 (by decide) ?_
      exact s_iret eX8_hullAt_28 rfl rfl ⟨rfl, h, frC.rf _⟩
    · exact absurd q c_1
  · refine ⟨.int (-1), X, w, fun S h => ?_, fun S h => rf S h (fun ⟨j, hj, e⟩ => by subst e; exact absurd ((nI_leI (by omega) (by omega)).mp q) (by omega))⟩
    show XP _ _ [_, _] _ _ _
    refine x_iload_n eX8_hullAt_0 rfl ?_
    refine x_if_lt eX8_hullAt_1 (fun c_1 => ?_) (fun c_1 => ?_)
    · exact absurd (Int32.lt_of_le_of_lt q c_1) (nI_pos (by omega))
    · refine x_iload_n eX8_hullAt_4 rfl ?_
      refine x_aload_n eX8_hullAt_5 rfl ?_
      refine s_getR (k := 41) eX8_hullAt_6 fX8_42 rfl (by decide) (by decide) rfl ?_
      refine s_geti eX8_hullAt_9 fX8_233 rfl (by decide) (by decide) ?_
      rw [h.2.2.2.2.2.2.1]
      refine x_icmp_ge eX8_hullAt_12 (fun c_12 => ?_) (fun c_12 => ?_)
      · refine x_iconst (v := -1) eX8_hullAt_27 (by decide) ?_
        exact s_iret eX8_hullAt_28 rfl rfl ⟨rfl, h, frC.rf _⟩
      · exact absurd q c_12
  · refine ⟨.int (nI (xHr X j)), X, w, fun S h => ?_, fun S h => ?_⟩
    · show XP _ _ [_, _] _ _ _
      refine x_iload_n eX8_hullAt_0 rfl ?_
      refine x_if_ltN eX8_hullAt_1 (by omega) ?_
      refine x_iload_n eX8_hullAt_4 rfl ?_
      refine x_aload_n eX8_hullAt_5 rfl ?_
      refine s_getR (k := 41) eX8_hullAt_6 fX8_42 rfl (by decide) (by decide) rfl ?_
      refine s_geti eX8_hullAt_9 fX8_233 rfl (by decide) (by decide) ?_
      rw [h.2.2.2.2.2.2.1]
      refine x_icmp_geN eX8_hullAt_12 (by omega) (by omega) (fun c_12 => ?_) (fun c_12 => ?_)
      · omega
      · refine x_aload_n eX8_hullAt_15 rfl ?_
        refine s_getR (k := 41) eX8_hullAt_16 fX8_42 rfl (by decide) (by decide) rfl ?_
        refine s_getR (k := 44) eX8_hullAt_19 fX8_234 rfl (by decide) (by decide) rfl ?_
        refine x_iload_n eX8_hullAt_22 rfl ?_
        refine s_iald eX8_hullAt_23 rfl (by decide) rfl (show _ < 201 by omega) ?_
        rw [h.2.2.2.2.2.2.2 j hj]
        refine x_goto eX8_hullAt_24 ?_
        exact s_iret eX8_hullAt_28 rfl rfl ⟨rfl, h, frC.rf _⟩
    · show XP _ _ [_, _] _ _ _
      refine x_iload_n eX9_hullAt_0 rfl ?_
      refine x_iconst (v := nI 0) eX9_hullAt_1 (by decide) ?_
      refine x_aload_n eX9_hullAt_2 rfl ?_
      refine s_geti eX9_hullAt_3 fX9_109 rfl (by decide) (by decide) ?_
      rw [h.2.2.2.2.2.1]
      refine x_iconst (v := nI 1) eX9_hullAt_6 (by decide) ?_
      refine x_isub eX9_hullAt_7 ?_
      refine s_callS1 (As := [_, _, _]) eX9_hullAt_8 kX9_173 ⟨by decide, by decide⟩ rfl rfl (Nat.le_of_ble_eq_true rfl) (Nat.le_of_ble_eq_true rfl) (sp_X9_in _ _ _ _) (fun S_8 h_8 => ?_)
      have h_8 := h_8.symm
      subst h_8
      rw [hd]
      refine x_if_eqB eX9_hullAt_11 (fun c_11 => ?_) (fun c_11 => ?_)
      · exact absurd ⟨j, hj, rfl⟩ (of_decide_eq_false c_11)
      · refine x_aload_n eX9_hullAt_14 rfl ?_
        refine s_getR (k := 24) eX9_hullAt_15 fX9_88 rfl (by decide) (by decide) rfl ?_
        refine x_iload_n eX9_hullAt_18 rfl ?_
        refine s_iald eX9_hullAt_19 rfl (by decide) rfl (show _ < 402 by omega) ?_
        rw [h.2.2.2.2.2.2 j hj]
        refine x_goto eX9_hullAt_20 ?_
        exact s_iret eX9_hullAt_24 rfl rfl ⟨rfl, h, frM.rf _⟩
theorem b_cross {X : LM} (w : wf X) (a b c d : Int32) : both X mX8_cross mX9_cross [.int a, .int b, .int c, .int d] := by
  have n200 := w.1
  by_cases qa : ∃ k, k < xNc X ∧ a = nI k
  rotate_left
  · refine ⟨.int (-101), X, w, fun S h => ?_, fun S h => ?_⟩
    · show XP _ _ [_, _, _, _, _] _ _ _
      refine x_aload_n eX8_cross_0 rfl ?_
      refine s_getR (k := 32) eX8_cross_1 fX8_12 rfl (by decide) (by decide) rfl ?_
      refine x_iload_n eX8_cross_4 rfl ?_
      refine s_callV1 (As := [_]) eX8_cross_5 kX8_88 ⟨by decide, by decide⟩ rfl (by decide) (by decide) rfl rfl (Nat.le_of_ble_eq_true rfl) (Nat.le_of_ble_eq_true rfl) (sp_X2_has _ h.1.1 w.1 a) (fun S_5 h_5 => ?_)
      have h_5 := h_5.symm
      subst h_5
      refine x_if_eqT eX8_cross_8 (fun c_8 => ?_) (fun c_8 => ?_)
      · refine x_bipush (v := -101) eX8_cross_45 (by decide) ?_
        exact s_iret eX8_cross_47 rfl rfl ⟨rfl, h, frC.rf _⟩
      · exact absurd c_8 qa
    · show XP _ _ [_, _, _, _, _] _ _ _
      refine x_aload_n eX9_cross_0 rfl ?_
      refine x_iload_n eX9_cross_1 rfl ?_
      refine s_callV1 (As := [_]) eX9_cross_2 kX9_184 ⟨by decide, by decide⟩ rfl (by decide) (by decide) rfl rfl (Nat.le_of_ble_eq_true rfl) (Nat.le_of_ble_eq_true rfl) (sp_X9_isCorner _ h.1.1 w.1 a) (fun S_2 h_2 => ?_)
      have h_2 := h_2.symm
      subst h_2
      refine x_if_eqB eX9_cross_5 (fun c_5 => ?_) (fun c_5 => ?_)
      · refine x_bipush (v := -101) eX9_cross_33 (by decide) ?_
        exact s_iret eX9_cross_35 rfl rfl ⟨rfl, h, frM.rf _⟩
      · exact absurd (of_decide_eq_true c_5) qa
  by_cases qb : ∃ k, k < xNc X ∧ b = nI k
  rotate_left
  · refine ⟨.int (-101), X, w, fun S h => ?_, fun S h => ?_⟩
    · show XP _ _ [_, _, _, _, _] _ _ _
      refine x_aload_n eX8_cross_0 rfl ?_
      refine s_getR (k := 32) eX8_cross_1 fX8_12 rfl (by decide) (by decide) rfl ?_
      refine x_iload_n eX8_cross_4 rfl ?_
      refine s_callV1 (As := [_]) eX8_cross_5 kX8_88 ⟨by decide, by decide⟩ rfl (by decide) (by decide) rfl rfl (Nat.le_of_ble_eq_true rfl) (Nat.le_of_ble_eq_true rfl) (sp_X2_has _ h.1.1 w.1 a) (fun S_5 h_5 => ?_)
      have h_5 := h_5.symm
      subst h_5
      refine x_if_eqT eX8_cross_8 (fun c_8 => ?_) (fun c_8 => ?_)
      · exact absurd qa c_8
      · refine x_aload_n eX8_cross_11 rfl ?_
        refine s_getR (k := 32) eX8_cross_12 fX8_12 rfl (by decide) (by decide) rfl ?_
        refine x_iload_n eX8_cross_15 rfl ?_
        refine s_callV1 (As := [_]) eX8_cross_16 kX8_88 ⟨by decide, by decide⟩ rfl (by decide) (by decide) rfl rfl (Nat.le_of_ble_eq_true rfl) (Nat.le_of_ble_eq_true rfl) (sp_X2_has _ h.1.1 w.1 b) (fun S_16 h_16 => ?_)
        have h_16 := h_16.symm
        subst h_16
        refine x_if_eqT eX8_cross_19 (fun c_19 => ?_) (fun c_19 => ?_)
        · refine x_bipush (v := -101) eX8_cross_45 (by decide) ?_
          exact s_iret eX8_cross_47 rfl rfl ⟨rfl, h, frC.rf _⟩
        · exact absurd c_19 qb
    · show XP _ _ [_, _, _, _, _] _ _ _
      refine x_aload_n eX9_cross_0 rfl ?_
      refine x_iload_n eX9_cross_1 rfl ?_
      refine s_callV1 (As := [_]) eX9_cross_2 kX9_184 ⟨by decide, by decide⟩ rfl (by decide) (by decide) rfl rfl (Nat.le_of_ble_eq_true rfl) (Nat.le_of_ble_eq_true rfl) (sp_X9_isCorner _ h.1.1 w.1 a) (fun S_2 h_2 => ?_)
      have h_2 := h_2.symm
      subst h_2
      refine x_if_eqB eX9_cross_5 (fun c_5 => ?_) (fun c_5 => ?_)
      · exact absurd qa (of_decide_eq_false c_5)
      · refine x_aload_n eX9_cross_8 rfl ?_
        refine x_iload_n eX9_cross_9 rfl ?_
        refine s_callV1 (As := [_]) eX9_cross_10 kX9_184 ⟨by decide, by decide⟩ rfl (by decide) (by decide) rfl rfl (Nat.le_of_ble_eq_true rfl) (Nat.le_of_ble_eq_true rfl) (sp_X9_isCorner _ h.1.1 w.1 b) (fun S_10 h_10 => ?_)
        have h_10 := h_10.symm
        subst h_10
        refine x_if_eqB eX9_cross_13 (fun c_13 => ?_) (fun c_13 => ?_)
        · refine x_bipush (v := -101) eX9_cross_33 (by decide) ?_
          exact s_iret eX9_cross_35 rfl rfl ⟨rfl, h, frM.rf _⟩
        · exact absurd (of_decide_eq_true c_13) qb
  by_cases qc : ∃ k, k < xNc X ∧ c = nI k
  rotate_left
  · refine ⟨.int (-101), X, w, fun S h => ?_, fun S h => ?_⟩
    · show XP _ _ [_, _, _, _, _] _ _ _
      refine x_aload_n eX8_cross_0 rfl ?_
      refine s_getR (k := 32) eX8_cross_1 fX8_12 rfl (by decide) (by decide) rfl ?_
      refine x_iload_n eX8_cross_4 rfl ?_
      refine s_callV1 (As := [_]) eX8_cross_5 kX8_88 ⟨by decide, by decide⟩ rfl (by decide) (by decide) rfl rfl (Nat.le_of_ble_eq_true rfl) (Nat.le_of_ble_eq_true rfl) (sp_X2_has _ h.1.1 w.1 a) (fun S_5 h_5 => ?_)
      have h_5 := h_5.symm
      subst h_5
      refine x_if_eqT eX8_cross_8 (fun c_8 => ?_) (fun c_8 => ?_)
      · exact absurd qa c_8
      · refine x_aload_n eX8_cross_11 rfl ?_
        refine s_getR (k := 32) eX8_cross_12 fX8_12 rfl (by decide) (by decide) rfl ?_
        refine x_iload_n eX8_cross_15 rfl ?_
        refine s_callV1 (As := [_]) eX8_cross_16 kX8_88 ⟨by decide, by decide⟩ rfl (by decide) (by decide) rfl rfl (Nat.le_of_ble_eq_true rfl) (Nat.le_of_ble_eq_true rfl) (sp_X2_has _ h.1.1 w.1 b) (fun S_16 h_16 => ?_)
        have h_16 := h_16.symm
        subst h_16
        refine x_if_eqT eX8_cross_19 (fun c_19 => ?_) (fun c_19 => ?_)
        · exact absurd qb c_19
        · refine x_aload_n eX8_cross_22 rfl ?_
          refine s_getR (k := 32) eX8_cross_23 fX8_12 rfl (by decide) (by decide) rfl ?_
          refine x_iload_n eX8_cross_26 rfl ?_
          refine s_callV1 (As := [_]) eX8_cross_27 kX8_88 ⟨by decide, by decide⟩ rfl (by decide) (by decide) rfl rfl (Nat.le_of_ble_eq_true rfl) (Nat.le_of_ble_eq_true rfl) (sp_X2_has _ h.1.1 w.1 c) (fun S_27 h_27 => ?_)
          have h_27 := h_27.symm
          subst h_27
          refine x_if_eqT eX8_cross_30 (fun c_30 => ?_) (fun c_30 => ?_)
          · refine x_bipush (v := -101) eX8_cross_45 (by decide) ?_
            exact s_iret eX8_cross_47 rfl rfl ⟨rfl, h, frC.rf _⟩
          · exact absurd c_30 qc
    · show XP _ _ [_, _, _, _, _] _ _ _
      refine x_aload_n eX9_cross_0 rfl ?_
      refine x_iload_n eX9_cross_1 rfl ?_
      refine s_callV1 (As := [_]) eX9_cross_2 kX9_184 ⟨by decide, by decide⟩ rfl (by decide) (by decide) rfl rfl (Nat.le_of_ble_eq_true rfl) (Nat.le_of_ble_eq_true rfl) (sp_X9_isCorner _ h.1.1 w.1 a) (fun S_2 h_2 => ?_)
      have h_2 := h_2.symm
      subst h_2
      refine x_if_eqB eX9_cross_5 (fun c_5 => ?_) (fun c_5 => ?_)
      · exact absurd qa (of_decide_eq_false c_5)
      · refine x_aload_n eX9_cross_8 rfl ?_
        refine x_iload_n eX9_cross_9 rfl ?_
        refine s_callV1 (As := [_]) eX9_cross_10 kX9_184 ⟨by decide, by decide⟩ rfl (by decide) (by decide) rfl rfl (Nat.le_of_ble_eq_true rfl) (Nat.le_of_ble_eq_true rfl) (sp_X9_isCorner _ h.1.1 w.1 b) (fun S_10 h_10 => ?_)
        have h_10 := h_10.symm
        subst h_10
        refine x_if_eqB eX9_cross_13 (fun c_13 => ?_) (fun c_13 => ?_)
        · exact absurd qb (of_decide_eq_false c_13)
        · refine x_aload_n eX9_cross_16 rfl ?_
          refine x_iload_n eX9_cross_17 rfl ?_
          refine s_callV1 (As := [_]) eX9_cross_18 kX9_184 ⟨by decide, by decide⟩ rfl (by decide) (by decide) rfl rfl (Nat.le_of_ble_eq_true rfl) (Nat.le_of_ble_eq_true rfl) (sp_X9_isCorner _ h.1.1 w.1 c) (fun S_18 h_18 => ?_)
          have h_18 := h_18.symm
          subst h_18
          refine x_if_eqB eX9_cross_21 (fun c_21 => ?_) (fun c_21 => ?_)
          · refine x_bipush (v := -101) eX9_cross_33 (by decide) ?_
            exact s_iret eX9_cross_35 rfl rfl ⟨rfl, h, frM.rf _⟩
          · exact absurd (of_decide_eq_true c_21) qc
  by_cases qd : ∃ k, k < xNc X ∧ d = nI k
  rotate_left
  · refine ⟨.int (-101), X, w, fun S h => ?_, fun S h => ?_⟩
    · show XP _ _ [_, _, _, _, _] _ _ _
      refine x_aload_n eX8_cross_0 rfl ?_
      refine s_getR (k := 32) eX8_cross_1 fX8_12 rfl (by decide) (by decide) rfl ?_
      refine x_iload_n eX8_cross_4 rfl ?_
      refine s_callV1 (As := [_]) eX8_cross_5 kX8_88 ⟨by decide, by decide⟩ rfl (by decide) (by decide) rfl rfl (Nat.le_of_ble_eq_true rfl) (Nat.le_of_ble_eq_true rfl) (sp_X2_has _ h.1.1 w.1 a) (fun S_5 h_5 => ?_)
      have h_5 := h_5.symm
      subst h_5
      refine x_if_eqT eX8_cross_8 (fun c_8 => ?_) (fun c_8 => ?_)
      · exact absurd qa c_8
      · refine x_aload_n eX8_cross_11 rfl ?_
        refine s_getR (k := 32) eX8_cross_12 fX8_12 rfl (by decide) (by decide) rfl ?_
        refine x_iload_n eX8_cross_15 rfl ?_
        refine s_callV1 (As := [_]) eX8_cross_16 kX8_88 ⟨by decide, by decide⟩ rfl (by decide) (by decide) rfl rfl (Nat.le_of_ble_eq_true rfl) (Nat.le_of_ble_eq_true rfl) (sp_X2_has _ h.1.1 w.1 b) (fun S_16 h_16 => ?_)
        have h_16 := h_16.symm
        subst h_16
        refine x_if_eqT eX8_cross_19 (fun c_19 => ?_) (fun c_19 => ?_)
        · exact absurd qb c_19
        · refine x_aload_n eX8_cross_22 rfl ?_
          refine s_getR (k := 32) eX8_cross_23 fX8_12 rfl (by decide) (by decide) rfl ?_
          refine x_iload_n eX8_cross_26 rfl ?_
          refine s_callV1 (As := [_]) eX8_cross_27 kX8_88 ⟨by decide, by decide⟩ rfl (by decide) (by decide) rfl rfl (Nat.le_of_ble_eq_true rfl) (Nat.le_of_ble_eq_true rfl) (sp_X2_has _ h.1.1 w.1 c) (fun S_27 h_27 => ?_)
          have h_27 := h_27.symm
          subst h_27
          refine x_if_eqT eX8_cross_30 (fun c_30 => ?_) (fun c_30 => ?_)
          · exact absurd qc c_30
          · refine x_aload_n eX8_cross_33 rfl ?_
            refine s_getR (k := 32) eX8_cross_34 fX8_12 rfl (by decide) (by decide) rfl ?_
            refine x_iload eX8_cross_37 rfl ?_
            refine s_callV1 (As := [_]) eX8_cross_39 kX8_88 ⟨by decide, by decide⟩ rfl (by decide) (by decide) rfl rfl (Nat.le_of_ble_eq_true rfl) (Nat.le_of_ble_eq_true rfl) (sp_X2_has _ h.1.1 w.1 d) (fun S_39 h_39 => ?_)
            have h_39 := h_39.symm
            subst h_39
            refine x_if_neT eX8_cross_42 (fun c_42 => ?_) (fun c_42 => ?_)
            · exact absurd c_42 qd
            · refine x_bipush (v := -101) eX8_cross_45 (by decide) ?_
              exact s_iret eX8_cross_47 rfl rfl ⟨rfl, h, frC.rf _⟩
    · show XP _ _ [_, _, _, _, _] _ _ _
      refine x_aload_n eX9_cross_0 rfl ?_
      refine x_iload_n eX9_cross_1 rfl ?_
      refine s_callV1 (As := [_]) eX9_cross_2 kX9_184 ⟨by decide, by decide⟩ rfl (by decide) (by decide) rfl rfl (Nat.le_of_ble_eq_true rfl) (Nat.le_of_ble_eq_true rfl) (sp_X9_isCorner _ h.1.1 w.1 a) (fun S_2 h_2 => ?_)
      have h_2 := h_2.symm
      subst h_2
      refine x_if_eqB eX9_cross_5 (fun c_5 => ?_) (fun c_5 => ?_)
      · exact absurd qa (of_decide_eq_false c_5)
      · refine x_aload_n eX9_cross_8 rfl ?_
        refine x_iload_n eX9_cross_9 rfl ?_
        refine s_callV1 (As := [_]) eX9_cross_10 kX9_184 ⟨by decide, by decide⟩ rfl (by decide) (by decide) rfl rfl (Nat.le_of_ble_eq_true rfl) (Nat.le_of_ble_eq_true rfl) (sp_X9_isCorner _ h.1.1 w.1 b) (fun S_10 h_10 => ?_)
        have h_10 := h_10.symm
        subst h_10
        refine x_if_eqB eX9_cross_13 (fun c_13 => ?_) (fun c_13 => ?_)
        · exact absurd qb (of_decide_eq_false c_13)
        · refine x_aload_n eX9_cross_16 rfl ?_
          refine x_iload_n eX9_cross_17 rfl ?_
          refine s_callV1 (As := [_]) eX9_cross_18 kX9_184 ⟨by decide, by decide⟩ rfl (by decide) (by decide) rfl rfl (Nat.le_of_ble_eq_true rfl) (Nat.le_of_ble_eq_true rfl) (sp_X9_isCorner _ h.1.1 w.1 c) (fun S_18 h_18 => ?_)
          have h_18 := h_18.symm
          subst h_18
          refine x_if_eqB eX9_cross_21 (fun c_21 => ?_) (fun c_21 => ?_)
          · exact absurd qc (of_decide_eq_false c_21)
          · refine x_aload_n eX9_cross_24 rfl ?_
            refine x_iload eX9_cross_25 rfl ?_
            refine s_callV1 (As := [_]) eX9_cross_27 kX9_184 ⟨by decide, by decide⟩ rfl (by decide) (by decide) rfl rfl (Nat.le_of_ble_eq_true rfl) (Nat.le_of_ble_eq_true rfl) (sp_X9_isCorner _ h.1.1 w.1 d) (fun S_27 h_27 => ?_)
            have h_27 := h_27.symm
            subst h_27
            refine x_if_neB eX9_cross_30 (fun c_30 => ?_) (fun c_30 => ?_)
            · exact absurd (of_decide_eq_true c_30) qd
            · refine x_bipush (v := -101) eX9_cross_33 (by decide) ?_
              exact s_iret eX9_cross_35 rfl rfl ⟨rfl, h, frM.rf _⟩
  obtain ⟨ka, hka, rfl⟩ := qa
  obtain ⟨kb, hkb, rfl⟩ := qb
  obtain ⟨kc, hkc, rfl⟩ := qc
  obtain ⟨kd, hkd, rfl⟩ := qd
  by_cases z : ka = kb ∨ kc = kd
  · refine ⟨.int (-102), X, w, fun S h => ?_, fun S h => ?_⟩
    · show XP _ _ [_, _, _, _, _] _ _ _
      refine x_aload_n eX8_cross_0 rfl ?_
      refine s_getR (k := 32) eX8_cross_1 fX8_12 rfl (by decide) (by decide) rfl ?_
      refine x_iload_n eX8_cross_4 rfl ?_
      refine s_callV1 (As := [_]) eX8_cross_5 kX8_88 ⟨by decide, by decide⟩ rfl (by decide) (by decide) rfl rfl (Nat.le_of_ble_eq_true rfl) (Nat.le_of_ble_eq_true rfl) (sp_X2_has _ h.1.1 w.1 (nI ka)) (fun S_5 h_5 => ?_)
      have h_5 := h_5.symm
      subst h_5
      refine x_if_eqT eX8_cross_8 (fun c_8 => ?_) (fun c_8 => ?_)
      · exact absurd ⟨ka, hka, rfl⟩ c_8
      · refine x_aload_n eX8_cross_11 rfl ?_
        refine s_getR (k := 32) eX8_cross_12 fX8_12 rfl (by decide) (by decide) rfl ?_
        refine x_iload_n eX8_cross_15 rfl ?_
        refine s_callV1 (As := [_]) eX8_cross_16 kX8_88 ⟨by decide, by decide⟩ rfl (by decide) (by decide) rfl rfl (Nat.le_of_ble_eq_true rfl) (Nat.le_of_ble_eq_true rfl) (sp_X2_has _ h.1.1 w.1 (nI kb)) (fun S_16 h_16 => ?_)
        have h_16 := h_16.symm
        subst h_16
        refine x_if_eqT eX8_cross_19 (fun c_19 => ?_) (fun c_19 => ?_)
        · exact absurd ⟨kb, hkb, rfl⟩ c_19
        · refine x_aload_n eX8_cross_22 rfl ?_
          refine s_getR (k := 32) eX8_cross_23 fX8_12 rfl (by decide) (by decide) rfl ?_
          refine x_iload_n eX8_cross_26 rfl ?_
          refine s_callV1 (As := [_]) eX8_cross_27 kX8_88 ⟨by decide, by decide⟩ rfl (by decide) (by decide) rfl rfl (Nat.le_of_ble_eq_true rfl) (Nat.le_of_ble_eq_true rfl) (sp_X2_has _ h.1.1 w.1 (nI kc)) (fun S_27 h_27 => ?_)
          have h_27 := h_27.symm
          subst h_27
          refine x_if_eqT eX8_cross_30 (fun c_30 => ?_) (fun c_30 => ?_)
          · exact absurd ⟨kc, hkc, rfl⟩ c_30
          · refine x_aload_n eX8_cross_33 rfl ?_
            refine s_getR (k := 32) eX8_cross_34 fX8_12 rfl (by decide) (by decide) rfl ?_
            refine x_iload eX8_cross_37 rfl ?_
            refine s_callV1 (As := [_]) eX8_cross_39 kX8_88 ⟨by decide, by decide⟩ rfl (by decide) (by decide) rfl rfl (Nat.le_of_ble_eq_true rfl) (Nat.le_of_ble_eq_true rfl) (sp_X2_has _ h.1.1 w.1 (nI kd)) (fun S_39 h_39 => ?_)
            have h_39 := h_39.symm
            subst h_39
            refine x_if_neT eX8_cross_42 (fun c_42 => ?_) (fun c_42 => ?_)
            · refine x_iload_n eX8_cross_48 rfl ?_
              refine x_iload_n eX8_cross_49 rfl ?_
              refine x_icmp_eqN eX8_cross_50 (by omega) (by omega) (fun c_50 => ?_) (fun c_50 => ?_)
              · refine x_bipush (v := -102) eX8_cross_59 (by decide) ?_
                exact s_iret eX8_cross_61 rfl rfl ⟨rfl, h, frC.rf _⟩
              · refine x_iload_n eX8_cross_53 rfl ?_
                refine x_iload eX8_cross_54 rfl ?_
                refine x_icmp_neN eX8_cross_56 (by omega) (by omega) (fun c_56 => ?_) (fun c_56 => ?_)
                · omega
                · refine x_bipush (v := -102) eX8_cross_59 (by decide) ?_
                  exact s_iret eX8_cross_61 rfl rfl ⟨rfl, h, frC.rf _⟩
            · exact absurd ⟨kd, hkd, rfl⟩ c_42
    · show XP _ _ [_, _, _, _, _] _ _ _
      refine x_aload_n eX9_cross_0 rfl ?_
      refine x_iload_n eX9_cross_1 rfl ?_
      refine s_callV1 (As := [_]) eX9_cross_2 kX9_184 ⟨by decide, by decide⟩ rfl (by decide) (by decide) rfl rfl (Nat.le_of_ble_eq_true rfl) (Nat.le_of_ble_eq_true rfl) (sp_X9_isCorner _ h.1.1 w.1 (nI ka)) (fun S_2 h_2 => ?_)
      have h_2 := h_2.symm
      subst h_2
      refine x_if_eqB eX9_cross_5 (fun c_5 => ?_) (fun c_5 => ?_)
      · exact absurd ⟨ka, hka, rfl⟩ (of_decide_eq_false c_5)
      · refine x_aload_n eX9_cross_8 rfl ?_
        refine x_iload_n eX9_cross_9 rfl ?_
        refine s_callV1 (As := [_]) eX9_cross_10 kX9_184 ⟨by decide, by decide⟩ rfl (by decide) (by decide) rfl rfl (Nat.le_of_ble_eq_true rfl) (Nat.le_of_ble_eq_true rfl) (sp_X9_isCorner _ h.1.1 w.1 (nI kb)) (fun S_10 h_10 => ?_)
        have h_10 := h_10.symm
        subst h_10
        refine x_if_eqB eX9_cross_13 (fun c_13 => ?_) (fun c_13 => ?_)
        · exact absurd ⟨kb, hkb, rfl⟩ (of_decide_eq_false c_13)
        · refine x_aload_n eX9_cross_16 rfl ?_
          refine x_iload_n eX9_cross_17 rfl ?_
          refine s_callV1 (As := [_]) eX9_cross_18 kX9_184 ⟨by decide, by decide⟩ rfl (by decide) (by decide) rfl rfl (Nat.le_of_ble_eq_true rfl) (Nat.le_of_ble_eq_true rfl) (sp_X9_isCorner _ h.1.1 w.1 (nI kc)) (fun S_18 h_18 => ?_)
          have h_18 := h_18.symm
          subst h_18
          refine x_if_eqB eX9_cross_21 (fun c_21 => ?_) (fun c_21 => ?_)
          · exact absurd ⟨kc, hkc, rfl⟩ (of_decide_eq_false c_21)
          · refine x_aload_n eX9_cross_24 rfl ?_
            refine x_iload eX9_cross_25 rfl ?_
            refine s_callV1 (As := [_]) eX9_cross_27 kX9_184 ⟨by decide, by decide⟩ rfl (by decide) (by decide) rfl rfl (Nat.le_of_ble_eq_true rfl) (Nat.le_of_ble_eq_true rfl) (sp_X9_isCorner _ h.1.1 w.1 (nI kd)) (fun S_27 h_27 => ?_)
            have h_27 := h_27.symm
            subst h_27
            refine x_if_neB eX9_cross_30 (fun c_30 => ?_) (fun c_30 => ?_)
            · refine x_iload_n eX9_cross_36 rfl ?_
              refine x_iload_n eX9_cross_37 rfl ?_
              refine x_icmp_eqN eX9_cross_38 (by omega) (by omega) (fun c_38 => ?_) (fun c_38 => ?_)
              · refine x_bipush (v := -102) eX9_cross_47 (by decide) ?_
                refine x_goto eX9_cross_49 ?_
                exact s_iret eX9_cross_61 rfl rfl ⟨rfl, h, frM.rf _⟩
              · refine x_iload_n eX9_cross_41 rfl ?_
                refine x_iload eX9_cross_42 rfl ?_
                refine x_icmp_neN eX9_cross_44 (by omega) (by omega) (fun c_44 => ?_) (fun c_44 => ?_)
                · omega
                · refine x_bipush (v := -102) eX9_cross_47 (by decide) ?_
                  refine x_goto eX9_cross_49 ?_
                  exact s_iret eX9_cross_61 rfl rfl ⟨rfl, h, frM.rf _⟩
            · exact absurd ⟨kd, hkd, rfl⟩ (of_decide_eq_false c_30)
  · have nab : ka ≠ kb := fun e => z (Or.inl e)
    have ncd : kc ≠ kd := fun e => z (Or.inr e)
    have pab : PX X ka ≠ PX X kb := fun e => nab (PX_inj w _ _ hka hkb e)
    have pcd : PX X kc ≠ PX X kd := fun e => ncd (PX_inj w _ _ hkc hkd e)
    refine ⟨.int (comP (PX X ka) (PX X kb) (PX X kc) (PX X kd)), X, w, fun S h => ?_, fun S h => ?_⟩
    · show XP _ _ [_, _, _, _, _] _ _ _
      refine x_aload_n eX8_cross_0 rfl ?_
      refine s_getR (k := 32) eX8_cross_1 fX8_12 rfl (by decide) (by decide) rfl ?_
      refine x_iload_n eX8_cross_4 rfl ?_
      refine s_callV1 (As := [_]) eX8_cross_5 kX8_88 ⟨by decide, by decide⟩ rfl (by decide) (by decide) rfl rfl (Nat.le_of_ble_eq_true rfl) (Nat.le_of_ble_eq_true rfl) (sp_X2_has _ h.1.1 w.1 (nI ka)) (fun S_5 h_5 => ?_)
      have h_5 := h_5.symm
      subst h_5
      refine x_if_eqT eX8_cross_8 (fun c_8 => ?_) (fun c_8 => ?_)
      · exact absurd ⟨ka, hka, rfl⟩ c_8
      · refine x_aload_n eX8_cross_11 rfl ?_
        refine s_getR (k := 32) eX8_cross_12 fX8_12 rfl (by decide) (by decide) rfl ?_
        refine x_iload_n eX8_cross_15 rfl ?_
        refine s_callV1 (As := [_]) eX8_cross_16 kX8_88 ⟨by decide, by decide⟩ rfl (by decide) (by decide) rfl rfl (Nat.le_of_ble_eq_true rfl) (Nat.le_of_ble_eq_true rfl) (sp_X2_has _ h.1.1 w.1 (nI kb)) (fun S_16 h_16 => ?_)
        have h_16 := h_16.symm
        subst h_16
        refine x_if_eqT eX8_cross_19 (fun c_19 => ?_) (fun c_19 => ?_)
        · exact absurd ⟨kb, hkb, rfl⟩ c_19
        · refine x_aload_n eX8_cross_22 rfl ?_
          refine s_getR (k := 32) eX8_cross_23 fX8_12 rfl (by decide) (by decide) rfl ?_
          refine x_iload_n eX8_cross_26 rfl ?_
          refine s_callV1 (As := [_]) eX8_cross_27 kX8_88 ⟨by decide, by decide⟩ rfl (by decide) (by decide) rfl rfl (Nat.le_of_ble_eq_true rfl) (Nat.le_of_ble_eq_true rfl) (sp_X2_has _ h.1.1 w.1 (nI kc)) (fun S_27 h_27 => ?_)
          have h_27 := h_27.symm
          subst h_27
          refine x_if_eqT eX8_cross_30 (fun c_30 => ?_) (fun c_30 => ?_)
          · exact absurd ⟨kc, hkc, rfl⟩ c_30
          · refine x_aload_n eX8_cross_33 rfl ?_
            refine s_getR (k := 32) eX8_cross_34 fX8_12 rfl (by decide) (by decide) rfl ?_
            refine x_iload eX8_cross_37 rfl ?_
            refine s_callV1 (As := [_]) eX8_cross_39 kX8_88 ⟨by decide, by decide⟩ rfl (by decide) (by decide) rfl rfl (Nat.le_of_ble_eq_true rfl) (Nat.le_of_ble_eq_true rfl) (sp_X2_has _ h.1.1 w.1 (nI kd)) (fun S_39 h_39 => ?_)
            have h_39 := h_39.symm
            subst h_39
            refine x_if_neT eX8_cross_42 (fun c_42 => ?_) (fun c_42 => ?_)
            · refine x_iload_n eX8_cross_48 rfl ?_
              refine x_iload_n eX8_cross_49 rfl ?_
              refine x_icmp_eqN eX8_cross_50 (by omega) (by omega) (fun c_50 => ?_) (fun c_50 => ?_)
              · omega
              · refine x_iload_n eX8_cross_53 rfl ?_
                refine x_iload eX8_cross_54 rfl ?_
                refine x_icmp_neN eX8_cross_56 (by omega) (by omega) (fun c_56 => ?_) (fun c_56 => ?_)
                · refine x_aload_n eX8_cross_62 rfl ?_
                  refine s_getR (k := 32) eX8_cross_63 fX8_12 rfl (by decide) (by decide) rfl ?_
                  refine x_iload_n eX8_cross_66 rfl ?_
                  refine x_iload_n eX8_cross_67 rfl ?_
                  refine x_iload_n eX8_cross_68 rfl ?_
                  refine x_iload eX8_cross_69 rfl ?_
                  refine s_callV1 (As := [_, _, _, _]) eX8_cross_71 kX8_108 ⟨by decide, by decide⟩ rfl (by decide) (by decide) rfl rfl (Nat.le_of_ble_eq_true rfl) (Nat.le_of_ble_eq_true rfl) (sp_X2_meeting _ (h.1.2.1 ka hka).2.2 (h.1.2.1 kb hkb).2.2 (h.1.2.1 kc hkc).2.2 (h.1.2.1 kd hkd).2.2) (fun S_71 h_71 => ?_)
                  exact s_iret eX8_cross_74 rfl rfl ⟨by rw [met_com pab pcd], RC_L h h_71, h_71.frC (by simp)⟩
                · omega
            · exact absurd ⟨kd, hkd, rfl⟩ c_42
    · show XP _ _ [_, _, _, _, _] _ _ _
      refine x_aload_n eX9_cross_0 rfl ?_
      refine x_iload_n eX9_cross_1 rfl ?_
      refine s_callV1 (As := [_]) eX9_cross_2 kX9_184 ⟨by decide, by decide⟩ rfl (by decide) (by decide) rfl rfl (Nat.le_of_ble_eq_true rfl) (Nat.le_of_ble_eq_true rfl) (sp_X9_isCorner _ h.1.1 w.1 (nI ka)) (fun S_2 h_2 => ?_)
      have h_2 := h_2.symm
      subst h_2
      refine x_if_eqB eX9_cross_5 (fun c_5 => ?_) (fun c_5 => ?_)
      · exact absurd ⟨ka, hka, rfl⟩ (of_decide_eq_false c_5)
      · refine x_aload_n eX9_cross_8 rfl ?_
        refine x_iload_n eX9_cross_9 rfl ?_
        refine s_callV1 (As := [_]) eX9_cross_10 kX9_184 ⟨by decide, by decide⟩ rfl (by decide) (by decide) rfl rfl (Nat.le_of_ble_eq_true rfl) (Nat.le_of_ble_eq_true rfl) (sp_X9_isCorner _ h.1.1 w.1 (nI kb)) (fun S_10 h_10 => ?_)
        have h_10 := h_10.symm
        subst h_10
        refine x_if_eqB eX9_cross_13 (fun c_13 => ?_) (fun c_13 => ?_)
        · exact absurd ⟨kb, hkb, rfl⟩ (of_decide_eq_false c_13)
        · refine x_aload_n eX9_cross_16 rfl ?_
          refine x_iload_n eX9_cross_17 rfl ?_
          refine s_callV1 (As := [_]) eX9_cross_18 kX9_184 ⟨by decide, by decide⟩ rfl (by decide) (by decide) rfl rfl (Nat.le_of_ble_eq_true rfl) (Nat.le_of_ble_eq_true rfl) (sp_X9_isCorner _ h.1.1 w.1 (nI kc)) (fun S_18 h_18 => ?_)
          have h_18 := h_18.symm
          subst h_18
          refine x_if_eqB eX9_cross_21 (fun c_21 => ?_) (fun c_21 => ?_)
          · exact absurd ⟨kc, hkc, rfl⟩ (of_decide_eq_false c_21)
          · refine x_aload_n eX9_cross_24 rfl ?_
            refine x_iload eX9_cross_25 rfl ?_
            refine s_callV1 (As := [_]) eX9_cross_27 kX9_184 ⟨by decide, by decide⟩ rfl (by decide) (by decide) rfl rfl (Nat.le_of_ble_eq_true rfl) (Nat.le_of_ble_eq_true rfl) (sp_X9_isCorner _ h.1.1 w.1 (nI kd)) (fun S_27 h_27 => ?_)
            have h_27 := h_27.symm
            subst h_27
            refine x_if_neB eX9_cross_30 (fun c_30 => ?_) (fun c_30 => ?_)
            · refine x_iload_n eX9_cross_36 rfl ?_
              refine x_iload_n eX9_cross_37 rfl ?_
              refine x_icmp_eqN eX9_cross_38 (by omega) (by omega) (fun c_38 => ?_) (fun c_38 => ?_)
              · omega
              · refine x_iload_n eX9_cross_41 rfl ?_
                refine x_iload eX9_cross_42 rfl ?_
                refine x_icmp_neN eX9_cross_44 (by omega) (by omega) (fun c_44 => ?_) (fun c_44 => ?_)
                · refine x_aload_n eX9_cross_52 rfl ?_
                  refine x_iload_n eX9_cross_53 rfl ?_
                  refine x_iload_n eX9_cross_54 rfl ?_
                  refine x_iload_n eX9_cross_55 rfl ?_
                  refine x_iload eX9_cross_56 rfl ?_
                  refine s_callV1 (As := [_, _, _, _]) eX9_cross_58 kX9_204 ⟨by decide, by decide⟩ rfl (by decide) (by decide) rfl rfl (Nat.le_of_ble_eq_true rfl) (Nat.le_of_ble_eq_true rfl) (sp_X9_common _ (h.1.2.1 ka hka).2.2 (h.1.2.1 kb hkb).2.2 (h.1.2.1 kc hkc).2.2 (h.1.2.1 kd hkd).2.2 nab ncd) (fun S_58 h_58 => ?_)
                  exact s_iret eX9_cross_61 rfl rfl ⟨by rw [comP_sc two0], RM_L w h h_58, h_58.frM (by simp)⟩
                · omega
            · exact absurd ⟨kd, hkd, rfl⟩ (of_decide_eq_false c_30)

