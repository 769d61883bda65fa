/-! ===== walk, locate ===== -/
theorem in03 (l : Int32) : decide (nI 0 ≤ l ∧ l ≤ nI 3) = decide (∃ k : Nat, k < 4 ∧ l = nI k) := by
  by_cases h : ∃ k, k < 4 ∧ l = nI k
  · rw [decide_eq_true h]
    obtain ⟨k, hk, rfl⟩ := h
    exact decide_eq_true ⟨nI_le (by omega) (by omega), nI_le (by omega) (by omega)⟩
  · rw [decide_eq_false h]
    apply decide_eq_false
    intro h3
    obtain ⟨j, hj, rfl⟩ := nI_of (Int32.not_lt.mpr h3.1)
    exact h ⟨j, by have := (nI_leI hj (by omega)).mp h3.2; omega, rfl⟩
theorem gt_X {X : LM} (w : wf X) {q : Nat} (t : xTh X q = true) (T : Pt) {a b : Nat} (ha : a < xNc X) (hb : b < xNc X) (hab : a ≠ b) : gtP (vr (PT (PX X) T) (xRg X q) (xSz X q)) (xSz X q) (xRg X q) a b (PT (PX X) T a) (PT (PX X) T b) ↔ goesP (vq X q) (xSz X q) (PX X a) (PX X b) := by
  have n200 := w.1
  rw [PT_lt _ _ (by omega), PT_lt _ _ (by omega), vq_PT w t T]
  exact gt_iff (wf_good w t) (PX_inj w) ha hb hab
theorem gm_X {X : LM} (w : wf X) {q : Nat} (t : xTh X q = true) (T : Pt) {a b : Nat} (ha : a < xNc X) (hb : b < xNc X) : goesP (vr (dbl (PT (PX X) T)) (xRg X q) (xSz X q)) (xSz X q) (dbl (PT (PX X) T) a) (dbl (PT (PX X) T) b) ↔ goesP (vq X q) (xSz X q) (PX X a) (PX X b) := by
  have n200 := w.1
  rw [vq_PTd w t T]
  show goesP _ _ (scP 2 (PT (PX X) T a)) (scP 2 (PT (PX X) T b)) ↔ _
  rw [PT_lt _ _ (by omega), PT_lt _ _ (by omega), goesP_sc2]

theorem b_walk {X : LM} (w : wf X) (l a b k : Int32) : both X mX8_walk mX9_walk [.int l, .int a, .int b, .int k] := by
  have n60 : xNp X ≤ 60 := w.2.2.2.2.1.1
  have n200 := w.1
  by_cases qa : ∃ k, k < xNc X ∧ a = nI k
  rotate_left
  · refine ⟨.int (-101), X, w, fun S h => ?_, fun S h => ?_⟩
    · show XP _ _ [_, _, _, _, _] _ _ _
      refine x_aload_n eX8_walk_0 rfl ?_
      refine s_getR (k := 32) eX8_walk_1 fX8_12 rfl (by decide) (by decide) rfl ?_
      refine x_iload_n eX8_walk_4 rfl ?_
      refine s_callV1 (As := [_]) eX8_walk_5 kX8_88 ⟨by decide, by decide⟩ rfl (by decide) (by decide) rfl rfl (Nat.le_of_ble_eq_true rfl) (Nat.le_of_ble_eq_true rfl) (sp_X2_has _ h.1.1 w.1 a) (fun S_5 h_5 => ?_)
      have h_5 := h_5.symm
      subst h_5
      refine x_if_eqT eX8_walk_8 (fun c_8 => ?_) (fun c_8 => ?_)
      · refine x_bipush (v := -101) eX8_walk_22 (by decide) ?_
        exact s_iret eX8_walk_24 rfl rfl ⟨rfl, h, frC.rf _⟩
      · exact absurd c_8 qa
    · show XP _ _ [_, _, _, _, _] _ _ _
      refine x_aload_n eX9_walk_0 rfl ?_
      refine x_iload_n eX9_walk_1 rfl ?_
      refine s_callV1 (As := [_]) eX9_walk_2 kX9_184 ⟨by decide, by decide⟩ rfl (by decide) (by decide) rfl rfl (Nat.le_of_ble_eq_true rfl) (Nat.le_of_ble_eq_true rfl) (sp_X9_isCorner _ h.1.1 w.1 a) (fun S_2 h_2 => ?_)
      have h_2 := h_2.symm
      subst h_2
      refine x_if_eqB eX9_walk_5 (fun c_5 => ?_) (fun c_5 => ?_)
      · refine x_bipush (v := -101) eX9_walk_16 (by decide) ?_
        exact s_iret eX9_walk_18 rfl rfl ⟨rfl, h, frM.rf _⟩
      · exact absurd (of_decide_eq_true c_5) qa
  by_cases qb : ∃ k, k < xNc X ∧ b = nI k
  rotate_left
  · refine ⟨.int (-101), X, w, fun S h => ?_, fun S h => ?_⟩
    · show XP _ _ [_, _, _, _, _] _ _ _
      refine x_aload_n eX8_walk_0 rfl ?_
      refine s_getR (k := 32) eX8_walk_1 fX8_12 rfl (by decide) (by decide) rfl ?_
      refine x_iload_n eX8_walk_4 rfl ?_
      refine s_callV1 (As := [_]) eX8_walk_5 kX8_88 ⟨by decide, by decide⟩ rfl (by decide) (by decide) rfl rfl (Nat.le_of_ble_eq_true rfl) (Nat.le_of_ble_eq_true rfl) (sp_X2_has _ h.1.1 w.1 a) (fun S_5 h_5 => ?_)
      have h_5 := h_5.symm
      subst h_5
      refine x_if_eqT eX8_walk_8 (fun c_8 => ?_) (fun c_8 => ?_)
      · exact absurd qa c_8
      · refine x_aload_n eX8_walk_11 rfl ?_
        refine s_getR (k := 32) eX8_walk_12 fX8_12 rfl (by decide) (by decide) rfl ?_
        refine x_iload_n eX8_walk_15 rfl ?_
        refine s_callV1 (As := [_]) eX8_walk_16 kX8_88 ⟨by decide, by decide⟩ rfl (by decide) (by decide) rfl rfl (Nat.le_of_ble_eq_true rfl) (Nat.le_of_ble_eq_true rfl) (sp_X2_has _ h.1.1 w.1 b) (fun S_16 h_16 => ?_)
        have h_16 := h_16.symm
        subst h_16
        refine x_if_neT eX8_walk_19 (fun c_19 => ?_) (fun c_19 => ?_)
        · exact absurd c_19 qb
        · refine x_bipush (v := -101) eX8_walk_22 (by decide) ?_
          exact s_iret eX8_walk_24 rfl rfl ⟨rfl, h, frC.rf _⟩
    · show XP _ _ [_, _, _, _, _] _ _ _
      refine x_aload_n eX9_walk_0 rfl ?_
      refine x_iload_n eX9_walk_1 rfl ?_
      refine s_callV1 (As := [_]) eX9_walk_2 kX9_184 ⟨by decide, by decide⟩ rfl (by decide) (by decide) rfl rfl (Nat.le_of_ble_eq_true rfl) (Nat.le_of_ble_eq_true rfl) (sp_X9_isCorner _ h.1.1 w.1 a) (fun S_2 h_2 => ?_)
      have h_2 := h_2.symm
      subst h_2
      refine x_if_eqB eX9_walk_5 (fun c_5 => ?_) (fun c_5 => ?_)
      · exact absurd qa (of_decide_eq_false c_5)
      · refine x_aload_n eX9_walk_8 rfl ?_
        refine x_iload_n eX9_walk_9 rfl ?_
        refine s_callV1 (As := [_]) eX9_walk_10 kX9_184 ⟨by decide, by decide⟩ rfl (by decide) (by decide) rfl rfl (Nat.le_of_ble_eq_true rfl) (Nat.le_of_ble_eq_true rfl) (sp_X9_isCorner _ h.1.1 w.1 b) (fun S_10 h_10 => ?_)
        have h_10 := h_10.symm
        subst h_10
        refine x_if_neB eX9_walk_13 (fun c_13 => ?_) (fun c_13 => ?_)
        · exact absurd (of_decide_eq_true c_13) qb
        · refine x_bipush (v := -101) eX9_walk_16 (by decide) ?_
          exact s_iret eX9_walk_18 rfl rfl ⟨rfl, h, frM.rf _⟩
  obtain ⟨ka, ha, rfl⟩ := qa
  obtain ⟨kb, hb, rfl⟩ := qb
  by_cases z : (∃ k, k < 4 ∧ l = nI k) ∧ ka ≠ kb
  rotate_left
  · refine ⟨.int (-102), X, w, fun S h => ?_, fun S h => ?_⟩
    · show XP _ _ [_, _, _, _, _] _ _ _
      refine x_aload_n eX8_walk_0 rfl ?_
      refine s_getR (k := 32) eX8_walk_1 fX8_12 rfl (by decide) (by decide) rfl ?_
      refine x_iload_n eX8_walk_4 rfl ?_
      refine s_callV1 (As := [_]) eX8_walk_5 kX8_88 ⟨by decide, by decide⟩ rfl (by decide) (by decide) rfl rfl (Nat.le_of_ble_eq_true rfl) (Nat.le_of_ble_eq_true rfl) (sp_X2_has _ h.1.1 w.1 (nI ka)) (fun S_5 h_5 => ?_)
      have h_5 := h_5.symm
      subst h_5
      refine x_if_eqT eX8_walk_8 (fun c_8 => ?_) (fun c_8 => ?_)
      · exact absurd ⟨ka, ha, rfl⟩ c_8
      · refine x_aload_n eX8_walk_11 rfl ?_
        refine s_getR (k := 32) eX8_walk_12 fX8_12 rfl (by decide) (by decide) rfl ?_
        refine x_iload_n eX8_walk_15 rfl ?_
        refine s_callV1 (As := [_]) eX8_walk_16 kX8_88 ⟨by decide, by decide⟩ rfl (by decide) (by decide) rfl rfl (Nat.le_of_ble_eq_true rfl) (Nat.le_of_ble_eq_true rfl) (sp_X2_has _ h.1.1 w.1 (nI kb)) (fun S_16 h_16 => ?_)
        have h_16 := h_16.symm
        subst h_16
        refine x_if_neT eX8_walk_19 (fun c_19 => ?_) (fun c_19 => ?_)
        · refine x_iload_n eX8_walk_25 rfl ?_
          refine s_callS1 (As := [_]) eX8_walk_26 kX8_125 ⟨by decide, by decide⟩ rfl rfl (Nat.le_of_ble_eq_true rfl) (Nat.le_of_ble_eq_true rfl) (sp_X8_isLayer _ l) (fun S_26 h_26 => ?_)
          have h_26 := h_26.symm
          subst h_26
          refine x_if_eqT eX8_walk_29 (fun c_29 => ?_) (fun c_29 => ?_)
          · refine x_bipush (v := -102) eX8_walk_37 (by decide) ?_
            exact s_iret eX8_walk_39 rfl rfl ⟨rfl, h, frC.rf _⟩
          · refine x_iload_n eX8_walk_32 rfl ?_
            refine x_iload_n eX8_walk_33 rfl ?_
            refine x_icmp_neN eX8_walk_34 (by omega) (by omega) (fun c_34 => ?_) (fun c_34 => ?_)
            · exact absurd ⟨c_29, c_34⟩ z
            · refine x_bipush (v := -102) eX8_walk_37 (by decide) ?_
              exact s_iret eX8_walk_39 rfl rfl ⟨rfl, h, frC.rf _⟩
        · exact absurd ⟨kb, hb, rfl⟩ c_19
    · show XP _ _ [_, _, _, _, _] _ _ _
      refine x_aload_n eX9_walk_0 rfl ?_
      refine x_iload_n eX9_walk_1 rfl ?_
      refine s_callV1 (As := [_]) eX9_walk_2 kX9_184 ⟨by decide, by decide⟩ rfl (by decide) (by decide) rfl rfl (Nat.le_of_ble_eq_true rfl) (Nat.le_of_ble_eq_true rfl) (sp_X9_isCorner _ h.1.1 w.1 (nI ka)) (fun S_2 h_2 => ?_)
      have h_2 := h_2.symm
      subst h_2
      refine x_if_eqB eX9_walk_5 (fun c_5 => ?_) (fun c_5 => ?_)
      · exact absurd ⟨ka, ha, rfl⟩ (of_decide_eq_false c_5)
      · refine x_aload_n eX9_walk_8 rfl ?_
        refine x_iload_n eX9_walk_9 rfl ?_
        refine s_callV1 (As := [_]) eX9_walk_10 kX9_184 ⟨by decide, by decide⟩ rfl (by decide) (by decide) rfl rfl (Nat.le_of_ble_eq_true rfl) (Nat.le_of_ble_eq_true rfl) (sp_X9_isCorner _ h.1.1 w.1 (nI kb)) (fun S_10 h_10 => ?_)
        have h_10 := h_10.symm
        subst h_10
        refine x_if_neB eX9_walk_13 (fun c_13 => ?_) (fun c_13 => ?_)
        · refine x_iload_n eX9_walk_19 rfl ?_
          refine x_iconst (v := nI 0) eX9_walk_20 (by decide) ?_
          refine x_iconst (v := nI 3) eX9_walk_21 (by decide) ?_
          refine s_callS1 (As := [_, _, _]) eX9_walk_22 kX9_173 ⟨by decide, by decide⟩ rfl rfl (Nat.le_of_ble_eq_true rfl) (Nat.le_of_ble_eq_true rfl) (sp_X9_in _ _ _ _) (fun S_22 h_22 => ?_)
          have h_22 := h_22.symm
          subst h_22
          rw [in03]
          refine x_if_eqB eX9_walk_25 (fun c_25 => ?_) (fun c_25 => ?_)
          · refine x_bipush (v := -102) eX9_walk_33 (by decide) ?_
            exact s_iret eX9_walk_35 rfl rfl ⟨rfl, h, frM.rf _⟩
          · refine x_iload_n eX9_walk_28 rfl ?_
            refine x_iload_n eX9_walk_29 rfl ?_
            refine x_icmp_neN eX9_walk_30 (by omega) (by omega) (fun c_30 => ?_) (fun c_30 => ?_)
            · exact absurd ⟨of_decide_eq_true c_25, c_30⟩ z
            · refine x_bipush (v := -102) eX9_walk_33 (by decide) ?_
              exact s_iret eX9_walk_35 rfl rfl ⟨rfl, h, frM.rf _⟩
        · exact absurd ⟨kb, hb, rfl⟩ (of_decide_eq_false c_13)
  obtain ⟨zl, zab⟩ := z
  refine ⟨.int (nthI (fun q => xTh X q = true ∧ nI (xLy X q) = l ∧ goesP (vq X q) (xSz X q) (PX X ka) (PX X kb)) (xNp X) k), X, w, fun S h => ?_, fun S h => ?_⟩
  · obtain ⟨T, hT⟩ := h.pts w
    have loop : ∀ μ j, j + μ = (xNp X) → ∀ S1, (Lx [364] S S1 ∧ ∀ q, q < j → ¬ ((fun q => xTh X q = true ∧ nI (xLy X q) = l ∧ goesP (vq X q) (xSz X q) (PX X ka) (PX X kb)) q ∧ nI (cnt (fun q => xTh X q = true ∧ nI (xLy X q) = l ∧ goesP (vq X q) (xSz X q) (PX X ka) (PX X kb)) q) = k)) → XP mX8_walk 46 [(6, .int (nI j)), (5, .int (nI (cnt (fun q => xTh X q = true ∧ nI (xLy X q) = l ∧ goesP (vq X q) (xSz X q) (PX X ka) (PX X kb)) j))), (0, .ref 31), (1, .int l), (2, .int (nI ka)), (3, .int (nI kb)), (4, .int k)] [] (xwS S1) (sQ (fun r S' => r = some (.int (nthI (fun q => xTh X q = true ∧ nI (xLy X q) = l ∧ goesP (vq X q) (xSz X q) (PX X ka) (PX X kb)) (xNp X) k)) ∧ RC S' X ∧ frC S S')) := by
      intro μ
      induction μ with
      | zero =>
        intro j hk S1 h1
        obtain ⟨hx, hno⟩ := h1
        have g := RC_L h hx
        have t := g.tab w
        have pts := hT.m hx
        refine x_iload eX8_walk_46 rfl ?_
        refine x_aload_n eX8_walk_48 rfl ?_
        refine s_getR (k := 37) eX8_walk_49 fX8_28 rfl (by decide) (by decide) rfl ?_
        refine s_geti eX8_walk_52 fX8_136 rfl (by decide) (by decide) ?_
        rw [t.1]
        refine x_icmp_geN eX8_walk_55 (by omega) (by omega) (fun c_55 => ?_) (fun c_55 => ?_)
        · refine x_iconst (v := -1) eX8_walk_115 (by decide) ?_
          exact s_iret eX8_walk_116 rfl rfl ⟨by rw [nth_no (fun q hq => hno q (by omega))], g, hx.frC (by simp)⟩
        · omega
      | succ μ ih =>
        intro j hk S1 h1
        obtain ⟨hx, hno⟩ := h1
        have g := RC_L h hx
        have t := g.tab w
        have pts := hT.m hx
        refine x_iload eX8_walk_46 rfl ?_
        refine x_aload_n eX8_walk_48 rfl ?_
        refine s_getR (k := 37) eX8_walk_49 fX8_28 rfl (by decide) (by decide) rfl ?_
        refine s_geti eX8_walk_52 fX8_136 rfl (by decide) (by decide) ?_
        rw [t.1]
        refine x_icmp_geN eX8_walk_55 (by omega) (by omega) (fun c_55 => ?_) (fun c_55 => ?_)
        · omega
        · refine x_aload_n eX8_walk_58 rfl ?_
          refine s_getR (k := 37) eX8_walk_59 fX8_28 rfl (by decide) (by decide) rfl ?_
          refine x_iload eX8_walk_62 rfl ?_
          refine x_iload_n eX8_walk_64 rfl ?_
          refine s_callV1 (As := [_, _]) eX8_walk_65 kX8_208 ⟨by decide, by decide⟩ rfl (by decide) (by decide) rfl rfl (Nat.le_of_ble_eq_true rfl) (Nat.le_of_ble_eq_true rfl) (sp_X3_isOf t (by omega) _) (fun S_65 h_65 => ?_)
          have h_65 := h_65.symm
          subst h_65
          refine x_if_eqT eX8_walk_68 (fun c_68 => ?_) (fun c_68 => ?_)
          · refine x_iinc (lv' := [_, _, _, _, _, _, _]) eX8_walk_109 rfl (by first | exact nI_inc _ | exact rfl) (by decide) rfl ?_
            refine x_goto eX8_walk_112 ?_
            refine x_pick [0, 1, 2, 3, 4, 5, 6] rfl ?_
            have nx : ∀ q, q < j + 1 → ¬ ((fun q => xTh X q = true ∧ nI (xLy X q) = l ∧ goesP (vq X q) (xSz X q) (PX X ka) (PX X kb)) q ∧ nI (cnt (fun q => xTh X q = true ∧ nI (xLy X q) = l ∧ goesP (vq X q) (xSz X q) (PX X ka) (PX X kb)) q) = k) := fun q hq z => by
              by_cases e : q = j
              · subst e
                first
                  | exact c_100 z.2
                  | exact c_68 ⟨by omega, z.1.1, z.1.2.1⟩
                  | exact c_93 z.1.2.2
              · exact hno q (by omega) z
            have := ih (j + 1) (by omega) _ ⟨hx, nx⟩
            first
              | (rw [cnt_t (R := (fun q => xTh X q = true ∧ nI (xLy X q) = l ∧ goesP (vq X q) (xSz X q) (PX X ka) (PX X kb))) ⟨c_68.2.1, c_68.2.2, c_93⟩] at this; exact this)
              | (rw [cnt_f (R := (fun q => xTh X q = true ∧ nI (xLy X q) = l ∧ goesP (vq X q) (xSz X q) (PX X ka) (PX X kb))) (fun z => c_68 ⟨by omega, z.1, z.2.1⟩)] at this; exact this)
              | (rw [cnt_f (R := (fun q => xTh X q = true ∧ nI (xLy X q) = l ∧ goesP (vq X q) (xSz X q) (PX X ka) (PX X kb))) (fun z => c_93 z.2.2)] at this; exact this)
          · refine x_aload_n eX8_walk_71 rfl ?_
            refine s_getR (k := 36) eX8_walk_72 fX8_21 rfl (by decide) (by decide) rfl ?_
            refine x_iload_n eX8_walk_75 rfl ?_
            refine x_iload_n eX8_walk_76 rfl ?_
            refine x_aload_n eX8_walk_77 rfl ?_
            refine s_getR (k := 37) eX8_walk_78 fX8_28 rfl (by decide) (by decide) rfl ?_
            refine s_getR (k := 38) eX8_walk_81 fX8_145 rfl (by decide) (by decide) rfl ?_
            refine x_iload eX8_walk_84 rfl ?_
            refine s_raldR eX8_walk_86 (by first | exact Or.inl rfl | exact Or.inr rfl) (by decide) rfl (show _ < 60 by omega) (rf_parcels j) ?_
            refine s_getR (k := (45 + 2 * j)) eX8_walk_87 fX8_157 (kd_parcel (by omega)) (show _ < 365 by omega) (by decide) (rf_parcel (by omega)) ?_
            refine s_callV1 (As := [_, _, _]) eX8_walk_90 kX8_216 ⟨by decide, by decide⟩ rfl (by decide) (by decide) rfl rfl (Nat.le_of_ble_eq_true rfl) (Nat.le_of_ble_eq_true rfl) (sp_X5_goesThrough _ pts (g.cr w c_68.1 c_68.2.1) (Or.inl ha) (Or.inl hb) n200) (fun S_90 h_90 => ?_)
            rw [tI_iff (gt_X w c_68.2.1 T ha hb zab)]
            have hx := hx.tr h_90
            have g := RC_L h hx
            refine x_if_eqT eX8_walk_93 (fun c_93 => ?_) (fun c_93 => ?_)
            · refine x_iinc (lv' := [_, _, _, _, _, _, _]) eX8_walk_109 rfl (by first | exact nI_inc _ | exact rfl) (by decide) rfl ?_
              refine x_goto eX8_walk_112 ?_
              refine x_pick [0, 1, 2, 3, 4, 5, 6] rfl ?_
              have nx : ∀ q, q < j + 1 → ¬ ((fun q => xTh X q = true ∧ nI (xLy X q) = l ∧ goesP (vq X q) (xSz X q) (PX X ka) (PX X kb)) q ∧ nI (cnt (fun q => xTh X q = true ∧ nI (xLy X q) = l ∧ goesP (vq X q) (xSz X q) (PX X ka) (PX X kb)) q) = k) := fun q hq z => by
                by_cases e : q = j
                · subst e
                  first
                    | exact c_100 z.2
                    | exact c_68 ⟨by omega, z.1.1, z.1.2.1⟩
                    | exact c_93 z.1.2.2
                · exact hno q (by omega) z
              have := ih (j + 1) (by omega) _ ⟨hx, nx⟩
              first
                | (rw [cnt_t (R := (fun q => xTh X q = true ∧ nI (xLy X q) = l ∧ goesP (vq X q) (xSz X q) (PX X ka) (PX X kb))) ⟨c_68.2.1, c_68.2.2, c_93⟩] at this; exact this)
                | (rw [cnt_f (R := (fun q => xTh X q = true ∧ nI (xLy X q) = l ∧ goesP (vq X q) (xSz X q) (PX X ka) (PX X kb))) (fun z => c_68 ⟨by omega, z.1, z.2.1⟩)] at this; exact this)
                | (rw [cnt_f (R := (fun q => xTh X q = true ∧ nI (xLy X q) = l ∧ goesP (vq X q) (xSz X q) (PX X ka) (PX X kb))) (fun z => c_93 z.2.2)] at this; exact this)
            · refine x_iload eX8_walk_96 rfl ?_
              refine x_iload eX8_walk_98 rfl ?_
              refine x_icmp_ne eX8_walk_100 (fun c_100 => ?_) (fun c_100 => ?_)
              · refine x_iinc (lv' := [_, _, _, _, _, _, _]) eX8_walk_106 rfl (by first | exact nI_inc _ | exact rfl) (by decide) rfl ?_
                refine x_iinc (lv' := [_, _, _, _, _, _, _]) eX8_walk_109 rfl (by first | exact nI_inc _ | exact rfl) (by decide) rfl ?_
                refine x_goto eX8_walk_112 ?_
                refine x_pick [0, 1, 2, 3, 4, 5, 6] rfl ?_
                have nx : ∀ q, q < j + 1 → ¬ ((fun q => xTh X q = true ∧ nI (xLy X q) = l ∧ goesP (vq X q) (xSz X q) (PX X ka) (PX X kb)) q ∧ nI (cnt (fun q => xTh X q = true ∧ nI (xLy X q) = l ∧ goesP (vq X q) (xSz X q) (PX X ka) (PX X kb)) q) = k) := fun q hq z => by
                  by_cases e : q = j
                  · subst e
                    first
                      | exact c_100 z.2
                      | exact c_68 ⟨by omega, z.1.1, z.1.2.1⟩
                      | exact c_93 z.1.2.2
                  · exact hno q (by omega) z
                have := ih (j + 1) (by omega) _ ⟨hx, nx⟩
                first
                  | (rw [cnt_t (R := (fun q => xTh X q = true ∧ nI (xLy X q) = l ∧ goesP (vq X q) (xSz X q) (PX X ka) (PX X kb))) ⟨c_68.2.1, c_68.2.2, c_93⟩] at this; exact this)
                  | (rw [cnt_f (R := (fun q => xTh X q = true ∧ nI (xLy X q) = l ∧ goesP (vq X q) (xSz X q) (PX X ka) (PX X kb))) (fun z => c_68 ⟨by omega, z.1, z.2.1⟩)] at this; exact this)
                  | (rw [cnt_f (R := (fun q => xTh X q = true ∧ nI (xLy X q) = l ∧ goesP (vq X q) (xSz X q) (PX X ka) (PX X kb))) (fun z => c_93 z.2.2)] at this; exact this)
              · refine x_iload eX8_walk_103 rfl ?_
                exact s_iret eX8_walk_105 rfl rfl ⟨by rw [nth_yes (R := (fun q => xTh X q = true ∧ nI (xLy X q) = l ∧ goesP (vq X q) (xSz X q) (PX X ka) (PX X kb))) (by omega) ⟨c_68.2.1, c_68.2.2, c_93⟩ c_100 hno], g, hx.frC (by simp)⟩
    show XP _ _ [_, _, _, _, _] _ _ _
    refine x_aload_n eX8_walk_0 rfl ?_
    refine s_getR (k := 32) eX8_walk_1 fX8_12 rfl (by decide) (by decide) rfl ?_
    refine x_iload_n eX8_walk_4 rfl ?_
    refine s_callV1 (As := [_]) eX8_walk_5 kX8_88 ⟨by decide, by decide⟩ rfl (by decide) (by decide) rfl rfl (Nat.le_of_ble_eq_true rfl) (Nat.le_of_ble_eq_true rfl) (sp_X2_has _ h.1.1 w.1 (nI ka)) (fun S_5 h_5 => ?_)
    have h_5 := h_5.symm
    subst h_5
    refine x_if_eqT eX8_walk_8 (fun c_8 => ?_) (fun c_8 => ?_)
    · exact absurd ⟨ka, ha, rfl⟩ c_8
    · refine x_aload_n eX8_walk_11 rfl ?_
      refine s_getR (k := 32) eX8_walk_12 fX8_12 rfl (by decide) (by decide) rfl ?_
      refine x_iload_n eX8_walk_15 rfl ?_
      refine s_callV1 (As := [_]) eX8_walk_16 kX8_88 ⟨by decide, by decide⟩ rfl (by decide) (by decide) rfl rfl (Nat.le_of_ble_eq_true rfl) (Nat.le_of_ble_eq_true rfl) (sp_X2_has _ h.1.1 w.1 (nI kb)) (fun S_16 h_16 => ?_)
      have h_16 := h_16.symm
      subst h_16
      refine x_if_neT eX8_walk_19 (fun c_19 => ?_) (fun c_19 => ?_)
      · refine x_iload_n eX8_walk_25 rfl ?_
        refine s_callS1 (As := [_]) eX8_walk_26 kX8_125 ⟨by decide, by decide⟩ rfl rfl (Nat.le_of_ble_eq_true rfl) (Nat.le_of_ble_eq_true rfl) (sp_X8_isLayer _ l) (fun S_26 h_26 => ?_)
        have h_26 := h_26.symm
        subst h_26
        refine x_if_eqT eX8_walk_29 (fun c_29 => ?_) (fun c_29 => ?_)
        · exact absurd zl c_29
        · refine x_iload_n eX8_walk_32 rfl ?_
          refine x_iload_n eX8_walk_33 rfl ?_
          refine x_icmp_neN eX8_walk_34 (by omega) (by omega) (fun c_34 => ?_) (fun c_34 => ?_)
          · refine x_iconst (v := nI 0) eX8_walk_40 (by decide) ?_
            refine x_istore (lv' := [_, _, _, _, _, _]) eX8_walk_41 (by decide) rfl ?_
            refine x_iconst (v := nI 0) eX8_walk_43 (by decide) ?_
            refine x_istore (lv' := [_, _, _, _, _, _, _]) eX8_walk_44 (by decide) rfl ?_
            refine x_pick [0, 1, 2, 3, 4, 5, 6] rfl ?_
            exact loop (xNp X) 0 (by omega) _ ⟨Lx.rf _ _, fun q hq => by omega⟩
          · omega
      · exact absurd ⟨kb, hb, rfl⟩ c_19
  · obtain ⟨T, hT⟩ := h.pts w
    have loop : ∀ μ j, j + μ = (xNp X) → ∀ S1, (Gx S S1 ∧ ∀ q, q < j → ¬ ((fun q => xTh X q = true ∧ nI (xLy X q) = l ∧ goesP (vq X q) (xSz X q) (PX X ka) (PX X kb)) q ∧ nI (cnt (fun q => xTh X q = true ∧ nI (xLy X q) = l ∧ goesP (vq X q) (xSz X q) (PX X ka) (PX X kb)) q) = k)) → XP mX9_walk 42 [(6, .int (nI j)), (5, .int (nI (cnt (fun q => xTh X q = true ∧ nI (xLy X q) = l ∧ goesP (vq X q) (xSz X q) (PX X ka) (PX X kb)) j))), (0, .ref 0), (1, .int l), (2, .int (nI ka)), (3, .int (nI kb)), (4, .int k)] [] (xwS S1) (sQ (fun r S' => r = some (.int (nthI (fun q => xTh X q = true ∧ nI (xLy X q) = l ∧ goesP (vq X q) (xSz X q) (PX X ka) (PX X kb)) (xNp X) k)) ∧ RM S' X ∧ frM S S')) := by
      intro μ
      induction μ with
      | zero =>
        intro j hk S1 h1
        obtain ⟨hx, hno⟩ := h1
        have g := RM_G w h hx
        have t := g.tab w
        have pts := hT.gx n200 hx
        refine x_iload eX9_walk_42 rfl ?_
        refine x_aload_n eX9_walk_44 rfl ?_
        refine s_geti eX9_walk_45 fX9_224 rfl (by decide) (by decide) ?_
        rw [t.1]
        refine x_icmp_geN eX9_walk_48 (by omega) (by omega) (fun c_48 => ?_) (fun c_48 => ?_)
        · refine x_iconst (v := -1) eX9_walk_106 (by decide) ?_
          exact s_iret eX9_walk_107 rfl rfl ⟨by rw [nth_no (fun q hq => hno q (by omega))], g, hx.frM⟩
        · omega
      | succ μ ih =>
        intro j hk S1 h1
        obtain ⟨hx, hno⟩ := h1
        have g := RM_G w h hx
        have t := g.tab w
        have pts := hT.gx n200 hx
        refine x_iload eX9_walk_42 rfl ?_
        refine x_aload_n eX9_walk_44 rfl ?_
        refine s_geti eX9_walk_45 fX9_224 rfl (by decide) (by decide) ?_
        rw [t.1]
        refine x_icmp_geN eX9_walk_48 (by omega) (by omega) (fun c_48 => ?_) (fun c_48 => ?_)
        · omega
        · refine x_aload_n eX9_walk_51 rfl ?_
          refine s_getR (k := 12) eX9_walk_52 fX9_48 rfl (by decide) (by decide) rfl ?_
          refine x_iload eX9_walk_55 rfl ?_
          refine s_zald eX9_walk_57 rfl (by decide) rfl (show _ < 60 by omega) ?_
          rw [(t.2.2 j (by omega)).1]
          refine x_if_eqB eX9_walk_58 (fun c_58 => ?_) (fun c_58 => ?_)
          · refine x_iinc (lv' := [_, _, _, _, _, _, _]) eX9_walk_100 rfl (by first | exact nI_inc _ | exact rfl) (by decide) rfl ?_
            refine x_goto eX9_walk_103 ?_
            refine x_pick [0, 1, 2, 3, 4, 5, 6] rfl ?_
            have nx : ∀ q, q < j + 1 → ¬ ((fun q => xTh X q = true ∧ nI (xLy X q) = l ∧ goesP (vq X q) (xSz X q) (PX X ka) (PX X kb)) q ∧ nI (cnt (fun q => xTh X q = true ∧ nI (xLy X q) = l ∧ goesP (vq X q) (xSz X q) (PX X ka) (PX X kb)) q) = k) := fun q hq z => by
              by_cases e : q = j
              · subst e
                first
                  | exact c_91 z.2
                  | exact c_69 z.1.2.1
                  | exact c_84 z.1.2.2
                  | (have z2 := z.1.1; rw [show xTh X q = false from c_58] at z2; exact absurd z2 (by decide))
              · exact hno q (by omega) z
            have := ih (j + 1) (by omega) _ ⟨hx, nx⟩
            first
              | (rw [cnt_t (R := (fun q => xTh X q = true ∧ nI (xLy X q) = l ∧ goesP (vq X q) (xSz X q) (PX X ka) (PX X kb))) ⟨c_58, c_69, c_84⟩] at this; exact this)
              | (rw [cnt_f (R := (fun q => xTh X q = true ∧ nI (xLy X q) = l ∧ goesP (vq X q) (xSz X q) (PX X ka) (PX X kb))) (fun z => c_69 z.2.1)] at this; exact this)
              | (rw [cnt_f (R := (fun q => xTh X q = true ∧ nI (xLy X q) = l ∧ goesP (vq X q) (xSz X q) (PX X ka) (PX X kb))) (fun z => c_84 z.2.2)] at this; exact this)
              | (rw [cnt_f (R := (fun q => xTh X q = true ∧ nI (xLy X q) = l ∧ goesP (vq X q) (xSz X q) (PX X ka) (PX X kb))) (fun z => by have z2 := z.1; rw [show xTh X j = false from c_58] at z2; exact absurd z2 (by decide))] at this; exact this)
          · refine x_aload_n eX9_walk_61 rfl ?_
            refine s_getR (k := 13) eX9_walk_62 fX9_52 rfl (by decide) (by decide) rfl ?_
            refine x_iload eX9_walk_65 rfl ?_
            refine s_iald eX9_walk_67 rfl (by decide) rfl (show _ < 60 by omega) ?_
            rw [((t.2.2 j (by omega)).2 c_58).1]
            refine x_iload_n eX9_walk_68 rfl ?_
            refine x_icmp_ne eX9_walk_69 (fun c_69 => ?_) (fun c_69 => ?_)
            · refine x_iinc (lv' := [_, _, _, _, _, _, _]) eX9_walk_100 rfl (by first | exact nI_inc _ | exact rfl) (by decide) rfl ?_
              refine x_goto eX9_walk_103 ?_
              refine x_pick [0, 1, 2, 3, 4, 5, 6] rfl ?_
              have nx : ∀ q, q < j + 1 → ¬ ((fun q => xTh X q = true ∧ nI (xLy X q) = l ∧ goesP (vq X q) (xSz X q) (PX X ka) (PX X kb)) q ∧ nI (cnt (fun q => xTh X q = true ∧ nI (xLy X q) = l ∧ goesP (vq X q) (xSz X q) (PX X ka) (PX X kb)) q) = k) := fun q hq z => by
                by_cases e : q = j
                · subst e
                  first
                    | exact c_91 z.2
                    | exact c_69 z.1.2.1
                    | exact c_84 z.1.2.2
                    | (have z2 := z.1.1; rw [show xTh X q = false from c_58] at z2; exact absurd z2 (by decide))
                · exact hno q (by omega) z
              have := ih (j + 1) (by omega) _ ⟨hx, nx⟩
              first
                | (rw [cnt_t (R := (fun q => xTh X q = true ∧ nI (xLy X q) = l ∧ goesP (vq X q) (xSz X q) (PX X ka) (PX X kb))) ⟨c_58, c_69, c_84⟩] at this; exact this)
                | (rw [cnt_f (R := (fun q => xTh X q = true ∧ nI (xLy X q) = l ∧ goesP (vq X q) (xSz X q) (PX X ka) (PX X kb))) (fun z => c_69 z.2.1)] at this; exact this)
                | (rw [cnt_f (R := (fun q => xTh X q = true ∧ nI (xLy X q) = l ∧ goesP (vq X q) (xSz X q) (PX X ka) (PX X kb))) (fun z => c_84 z.2.2)] at this; exact this)
                | (rw [cnt_f (R := (fun q => xTh X q = true ∧ nI (xLy X q) = l ∧ goesP (vq X q) (xSz X q) (PX X ka) (PX X kb))) (fun z => by have z2 := z.1; rw [show xTh X j = false from c_58] at z2; exact absurd z2 (by decide))] at this; exact this)
            · refine x_aload_n eX9_walk_72 rfl ?_
              refine x_iload_n eX9_walk_73 rfl ?_
              refine x_iload_n eX9_walk_74 rfl ?_
              refine x_iload eX9_walk_75 rfl ?_
              refine s_callV0 (As := [_, _, _]) eX9_walk_77 kX9_260 ⟨by decide, by decide⟩ rfl (by decide) (by decide) rfl rfl (Nat.le_of_ble_eq_true rfl) (Nat.le_of_ble_eq_true rfl) (sp_X9_passes _ pts n200 (g.pr w (by omega) c_58) (RGd_X w c_58 T).1 (MP_X w T).2.1 (MP_X w T).2.2 (RGd_X w c_58 T).2.1 (RGd_X w c_58 T).2.2.1 (RGd_X w c_58 T).2.2.2 ha hb zab) (fun S_77 h_77 => ?_)
              obtain ⟨g1, e29, -⟩ := h_77
              have hx := hx.tr g1
              have g := RM_G w h hx
              refine x_aload_n eX9_walk_80 rfl ?_
              refine s_geti eX9_walk_81 fX9_244 rfl (by decide) (by decide) ?_
              rw [e29, tI_iff (gm_X w c_58 T ha hb)]
              refine x_if_eqT eX9_walk_84 (fun c_84 => ?_) (fun c_84 => ?_)
              · refine x_iinc (lv' := [_, _, _, _, _, _, _]) eX9_walk_100 rfl (by first | exact nI_inc _ | exact rfl) (by decide) rfl ?_
                refine x_goto eX9_walk_103 ?_
                refine x_pick [0, 1, 2, 3, 4, 5, 6] rfl ?_
                have nx : ∀ q, q < j + 1 → ¬ ((fun q => xTh X q = true ∧ nI (xLy X q) = l ∧ goesP (vq X q) (xSz X q) (PX X ka) (PX X kb)) q ∧ nI (cnt (fun q => xTh X q = true ∧ nI (xLy X q) = l ∧ goesP (vq X q) (xSz X q) (PX X ka) (PX X kb)) q) = k) := fun q hq z => by
                  by_cases e : q = j
                  · subst e
                    first
                      | exact c_91 z.2
                      | exact c_69 z.1.2.1
                      | exact c_84 z.1.2.2
                      | (have z2 := z.1.1; rw [show xTh X q = false from c_58] at z2; exact absurd z2 (by decide))
                  · exact hno q (by omega) z
                have := ih (j + 1) (by omega) _ ⟨hx, nx⟩
                first
                  | (rw [cnt_t (R := (fun q => xTh X q = true ∧ nI (xLy X q) = l ∧ goesP (vq X q) (xSz X q) (PX X ka) (PX X kb))) ⟨c_58, c_69, c_84⟩] at this; exact this)
                  | (rw [cnt_f (R := (fun q => xTh X q = true ∧ nI (xLy X q) = l ∧ goesP (vq X q) (xSz X q) (PX X ka) (PX X kb))) (fun z => c_69 z.2.1)] at this; exact this)
                  | (rw [cnt_f (R := (fun q => xTh X q = true ∧ nI (xLy X q) = l ∧ goesP (vq X q) (xSz X q) (PX X ka) (PX X kb))) (fun z => c_84 z.2.2)] at this; exact this)
                  | (rw [cnt_f (R := (fun q => xTh X q = true ∧ nI (xLy X q) = l ∧ goesP (vq X q) (xSz X q) (PX X ka) (PX X kb))) (fun z => by have z2 := z.1; rw [show xTh X j = false from c_58] at z2; exact absurd z2 (by decide))] at this; exact this)
              · refine x_iload eX9_walk_87 rfl ?_
                refine x_iload eX9_walk_89 rfl ?_
                refine x_icmp_ne eX9_walk_91 (fun c_91 => ?_) (fun c_91 => ?_)
                · refine x_iinc (lv' := [_, _, _, _, _, _, _]) eX9_walk_97 rfl (by first | exact nI_inc _ | exact rfl) (by decide) rfl ?_
                  refine x_iinc (lv' := [_, _, _, _, _, _, _]) eX9_walk_100 rfl (by first | exact nI_inc _ | exact rfl) (by decide) rfl ?_
                  refine x_goto eX9_walk_103 ?_
                  refine x_pick [0, 1, 2, 3, 4, 5, 6] rfl ?_
                  have nx : ∀ q, q < j + 1 → ¬ ((fun q => xTh X q = true ∧ nI (xLy X q) = l ∧ goesP (vq X q) (xSz X q) (PX X ka) (PX X kb)) q ∧ nI (cnt (fun q => xTh X q = true ∧ nI (xLy X q) = l ∧ goesP (vq X q) (xSz X q) (PX X ka) (PX X kb)) q) = k) := fun q hq z => by
                    by_cases e : q = j
                    · subst e
                      first
                        | exact c_91 z.2
                        | exact c_69 z.1.2.1
                        | exact c_84 z.1.2.2
                        | (have z2 := z.1.1; rw [show xTh X q = false from c_58] at z2; exact absurd z2 (by decide))
                    · exact hno q (by omega) z
                  have := ih (j + 1) (by omega) _ ⟨hx, nx⟩
                  first
                    | (rw [cnt_t (R := (fun q => xTh X q = true ∧ nI (xLy X q) = l ∧ goesP (vq X q) (xSz X q) (PX X ka) (PX X kb))) ⟨c_58, c_69, c_84⟩] at this; exact this)
                    | (rw [cnt_f (R := (fun q => xTh X q = true ∧ nI (xLy X q) = l ∧ goesP (vq X q) (xSz X q) (PX X ka) (PX X kb))) (fun z => c_69 z.2.1)] at this; exact this)
                    | (rw [cnt_f (R := (fun q => xTh X q = true ∧ nI (xLy X q) = l ∧ goesP (vq X q) (xSz X q) (PX X ka) (PX X kb))) (fun z => c_84 z.2.2)] at this; exact this)
                    | (rw [cnt_f (R := (fun q => xTh X q = true ∧ nI (xLy X q) = l ∧ goesP (vq X q) (xSz X q) (PX X ka) (PX X kb))) (fun z => by have z2 := z.1; rw [show xTh X j = false from c_58] at z2; exact absurd z2 (by decide))] at this; exact this)
                · refine x_iload eX9_walk_94 rfl ?_
                  exact s_iret eX9_walk_96 rfl rfl ⟨by rw [nth_yes (R := (fun q => xTh X q = true ∧ nI (xLy X q) = l ∧ goesP (vq X q) (xSz X q) (PX X ka) (PX X kb))) (by omega) ⟨c_58, c_69, c_84⟩ c_91 hno], g, hx.frM⟩
    show XP _ _ [_, _, _, _, _] _ _ _
    refine x_aload_n eX9_walk_0 rfl ?_
    refine x_iload_n eX9_walk_1 rfl ?_
    refine s_callV1 (As := [_]) eX9_walk_2 kX9_184 ⟨by decide, by decide⟩ rfl (by decide) (by decide) rfl rfl (Nat.le_of_ble_eq_true rfl) (Nat.le_of_ble_eq_true rfl) (sp_X9_isCorner _ h.1.1 w.1 (nI ka)) (fun S_2 h_2 => ?_)
    have h_2 := h_2.symm
    subst h_2
    refine x_if_eqB eX9_walk_5 (fun c_5 => ?_) (fun c_5 => ?_)
    · exact absurd ⟨ka, ha, rfl⟩ (of_decide_eq_false c_5)
    · refine x_aload_n eX9_walk_8 rfl ?_
      refine x_iload_n eX9_walk_9 rfl ?_
      refine s_callV1 (As := [_]) eX9_walk_10 kX9_184 ⟨by decide, by decide⟩ rfl (by decide) (by decide) rfl rfl (Nat.le_of_ble_eq_true rfl) (Nat.le_of_ble_eq_true rfl) (sp_X9_isCorner _ h.1.1 w.1 (nI kb)) (fun S_10 h_10 => ?_)
      have h_10 := h_10.symm
      subst h_10
      refine x_if_neB eX9_walk_13 (fun c_13 => ?_) (fun c_13 => ?_)
      · refine x_iload_n eX9_walk_19 rfl ?_
        refine x_iconst (v := nI 0) eX9_walk_20 (by decide) ?_
        refine x_iconst (v := nI 3) eX9_walk_21 (by decide) ?_
        refine s_callS1 (As := [_, _, _]) eX9_walk_22 kX9_173 ⟨by decide, by decide⟩ rfl rfl (Nat.le_of_ble_eq_true rfl) (Nat.le_of_ble_eq_true rfl) (sp_X9_in _ _ _ _) (fun S_22 h_22 => ?_)
        have h_22 := h_22.symm
        subst h_22
        rw [in03]
        refine x_if_eqB eX9_walk_25 (fun c_25 => ?_) (fun c_25 => ?_)
        · exact absurd zl (of_decide_eq_false c_25)
        · refine x_iload_n eX9_walk_28 rfl ?_
          refine x_iload_n eX9_walk_29 rfl ?_
          refine x_icmp_neN eX9_walk_30 (by omega) (by omega) (fun c_30 => ?_) (fun c_30 => ?_)
          · refine x_iconst (v := nI 0) eX9_walk_36 (by decide) ?_
            refine x_istore (lv' := [_, _, _, _, _, _]) eX9_walk_37 (by decide) rfl ?_
            refine x_iconst (v := nI 0) eX9_walk_39 (by decide) ?_
            refine x_istore (lv' := [_, _, _, _, _, _, _]) eX9_walk_40 (by decide) rfl ?_
            refine x_pick [0, 1, 2, 3, 4, 5, 6] rfl ?_
            exact loop (xNp X) 0 (by omega) _ ⟨Gx.rf _, fun q hq => by omega⟩
          · omega
      · exact absurd ⟨kb, hb, rfl⟩ (of_decide_eq_false c_13)
