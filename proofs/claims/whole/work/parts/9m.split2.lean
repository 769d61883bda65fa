/-! ===== split ===== -/
theorem stM2 {X : LM} (w : wf X) (T : Pt) {n : Nat} {c : Nat → Nat} (hc : ∀ i, i < n → c i < xNc X) (s : soundS (vr (PX X) c n) n) : stlA (vr (dbl (PT (PX X) T)) c n) n c = xSt X n c := by
  have n200 := w.1
  have n3 := s.1
  rw [vr_PTd (by omega) (fun i hi => by have := hc i hi; omega), stl_eq s]
  rfl
theorem mpr.fx {fs is ls ds : List Nat} {S S1 : xS} {p n : Nat} {c : Nat → Nat} (h : mpr S p n c) (hx : Fx fs is ls ds S S1) (a : 15 ∉ is) (b : 16 ∉ is) : mpr S1 p n c := ⟨h.1, h.2.1, h.2.2.1, by rw [hx.2.1 _ a]; exact h.2.2.2.1, fun i hi => by rw [hx.2.1 _ b]; exact h.2.2.2.2 i hi⟩

theorem sl_one {S : xS} {a n i j m q : Nat} {c : Nat → Nat} {o : Int32} {Q : Option Value → xS → Prop} (pr : mpr S a n c) (e14 : S.1 0 14 = nI q) (hq : q ≤ 24) (hi : i < 24) (K : ∀ S1, Fx [] [10] [] [] S S1 → (∀ k, k < q → S1.2.1 10 k = nI (c ((i + k) % n))) → XP mX9_split 129 [(5, .int (nI m)), (0, .ref 0), (1, .int (nI a)), (2, .int (nI i)), (3, .int (nI j)), (4, .int o)] [] (xwS S1) (sQ Q)) : XP mX9_split 98 [(6, .int (nI 0)), (5, .int (nI m)), (0, .ref 0), (1, .int (nI a)), (2, .int (nI i)), (3, .int (nI j)), (4, .int o)] [] (xwS S) (sQ Q) := by
  have ha := pr.1
  have loop : ∀ μ k, k + μ = q → ∀ S1, (Fx [] [10] [] [] S S1 ∧ ∀ z, z < k → S1.2.1 10 z = nI (c ((i + z) % n))) → XP mX9_split 98 [(6, .int (nI k)), (5, .int (nI m)), (0, .ref 0), (1, .int (nI a)), (2, .int (nI i)), (3, .int (nI j)), (4, .int o)] [] (xwS S1) (sQ Q) := by
    intro μ
    induction μ with
    | zero =>
      intro k hk S1 h1
      obtain ⟨hx, hr⟩ := h1
      have e14b : S1.1 0 14 = nI q := by rw [hx.1 0 (by simp)]; exact e14
      have prb := pr.fx hx (by simp) (by simp)
      refine x_iload eX9_split_98 rfl ?_
      refine x_aload_n eX9_split_100 rfl ?_
      refine s_geti eX9_split_101 fX9_218 rfl (by decide) (by decide) ?_
      rw [e14b]
      refine x_icmp_geN eX9_split_104 (by omega) (by omega) (fun c_104 => ?_) (fun c_104 => ?_)
      · refine x_pick [1, 2, 3, 4, 5, 6] rfl ?_
        exact K S1 hx (fun z hz => hr z (by omega))
      · omega
    | succ μ ih =>
      intro k hk S1 h1
      obtain ⟨hx, hr⟩ := h1
      have e14b : S1.1 0 14 = nI q := by rw [hx.1 0 (by simp)]; exact e14
      have prb := pr.fx hx (by simp) (by simp)
      refine x_iload eX9_split_98 rfl ?_
      refine x_aload_n eX9_split_100 rfl ?_
      refine s_geti eX9_split_101 fX9_218 rfl (by decide) (by decide) ?_
      rw [e14b]
      refine x_icmp_geN eX9_split_104 (by omega) (by omega) (fun c_104 => ?_) (fun c_104 => ?_)
      · omega
      · refine x_aload_n eX9_split_107 rfl ?_
        refine s_getR (k := 10) eX9_split_108 fX9_42 rfl (by decide) (by decide) rfl ?_
        refine x_iload eX9_split_111 rfl ?_
        refine x_aload_n eX9_split_113 rfl ?_
        refine x_iload_n eX9_split_114 rfl ?_
        refine x_iload_n eX9_split_115 rfl ?_
        refine x_iload eX9_split_116 rfl ?_
        first | refine x_iaddN eX9_split_118 ?_ | refine x_iadd eX9_split_118 ?_
        refine s_callV1 (As := [_, _]) eX9_split_119 kX9_241 ⟨by decide, by decide⟩ rfl (by decide) (by decide) rfl rfl (Nat.le_of_ble_eq_true rfl) (Nat.le_of_ble_eq_true rfl) (sp_X9_of _ prb (by omega)) (fun S_119 h_119 => ?_)
        have h_119 := h_119.symm
        subst h_119
        refine s_iast eX9_split_122 rfl (by decide) rfl (show _ < 24 by omega) ?_
        refine x_iinc (lv' := [_, _, _, _, _, _, _]) eX9_split_123 rfl (by first | exact nI_inc _ | exact rfl) (by decide) rfl ?_
        refine x_goto eX9_split_126 ?_
        refine x_pick [0, 1, 2, 3, 4, 5, 6] rfl ?_
        refine ih (k + 1) (by omega) _ ⟨hx.tr (Fx.sI (by simp)), fun z hz => ?_⟩
        rw [setI_at]
        by_cases y : z = k
        · subst y; rw [upd_at]
        · rw [upd_ne _ _ y]; exact hr z (by omega)
  exact loop q 0 (by omega) S ⟨Fx.rf _ _ _ _ _, fun z hz => by omega⟩
theorem sl_two {S : xS} {a n i j m q : Nat} {c : Nat → Nat} {o u : Int32} {Q : Option Value → xS → Prop} (pr : mpr S a n c) (e14 : S.1 0 14 = nI q) (hq : q ≤ 24) (hj : j < 24) (K : ∀ S1, Fx [] [11] [] [] S S1 → (∀ k, k < q → S1.2.1 11 k = nI (c ((j + k) % n))) → XP mX9_split 193 [(6, .int u), (5, .int (nI m)), (0, .ref 0), (1, .int (nI a)), (2, .int (nI i)), (3, .int (nI j)), (4, .int o)] [] (xwS S1) (sQ Q)) : XP mX9_split 162 [(7, .int (nI 0)), (6, .int u), (5, .int (nI m)), (0, .ref 0), (1, .int (nI a)), (2, .int (nI i)), (3, .int (nI j)), (4, .int o)] [] (xwS S) (sQ Q) := by
  have ha := pr.1
  have loop : ∀ μ k, k + μ = q → ∀ S1, (Fx [] [11] [] [] S S1 ∧ ∀ z, z < k → S1.2.1 11 z = nI (c ((j + z) % n))) → XP mX9_split 162 [(7, .int (nI k)), (6, .int u), (5, .int (nI m)), (0, .ref 0), (1, .int (nI a)), (2, .int (nI i)), (3, .int (nI j)), (4, .int o)] [] (xwS S1) (sQ Q) := by
    intro μ
    induction μ with
    | zero =>
      intro k hk S1 h1
      obtain ⟨hx, hr⟩ := h1
      have e14b : S1.1 0 14 = nI q := by rw [hx.1 0 (by simp)]; exact e14
      have prb := pr.fx hx (by simp) (by simp)
      refine x_iload eX9_split_162 rfl ?_
      refine x_aload_n eX9_split_164 rfl ?_
      refine s_geti eX9_split_165 fX9_218 rfl (by decide) (by decide) ?_
      rw [e14b]
      refine x_icmp_geN eX9_split_168 (by omega) (by omega) (fun c_168 => ?_) (fun c_168 => ?_)
      · refine x_pick [1, 2, 3, 4, 5, 6, 7] rfl ?_
        exact K S1 hx (fun z hz => hr z (by omega))
      · omega
    | succ μ ih =>
      intro k hk S1 h1
      obtain ⟨hx, hr⟩ := h1
      have e14b : S1.1 0 14 = nI q := by rw [hx.1 0 (by simp)]; exact e14
      have prb := pr.fx hx (by simp) (by simp)
      refine x_iload eX9_split_162 rfl ?_
      refine x_aload_n eX9_split_164 rfl ?_
      refine s_geti eX9_split_165 fX9_218 rfl (by decide) (by decide) ?_
      rw [e14b]
      refine x_icmp_geN eX9_split_168 (by omega) (by omega) (fun c_168 => ?_) (fun c_168 => ?_)
      · omega
      · refine x_aload_n eX9_split_171 rfl ?_
        refine s_getR (k := 11) eX9_split_172 fX9_45 rfl (by decide) (by decide) rfl ?_
        refine x_iload eX9_split_175 rfl ?_
        refine x_aload_n eX9_split_177 rfl ?_
        refine x_iload_n eX9_split_178 rfl ?_
        refine x_iload_n eX9_split_179 rfl ?_
        refine x_iload eX9_split_180 rfl ?_
        first | refine x_iaddN eX9_split_182 ?_ | refine x_iadd eX9_split_182 ?_
        refine s_callV1 (As := [_, _]) eX9_split_183 kX9_241 ⟨by decide, by decide⟩ rfl (by decide) (by decide) rfl rfl (Nat.le_of_ble_eq_true rfl) (Nat.le_of_ble_eq_true rfl) (sp_X9_of _ prb (by omega)) (fun S_183 h_183 => ?_)
        have h_183 := h_183.symm
        subst h_183
        refine s_iast eX9_split_186 rfl (by decide) rfl (show _ < 24 by omega) ?_
        refine x_iinc (lv' := [_, _, _, _, _, _, _, _]) eX9_split_187 rfl (by first | exact nI_inc _ | exact rfl) (by decide) rfl ?_
        refine x_goto eX9_split_190 ?_
        refine x_pick [0, 1, 2, 3, 4, 5, 6, 7] rfl ?_
        refine ih (k + 1) (by omega) _ ⟨hx.tr (Fx.sI (by simp)), fun z hz => ?_⟩
        rw [setI_at]
        by_cases y : z = k
        · subst y; rw [upd_at]
        · rw [upd_ne _ _ y]; exact hr z (by omega)
  exact loop q 0 (by omega) S ⟨Fx.rf _ _ _ _ _, fun z hz => by omega⟩
theorem sl_three {S : xS} {a i j m q : Nat} {o u : Int32} {Q : Option Value → xS → Prop} (e14 : S.1 0 14 = nI q) (hq : q ≤ 24) (K : ∀ S1, Fx [] [10] [] [] S S1 → (∀ k, k < q → S1.2.1 10 k = S.2.1 11 k) → XP mX9_split 225 [(6, .int u), (5, .int (nI m)), (0, .ref 0), (1, .int (nI a)), (2, .int (nI i)), (3, .int (nI j)), (4, .int o)] [] (xwS S1) (sQ Q)) : XP mX9_split 196 [(7, .int (nI 0)), (6, .int u), (5, .int (nI m)), (0, .ref 0), (1, .int (nI a)), (2, .int (nI i)), (3, .int (nI j)), (4, .int o)] [] (xwS S) (sQ Q) := by
  have loop : ∀ μ k, k + μ = q → ∀ S1, (Fx [] [10] [] [] S S1 ∧ ∀ z, z < k → S1.2.1 10 z = S.2.1 11 z) → XP mX9_split 196 [(7, .int (nI k)), (6, .int u), (5, .int (nI m)), (0, .ref 0), (1, .int (nI a)), (2, .int (nI i)), (3, .int (nI j)), (4, .int o)] [] (xwS S1) (sQ Q) := by
    intro μ
    induction μ with
    | zero =>
      intro k hk S1 h1
      obtain ⟨hx, hr⟩ := h1
      have e14b : S1.1 0 14 = nI q := by rw [hx.1 0 (by simp)]; exact e14
      refine x_iload eX9_split_196 rfl ?_
      refine x_aload_n eX9_split_198 rfl ?_
      refine s_geti eX9_split_199 fX9_218 rfl (by decide) (by decide) ?_
      rw [e14b]
      refine x_icmp_geN eX9_split_202 (by omega) (by omega) (fun c_202 => ?_) (fun c_202 => ?_)
      · refine x_pick [1, 2, 3, 4, 5, 6, 7] rfl ?_
        exact K S1 hx (fun z hz => hr z (by omega))
      · omega
    | succ μ ih =>
      intro k hk S1 h1
      obtain ⟨hx, hr⟩ := h1
      have e14b : S1.1 0 14 = nI q := by rw [hx.1 0 (by simp)]; exact e14
      refine x_iload eX9_split_196 rfl ?_
      refine x_aload_n eX9_split_198 rfl ?_
      refine s_geti eX9_split_199 fX9_218 rfl (by decide) (by decide) ?_
      rw [e14b]
      refine x_icmp_geN eX9_split_202 (by omega) (by omega) (fun c_202 => ?_) (fun c_202 => ?_)
      · omega
      · refine x_aload_n eX9_split_205 rfl ?_
        refine s_getR (k := 10) eX9_split_206 fX9_42 rfl (by decide) (by decide) rfl ?_
        refine x_iload eX9_split_209 rfl ?_
        refine x_aload_n eX9_split_211 rfl ?_
        refine s_getR (k := 11) eX9_split_212 fX9_45 rfl (by decide) (by decide) rfl ?_
        refine x_iload eX9_split_215 rfl ?_
        refine s_iald eX9_split_217 rfl (by decide) rfl (show _ < 24 by omega) ?_
        rw [hx.2.1 11 (by simp)]
        refine s_iast eX9_split_218 rfl (by decide) rfl (show _ < 24 by omega) ?_
        refine x_iinc (lv' := [_, _, _, _, _, _, _, _]) eX9_split_219 rfl (by first | exact nI_inc _ | exact rfl) (by decide) rfl ?_
        refine x_goto eX9_split_222 ?_
        refine x_pick [0, 1, 2, 3, 4, 5, 6, 7] rfl ?_
        refine ih (k + 1) (by omega) _ ⟨hx.tr (Fx.sI (by simp)), fun z hz => ?_⟩
        rw [setI_at]
        by_cases y : z = k
        · subst y; rw [upd_at]
        · rw [upd_ne _ _ y]; exact hr z (by omega)
  exact loop q 0 (by omega) S ⟨Fx.rf _ _ _ _ _, fun z hz => by omega⟩
theorem m_split_apart {S : xS} {X : LM} (w : wf X) (h : RM S X) {a i j : Nat} (ha : a < xNp X) (ta : xTh X a = true) (hij : i < j) (hjn : j < xSz X a) (hc : ¬ cutX X a i j) (o : Int32) : Sp mX9_split [.ref 0, .int (nI a), .int (nI i), .int (nI j), .int o] S (fun r S' => r = some (.int (-205)) ∧ RM S' X ∧ frM S S') := by
  have n200 := w.1
  have n60z : xNp X ≤ 60 := w.2.2.2.2.1.1
  have n12 : xSz X a ≤ 12 := (wf_good w ta).2.1
  have n12t : tSz (xTb X) a = xSz X a := rfl
  have ya : hasP (xNp X) (tTh (xTb X)) (nI a) := ⟨a, ha, rfl, ta⟩
  obtain ⟨T, hT⟩ := h.pts w
  have hne : xRg X a (i % xSz X a) ≠ xRg X a (j % xSz X a) := fun e => by
    rw [Nat.mod_eq_of_lt (show i < xSz X a by omega), Nat.mod_eq_of_lt hjn] at e
    have := (wf_good w ta).2.2.2.1 i j (by show i < xSz X a; omega) hjn e
    omega
  show XP _ _ [_, _, _, _, _] _ _ _
  refine x_aload_n eX9_split_0 rfl ?_
  refine x_iload_n eX9_split_1 rfl ?_
  refine s_callV1 (As := [_]) eX9_split_2 kX9_284 ⟨by decide, by decide⟩ rfl (by decide) (by decide) rfl rfl (Nat.le_of_ble_eq_true rfl) (Nat.le_of_ble_eq_true rfl) (sp_X9_isParcel (h.tab w) (nI a)) (fun S_2 h_2 => ?_)
  have h_2 := h_2.symm
  subst h_2
  refine x_if_neT eX9_split_5 (fun c_5 => ?_) (fun c_5 => ?_)
  · refine x_aload_n eX9_split_11 rfl ?_
    refine s_getR (k := 15) eX9_split_12 fX9_58 rfl (by decide) (by decide) rfl ?_
    refine x_iload_n eX9_split_15 rfl ?_
    refine s_iald eX9_split_16 rfl (by decide) rfl (show _ < 60 by omega) ?_
    rw [((h.tab w).2.2 a ha).2 ta |>.2.2.2.2.2.1]
    refine x_istore (lv' := [_, _, _, _, _, _]) eX9_split_17 (by decide) rfl ?_
    refine x_iload_n eX9_split_19 rfl ?_
    refine x_if_ltN eX9_split_20 (by omega) ?_
    refine x_iload_n eX9_split_23 rfl ?_
    refine x_iload_n eX9_split_24 rfl ?_
    refine x_icmp_geN eX9_split_25 (by omega) (by omega) (fun c_25 => ?_) (fun c_25 => ?_)
    · omega
    · refine x_iload_n eX9_split_28 rfl ?_
      refine x_iload eX9_split_29 rfl ?_
      refine x_icmp_ltN eX9_split_31 (by omega) (by omega) (fun c_31 => ?_) (fun c_31 => ?_)
      · refine x_iload_n eX9_split_37 rfl ?_
        refine x_iload_n eX9_split_38 rfl ?_
        refine x_iconst (v := nI 1) eX9_split_39 (by decide) ?_
        first | refine x_iaddN eX9_split_40 ?_ | refine x_iadd eX9_split_40 ?_
        refine x_icmp_eqN eX9_split_41 (by omega) (by omega) (fun c_41 => ?_) (fun c_41 => ?_)
        · refine x_sipush (v := -205) eX9_split_66 (by decide) ?_
          first
            | exact s_iret eX9_split_69 rfl rfl ⟨rfl, g, fr1⟩
            | exact s_iret eX9_split_69 rfl rfl ⟨rfl, h, frM.rf _⟩
        · refine x_iload_n eX9_split_44 rfl ?_
          refine x_if_neN eX9_split_45 (by omega) (fun c_45 => ?_) (fun c_45 => ?_)
          · refine x_aload_n eX9_split_56 rfl ?_
            refine x_iload_n eX9_split_57 rfl ?_
            refine x_iload_n eX9_split_58 rfl ?_
            refine x_iload_n eX9_split_59 rfl ?_
            refine s_callV1 (As := [_, _, _]) eX9_split_60 kX9_291 ⟨by decide, by decide⟩ rfl (by decide) (by decide) rfl rfl (Nat.le_of_ble_eq_true rfl) (Nat.le_of_ble_eq_true rfl) (sp_X9_isInside _ hT (MP_X w T) (h.pr w ha ta) (RGd_X w ta T) (by omega) (by omega) hne) (fun S_60 h_60 => ?_)
            rw [vrd_X w ta T]
            have g := RM_G w h h_60
            have fr1 := h_60.frM
            refine x_if_neT eX9_split_63 (fun c_63 => ?_) (fun c_63 => ?_)
            · exact absurd ⟨fun z => by rcases z with z | z <;> omega, c_63⟩ hc
            · refine x_sipush (v := -205) eX9_split_66 (by decide) ?_
              first
                | exact s_iret eX9_split_69 rfl rfl ⟨rfl, g, fr1⟩
                | exact s_iret eX9_split_69 rfl rfl ⟨rfl, h, frM.rf _⟩
          · refine x_iload_n eX9_split_48 rfl ?_
            refine x_iload eX9_split_49 rfl ?_
            refine x_iconst (v := nI 1) eX9_split_51 (by decide) ?_
            first | refine x_isubN eX9_split_52 (by omega) ?_ | refine x_isub eX9_split_52 ?_
            refine x_icmp_eqN eX9_split_53 (by omega) (by omega) (fun c_53 => ?_) (fun c_53 => ?_)
            · refine x_sipush (v := -205) eX9_split_66 (by decide) ?_
              first
                | exact s_iret eX9_split_69 rfl rfl ⟨rfl, g, fr1⟩
                | exact s_iret eX9_split_69 rfl rfl ⟨rfl, h, frM.rf _⟩
            · refine x_aload_n eX9_split_56 rfl ?_
              refine x_iload_n eX9_split_57 rfl ?_
              refine x_iload_n eX9_split_58 rfl ?_
              refine x_iload_n eX9_split_59 rfl ?_
              refine s_callV1 (As := [_, _, _]) eX9_split_60 kX9_291 ⟨by decide, by decide⟩ rfl (by decide) (by decide) rfl rfl (Nat.le_of_ble_eq_true rfl) (Nat.le_of_ble_eq_true rfl) (sp_X9_isInside _ hT (MP_X w T) (h.pr w ha ta) (RGd_X w ta T) (by omega) (by omega) hne) (fun S_60 h_60 => ?_)
              rw [vrd_X w ta T]
              have g := RM_G w h h_60
              have fr1 := h_60.frM
              refine x_if_neT eX9_split_63 (fun c_63 => ?_) (fun c_63 => ?_)
              · exact absurd ⟨fun z => by rcases z with z | z <;> omega, c_63⟩ hc
              · refine x_sipush (v := -205) eX9_split_66 (by decide) ?_
                first
                  | exact s_iret eX9_split_69 rfl rfl ⟨rfl, g, fr1⟩
                  | exact s_iret eX9_split_69 rfl rfl ⟨rfl, h, frM.rf _⟩
      · omega
  · exact absurd ya c_5
theorem m_split_full {S : xS} {X : LM} (w : wf X) (h : RM S X) {a i j : Nat} (ha : a < xNp X) (ta : xTh X a = true) (hij : i < j) (hjn : j < xSz X a) (hc : cutX X a i j) (h60 : ¬ xNp X < 60) (o : Int32) : Sp mX9_split [.ref 0, .int (nI a), .int (nI i), .int (nI j), .int o] S (fun r S' => r = some (.int (-104)) ∧ RM S' X ∧ frM S S') := by
  have n60 : xNp X ≤ 60 := w.2.2.2.2.1.1
  have n200 := w.1
  have n60z : xNp X ≤ 60 := w.2.2.2.2.1.1
  have n12 : xSz X a ≤ 12 := (wf_good w ta).2.1
  have n12t : tSz (xTb X) a = xSz X a := rfl
  have ya : hasP (xNp X) (tTh (xTb X)) (nI a) := ⟨a, ha, rfl, ta⟩
  obtain ⟨T, hT⟩ := h.pts w
  have hne : xRg X a (i % xSz X a) ≠ xRg X a (j % xSz X a) := fun e => by
    rw [Nat.mod_eq_of_lt (show i < xSz X a by omega), Nat.mod_eq_of_lt hjn] at e
    have := (wf_good w ta).2.2.2.1 i j (by show i < xSz X a; omega) hjn e
    omega
  show XP _ _ [_, _, _, _, _] _ _ _
  refine x_aload_n eX9_split_0 rfl ?_
  refine x_iload_n eX9_split_1 rfl ?_
  refine s_callV1 (As := [_]) eX9_split_2 kX9_284 ⟨by decide, by decide⟩ rfl (by decide) (by decide) rfl rfl (Nat.le_of_ble_eq_true rfl) (Nat.le_of_ble_eq_true rfl) (sp_X9_isParcel (h.tab w) (nI a)) (fun S_2 h_2 => ?_)
  have h_2 := h_2.symm
  subst h_2
  refine x_if_neT eX9_split_5 (fun c_5 => ?_) (fun c_5 => ?_)
  · refine x_aload_n eX9_split_11 rfl ?_
    refine s_getR (k := 15) eX9_split_12 fX9_58 rfl (by decide) (by decide) rfl ?_
    refine x_iload_n eX9_split_15 rfl ?_
    refine s_iald eX9_split_16 rfl (by decide) rfl (show _ < 60 by omega) ?_
    rw [((h.tab w).2.2 a ha).2 ta |>.2.2.2.2.2.1]
    refine x_istore (lv' := [_, _, _, _, _, _]) eX9_split_17 (by decide) rfl ?_
    refine x_iload_n eX9_split_19 rfl ?_
    refine x_if_ltN eX9_split_20 (by omega) ?_
    refine x_iload_n eX9_split_23 rfl ?_
    refine x_iload_n eX9_split_24 rfl ?_
    refine x_icmp_geN eX9_split_25 (by omega) (by omega) (fun c_25 => ?_) (fun c_25 => ?_)
    · omega
    · refine x_iload_n eX9_split_28 rfl ?_
      refine x_iload eX9_split_29 rfl ?_
      refine x_icmp_ltN eX9_split_31 (by omega) (by omega) (fun c_31 => ?_) (fun c_31 => ?_)
      · refine x_iload_n eX9_split_37 rfl ?_
        refine x_iload_n eX9_split_38 rfl ?_
        refine x_iconst (v := nI 1) eX9_split_39 (by decide) ?_
        first | refine x_iaddN eX9_split_40 ?_ | refine x_iadd eX9_split_40 ?_
        refine x_icmp_eqN eX9_split_41 (by omega) (by omega) (fun c_41 => ?_) (fun c_41 => ?_)
        · exact absurd (by omega) hc.1
        · refine x_iload_n eX9_split_44 rfl ?_
          refine x_if_neN eX9_split_45 (by omega) (fun c_45 => ?_) (fun c_45 => ?_)
          · refine x_aload_n eX9_split_56 rfl ?_
            refine x_iload_n eX9_split_57 rfl ?_
            refine x_iload_n eX9_split_58 rfl ?_
            refine x_iload_n eX9_split_59 rfl ?_
            refine s_callV1 (As := [_, _, _]) eX9_split_60 kX9_291 ⟨by decide, by decide⟩ rfl (by decide) (by decide) rfl rfl (Nat.le_of_ble_eq_true rfl) (Nat.le_of_ble_eq_true rfl) (sp_X9_isInside _ hT (MP_X w T) (h.pr w ha ta) (RGd_X w ta T) (by omega) (by omega) hne) (fun S_60 h_60 => ?_)
            rw [vrd_X w ta T]
            have g := RM_G w h h_60
            have fr1 := h_60.frM
            refine x_if_neT eX9_split_63 (fun c_63 => ?_) (fun c_63 => ?_)
            · refine x_aload_n eX9_split_70 rfl ?_
              refine s_geti eX9_split_71 fX9_224 rfl (by decide) (by decide) ?_
              rw [show S_60.1 0 16 = nI (xNp X) from g.2.2.2.1.1]
              refine x_bipush (v := nI 60) eX9_split_74 (by decide) ?_
              refine x_icmp_neN eX9_split_76 (by omega) (by omega) (fun c_76 => ?_) (fun c_76 => ?_)
              · omega
              · refine x_bipush (v := -104) eX9_split_79 (by decide) ?_
                exact s_iret eX9_split_81 rfl rfl ⟨rfl, g, fr1⟩
            · exact absurd hc.2 c_63
          · refine x_iload_n eX9_split_48 rfl ?_
            refine x_iload eX9_split_49 rfl ?_
            refine x_iconst (v := nI 1) eX9_split_51 (by decide) ?_
            first | refine x_isubN eX9_split_52 (by omega) ?_ | refine x_isub eX9_split_52 ?_
            refine x_icmp_eqN eX9_split_53 (by omega) (by omega) (fun c_53 => ?_) (fun c_53 => ?_)
            · exact absurd (by omega) hc.1
            · refine x_aload_n eX9_split_56 rfl ?_
              refine x_iload_n eX9_split_57 rfl ?_
              refine x_iload_n eX9_split_58 rfl ?_
              refine x_iload_n eX9_split_59 rfl ?_
              refine s_callV1 (As := [_, _, _]) eX9_split_60 kX9_291 ⟨by decide, by decide⟩ rfl (by decide) (by decide) rfl rfl (Nat.le_of_ble_eq_true rfl) (Nat.le_of_ble_eq_true rfl) (sp_X9_isInside _ hT (MP_X w T) (h.pr w ha ta) (RGd_X w ta T) (by omega) (by omega) hne) (fun S_60 h_60 => ?_)
              rw [vrd_X w ta T]
              have g := RM_G w h h_60
              have fr1 := h_60.frM
              refine x_if_neT eX9_split_63 (fun c_63 => ?_) (fun c_63 => ?_)
              · refine x_aload_n eX9_split_70 rfl ?_
                refine s_geti eX9_split_71 fX9_224 rfl (by decide) (by decide) ?_
                rw [show S_60.1 0 16 = nI (xNp X) from g.2.2.2.1.1]
                refine x_bipush (v := nI 60) eX9_split_74 (by decide) ?_
                refine x_icmp_neN eX9_split_76 (by omega) (by omega) (fun c_76 => ?_) (fun c_76 => ?_)
                · omega
                · refine x_bipush (v := -104) eX9_split_79 (by decide) ?_
                  exact s_iret eX9_split_81 rfl rfl ⟨rfl, g, fr1⟩
              · exact absurd hc.2 c_63
      · omega
  · exact absurd ya c_5
theorem m_split_yes {S : xS} {X : LM} (w : wf X) (h : RM S X) {a i j : Nat} (ha : a < xNp X) (ta : xTh X a = true) (hij : i < j) (hjn : j < xSz X a) (hc : cutX X a i j) (h60 : xNp X < 60) (o : Int32) : Sp mX9_split [.ref 0, .int (nI a), .int (nI i), .int (nI j), .int o] S (fun r S' => r = some (.int (nI (xNp X))) ∧ RM S' (uT X (xNp X + 1) (setRg (addT (xTb X) (xNp X) (xLy X a) o (j - i + 1) (xSt X (j - i + 1) (pc1 X a i))) a (xSz X a - j + i + 1) (xSt X (xSz X a - j + i + 1) (pc1 X a j)))) ∧ frM S S') := by
  have n200 := w.1
  have n60z : xNp X ≤ 60 := w.2.2.2.2.1.1
  have n12 : xSz X a ≤ 12 := (wf_good w ta).2.1
  have n12t : tSz (xTb X) a = xSz X a := rfl
  have ya : hasP (xNp X) (tTh (xTb X)) (nI a) := ⟨a, ha, rfl, ta⟩
  obtain ⟨T, hT⟩ := h.pts w
  have hne : xRg X a (i % xSz X a) ≠ xRg X a (j % xSz X a) := fun e => by
    rw [Nat.mod_eq_of_lt (show i < xSz X a by omega), Nat.mod_eq_of_lt hjn] at e
    have := (wf_good w ta).2.2.2.1 i j (by show i < xSz X a; omega) hjn e
    omega
  have ps := cut_pieces w ta hij hjn hc
  have g1 : good (xNc X) (PX X) (j - i + 1) (xSt X (j - i + 1) (pc1 X a i)) := stl_good ps.1 (by omega) (fun k _ => pc1_lt w ta k)
  have g2 : good (xNc X) (PX X) (xSz X a - j + i + 1) (xSt X (xSz X a - j + i + 1) (pc1 X a j)) := stl_good ps.2 (by omega) (fun k _ => pc1_lt w ta k)
  show XP _ _ [_, _, _, _, _] _ _ _
  refine x_aload_n eX9_split_0 rfl ?_
  refine x_iload_n eX9_split_1 rfl ?_
  refine s_callV1 (As := [_]) eX9_split_2 kX9_284 ⟨by decide, by decide⟩ rfl (by decide) (by decide) rfl rfl (Nat.le_of_ble_eq_true rfl) (Nat.le_of_ble_eq_true rfl) (sp_X9_isParcel (h.tab w) (nI a)) (fun S_2 h_2 => ?_)
  have h_2 := h_2.symm
  subst h_2
  refine x_if_neT eX9_split_5 (fun c_5 => ?_) (fun c_5 => ?_)
  · refine x_aload_n eX9_split_11 rfl ?_
    refine s_getR (k := 15) eX9_split_12 fX9_58 rfl (by decide) (by decide) rfl ?_
    refine x_iload_n eX9_split_15 rfl ?_
    refine s_iald eX9_split_16 rfl (by decide) rfl (show _ < 60 by omega) ?_
    rw [((h.tab w).2.2 a ha).2 ta |>.2.2.2.2.2.1]
    refine x_istore (lv' := [_, _, _, _, _, _]) eX9_split_17 (by decide) rfl ?_
    refine x_iload_n eX9_split_19 rfl ?_
    refine x_if_ltN eX9_split_20 (by omega) ?_
    refine x_iload_n eX9_split_23 rfl ?_
    refine x_iload_n eX9_split_24 rfl ?_
    refine x_icmp_geN eX9_split_25 (by omega) (by omega) (fun c_25 => ?_) (fun c_25 => ?_)
    · omega
    · refine x_iload_n eX9_split_28 rfl ?_
      refine x_iload eX9_split_29 rfl ?_
      refine x_icmp_ltN eX9_split_31 (by omega) (by omega) (fun c_31 => ?_) (fun c_31 => ?_)
      · refine x_iload_n eX9_split_37 rfl ?_
        refine x_iload_n eX9_split_38 rfl ?_
        refine x_iconst (v := nI 1) eX9_split_39 (by decide) ?_
        first | refine x_iaddN eX9_split_40 ?_ | refine x_iadd eX9_split_40 ?_
        refine x_icmp_eqN eX9_split_41 (by omega) (by omega) (fun c_41 => ?_) (fun c_41 => ?_)
        · exact absurd (by omega) hc.1
        · refine x_iload_n eX9_split_44 rfl ?_
          refine x_if_neN eX9_split_45 (by omega) (fun c_45 => ?_) (fun c_45 => ?_)
          · refine x_aload_n eX9_split_56 rfl ?_
            refine x_iload_n eX9_split_57 rfl ?_
            refine x_iload_n eX9_split_58 rfl ?_
            refine x_iload_n eX9_split_59 rfl ?_
            refine s_callV1 (As := [_, _, _]) eX9_split_60 kX9_291 ⟨by decide, by decide⟩ rfl (by decide) (by decide) rfl rfl (Nat.le_of_ble_eq_true rfl) (Nat.le_of_ble_eq_true rfl) (sp_X9_isInside _ hT (MP_X w T) (h.pr w ha ta) (RGd_X w ta T) (by omega) (by omega) hne) (fun S_60 h_60 => ?_)
            rw [vrd_X w ta T]
            have g := RM_G w h h_60
            have fr1 := h_60.frM
            refine x_if_neT eX9_split_63 (fun c_63 => ?_) (fun c_63 => ?_)
            · refine x_aload_n eX9_split_70 rfl ?_
              refine s_geti eX9_split_71 fX9_224 rfl (by decide) (by decide) ?_
              rw [show S_60.1 0 16 = nI (xNp X) from g.2.2.2.1.1]
              refine x_bipush (v := nI 60) eX9_split_74 (by decide) ?_
              refine x_icmp_neN eX9_split_76 (by omega) (by omega) (fun c_76 => ?_) (fun c_76 => ?_)
              · refine x_aload_n eX9_split_82 rfl ?_
                refine s_callV0 (As := []) eX9_split_83 kX9_278 ⟨by decide, by decide⟩ rfl (by decide) (by decide) rfl rfl (Nat.le_of_ble_eq_true rfl) (Nat.le_of_ble_eq_true rfl) (sp_mkp w g) (fun S_83 h_83 => ?_)
                have k1 := h_83
                have pr1 : mpr S_83 a (xSz X a) (xRg X a) := (g.pr w ha ta).fx k1.1 (by simp) (by simp)
                obtain ⟨T, hT⟩ := g.pts w
                have hT1 := hT.fx k1.1 (by simp) (by simp)
                refine x_aload_n eX9_split_86 rfl ?_
                refine x_iload_n eX9_split_87 rfl ?_
                refine x_iload_n eX9_split_88 rfl ?_
                first | refine x_isubN eX9_split_89 (by omega) ?_ | refine x_isub eX9_split_89 ?_
                refine x_iconst (v := nI 1) eX9_split_90 (by decide) ?_
                first | refine x_iaddN eX9_split_91 ?_ | refine x_iadd eX9_split_91 ?_
                refine s_puti eX9_split_92 fX9_218 wX9_14 rfl (by decide) (by decide) ?_
                refine x_iconst (v := nI 0) eX9_split_95 (by decide) ?_
                refine x_istore (lv' := [_, _, _, _, _, _, _]) eX9_split_96 (by decide) rfl ?_
                refine x_pick [0, 1, 2, 3, 4, 5, 6] rfl ?_
                refine sl_one (pr1.fx (Fx.sF (fs := [0]) (is := []) (ls := []) (ds := []) (by simp)) (by simp) (by simp)) (q := (j - i + 1)) (by rw [setF_at, upd_at]) (by omega) (by omega) (fun S2 x2a r10 => ?_)
                have e14 : S2.1 0 14 = nI (j - i + 1) := by rw [x2a.1 0 (by simp), setF_at, upd_at]
                have mr : mrg S2 (j - i + 1) (pc1 X a i) := ⟨e14, by omega, fun k hk => ⟨r10 k hk, by have := pc1_lt w ta (i := i) k; omega⟩⟩
                have xb : Fx [0] [10, 11, 12, 13, 14, 15, 16, 23] [5, 6, 7] [] S_83 S2 := (Fx.sF (by simp)).tr (x2a.mono (by simp) (by simp) (by simp) (by simp))
                have hT2 := hT1.fx xb (by simp) (by simp)
                have pr2 : mpr S2 a (xSz X a) (xRg X a) := (pr1.fx (Fx.sF (fs := [0]) (is := []) (ls := []) (ds := []) (by simp)) (by simp) (by simp)).fx x2a (by simp) (by simp)
                refine x_aload_n eX9_split_129 rfl ?_
                refine s_callV0 (As := []) eX9_split_130 kX9_272 ⟨by decide, by decide⟩ rfl (by decide) (by decide) rfl rfl (Nat.le_of_ble_eq_true rfl) (Nat.le_of_ble_eq_true rfl) (sp_X9_turnLeft S2 hT2 mr (fun k _ => pc1_lt w ta k) (by omega)) (fun S_130 h_130 => ?_)
                obtain ⟨x3, mr3⟩ := h_130
                rw [stM2 w T (fun k _ => pc1_lt w ta k) ps.1] at mr3
                have pr3 := pr2.fx x3 (by simp) (by simp)
                have hT3 := hT2.fx x3 (by simp) (by simp)
                have xc : Fx [0] [10, 11, 12, 13, 14, 15, 16, 23] [5, 6, 7] [] S_83 S_130 := xb.tr (x3.mono (by simp) (by simp) (by simp) (by simp))
                have e16 : S_130.1 0 16 = nI (xNp X) := by rw [x3.1 0 (by simp), x2a.1 0 (by simp), setF_at, upd_ne _ _ (by decide), k1.2.2.1 16 (by decide) (by decide)]; exact g.2.2.2.1.1
                have e13 : S_130.2.1 13 a = nI (xLy X a) := by rw [x3.2.1 13 (by simp), x2a.2.1 13 (by simp)]; show S_83.2.1 13 a = _; rw [k1.1.2.1 13 (by simp)]; exact ((g.2.2.2.1.2 a ha).2 ta).1
                refine x_aload_n eX9_split_133 rfl ?_
                refine x_aload_n eX9_split_134 rfl ?_
                refine s_getR (k := 13) eX9_split_135 fX9_52 rfl (by decide) (by decide) rfl ?_
                refine x_iload_n eX9_split_138 rfl ?_
                refine s_iald eX9_split_139 rfl (by decide) rfl (show _ < 60 by omega) ?_
                rw [e13]
                refine x_iload eX9_split_140 rfl ?_
                refine s_callV1 (As := [_, _]) eX9_split_142 kX9_281 ⟨by decide, by decide⟩ rfl (by decide) (by decide) rfl rfl (Nat.le_of_ble_eq_true rfl) (Nat.le_of_ble_eq_true rfl) (sp_X9_made S_130 e16 h60 mr3 g1.2.1 (nI (xLy X a)) o) (fun S_142 h_142 => ?_)
                obtain ⟨x4, m16, mf, r12, r13, r14, r15, r16⟩ := h_142
                have pr4 : mpr S_142 a (xSz X a) (xRg X a) := ⟨pr3.1, pr3.2.1, pr3.2.2.1, by rw [r15, if_neg (by omega)]; exact pr3.2.2.2.1, fun k hk => by rw [r16, if_neg (by omega)]; exact pr3.2.2.2.2 k hk⟩
                have hT4 := hT3.fx x4 (by simp) (by simp)
                have xd : Fx [0] [10, 11, 12, 13, 14, 15, 16, 23] [5, 6, 7] [] S_83 S_142 := xc.tr (x4.mono (by simp) (by simp) (by simp) (by simp))
                refine x_istore (lv' := [_, _, _, _, _, _, _]) eX9_split_145 (by decide) rfl ?_
                refine x_aload_n eX9_split_147 rfl ?_
                refine x_iload eX9_split_148 rfl ?_
                refine x_iload_n eX9_split_150 rfl ?_
                first | refine x_isubN eX9_split_151 (by omega) ?_ | refine x_isub eX9_split_151 ?_
                refine x_iload_n eX9_split_152 rfl ?_
                first | refine x_iaddN eX9_split_153 ?_ | refine x_iadd eX9_split_153 ?_
                refine x_iconst (v := nI 1) eX9_split_154 (by decide) ?_
                first | refine x_iaddN eX9_split_155 ?_ | refine x_iadd eX9_split_155 ?_
                refine s_puti eX9_split_156 fX9_218 wX9_14 rfl (by decide) (by decide) ?_
                refine x_iconst (v := nI 0) eX9_split_159 (by decide) ?_
                refine x_istore (lv' := [_, _, _, _, _, _, _, _]) eX9_split_160 (by decide) rfl ?_
                refine x_pick [0, 1, 2, 3, 4, 5, 6, 7] rfl ?_
                refine sl_two (pr4.fx (Fx.sF (fs := [0]) (is := []) (ls := []) (ds := []) (by simp)) (by simp) (by simp)) (q := (xSz X a - j + i + 1)) (by rw [setF_at, upd_at] <;> rfl) (by omega) (by omega) (fun S6 x6 r11 => ?_)
                have e14b : S6.1 0 14 = nI (xSz X a - j + i + 1) := by rw [x6.1 0 (by simp), setF_at, upd_at] <;> rfl
                have xe : Fx [0] [10, 11, 12, 13, 14, 15, 16, 23] [5, 6, 7] [] S_83 S6 := (xd.tr (Fx.sF (by simp))).tr (x6.mono (by simp) (by simp) (by simp) (by simp))
                refine x_iconst (v := nI 0) eX9_split_193 (by decide) ?_
                refine x_istore (lv' := [_, _, _, _, _, _, _, _]) eX9_split_194 (by decide) rfl ?_
                refine x_pick [0, 1, 2, 3, 4, 5, 6, 7] rfl ?_
                refine sl_three e14b (by omega) (fun S7 x7 r10b => ?_)
                have mr7 : mrg S7 (xSz X a - j + i + 1) (pc1 X a j) := ⟨by rw [x7.1 0 (by simp)]; exact e14b, by omega, fun k hk => ⟨by rw [r10b k hk]; exact r11 k hk, by have := pc1_lt w ta (i := j) k; omega⟩⟩
                have xf : Fx [0] [10, 11, 12, 13, 14, 15, 16, 23] [5, 6, 7] [] S_83 S7 := xe.tr (x7.mono (by simp) (by simp) (by simp) (by simp))
                have hT7 := hT1.fx xf (by simp) (by simp)
                refine x_aload_n eX9_split_225 rfl ?_
                refine s_callV0 (As := []) eX9_split_226 kX9_272 ⟨by decide, by decide⟩ rfl (by decide) (by decide) rfl rfl (Nat.le_of_ble_eq_true rfl) (Nat.le_of_ble_eq_true rfl) (sp_X9_turnLeft S7 hT7 mr7 (fun k _ => pc1_lt w ta k) (by omega)) (fun S_226 h_226 => ?_)
                obtain ⟨x8, mr8⟩ := h_226
                rw [stM2 w T (fun k _ => pc1_lt w ta k) ps.2] at mr8
                have xg : Fx [0] [10, 11, 12, 13, 14, 15, 16, 23] [5, 6, 7] [] S_83 S_226 := xf.tr (x8.mono (by simp) (by simp) (by simp) (by simp))
                refine x_aload_n eX9_split_229 rfl ?_
                refine x_iload_n eX9_split_230 rfl ?_
                refine s_callV0 (As := [_]) eX9_split_231 kX9_234 ⟨by decide, by decide⟩ rfl (by decide) (by decide) rfl rfl (Nat.le_of_ble_eq_true rfl) (Nat.le_of_ble_eq_true rfl) (sp_X9_store S_226 (p := a) (by omega) mr8 g2.2.1) (fun S_231 h_231 => ?_)
                obtain ⟨x9, r15c, r16c⟩ := h_231
                have x2 : Fx [0] [10, 11, 12, 13, 14, 15, 16, 23] [5, 6, 7] [] S_83 S_231 := xg.tr (x9.mono (by simp) (by simp) (by simp) (by simp))
                refine x_iload eX9_split_234 rfl ?_
                have own2 := rg_own (addT (xTb X) (xNp X) (xLy X a) o (j - i + 1) (xSt X (j - i + 1) (pc1 X a i))) a (xSz X a - j + i + 1) (xSt X (xSz X a - j + i + 1) (pc1 X a j))
                have own1 := add_own (xTb X) (xNp X) (xLy X a) o (j - i + 1) (xSt X (j - i + 1) (pc1 X a i))
                refine s_iret eX9_split_236 rfl rfl ⟨rfl, RM_mut w g k1 x2 (fun f f1 f2 => ?_) ?_ (fun e he => ?_), (fr1.tr (k1.1.frM (by simp) (by simp) (by simp) (by simp))).tr (x2.frM (by simp) (by simp) (by simp) (by simp))⟩
                · rw [x9.1 0 (by simp), x8.1 0 (by simp), x7.1 0 (by simp), x6.1 0 (by simp), setF_at, upd_ne _ _ f1, mf f f2, x3.1 0 (by simp), x2a.1 0 (by simp), setF_at, upd_ne _ _ f1]
                · rw [x9.1 0 (by simp), x8.1 0 (by simp), x7.1 0 (by simp), x6.1 0 (by simp), setF_at, upd_ne _ _ (by decide)]; exact m16
                have ir : ∀ r, r = 12 ∨ r = 13 ∨ r = 14 → S_231.2.1 r = S_142.2.1 r := fun r hr => by rw [x9.2.1 r (by simp; omega), x8.2.1 r (by simp; omega), x7.2.1 r (by simp; omega), x6.2.1 r (by simp; omega)] <;> rfl
                have ir1 : ∀ r, r = 12 ∨ r = 13 ∨ r = 14 ∨ r = 15 ∨ r = 16 → S_130.2.1 r = S_60.2.1 r := fun r hr => by rw [x3.2.1 r (by simp; omega), x2a.2.1 r (by simp; omega)]; exact k1.1.2.1 r (by simp; omega)
                have q15 : S_226.2.1 15 = S_142.2.1 15 := by rw [x8.2.1 15 (by simp), x7.2.1 15 (by simp), x6.2.1 15 (by simp)] <;> rfl
                have q16 : S_226.2.1 16 = S_142.2.1 16 := by rw [x8.2.1 16 (by simp), x7.2.1 16 (by simp), x6.2.1 16 (by simp)] <;> rfl
                by_cases z : e = xNp X
                · subst z
                  have ag2 := rg_ag (t := (addT (xTb X) (xNp X) (xLy X a) o (j - i + 1) (xSt X (j - i + 1) (pc1 X a i)))) (a := a) (n := (xSz X a - j + i + 1)) (c := (xSt X (xSz X a - j + i + 1) (pc1 X a j))) (e := xNp X) (by omega)
                  refine ⟨by rw [ir 12 (by simp), r12, if_pos rfl, show tTh (setRg (addT (xTb X) (xNp X) (xLy X a) o (j - i + 1) (xSt X (j - i + 1) (pc1 X a i))) a (xSz X a - j + i + 1) (xSt X (xSz X a - j + i + 1) (pc1 X a j))) (xNp X) = true from own1.1]; rfl, fun _ => ⟨by rw [ir 13 (by simp), r13, if_pos rfl, show tLy (setRg (addT (xTb X) (xNp X) (xLy X a) o (j - i + 1) (xSt X (j - i + 1) (pc1 X a i))) a (xSz X a - j + i + 1) (xSt X (xSz X a - j + i + 1) (pc1 X a j))) (xNp X) = xLy X a from own1.2.1], by rw [ir 14 (by simp), r14, if_pos rfl, show tOw (setRg (addT (xTb X) (xNp X) (xLy X a) o (j - i + 1) (xSt X (j - i + 1) (pc1 X a i))) a (xSz X a - j + i + 1) (xSt X (xSz X a - j + i + 1) (pc1 X a j))) (xNp X) = o from own1.2.2.1], ?_, fun k hk => ?_⟩⟩
                  · rw [r15c, if_neg (by omega), q15, r15, if_pos rfl, ag2.2.2.2.1, own1.2.2.2.1]
                  · rw [ag2.2.2.2.1, own1.2.2.2.1] at hk
                    rw [r16c, if_neg (by omega), q16, r16, if_pos (by omega), ag2.2.2.2.2, own1.2.2.2.2, show 12 * xNp X + k - 12 * xNp X = k by omega]
                · have he : e < xNp X := by omega
                  have m := g.2.2.2.1.2 e he
                  have z1 := add_ag (t := xTb X) (a := xNp X) (l := xLy X a) (o := o) (n := (j - i + 1)) (c := (xSt X (j - i + 1) (pc1 X a i))) z
                  refine ⟨by rw [ir 12 (by simp), r12, if_neg z, ir1 12 (by simp), show tTh (setRg (addT (xTb X) (xNp X) (xLy X a) o (j - i + 1) (xSt X (j - i + 1) (pc1 X a i))) a (xSz X a - j + i + 1) (xSt X (xSz X a - j + i + 1) (pc1 X a j))) e = tTh (xTb X) e from z1.1]; exact m.1, fun t => ?_⟩
                  have t : tTh (xTb X) e = true := z1.1.symm.trans t
                  have b := m.2 t
                  have sz : tSz (xTb X) e ≤ 12 := (wf_good w (show xTh X e = true from t)).2.1
                  refine ⟨by rw [ir 13 (by simp), r13, if_neg z, ir1 13 (by simp), show tLy (setRg (addT (xTb X) (xNp X) (xLy X a) o (j - i + 1) (xSt X (j - i + 1) (pc1 X a i))) a (xSz X a - j + i + 1) (xSt X (xSz X a - j + i + 1) (pc1 X a j))) e = tLy (xTb X) e from z1.2.1]; exact b.1, by rw [ir 14 (by simp), r14, if_neg z, ir1 14 (by simp), show tOw (setRg (addT (xTb X) (xNp X) (xLy X a) o (j - i + 1) (xSt X (j - i + 1) (pc1 X a i))) a (xSz X a - j + i + 1) (xSt X (xSz X a - j + i + 1) (pc1 X a j))) e = tOw (xTb X) e from z1.2.2.1]; exact b.2.1, ?_, fun k hk => ?_⟩
                  · rw [r15c]
                    by_cases y : e = a
                    · subst y; rw [if_pos rfl, own2.1]
                    · have z2 := rg_ag (t := (addT (xTb X) (xNp X) (xLy X a) o (j - i + 1) (xSt X (j - i + 1) (pc1 X a i)))) (n := (xSz X a - j + i + 1)) (c := (xSt X (xSz X a - j + i + 1) (pc1 X a j))) y
                      rw [if_neg y, q15, r15, if_neg z, ir1 15 (by simp), z2.2.2.2.1, z1.2.2.2.1]; exact b.2.2.1
                  · rw [r16c]
                    by_cases y : e = a
                    · subst y; rw [own2.1] at hk; rw [if_pos (by omega), own2.2, show 12 * e + k - 12 * e = k by omega]
                    · have z2 := rg_ag (t := (addT (xTb X) (xNp X) (xLy X a) o (j - i + 1) (xSt X (j - i + 1) (pc1 X a i)))) (n := (xSz X a - j + i + 1)) (c := (xSt X (xSz X a - j + i + 1) (pc1 X a j))) y
                      rw [z2.2.2.2.1, z1.2.2.2.1] at hk
                      rw [if_neg (by omega), q16, r16, if_neg (by omega), ir1 16 (by simp), z2.2.2.2.2, z1.2.2.2.2]; exact b.2.2.2 k hk
              · omega
            · exact absurd hc.2 c_63
          · refine x_iload_n eX9_split_48 rfl ?_
            refine x_iload eX9_split_49 rfl ?_
            refine x_iconst (v := nI 1) eX9_split_51 (by decide) ?_
            first | refine x_isubN eX9_split_52 (by omega) ?_ | refine x_isub eX9_split_52 ?_
            refine x_icmp_eqN eX9_split_53 (by omega) (by omega) (fun c_53 => ?_) (fun c_53 => ?_)
            · exact absurd (by omega) hc.1
            · refine x_aload_n eX9_split_56 rfl ?_
              refine x_iload_n eX9_split_57 rfl ?_
              refine x_iload_n eX9_split_58 rfl ?_
              refine x_iload_n eX9_split_59 rfl ?_
              refine s_callV1 (As := [_, _, _]) eX9_split_60 kX9_291 ⟨by decide, by decide⟩ rfl (by decide) (by decide) rfl rfl (Nat.le_of_ble_eq_true rfl) (Nat.le_of_ble_eq_true rfl) (sp_X9_isInside _ hT (MP_X w T) (h.pr w ha ta) (RGd_X w ta T) (by omega) (by omega) hne) (fun S_60 h_60 => ?_)
              rw [vrd_X w ta T]
              have g := RM_G w h h_60
              have fr1 := h_60.frM
              refine x_if_neT eX9_split_63 (fun c_63 => ?_) (fun c_63 => ?_)
              · refine x_aload_n eX9_split_70 rfl ?_
                refine s_geti eX9_split_71 fX9_224 rfl (by decide) (by decide) ?_
                rw [show S_60.1 0 16 = nI (xNp X) from g.2.2.2.1.1]
                refine x_bipush (v := nI 60) eX9_split_74 (by decide) ?_
                refine x_icmp_neN eX9_split_76 (by omega) (by omega) (fun c_76 => ?_) (fun c_76 => ?_)
                · refine x_aload_n eX9_split_82 rfl ?_
                  refine s_callV0 (As := []) eX9_split_83 kX9_278 ⟨by decide, by decide⟩ rfl (by decide) (by decide) rfl rfl (Nat.le_of_ble_eq_true rfl) (Nat.le_of_ble_eq_true rfl) (sp_mkp w g) (fun S_83 h_83 => ?_)
                  have k1 := h_83
                  have pr1 : mpr S_83 a (xSz X a) (xRg X a) := (g.pr w ha ta).fx k1.1 (by simp) (by simp)
                  obtain ⟨T, hT⟩ := g.pts w
                  have hT1 := hT.fx k1.1 (by simp) (by simp)
                  refine x_aload_n eX9_split_86 rfl ?_
                  refine x_iload_n eX9_split_87 rfl ?_
                  refine x_iload_n eX9_split_88 rfl ?_
                  first | refine x_isubN eX9_split_89 (by omega) ?_ | refine x_isub eX9_split_89 ?_
                  refine x_iconst (v := nI 1) eX9_split_90 (by decide) ?_
                  first | refine x_iaddN eX9_split_91 ?_ | refine x_iadd eX9_split_91 ?_
                  refine s_puti eX9_split_92 fX9_218 wX9_14 rfl (by decide) (by decide) ?_
                  refine x_iconst (v := nI 0) eX9_split_95 (by decide) ?_
                  refine x_istore (lv' := [_, _, _, _, _, _, _]) eX9_split_96 (by decide) rfl ?_
                  refine x_pick [0, 1, 2, 3, 4, 5, 6] rfl ?_
                  refine sl_one (pr1.fx (Fx.sF (fs := [0]) (is := []) (ls := []) (ds := []) (by simp)) (by simp) (by simp)) (q := (j - i + 1)) (by rw [setF_at, upd_at]) (by omega) (by omega) (fun S2 x2a r10 => ?_)
                  have e14 : S2.1 0 14 = nI (j - i + 1) := by rw [x2a.1 0 (by simp), setF_at, upd_at]
                  have mr : mrg S2 (j - i + 1) (pc1 X a i) := ⟨e14, by omega, fun k hk => ⟨r10 k hk, by have := pc1_lt w ta (i := i) k; omega⟩⟩
                  have xb : Fx [0] [10, 11, 12, 13, 14, 15, 16, 23] [5, 6, 7] [] S_83 S2 := (Fx.sF (by simp)).tr (x2a.mono (by simp) (by simp) (by simp) (by simp))
                  have hT2 := hT1.fx xb (by simp) (by simp)
                  have pr2 : mpr S2 a (xSz X a) (xRg X a) := (pr1.fx (Fx.sF (fs := [0]) (is := []) (ls := []) (ds := []) (by simp)) (by simp) (by simp)).fx x2a (by simp) (by simp)
                  refine x_aload_n eX9_split_129 rfl ?_
                  refine s_callV0 (As := []) eX9_split_130 kX9_272 ⟨by decide, by decide⟩ rfl (by decide) (by decide) rfl rfl (Nat.le_of_ble_eq_true rfl) (Nat.le_of_ble_eq_true rfl) (sp_X9_turnLeft S2 hT2 mr (fun k _ => pc1_lt w ta k) (by omega)) (fun S_130 h_130 => ?_)
                  obtain ⟨x3, mr3⟩ := h_130
                  rw [stM2 w T (fun k _ => pc1_lt w ta k) ps.1] at mr3
                  have pr3 := pr2.fx x3 (by simp) (by simp)
                  have hT3 := hT2.fx x3 (by simp) (by simp)
                  have xc : Fx [0] [10, 11, 12, 13, 14, 15, 16, 23] [5, 6, 7] [] S_83 S_130 := xb.tr (x3.mono (by simp) (by simp) (by simp) (by simp))
                  have e16 : S_130.1 0 16 = nI (xNp X) := by rw [x3.1 0 (by simp), x2a.1 0 (by simp), setF_at, upd_ne _ _ (by decide), k1.2.2.1 16 (by decide) (by decide)]; exact g.2.2.2.1.1
                  have e13 : S_130.2.1 13 a = nI (xLy X a) := by rw [x3.2.1 13 (by simp), x2a.2.1 13 (by simp)]; show S_83.2.1 13 a = _; rw [k1.1.2.1 13 (by simp)]; exact ((g.2.2.2.1.2 a ha).2 ta).1
                  refine x_aload_n eX9_split_133 rfl ?_
                  refine x_aload_n eX9_split_134 rfl ?_
                  refine s_getR (k := 13) eX9_split_135 fX9_52 rfl (by decide) (by decide) rfl ?_
                  refine x_iload_n eX9_split_138 rfl ?_
                  refine s_iald eX9_split_139 rfl (by decide) rfl (show _ < 60 by omega) ?_
                  rw [e13]
                  refine x_iload eX9_split_140 rfl ?_
                  refine s_callV1 (As := [_, _]) eX9_split_142 kX9_281 ⟨by decide, by decide⟩ rfl (by decide) (by decide) rfl rfl (Nat.le_of_ble_eq_true rfl) (Nat.le_of_ble_eq_true rfl) (sp_X9_made S_130 e16 h60 mr3 g1.2.1 (nI (xLy X a)) o) (fun S_142 h_142 => ?_)
                  obtain ⟨x4, m16, mf, r12, r13, r14, r15, r16⟩ := h_142
                  have pr4 : mpr S_142 a (xSz X a) (xRg X a) := ⟨pr3.1, pr3.2.1, pr3.2.2.1, by rw [r15, if_neg (by omega)]; exact pr3.2.2.2.1, fun k hk => by rw [r16, if_neg (by omega)]; exact pr3.2.2.2.2 k hk⟩
                  have hT4 := hT3.fx x4 (by simp) (by simp)
                  have xd : Fx [0] [10, 11, 12, 13, 14, 15, 16, 23] [5, 6, 7] [] S_83 S_142 := xc.tr (x4.mono (by simp) (by simp) (by simp) (by simp))
                  refine x_istore (lv' := [_, _, _, _, _, _, _]) eX9_split_145 (by decide) rfl ?_
                  refine x_aload_n eX9_split_147 rfl ?_
                  refine x_iload eX9_split_148 rfl ?_
                  refine x_iload_n eX9_split_150 rfl ?_
                  first | refine x_isubN eX9_split_151 (by omega) ?_ | refine x_isub eX9_split_151 ?_
                  refine x_iload_n eX9_split_152 rfl ?_
                  first | refine x_iaddN eX9_split_153 ?_ | refine x_iadd eX9_split_153 ?_
                  refine x_iconst (v := nI 1) eX9_split_154 (by decide) ?_
                  first | refine x_iaddN eX9_split_155 ?_ | refine x_iadd eX9_split_155 ?_
                  refine s_puti eX9_split_156 fX9_218 wX9_14 rfl (by decide) (by decide) ?_
                  refine x_iconst (v := nI 0) eX9_split_159 (by decide) ?_
                  refine x_istore (lv' := [_, _, _, _, _, _, _, _]) eX9_split_160 (by decide) rfl ?_
                  refine x_pick [0, 1, 2, 3, 4, 5, 6, 7] rfl ?_
                  refine sl_two (pr4.fx (Fx.sF (fs := [0]) (is := []) (ls := []) (ds := []) (by simp)) (by simp) (by simp)) (q := (xSz X a - j + i + 1)) (by rw [setF_at, upd_at] <;> rfl) (by omega) (by omega) (fun S6 x6 r11 => ?_)
                  have e14b : S6.1 0 14 = nI (xSz X a - j + i + 1) := by rw [x6.1 0 (by simp), setF_at, upd_at] <;> rfl
                  have xe : Fx [0] [10, 11, 12, 13, 14, 15, 16, 23] [5, 6, 7] [] S_83 S6 := (xd.tr (Fx.sF (by simp))).tr (x6.mono (by simp) (by simp) (by simp) (by simp))
                  refine x_iconst (v := nI 0) eX9_split_193 (by decide) ?_
                  refine x_istore (lv' := [_, _, _, _, _, _, _, _]) eX9_split_194 (by decide) rfl ?_
                  refine x_pick [0, 1, 2, 3, 4, 5, 6, 7] rfl ?_
                  refine sl_three e14b (by omega) (fun S7 x7 r10b => ?_)
                  have mr7 : mrg S7 (xSz X a - j + i + 1) (pc1 X a j) := ⟨by rw [x7.1 0 (by simp)]; exact e14b, by omega, fun k hk => ⟨by rw [r10b k hk]; exact r11 k hk, by have := pc1_lt w ta (i := j) k; omega⟩⟩
                  have xf : Fx [0] [10, 11, 12, 13, 14, 15, 16, 23] [5, 6, 7] [] S_83 S7 := xe.tr (x7.mono (by simp) (by simp) (by simp) (by simp))
                  have hT7 := hT1.fx xf (by simp) (by simp)
                  refine x_aload_n eX9_split_225 rfl ?_
                  refine s_callV0 (As := []) eX9_split_226 kX9_272 ⟨by decide, by decide⟩ rfl (by decide) (by decide) rfl rfl (Nat.le_of_ble_eq_true rfl) (Nat.le_of_ble_eq_true rfl) (sp_X9_turnLeft S7 hT7 mr7 (fun k _ => pc1_lt w ta k) (by omega)) (fun S_226 h_226 => ?_)
                  obtain ⟨x8, mr8⟩ := h_226
                  rw [stM2 w T (fun k _ => pc1_lt w ta k) ps.2] at mr8
                  have xg : Fx [0] [10, 11, 12, 13, 14, 15, 16, 23] [5, 6, 7] [] S_83 S_226 := xf.tr (x8.mono (by simp) (by simp) (by simp) (by simp))
                  refine x_aload_n eX9_split_229 rfl ?_
                  refine x_iload_n eX9_split_230 rfl ?_
                  refine s_callV0 (As := [_]) eX9_split_231 kX9_234 ⟨by decide, by decide⟩ rfl (by decide) (by decide) rfl rfl (Nat.le_of_ble_eq_true rfl) (Nat.le_of_ble_eq_true rfl) (sp_X9_store S_226 (p := a) (by omega) mr8 g2.2.1) (fun S_231 h_231 => ?_)
                  obtain ⟨x9, r15c, r16c⟩ := h_231
                  have x2 : Fx [0] [10, 11, 12, 13, 14, 15, 16, 23] [5, 6, 7] [] S_83 S_231 := xg.tr (x9.mono (by simp) (by simp) (by simp) (by simp))
                  refine x_iload eX9_split_234 rfl ?_
                  have own2 := rg_own (addT (xTb X) (xNp X) (xLy X a) o (j - i + 1) (xSt X (j - i + 1) (pc1 X a i))) a (xSz X a - j + i + 1) (xSt X (xSz X a - j + i + 1) (pc1 X a j))
                  have own1 := add_own (xTb X) (xNp X) (xLy X a) o (j - i + 1) (xSt X (j - i + 1) (pc1 X a i))
                  refine s_iret eX9_split_236 rfl rfl ⟨rfl, RM_mut w g k1 x2 (fun f f1 f2 => ?_) ?_ (fun e he => ?_), (fr1.tr (k1.1.frM (by simp) (by simp) (by simp) (by simp))).tr (x2.frM (by simp) (by simp) (by simp) (by simp))⟩
                  · rw [x9.1 0 (by simp), x8.1 0 (by simp), x7.1 0 (by simp), x6.1 0 (by simp), setF_at, upd_ne _ _ f1, mf f f2, x3.1 0 (by simp), x2a.1 0 (by simp), setF_at, upd_ne _ _ f1]
                  · rw [x9.1 0 (by simp), x8.1 0 (by simp), x7.1 0 (by simp), x6.1 0 (by simp), setF_at, upd_ne _ _ (by decide)]; exact m16
                  have ir : ∀ r, r = 12 ∨ r = 13 ∨ r = 14 → S_231.2.1 r = S_142.2.1 r := fun r hr => by rw [x9.2.1 r (by simp; omega), x8.2.1 r (by simp; omega), x7.2.1 r (by simp; omega), x6.2.1 r (by simp; omega)] <;> rfl
                  have ir1 : ∀ r, r = 12 ∨ r = 13 ∨ r = 14 ∨ r = 15 ∨ r = 16 → S_130.2.1 r = S_60.2.1 r := fun r hr => by rw [x3.2.1 r (by simp; omega), x2a.2.1 r (by simp; omega)]; exact k1.1.2.1 r (by simp; omega)
                  have q15 : S_226.2.1 15 = S_142.2.1 15 := by rw [x8.2.1 15 (by simp), x7.2.1 15 (by simp), x6.2.1 15 (by simp)] <;> rfl
                  have q16 : S_226.2.1 16 = S_142.2.1 16 := by rw [x8.2.1 16 (by simp), x7.2.1 16 (by simp), x6.2.1 16 (by simp)] <;> rfl
                  by_cases z : e = xNp X
                  · subst z
                    have ag2 := rg_ag (t := (addT (xTb X) (xNp X) (xLy X a) o (j - i + 1) (xSt X (j - i + 1) (pc1 X a i)))) (a := a) (n := (xSz X a - j + i + 1)) (c := (xSt X (xSz X a - j + i + 1) (pc1 X a j))) (e := xNp X) (by omega)
                    refine ⟨by rw [ir 12 (by simp), r12, if_pos rfl, show tTh (setRg (addT (xTb X) (xNp X) (xLy X a) o (j - i + 1) (xSt X (j - i + 1) (pc1 X a i))) a (xSz X a - j + i + 1) (xSt X (xSz X a - j + i + 1) (pc1 X a j))) (xNp X) = true from own1.1]; rfl, fun _ => ⟨by rw [ir 13 (by simp), r13, if_pos rfl, show tLy (setRg (addT (xTb X) (xNp X) (xLy X a) o (j - i + 1) (xSt X (j - i + 1) (pc1 X a i))) a (xSz X a - j + i + 1) (xSt X (xSz X a - j + i + 1) (pc1 X a j))) (xNp X) = xLy X a from own1.2.1], by rw [ir 14 (by simp), r14, if_pos rfl, show tOw (setRg (addT (xTb X) (xNp X) (xLy X a) o (j - i + 1) (xSt X (j - i + 1) (pc1 X a i))) a (xSz X a - j + i + 1) (xSt X (xSz X a - j + i + 1) (pc1 X a j))) (xNp X) = o from own1.2.2.1], ?_, fun k hk => ?_⟩⟩
                    · rw [r15c, if_neg (by omega), q15, r15, if_pos rfl, ag2.2.2.2.1, own1.2.2.2.1]
                    · rw [ag2.2.2.2.1, own1.2.2.2.1] at hk
                      rw [r16c, if_neg (by omega), q16, r16, if_pos (by omega), ag2.2.2.2.2, own1.2.2.2.2, show 12 * xNp X + k - 12 * xNp X = k by omega]
                  · have he : e < xNp X := by omega
                    have m := g.2.2.2.1.2 e he
                    have z1 := add_ag (t := xTb X) (a := xNp X) (l := xLy X a) (o := o) (n := (j - i + 1)) (c := (xSt X (j - i + 1) (pc1 X a i))) z
                    refine ⟨by rw [ir 12 (by simp), r12, if_neg z, ir1 12 (by simp), show tTh (setRg (addT (xTb X) (xNp X) (xLy X a) o (j - i + 1) (xSt X (j - i + 1) (pc1 X a i))) a (xSz X a - j + i + 1) (xSt X (xSz X a - j + i + 1) (pc1 X a j))) e = tTh (xTb X) e from z1.1]; exact m.1, fun t => ?_⟩
                    have t : tTh (xTb X) e = true := z1.1.symm.trans t
                    have b := m.2 t
                    have sz : tSz (xTb X) e ≤ 12 := (wf_good w (show xTh X e = true from t)).2.1
                    refine ⟨by rw [ir 13 (by simp), r13, if_neg z, ir1 13 (by simp), show tLy (setRg (addT (xTb X) (xNp X) (xLy X a) o (j - i + 1) (xSt X (j - i + 1) (pc1 X a i))) a (xSz X a - j + i + 1) (xSt X (xSz X a - j + i + 1) (pc1 X a j))) e = tLy (xTb X) e from z1.2.1]; exact b.1, by rw [ir 14 (by simp), r14, if_neg z, ir1 14 (by simp), show tOw (setRg (addT (xTb X) (xNp X) (xLy X a) o (j - i + 1) (xSt X (j - i + 1) (pc1 X a i))) a (xSz X a - j + i + 1) (xSt X (xSz X a - j + i + 1) (pc1 X a j))) e = tOw (xTb X) e from z1.2.2.1]; exact b.2.1, ?_, fun k hk => ?_⟩
                    · rw [r15c]
                      by_cases y : e = a
                      · subst y; rw [if_pos rfl, own2.1]
                      · have z2 := rg_ag (t := (addT (xTb X) (xNp X) (xLy X a) o (j - i + 1) (xSt X (j - i + 1) (pc1 X a i)))) (n := (xSz X a - j + i + 1)) (c := (xSt X (xSz X a - j + i + 1) (pc1 X a j))) y
                        rw [if_neg y, q15, r15, if_neg z, ir1 15 (by simp), z2.2.2.2.1, z1.2.2.2.1]; exact b.2.2.1
                    · rw [r16c]
                      by_cases y : e = a
                      · subst y; rw [own2.1] at hk; rw [if_pos (by omega), own2.2, show 12 * e + k - 12 * e = k by omega]
                      · have z2 := rg_ag (t := (addT (xTb X) (xNp X) (xLy X a) o (j - i + 1) (xSt X (j - i + 1) (pc1 X a i)))) (n := (xSz X a - j + i + 1)) (c := (xSt X (xSz X a - j + i + 1) (pc1 X a j))) y
                        rw [z2.2.2.2.1, z1.2.2.2.1] at hk
                        rw [if_neg (by omega), q16, r16, if_neg (by omega), ir1 16 (by simp), z2.2.2.2.2, z1.2.2.2.2]; exact b.2.2.2 k hk
                · omega
              · exact absurd hc.2 c_63
      · omega
  · exact absurd ya c_5
theorem b_split {X : LM} (w : wf X) (p i j o : Int32) : both X mX8_split mX9_split [.int p, .int i, .int j, .int o] := by
  have n60 : xNp X ≤ 60 := w.2.2.2.2.1.1
  by_cases hp : xHas X p
  rotate_left
  · refine ⟨.int (-101), X, w, fun S h => ?_, fun S h => ?_⟩
    · show XP _ _ [_, _, _, _, _] _ _ _
      refine x_aload_n eX8_split_0 rfl ?_
      refine s_getR (k := 37) eX8_split_1 fX8_28 rfl (by decide) (by decide) rfl ?_
      refine x_iload_n eX8_split_4 rfl ?_
      refine s_callV1 (As := [_]) eX8_split_5 kX8_144 ⟨by decide, by decide⟩ rfl (by decide) (by decide) rfl rfl (Nat.le_of_ble_eq_true rfl) (Nat.le_of_ble_eq_true rfl) (sp_X3_has (h.tab w) p) (fun S_5 h_5 => ?_)
      have h_5 := h_5.symm
      subst h_5
      refine x_if_neT eX8_split_8 (fun c_8 => ?_) (fun c_8 => ?_)
      · exact absurd c_8 hp
      · refine x_bipush (v := -101) eX8_split_11 (by decide) ?_
        exact s_iret eX8_split_13 rfl rfl ⟨rfl, h, frC.rf _⟩
    · show XP _ _ [_, _, _, _, _] _ _ _
      refine x_aload_n eX9_split_0 rfl ?_
      refine x_iload_n eX9_split_1 rfl ?_
      refine s_callV1 (As := [_]) eX9_split_2 kX9_284 ⟨by decide, by decide⟩ rfl (by decide) (by decide) rfl rfl (Nat.le_of_ble_eq_true rfl) (Nat.le_of_ble_eq_true rfl) (sp_X9_isParcel (h.tab w) p) (fun S_2 h_2 => ?_)
      have h_2 := h_2.symm
      subst h_2
      refine x_if_neT eX9_split_5 (fun c_5 => ?_) (fun c_5 => ?_)
      · exact absurd c_5 hp
      · refine x_bipush (v := -101) eX9_split_8 (by decide) ?_
        exact s_iret eX9_split_10 rfl rfl ⟨rfl, h, frM.rf _⟩
  obtain ⟨a, ha, rfl, ta⟩ := hp
  have ya : hasP (xNp X) (tTh (xTb X)) (nI a) := ⟨a, ha, rfl, ta⟩
  have n12 : xSz X a ≤ 12 := (wf_good w ta).2.1
  by_cases hij : ∃ k m, k < m ∧ m < xSz X a ∧ i = nI k ∧ j = nI m
  rotate_left
  · refine ⟨.int (-102), X, w, fun S h => ?_, fun S h => ?_⟩
    · show XP _ _ [_, _, _, _, _] _ _ _
      refine x_aload_n eX8_split_0 rfl ?_
      refine s_getR (k := 37) eX8_split_1 fX8_28 rfl (by decide) (by decide) rfl ?_
      refine x_iload_n eX8_split_4 rfl ?_
      refine s_callV1 (As := [_]) eX8_split_5 kX8_144 ⟨by decide, by decide⟩ rfl (by decide) (by decide) rfl rfl (Nat.le_of_ble_eq_true rfl) (Nat.le_of_ble_eq_true rfl) (sp_X3_has (h.tab w) (nI a)) (fun S_5 h_5 => ?_)
      have h_5 := h_5.symm
      subst h_5
      refine x_if_neT eX8_split_8 (fun c_8 => ?_) (fun c_8 => ?_)
      · refine x_aload_n eX8_split_14 rfl ?_
        refine s_getR (k := 37) eX8_split_15 fX8_28 rfl (by decide) (by decide) rfl ?_
        refine s_getR (k := 38) eX8_split_18 fX8_145 rfl (by decide) (by decide) rfl ?_
        refine x_iload_n eX8_split_21 rfl ?_
        refine s_raldR eX8_split_22 (by first | exact Or.inl rfl | exact Or.inr rfl) (by decide) rfl (show _ < 60 by omega) (rf_parcels a) ?_
        refine x_astore (lv' := [_, _, _, _, _, _]) eX8_split_23 (by decide) rfl ?_
        refine x_iload_n eX8_split_25 rfl ?_
        refine x_if_lt eX8_split_26 (fun c_26 => ?_) (fun c_26 => ?_)
        · refine x_bipush (v := -102) eX8_split_46 (by decide) ?_
          exact s_iret eX8_split_48 rfl rfl ⟨rfl, h, frC.rf _⟩
        · refine x_iload_n eX8_split_29 rfl ?_
          refine x_iload_n eX8_split_30 rfl ?_
          refine x_icmp_ge eX8_split_31 (fun c_31 => ?_) (fun c_31 => ?_)
          · refine x_bipush (v := -102) eX8_split_46 (by decide) ?_
            exact s_iret eX8_split_48 rfl rfl ⟨rfl, h, frC.rf _⟩
          · refine x_iload_n eX8_split_34 rfl ?_
            refine x_aload eX8_split_35 rfl ?_
            refine s_getR (k := (45 + 2 * a)) eX8_split_37 fX8_157 (kd_parcel (by omega)) (show _ < 365 by omega) (by decide) (rf_parcel (by omega)) ?_
            refine s_geti eX8_split_40 fX8_115 (kd_ring (by omega)) (show _ < 365 by omega) (by decide) ?_
            rw [(h.cr w ha ta).1.2.2.1]
            refine x_icmp_lt eX8_split_43 (fun c_43 => ?_) (fun c_43 => ?_)
            · exact absurd (two_in (by omega) c_26 c_31 c_43) hij
            · refine x_bipush (v := -102) eX8_split_46 (by decide) ?_
              exact s_iret eX8_split_48 rfl rfl ⟨rfl, h, frC.rf _⟩
      · exact absurd ya c_8
    · show XP _ _ [_, _, _, _, _] _ _ _
      refine x_aload_n eX9_split_0 rfl ?_
      refine x_iload_n eX9_split_1 rfl ?_
      refine s_callV1 (As := [_]) eX9_split_2 kX9_284 ⟨by decide, by decide⟩ rfl (by decide) (by decide) rfl rfl (Nat.le_of_ble_eq_true rfl) (Nat.le_of_ble_eq_true rfl) (sp_X9_isParcel (h.tab w) (nI a)) (fun S_2 h_2 => ?_)
      have h_2 := h_2.symm
      subst h_2
      refine x_if_neT eX9_split_5 (fun c_5 => ?_) (fun c_5 => ?_)
      · refine x_aload_n eX9_split_11 rfl ?_
        refine s_getR (k := 15) eX9_split_12 fX9_58 rfl (by decide) (by decide) rfl ?_
        refine x_iload_n eX9_split_15 rfl ?_
        refine s_iald eX9_split_16 rfl (by decide) rfl (show _ < 60 by omega) ?_
        rw [((h.tab w).2.2 a ha).2 ta |>.2.2.2.2.2.1]
        refine x_istore (lv' := [_, _, _, _, _, _]) eX9_split_17 (by decide) rfl ?_
        refine x_iload_n eX9_split_19 rfl ?_
        refine x_if_lt eX9_split_20 (fun c_20 => ?_) (fun c_20 => ?_)
        · refine x_bipush (v := -102) eX9_split_34 (by decide) ?_
          exact s_iret eX9_split_36 rfl rfl ⟨rfl, h, frM.rf _⟩
        · refine x_iload_n eX9_split_23 rfl ?_
          refine x_iload_n eX9_split_24 rfl ?_
          refine x_icmp_ge eX9_split_25 (fun c_25 => ?_) (fun c_25 => ?_)
          · refine x_bipush (v := -102) eX9_split_34 (by decide) ?_
            exact s_iret eX9_split_36 rfl rfl ⟨rfl, h, frM.rf _⟩
          · refine x_iload_n eX9_split_28 rfl ?_
            refine x_iload eX9_split_29 rfl ?_
            refine x_icmp_lt eX9_split_31 (fun c_31 => ?_) (fun c_31 => ?_)
            · exact absurd (two_in (show xSz X a < 2 ^ 31 by omega) c_20 c_25 c_31) hij
            · refine x_bipush (v := -102) eX9_split_34 (by decide) ?_
              exact s_iret eX9_split_36 rfl rfl ⟨rfl, h, frM.rf _⟩
      · exact absurd ya c_5
  obtain ⟨i, j, hij, hjn, rfl, rfl⟩ := hij
  by_cases hc : cutX X a i j
  rotate_left
  · refine ⟨.int (-205), X, w, fun S h => ?_, fun S h => ?_⟩
    · show XP _ _ [_, _, _, _, _] _ _ _
      refine x_aload_n eX8_split_0 rfl ?_
      refine s_getR (k := 37) eX8_split_1 fX8_28 rfl (by decide) (by decide) rfl ?_
      refine x_iload_n eX8_split_4 rfl ?_
      refine s_callV1 (As := [_]) eX8_split_5 kX8_144 ⟨by decide, by decide⟩ rfl (by decide) (by decide) rfl rfl (Nat.le_of_ble_eq_true rfl) (Nat.le_of_ble_eq_true rfl) (sp_X3_has (h.tab w) (nI a)) (fun S_5 h_5 => ?_)
      have h_5 := h_5.symm
      subst h_5
      refine x_if_neT eX8_split_8 (fun c_8 => ?_) (fun c_8 => ?_)
      · refine x_aload_n eX8_split_14 rfl ?_
        refine s_getR (k := 37) eX8_split_15 fX8_28 rfl (by decide) (by decide) rfl ?_
        refine s_getR (k := 38) eX8_split_18 fX8_145 rfl (by decide) (by decide) rfl ?_
        refine x_iload_n eX8_split_21 rfl ?_
        refine s_raldR eX8_split_22 (by first | exact Or.inl rfl | exact Or.inr rfl) (by decide) rfl (show _ < 60 by omega) (rf_parcels a) ?_
        refine x_astore (lv' := [_, _, _, _, _, _]) eX8_split_23 (by decide) rfl ?_
        refine x_iload_n eX8_split_25 rfl ?_
        refine x_if_ltN eX8_split_26 (by omega) ?_
        refine x_iload_n eX8_split_29 rfl ?_
        refine x_iload_n eX8_split_30 rfl ?_
        refine x_icmp_geN eX8_split_31 (by omega) (by omega) (fun c_31 => ?_) (fun c_31 => ?_)
        · omega
        · refine x_iload_n eX8_split_34 rfl ?_
          refine x_aload eX8_split_35 rfl ?_
          refine s_getR (k := (45 + 2 * a)) eX8_split_37 fX8_157 (kd_parcel (by omega)) (show _ < 365 by omega) (by decide) (rf_parcel (by omega)) ?_
          refine s_geti eX8_split_40 fX8_115 (kd_ring (by omega)) (show _ < 365 by omega) (by decide) ?_
          rw [(h.cr w ha ta).1.2.2.1]
          refine x_icmp_ltN eX8_split_43 (by omega) (by omega) (fun c_43 => ?_) (fun c_43 => ?_)
          · refine x_aload_n eX8_split_49 rfl ?_
            refine s_getR (k := 36) eX8_split_50 fX8_21 rfl (by decide) (by decide) rfl ?_
            refine x_aload eX8_split_53 rfl ?_
            refine s_getR (k := (45 + 2 * a)) eX8_split_55 fX8_157 (kd_parcel (by omega)) (show _ < 365 by omega) (by decide) (rf_parcel (by omega)) ?_
            refine x_iload_n eX8_split_58 rfl ?_
            refine x_iload_n eX8_split_59 rfl ?_
            refine s_callV1 (As := [_, _, _]) eX8_split_60 kX8_171 ⟨by decide, by decide⟩ rfl (by decide) (by decide) rfl rfl (Nat.le_of_ble_eq_true rfl) (Nat.le_of_ble_eq_true rfl) (sp_X5_isCut _ (h.pts w).choose_spec (h.cr w ha ta) (by omega) hjn) (fun S_60 h_60 => ?_)
            have g := RC_L h h_60
            have fr1 := h_60.frC (by simp)
            refine x_if_neT eX8_split_63 (fun c_63 => ?_) (fun c_63 => ?_)
            · exact absurd ((cut_X w ta hij hjn _).mp c_63) hc
            · refine x_sipush (v := -205) eX8_split_66 (by decide) ?_
              exact s_iret eX8_split_69 rfl rfl ⟨rfl, g, fr1⟩
          · omega
      · exact absurd ya c_8
    · exact m_split_apart w h ha ta hij hjn hc o
  by_cases h60 : xNp X < 60
  rotate_left
  · refine ⟨.int (-104), X, w, fun S h => ?_, fun S h => ?_⟩
    · show XP _ _ [_, _, _, _, _] _ _ _
      refine x_aload_n eX8_split_0 rfl ?_
      refine s_getR (k := 37) eX8_split_1 fX8_28 rfl (by decide) (by decide) rfl ?_
      refine x_iload_n eX8_split_4 rfl ?_
      refine s_callV1 (As := [_]) eX8_split_5 kX8_144 ⟨by decide, by decide⟩ rfl (by decide) (by decide) rfl rfl (Nat.le_of_ble_eq_true rfl) (Nat.le_of_ble_eq_true rfl) (sp_X3_has (h.tab w) (nI a)) (fun S_5 h_5 => ?_)
      have h_5 := h_5.symm
      subst h_5
      refine x_if_neT eX8_split_8 (fun c_8 => ?_) (fun c_8 => ?_)
      · refine x_aload_n eX8_split_14 rfl ?_
        refine s_getR (k := 37) eX8_split_15 fX8_28 rfl (by decide) (by decide) rfl ?_
        refine s_getR (k := 38) eX8_split_18 fX8_145 rfl (by decide) (by decide) rfl ?_
        refine x_iload_n eX8_split_21 rfl ?_
        refine s_raldR eX8_split_22 (by first | exact Or.inl rfl | exact Or.inr rfl) (by decide) rfl (show _ < 60 by omega) (rf_parcels a) ?_
        refine x_astore (lv' := [_, _, _, _, _, _]) eX8_split_23 (by decide) rfl ?_
        refine x_iload_n eX8_split_25 rfl ?_
        refine x_if_ltN eX8_split_26 (by omega) ?_
        refine x_iload_n eX8_split_29 rfl ?_
        refine x_iload_n eX8_split_30 rfl ?_
        refine x_icmp_geN eX8_split_31 (by omega) (by omega) (fun c_31 => ?_) (fun c_31 => ?_)
        · omega
        · refine x_iload_n eX8_split_34 rfl ?_
          refine x_aload eX8_split_35 rfl ?_
          refine s_getR (k := (45 + 2 * a)) eX8_split_37 fX8_157 (kd_parcel (by omega)) (show _ < 365 by omega) (by decide) (rf_parcel (by omega)) ?_
          refine s_geti eX8_split_40 fX8_115 (kd_ring (by omega)) (show _ < 365 by omega) (by decide) ?_
          rw [(h.cr w ha ta).1.2.2.1]
          refine x_icmp_ltN eX8_split_43 (by omega) (by omega) (fun c_43 => ?_) (fun c_43 => ?_)
          · refine x_aload_n eX8_split_49 rfl ?_
            refine s_getR (k := 36) eX8_split_50 fX8_21 rfl (by decide) (by decide) rfl ?_
            refine x_aload eX8_split_53 rfl ?_
            refine s_getR (k := (45 + 2 * a)) eX8_split_55 fX8_157 (kd_parcel (by omega)) (show _ < 365 by omega) (by decide) (rf_parcel (by omega)) ?_
            refine x_iload_n eX8_split_58 rfl ?_
            refine x_iload_n eX8_split_59 rfl ?_
            refine s_callV1 (As := [_, _, _]) eX8_split_60 kX8_171 ⟨by decide, by decide⟩ rfl (by decide) (by decide) rfl rfl (Nat.le_of_ble_eq_true rfl) (Nat.le_of_ble_eq_true rfl) (sp_X5_isCut _ (h.pts w).choose_spec (h.cr w ha ta) (by omega) hjn) (fun S_60 h_60 => ?_)
            have g := RC_L h h_60
            have fr1 := h_60.frC (by simp)
            refine x_if_neT eX8_split_63 (fun c_63 => ?_) (fun c_63 => ?_)
            · refine x_aload_n eX8_split_70 rfl ?_
              refine s_getR (k := 37) eX8_split_71 fX8_28 rfl (by decide) (by decide) rfl ?_
              refine s_callV1 (As := []) eX8_split_74 kX8_128 ⟨by decide, by decide⟩ rfl (by decide) (by decide) rfl rfl (Nat.le_of_ble_eq_true rfl) (Nat.le_of_ble_eq_true rfl) (sp_X3_hasRoom (g.tab w)) (fun S_74 h_74 => ?_)
              have h_74 := h_74.symm
              subst h_74
              refine x_if_neT eX8_split_77 (fun c_77 => ?_) (fun c_77 => ?_)
              · exact absurd c_77 h60
              · refine x_bipush (v := -104) eX8_split_80 (by decide) ?_
                exact s_iret eX8_split_82 rfl rfl ⟨rfl, g, fr1⟩
            · exact absurd ((cut_X w ta hij hjn _).mpr hc) c_63
          · omega
      · exact absurd ya c_8
    · exact m_split_full w h ha ta hij hjn hc h60 o
  exact ⟨.int (nI (xNp X)), (uT X (xNp X + 1) (setRg (addT (xTb X) (xNp X) (xLy X a) o (j - i + 1) (xSt X (j - i + 1) (pc1 X a i))) a (xSz X a - j + i + 1) (xSt X (xSz X a - j + i + 1) (pc1 X a j)))), wf_split w ha ta hij hjn hc h60 o, fun S h => c_split_yes w h ha ta hij hjn hc h60 o, fun S h => m_split_yes w h ha ta hij hjn hc h60 o⟩
