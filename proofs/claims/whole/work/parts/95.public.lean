/-! ===== public calls, both sides ===== -/
/-- both sides answer alike, and go on alike -/
def both (X : LM) (Mc Mm : xM) (args : List Value) : Prop := ∃ (v : Value) (X' : LM), wf X' ∧ (∀ S, RC S X → Sp Mc (.ref 31 :: args) S (fun r S' => r = some v ∧ RC S' X' ∧ frC S S')) ∧ ∀ S, RM S X → Sp Mm (.ref 0 :: args) S (fun r S' => r = some v ∧ RM S' X' ∧ frM S S')

theorem b_sure {X : LM} (w : wf X) : both X mX8_sure mX9_sure [] := by
  refine ⟨.int (xSu X), X, w, fun S h => ?_, fun S h => ?_⟩
  · show XP _ _ [_] _ _ _
    refine x_aload_n eX8_sure_0 rfl ?_
    refine s_geti eX8_sure_1 fX8_63 rfl (by decide) (by decide) ?_
    rw [h.2.2.1.2.1]
    exact s_iret eX8_sure_4 rfl rfl ⟨rfl, h, frC.rf _⟩
  · show XP _ _ [_] _ _ _
    refine x_aload_n eX9_sure_0 rfl ?_
    refine s_geti eX9_sure_1 fX9_31 rfl (by decide) (by decide) ?_
    rw [h.2.2.1.2.1]
    exact s_iret eX9_sure_4 rfl rfl ⟨rfl, h, frM.rf _⟩
theorem b_where {X : LM} (w : wf X) : both X mX8_where mX9_where [] := by
  refine ⟨.int (xWh X), X, w, fun S h => ?_, fun S h => ?_⟩
  · show XP _ _ [_] _ _ _
    refine x_aload_n eX8_where_0 rfl ?_
    refine s_geti eX8_where_1 fX8_59 rfl (by decide) (by decide) ?_
    rw [h.2.2.1.1]
    exact s_iret eX8_where_4 rfl rfl ⟨rfl, h, frC.rf _⟩
  · show XP _ _ [_] _ _ _
    refine x_aload_n eX9_where_0 rfl ?_
    refine s_geti eX9_where_1 fX9_215 rfl (by decide) (by decide) ?_
    rw [h.2.2.1.1]
    exact s_iret eX9_where_4 rfl rfl ⟨rfl, h, frM.rf _⟩
theorem b_edge {X : LM} (w : wf X) : both X mX8_edge mX9_edge [] := by
  refine ⟨.int (xEd X), X, w, fun S h => ?_, fun S h => ?_⟩
  · show XP _ _ [_] _ _ _
    refine x_aload_n eX8_edge_0 rfl ?_
    refine s_geti eX8_edge_1 fX8_66 rfl (by decide) (by decide) ?_
    rw [h.2.2.1.2.2]
    exact s_iret eX8_edge_4 rfl rfl ⟨rfl, h, frC.rf _⟩
  · show XP _ _ [_] _ _ _
    refine x_aload_n eX9_edge_0 rfl ?_
    refine s_geti eX9_edge_1 fX9_85 rfl (by decide) (by decide) ?_
    rw [h.2.2.1.2.2]
    exact s_iret eX9_edge_4 rfl rfl ⟨rfl, h, frM.rf _⟩
def uDr (X : LM) (n : Nat) (f : Nat → Nat) : LM := (X.1, (n, f), X.2.2)
theorem RC_dr {S S' : xS} {X : LM} (h : RC S X) (hx : Fx [169] [170] [] [] S S') {n : Nat} {f : Nat → Nat} (hd : crg S' 62 n f) : RC S' (uDr X n f) := by
  obtain ⟨⟨p1, p2, T, p3⟩, d, ⟨w1, w2, w3⟩, ⟨n1, n2⟩, z, ⟨k1, k2⟩, h1, h2⟩ := h
  have ec : ∀ {a e : Nat} {t : TB}, a < 62 → cent S a t e → cent S' a t e := fun {a e t} ha g => ⟨by rw [hx.1 _ (by simp; omega)]; exact g.1, fun q => by have := g.2 q; rw [hx.1 _ (by simp; omega)]; exact ⟨this.1, this.2.1, this.2.2.fx hx (by simp; omega) (by simp; omega)⟩⟩
  have cp : ∀ {s : Nat} {P : Pt}, cpt S s P → cpt S' s P := fun {s P} g => by
    obtain ⟨a1, a2, a3, a4, a5, f, k, a6, a7⟩ := g
    exact ⟨a1, by rw [hx.2.2.2 _ (by simp)]; exact a2, by rw [hx.2.2.2 _ (by simp)]; exact a3, a4, a5, f, k, fun i hi => by rw [hx.2.2.1 _ (by simp)]; exact a6 i hi, a7⟩
  refine ⟨⟨by rw [hx.1 _ (by simp)]; exact p1, fun s hs => ?_, T, cp p3⟩, hd, ⟨by rw [hx.1 _ (by simp)]; exact w1, by rw [hx.1 _ (by simp)]; exact w2, by rw [hx.1 _ (by simp)]; exact w3⟩, ⟨by rw [hx.1 _ (by simp)]; exact n1, fun e he => ec (by omega) (n2 e he)⟩, fun a ha => by rw [hx.1 _ (by simp; omega)]; exact z a ha, ⟨by rw [hx.1 _ (by simp)]; exact k1, fun q => ?_⟩, by rw [hx.1 _ (by simp)]; exact h1, fun k hk => by rw [hx.2.1 _ (by simp)]; exact h2 k hk⟩
  · have := p2 s hs
    exact ⟨by rw [hx.2.2.1 _ (by simp)]; exact this.1, by rw [hx.2.2.1 _ (by simp)]; exact this.2.1, cp this.2.2⟩
  · obtain ⟨p, q2, a1, a2, a3, a4, a5, a6⟩ := k2 q
    exact ⟨p, q2, a1, by rw [hx.1 _ (by simp)]; exact a2, by rw [hx.1 _ (by simp)]; exact a3, ec (by decide) a4, fun w => ec (by decide) (a5 w), fun e x y w => ec (by omega) (a6 e x y w)⟩
theorem RM_dr {S S' : xS} {X : LM} (h : RM S X) {n : Nat} {f : Nat → Nat} (a : ∀ g, g ≠ 11 → S'.1 0 g = S.1 0 g) (b : ∀ p, p ≠ 9 → S'.2.1 p = S.2.1 p) (c : S'.2.2 = S.2.2) (d : S'.1 0 11 = nI n) (e : ∀ i, i < n → S'.2.1 9 i = nI (f i)) : RM S' (uDr X n f) := by
  obtain ⟨⟨p1, p2, T, p3⟩, -, ⟨w1, w2, w3⟩, ⟨n1, n2⟩, ⟨k1, k2, k3⟩, h1, h2⟩ := h
  have ep : ∀ {s : Nat} {P : Pt}, pt S s P → pt S' s P := fun {s P} g => by
    obtain ⟨a1, a2, a3, a4, a5⟩ := g
    exact ⟨fun i hi => by rw [c]; exact a1 i hi, fun i hi => by rw [c]; exact a2 i hi, a3, a4, a5⟩
  have em : ∀ {r q : Nat} {t : TB}, 9 < r → ment S r t q → ment S' r t q := fun {r q t} hr g => ⟨by rw [b _ (by omega)]; exact g.1, fun z => by have := g.2 z; exact ⟨by rw [b _ (by omega)]; exact this.1, by rw [b _ (by omega)]; exact this.2.1, by rw [b _ (by omega)]; exact this.2.2.1, fun i hi => by rw [b _ (by omega)]; exact this.2.2.2 i hi⟩⟩
  refine ⟨⟨by rw [a _ (by decide)]; exact p1, fun s hs => ?_, T, ep p3⟩, ⟨d, e⟩, ⟨by rw [a _ (by decide)]; exact w1, by rw [a _ (by decide)]; exact w2, by rw [a _ (by decide)]; exact w3⟩, ⟨by rw [a _ (by decide)]; exact n1, fun q hq => em (by decide) (n2 q hq)⟩, ⟨by rw [a _ (by decide)]; exact k1, fun j hj => by rw [b _ (by decide)]; exact k2 j hj, fun z q hq => em (by decide) (k3 z q hq)⟩, by rw [a _ (by decide)]; exact h1, fun k hk => by rw [b _ (by decide)]; exact h2 k hk⟩
  have := p2 s hs
  exact ⟨by rw [c]; exact this.1, by rw [c]; exact this.2.1, ep this.2.2⟩
theorem wf_dr {X : LM} (w : wf X) {n : Nat} {f : Nat → Nat} (hn : n ≤ 20) (hf : ∀ i, i < n → f i < xNc X) : wf (uDr X n f) := ⟨w.1, w.2.1, w.2.2.1, ⟨hn, hf⟩, w.2.2.2.2⟩

theorem b_draw {X : LM} (w : wf X) : both X mX8_draw mX9_draw [] := by
  refine ⟨.int (nI (xNd X)), uDr X 0 (fun _ => 0), wf_dr w (by omega) (fun i hi => by omega), fun S h => ?_, fun S h => ?_⟩
  · show XP _ _ [_] _ _ _
    refine x_aload_n eX8_draw_0 rfl ?_
    refine s_getR (k := 169) eX8_draw_1 fX8_49 rfl (by decide) (by decide) rfl ?_
    refine s_geti eX8_draw_4 fX8_115 rfl (by decide) (by decide) ?_
    rw [show S.1 169 1 = nI (xNd X) from h.2.1.2.2.1]
    refine x_istore_n (lv' := [_, _]) eX8_draw_7 (by decide) rfl ?_
    refine x_aload_n eX8_draw_8 rfl ?_
    refine s_getR (k := 169) eX8_draw_9 fX8_49 rfl (by decide) (by decide) rfl ?_
    refine s_callV0 (As := []) eX8_draw_12 kX8_118 ⟨by decide, by decide⟩ rfl (by decide) (by decide) rfl rfl (Nat.le_of_ble_eq_true rfl) (Nat.le_of_ble_eq_true rfl) (sp_X4_empty _ (r := 62) (by decide)) (fun S_12 h_12 => ?_)
    subst h_12
    refine x_iload_n eX8_draw_15 rfl ?_
    exact s_iret eX8_draw_16 rfl rfl ⟨rfl, RC_dr h (Fx.sF (by simp)) (emp_crg (r := 62) (by decide)), (Fx.sF (fs := [169]) (is := []) (ls := []) (ds := []) (by simp)).frC (by simp) (by simp) (by simp)⟩
  · show XP _ _ [_] _ _ _
    refine x_aload_n eX9_draw_0 rfl ?_
    refine s_geti eX9_draw_1 fX9_212 rfl (by decide) (by decide) ?_
    rw [h.2.1.1]
    refine x_istore_n (lv' := [_, _]) eX9_draw_4 (by decide) rfl ?_
    refine x_aload_n eX9_draw_5 rfl ?_
    refine x_iconst (v := nI 0) eX9_draw_6 (by decide) ?_
    refine s_puti eX9_draw_7 fX9_212 wX9_11 rfl (by decide) (by decide) ?_
    refine x_iload_n eX9_draw_10 rfl ?_
    exact s_iret eX9_draw_11 rfl rfl ⟨rfl, RM_dr h (fun g hg => by rw [setF_at, upd_ne _ _ hg]) (fun _ _ => rfl) rfl (by rw [setF_at, upd_at]) (fun i hi => by omega), (Fx.sF (fs := [0]) (is := []) (ls := []) (ds := []) (by simp)).frM (by simp) (by simp) (by simp) (by simp)⟩
theorem b_add {X : LM} (w : wf X) (c : Int32) : both X mX8_add mX9_add [.int c] := by
  have n20 := w.2.2.2.1.1
  have n200 := w.1
  by_cases q : ∃ k, k < xNc X ∧ c = nI k
  · obtain ⟨k, hk, rfl⟩ := q
    by_cases f : xNd X = 20
    · refine ⟨.int (-104), X, w, fun S h => ?_, fun S h => ?_⟩
      · show XP _ _ [_, _] _ _ _
        refine x_aload_n eX8_add_0 rfl ?_
        refine s_getR (k := 32) eX8_add_1 fX8_12 rfl (by decide) (by decide) rfl ?_
        refine x_iload_n eX8_add_4 rfl ?_
        refine s_callV1 (As := [_]) eX8_add_5 kX8_88 ⟨by decide, by decide⟩ rfl (by decide) (by decide) rfl rfl (Nat.le_of_ble_eq_true rfl) (Nat.le_of_ble_eq_true rfl) (sp_X2_has _ h.1.1 w.1 (nI k)) (fun S_5 h_5 => ?_)
        have h_5 := h_5.symm
        subst h_5
        refine x_if_neT eX8_add_8 (fun c_8 => ?_) (fun c_8 => ?_)
        · refine x_aload_n eX8_add_14 rfl ?_
          refine s_getR (k := 169) eX8_add_15 fX8_49 rfl (by decide) (by decide) rfl ?_
          refine s_geti eX8_add_18 fX8_115 rfl (by decide) (by decide) ?_
          rw [show S.1 169 1 = nI (xNd X) from h.2.1.2.2.1]
          refine x_bipush (v := nI 20) eX8_add_21 (by decide) ?_
          refine x_icmp_ltN eX8_add_23 (by omega) (by omega) (fun c_23 => ?_) (fun c_23 => ?_)
          · omega
          · refine x_bipush (v := -104) eX8_add_26 (by decide) ?_
            exact s_iret eX8_add_28 rfl rfl ⟨rfl, h, frC.rf _⟩
        · exact absurd ⟨k, hk, rfl⟩ c_8
      · show XP _ _ [_, _] _ _ _
        refine x_aload_n eX9_add_0 rfl ?_
        refine x_iload_n eX9_add_1 rfl ?_
        refine s_callV1 (As := [_]) eX9_add_2 kX9_184 ⟨by decide, by decide⟩ rfl (by decide) (by decide) rfl rfl (Nat.le_of_ble_eq_true rfl) (Nat.le_of_ble_eq_true rfl) (sp_X9_isCorner _ h.1.1 w.1 (nI k)) (fun S_2 h_2 => ?_)
        have h_2 := h_2.symm
        subst h_2
        refine x_if_neB eX9_add_5 (fun c_5 => ?_) (fun c_5 => ?_)
        · refine x_aload_n eX9_add_11 rfl ?_
          refine s_geti eX9_add_12 fX9_212 rfl (by decide) (by decide) ?_
          rw [h.2.1.1]
          refine x_bipush (v := nI 20) eX9_add_15 (by decide) ?_
          refine x_icmp_neN eX9_add_17 (by omega) (by omega) (fun c_17 => ?_) (fun c_17 => ?_)
          · omega
          · refine x_bipush (v := -104) eX9_add_20 (by decide) ?_
            exact s_iret eX9_add_22 rfl rfl ⟨rfl, h, frM.rf _⟩
        · exact absurd ⟨k, hk, rfl⟩ (of_decide_eq_false c_5)
    · refine ⟨.int (nI (xNd X + 1)), uDr X (xNd X + 1) (fun i => if i = xNd X then k else xDr X i), wf_dr w (by omega) (fun i hi => ?_), fun S h => ?_, fun S h => ?_⟩
      · split
        · exact hk
        · exact w.2.2.2.1.2 i (by omega)
      · have e1 : S.1 169 1 = nI (xNd X) := h.2.1.2.2.1
        show XP _ _ [_, _] _ _ _
        refine x_aload_n eX8_add_0 rfl ?_
        refine s_getR (k := 32) eX8_add_1 fX8_12 rfl (by decide) (by decide) rfl ?_
        refine x_iload_n eX8_add_4 rfl ?_
        refine s_callV1 (As := [_]) eX8_add_5 kX8_88 ⟨by decide, by decide⟩ rfl (by decide) (by decide) rfl rfl (Nat.le_of_ble_eq_true rfl) (Nat.le_of_ble_eq_true rfl) (sp_X2_has _ h.1.1 w.1 (nI k)) (fun S_5 h_5 => ?_)
        have h_5 := h_5.symm
        subst h_5
        refine x_if_neT eX8_add_8 (fun c_8 => ?_) (fun c_8 => ?_)
        · refine x_aload_n eX8_add_14 rfl ?_
          refine s_getR (k := 169) eX8_add_15 fX8_49 rfl (by decide) (by decide) rfl ?_
          refine s_geti eX8_add_18 fX8_115 rfl (by decide) (by decide) ?_
          rw [e1]
          refine x_bipush (v := nI 20) eX8_add_21 (by decide) ?_
          refine x_icmp_ltN eX8_add_23 (by omega) (by omega) (fun c_23 => ?_) (fun c_23 => ?_)
          · refine x_aload_n eX8_add_29 rfl ?_
            refine s_getR (k := 169) eX8_add_30 fX8_49 rfl (by decide) (by decide) rfl ?_
            refine x_iload_n eX8_add_33 rfl ?_
            refine s_callV0 (As := [_]) eX8_add_34 kX8_121 ⟨by decide, by decide⟩ rfl (by decide) (by decide) rfl rfl (Nat.le_of_ble_eq_true rfl) (Nat.le_of_ble_eq_true rfl) (sp_X4_push _ (r := 62) (by decide) e1 (by omega)) (fun S_34 h_34 => ?_)
            subst h_34
            refine x_aload_n eX8_add_37 rfl ?_
            refine s_getR (k := 169) eX8_add_38 fX8_49 rfl (by decide) (by decide) rfl ?_
            refine s_geti eX8_add_41 fX8_115 rfl (by decide) (by decide) ?_
            rw [show (psh S 62 (xNd X) k).1 169 1 = nI (xNd X + 1) from (psh_crg h.2.1 (by omega) (by omega)).2.2.1]
            exact s_iret eX8_add_44 rfl rfl ⟨rfl, RC_dr h (psh_fx S 62 (xNd X) k) (psh_crg h.2.1 (by omega) (by omega)), (psh_fx (ls := []) (ds := []) S 62 (xNd X) k).frC (by simp) (by simp) (by simp)⟩
          · omega
        · exact absurd ⟨k, hk, rfl⟩ c_8
      · show XP _ _ [_, _] _ _ _
        refine x_aload_n eX9_add_0 rfl ?_
        refine x_iload_n eX9_add_1 rfl ?_
        refine s_callV1 (As := [_]) eX9_add_2 kX9_184 ⟨by decide, by decide⟩ rfl (by decide) (by decide) rfl rfl (Nat.le_of_ble_eq_true rfl) (Nat.le_of_ble_eq_true rfl) (sp_X9_isCorner _ h.1.1 w.1 (nI k)) (fun S_2 h_2 => ?_)
        have h_2 := h_2.symm
        subst h_2
        refine x_if_neB eX9_add_5 (fun c_5 => ?_) (fun c_5 => ?_)
        · refine x_aload_n eX9_add_11 rfl ?_
          refine s_geti eX9_add_12 fX9_212 rfl (by decide) (by decide) ?_
          rw [h.2.1.1]
          refine x_bipush (v := nI 20) eX9_add_15 (by decide) ?_
          refine x_icmp_neN eX9_add_17 (by omega) (by omega) (fun c_17 => ?_) (fun c_17 => ?_)
          · refine x_aload_n eX9_add_23 rfl ?_
            refine s_getR (k := 9) eX9_add_24 fX9_38 rfl (by decide) (by decide) rfl ?_
            refine x_aload_n eX9_add_27 rfl ?_
            refine s_geti eX9_add_28 fX9_212 rfl (by decide) (by decide) ?_
            rw [h.2.1.1]
            refine x_iload_n eX9_add_31 rfl ?_
            refine s_iast eX9_add_32 rfl (by decide) rfl (show _ < 20 by omega) ?_
            refine x_aload_n eX9_add_33 rfl ?_
            refine x_dup eX9_add_34 rfl ?_
            refine s_geti eX9_add_35 fX9_212 rfl (by decide) (by decide) ?_
            rw [show (setI S 9 (upd (S.2.1 9) (xNd X) (nI k))).1 0 11 = nI (xNd X) from h.2.1.1]
            refine x_iconst (v := nI 1) eX9_add_38 (by decide) ?_
            first | refine x_iaddN eX9_add_39 ?_ | refine x_iadd eX9_add_39 ?_
            refine s_puti eX9_add_40 fX9_212 wX9_11 rfl (by decide) (by decide) ?_
            refine x_aload_n eX9_add_43 rfl ?_
            refine s_geti eX9_add_44 fX9_212 rfl (by decide) (by decide) ?_
            rw [setF_at, upd_at]
            refine s_iret eX9_add_47 rfl rfl ⟨rfl, RM_dr h (fun g hg => by rw [setF_at, upd_ne _ _ hg]; rfl) (fun p hp => by show (setI S 9 _).2.1 p = _; rw [setI_ne _ _ hp]) rfl (by rw [setF_at, upd_at]) (fun i hi => ?_), ((Fx.sI (fs := [0]) (is := [9]) (ls := []) (ds := []) (by simp)).tr (Fx.sF (by simp))).frM (by simp) (by simp) (by simp) (by simp)⟩
            show (setI S 9 _).2.1 9 i = _
            rw [setI_at]
            by_cases z : i = xNd X
            · subst z; rw [upd_at, if_pos rfl]
            · rw [upd_ne _ _ z, if_neg z]; exact h.2.1.2 i (by omega)
          · omega
        · exact absurd ⟨k, hk, rfl⟩ (of_decide_eq_false c_5)
  · refine ⟨.int (-101), X, w, fun S h => ?_, fun S h => ?_⟩
    · show XP _ _ [_, _] _ _ _
      refine x_aload_n eX8_add_0 rfl ?_
      refine s_getR (k := 32) eX8_add_1 fX8_12 rfl (by decide) (by decide) rfl ?_
      refine x_iload_n eX8_add_4 rfl ?_
      refine s_callV1 (As := [_]) eX8_add_5 kX8_88 ⟨by decide, by decide⟩ rfl (by decide) (by decide) rfl rfl (Nat.le_of_ble_eq_true rfl) (Nat.le_of_ble_eq_true rfl) (sp_X2_has _ h.1.1 w.1 c) (fun S_5 h_5 => ?_)
      have h_5 := h_5.symm
      subst h_5
      refine x_if_neT eX8_add_8 (fun c_8 => ?_) (fun c_8 => ?_)
      · exact absurd c_8 q
      · refine x_bipush (v := -101) eX8_add_11 (by decide) ?_
        exact s_iret eX8_add_13 rfl rfl ⟨rfl, h, frC.rf _⟩
    · show XP _ _ [_, _] _ _ _
      refine x_aload_n eX9_add_0 rfl ?_
      refine x_iload_n eX9_add_1 rfl ?_
      refine s_callV1 (As := [_]) eX9_add_2 kX9_184 ⟨by decide, by decide⟩ rfl (by decide) (by decide) rfl rfl (Nat.le_of_ble_eq_true rfl) (Nat.le_of_ble_eq_true rfl) (sp_X9_isCorner _ h.1.1 w.1 c) (fun S_2 h_2 => ?_)
      have h_2 := h_2.symm
      subst h_2
      refine x_if_neB eX9_add_5 (fun c_5 => ?_) (fun c_5 => ?_)
      · exact absurd (of_decide_eq_true c_5) q
      · refine x_bipush (v := -101) eX9_add_8 (by decide) ?_
        exact s_iret eX9_add_10 rfl rfl ⟨rfl, h, frM.rf _⟩
