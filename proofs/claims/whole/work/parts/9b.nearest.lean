/-! ===== nearest ===== -/
theorem RM_Lx {S S' : xS} {X : LM} (h : RM S X) {ps : List Nat} (hx : Lx ps S S') (h1 : 1 ∉ ps) (h2 : 2 ∉ ps) (h3 : 3 ∉ ps) (h4 : 4 ∉ ps) : RM S' X := by
  obtain ⟨⟨p1, p2, T, p3⟩, d, w1, n1, k1, k2⟩ := h
  have em : ∀ {r q : Nat} {t : TB}, ment S r t q → ment S' r t q := fun {r q t} m => by unfold ment at m ⊢; rw [hx.2.1]; exact m
  refine ⟨⟨by rw [hx.1]; exact p1, fun s hs => ?_, T, p3.mv hx h3 h4⟩, by rw [hx.1, hx.2.1]; exact d, by rw [hx.1]; exact w1, ⟨by rw [hx.1]; exact n1.1, fun e he => em (n1.2 e he)⟩, ⟨by rw [hx.1]; exact k1.1, by rw [hx.2.1]; exact k1.2.1, fun z e he => em (k1.2.2 z e he)⟩, by rw [hx.1, hx.2.1]; exact k2⟩
  have := p2 s hs
  rw [hx.2.2.2 1 h1, hx.2.2.2 2 h2]
  exact ⟨this.1, this.2.1, this.2.2.mv hx h3 h4⟩
theorem nrs_sc (f : Nat → Int) : ∀ n, nrs (fun s => 4 * f s) n = nrs f n := by
  intro n
  induction n with
  | zero => rfl
  | succ n ih =>
    show (if 4 * f n < 4 * f (nrs (fun s => 4 * f s) n) then n else nrs (fun s => 4 * f s) n) = if f n < f (nrs f n) then n else nrs f n
    rw [ih]
    by_cases q : f n < f (nrs f n)
    · rw [if_pos q, if_pos (by omega)]
    · rw [if_neg q, if_neg (by omega)]
theorem ds_dbl (P : Nat → Pt) (s t : Nat) : ds (dbl P s) (dbl P t) = 4 * ds (P s) (P t) := by
  unfold ds dbl scP
  grind

theorem b_nearest {X : LM} (w : wf X) (x y : Int64) : both X mX8_nearest mX9_nearest [.long x, .long y] := by
  have n200 := w.1
  by_cases nx : isNum x = true
  rotate_left
  · refine ⟨.int (-102), X, w, fun S h => ?_, fun S h => ?_⟩
    · show XP _ _ [_, _, _] _ _ _
      refine x_lload_n eX8_nearest_0 rfl ?_
      refine s_callS1 (As := [_]) eX8_nearest_1 kX8_69 ⟨by decide, by decide⟩ rfl rfl (Nat.le_of_ble_eq_true rfl) (Nat.le_of_ble_eq_true rfl) (sp_X8_isNumber _ x) (fun S_1 h_1 => ?_)
      have h_1 := h_1.symm
      subst h_1
      refine x_if_eqT eX8_nearest_4 (fun c_4 => ?_) (fun c_4 => ?_)
      · refine x_bipush (v := -102) eX8_nearest_14 (by decide) ?_
        exact s_iret eX8_nearest_16 rfl rfl ⟨rfl, h, frC.rf _⟩
      · exact absurd c_4 nx
    · show XP _ _ [_, _, _] _ _ _
      refine x_lload_n eX9_nearest_0 rfl ?_
      refine s_callS1 (As := [_]) eX9_nearest_1 kX9_176 ⟨by decide, by decide⟩ rfl rfl (Nat.le_of_ble_eq_true rfl) (Nat.le_of_ble_eq_true rfl) (sp_X9_isNumber _ x) (fun S_1 h_1 => ?_)
      have h_1 := h_1.symm
      subst h_1
      refine x_if_eqB eX9_nearest_4 (fun c_4 => ?_) (fun c_4 => ?_)
      · refine x_bipush (v := -102) eX9_nearest_14 (by decide) ?_
        exact s_iret eX9_nearest_16 rfl rfl ⟨rfl, h, frM.rf _⟩
      · exact absurd c_4 nx
  by_cases ny : isNum y = true
  rotate_left
  · refine ⟨.int (-102), X, w, fun S h => ?_, fun S h => ?_⟩
    · show XP _ _ [_, _, _] _ _ _
      refine x_lload_n eX8_nearest_0 rfl ?_
      refine s_callS1 (As := [_]) eX8_nearest_1 kX8_69 ⟨by decide, by decide⟩ rfl rfl (Nat.le_of_ble_eq_true rfl) (Nat.le_of_ble_eq_true rfl) (sp_X8_isNumber _ x) (fun S_1 h_1 => ?_)
      have h_1 := h_1.symm
      subst h_1
      refine x_if_eqT eX8_nearest_4 (fun c_4 => ?_) (fun c_4 => ?_)
      · exact absurd nx c_4
      · refine x_lload_n eX8_nearest_7 rfl ?_
        refine s_callS1 (As := [_]) eX8_nearest_8 kX8_69 ⟨by decide, by decide⟩ rfl rfl (Nat.le_of_ble_eq_true rfl) (Nat.le_of_ble_eq_true rfl) (sp_X8_isNumber _ y) (fun S_8 h_8 => ?_)
        have h_8 := h_8.symm
        subst h_8
        refine x_if_neT eX8_nearest_11 (fun c_11 => ?_) (fun c_11 => ?_)
        · exact absurd c_11 ny
        · refine x_bipush (v := -102) eX8_nearest_14 (by decide) ?_
          exact s_iret eX8_nearest_16 rfl rfl ⟨rfl, h, frC.rf _⟩
    · show XP _ _ [_, _, _] _ _ _
      refine x_lload_n eX9_nearest_0 rfl ?_
      refine s_callS1 (As := [_]) eX9_nearest_1 kX9_176 ⟨by decide, by decide⟩ rfl rfl (Nat.le_of_ble_eq_true rfl) (Nat.le_of_ble_eq_true rfl) (sp_X9_isNumber _ x) (fun S_1 h_1 => ?_)
      have h_1 := h_1.symm
      subst h_1
      refine x_if_eqB eX9_nearest_4 (fun c_4 => ?_) (fun c_4 => ?_)
      · rw [nx] at c_4; exact absurd c_4 (by decide)
      · refine x_lload_n eX9_nearest_7 rfl ?_
        refine s_callS1 (As := [_]) eX9_nearest_8 kX9_176 ⟨by decide, by decide⟩ rfl rfl (Nat.le_of_ble_eq_true rfl) (Nat.le_of_ble_eq_true rfl) (sp_X9_isNumber _ y) (fun S_8 h_8 => ?_)
        have h_8 := h_8.symm
        subst h_8
        refine x_if_neB eX9_nearest_11 (fun c_11 => ?_) (fun c_11 => ?_)
        · exact absurd c_11 ny
        · refine x_bipush (v := -102) eX9_nearest_14 (by decide) ?_
          exact s_iret eX9_nearest_16 rfl rfl ⟨rfl, h, frM.rf _⟩
  refine ⟨.int (if xNc X = 0 then -1 else nI (nrs (fun s => ds ((PT (PX X) (zc x, zc y)) s) ((PT (PX X) (zc x, zc y)) 200)) (xNc X))), X, w, fun S h => ?_, fun S h => ?_⟩
  · show XP _ _ [_, _, _] _ _ _
    refine x_lload_n eX8_nearest_0 rfl ?_
    refine s_callS1 (As := [_]) eX8_nearest_1 kX8_69 ⟨by decide, by decide⟩ rfl rfl (Nat.le_of_ble_eq_true rfl) (Nat.le_of_ble_eq_true rfl) (sp_X8_isNumber _ x) (fun S_1 h_1 => ?_)
    have h_1 := h_1.symm
    subst h_1
    refine x_if_eqT eX8_nearest_4 (fun c_4 => ?_) (fun c_4 => ?_)
    · exact absurd nx c_4
    · refine x_lload_n eX8_nearest_7 rfl ?_
      refine s_callS1 (As := [_]) eX8_nearest_8 kX8_69 ⟨by decide, by decide⟩ rfl rfl (Nat.le_of_ble_eq_true rfl) (Nat.le_of_ble_eq_true rfl) (sp_X8_isNumber _ y) (fun S_8 h_8 => ?_)
      have h_8 := h_8.symm
      subst h_8
      refine x_if_neT eX8_nearest_11 (fun c_11 => ?_) (fun c_11 => ?_)
      · refine x_aload_n eX8_nearest_17 rfl ?_
        refine s_getR (k := 32) eX8_nearest_18 fX8_12 rfl (by decide) (by decide) rfl ?_
        refine x_sipush (v := nI 200) eX8_nearest_21 (by decide) ?_
        refine x_lload_n eX8_nearest_24 rfl ?_
        refine x_lload_n eX8_nearest_25 rfl ?_
        refine s_callV0 (As := [_, _, _]) eX8_nearest_26 kX8_73 ⟨by decide, by decide⟩ rfl (by decide) (by decide) rfl rfl (Nat.le_of_ble_eq_true rfl) (Nat.le_of_ble_eq_true rfl) (sp_X2_put _ (slot := 200) (by decide) nx ny) (fun S_26 h_26 => ?_)
        have g := RC_put w h h_26
        have f0 := putP_fr h_26
        refine x_aload_n eX8_nearest_29 rfl ?_
        refine s_getR (k := 32) eX8_nearest_30 fX8_12 rfl (by decide) (by decide) rfl ?_
        refine s_callV1 (As := []) eX8_nearest_33 kX8_112 ⟨by decide, by decide⟩ rfl (by decide) (by decide) rfl rfl (Nat.le_of_ble_eq_true rfl) (Nat.le_of_ble_eq_true rfl) (sp_X2_nearestToLoose _ (cps_200 w h h_26) g.1.1 n200) (fun S_33 h_33 => ?_)
        exact s_iret eX8_nearest_36 rfl rfl ⟨rfl, RC_L g h_33, f0.tr (h_33.frC (by simp))⟩
      · exact absurd ny c_11
  · have key : ∀ S0, layP S 200 x y S0 → XP mX9_nearest 26 [(0, .ref 0), (1, .long x), (3, .long y)] [] (xwS S0) (sQ (fun r S' => r = some (.int (if xNc X = 0 then -1 else nI (nrs (fun s => ds ((PT (PX X) (zc x, zc y)) s) ((PT (PX X) (zc x, zc y)) 200)) (xNc X)))) ∧ RM S' X ∧ frM S S')) := by
      intro S0 p0
      have g0 := RM_lay w h p0
      have pts := mps_200 w h p0
      have f0 := layP_fr p0
      have dbd : ∀ s, s < xNc X → inL (4 * (fun s => ds ((PT (PX X) (zc x, zc y)) s) ((PT (PX X) (zc x, zc y)) 200)) s / (2 ^ 24) ^ 9) := fun s hs => by
        have a := pts s (Or.inl hs)
        have t := pts 200 (Or.inr rfl)
        have a1 := a.2.2.1
        have a2 := a.2.2.2.1
        have t1 := t.2.2.1
        have t2 := t.2.2.2.1
        have m1 := mulB (a := (dbl (PT (PX X) (zc x, zc y)) s).1 - (dbl (PT (PX X) (zc x, zc y)) 200).1) (b := (dbl (PT (PX X) (zc x, zc y)) s).1 - (dbl (PT (PX X) (zc x, zc y)) 200).1) (A := 2 ^ 103) (B := 2 ^ 103) ⟨by omega, by omega⟩ ⟨by omega, by omega⟩
        have m2 := mulB (a := (dbl (PT (PX X) (zc x, zc y)) s).2 - (dbl (PT (PX X) (zc x, zc y)) 200).2) (b := (dbl (PT (PX X) (zc x, zc y)) s).2 - (dbl (PT (PX X) (zc x, zc y)) 200).2) (A := 2 ^ 103) (B := 2 ^ 103) ⟨by omega, by omega⟩ ⟨by omega, by omega⟩
        have := tb9 (T := 4 * (fun s => ds ((PT (PX X) (zc x, zc y)) s) ((PT (PX X) (zc x, zc y)) 200)) s) (by show -(2 ^ 214) ≤ 4 * ds ((PT (PX X) (zc x, zc y)) s) ((PT (PX X) (zc x, zc y)) 200) ∧ 4 * ds ((PT (PX X) (zc x, zc y)) s) ((PT (PX X) (zc x, zc y)) 200) ≤ 2 ^ 214; rw [← ds_dbl]; unfold ds; generalize ((dbl (PT (PX X) (zc x, zc y)) s).1 - (dbl (PT (PX X) (zc x, zc y)) 200).1) * ((dbl (PT (PX X) (zc x, zc y)) s).1 - (dbl (PT (PX X) (zc x, zc y)) 200).1) = u1 at *; generalize ((dbl (PT (PX X) (zc x, zc y)) s).2 - (dbl (PT (PX X) (zc x, zc y)) 200).2) * ((dbl (PT (PX X) (zc x, zc y)) s).2 - (dbl (PT (PX X) (zc x, zc y)) 200).2) = u2 at *; omega)
        exact ⟨by omega, by omega⟩
      have loop : ∀ μ j, j + μ = xNc X → ∀ (xv : Int32) S1, (Lx [5, 6, 7, 8] S0 S1 ∧ ((j = 0 ∧ xv = -1) ∨ (0 < j ∧ xv = nI (nrs (fun s => 4 * (fun s => ds ((PT (PX X) (zc x, zc y)) s) ((PT (PX X) (zc x, zc y)) 200)) s) j) ∧ sum10 S1 8 0 (4 * (fun s => ds ((PT (PX X) (zc x, zc y)) s) ((PT (PX X) (zc x, zc y)) 200)) (nrs (fun s => 4 * (fun s => ds ((PT (PX X) (zc x, zc y)) s) ((PT (PX X) (zc x, zc y)) 200)) s) j))))) → XP mX9_nearest 32 [(6, .int (nI j)), (5, .int xv), (0, .ref 0)] [] (xwS S1) (sQ (fun r S' => r = some (.int (if xNc X = 0 then -1 else nI (nrs (fun s => ds ((PT (PX X) (zc x, zc y)) s) ((PT (PX X) (zc x, zc y)) 200)) (xNc X)))) ∧ RM S' X ∧ frM S S')) := by
       intro μ
       induction μ with
       | zero =>
        intro j hj xv S1 h1
        obtain ⟨hx, hc⟩ := h1
        have en : S1.1 0 4 = nI (xNc X) := by rw [hx.1]; exact g0.1.1
        refine x_iload eX9_nearest_32 rfl ?_
        refine x_aload_n eX9_nearest_34 rfl ?_
        refine s_geti eX9_nearest_35 fX9_170 rfl (by decide) (by decide) ?_
        rw [en]
        refine x_icmp_geN eX9_nearest_38 (by omega) (by omega) (fun c_38 => ?_) (fun c_38 => ?_)
        · refine x_iload eX9_nearest_169 rfl ?_
          refine s_iret eX9_nearest_171 rfl rfl ⟨?_, RM_Lx g0 hx (by decide) (by decide) (by decide) (by decide), f0.tr (hx.frM (by simp))⟩
          rcases hc with ⟨j0, rfl⟩ | ⟨j0, rfl, -⟩
          · rw [if_pos (by omega)]
          · rw [if_neg (by omega), nrs_sc, show j = xNc X by omega]
        · omega
       | succ μ oh =>
        intro j hj xv S1 h1
        obtain ⟨hx, hc⟩ := h1
        have en : S1.1 0 4 = nI (xNc X) := by rw [hx.1]; exact g0.1.1
        have nl : nrs (fun s => 4 * (fun s => ds ((PT (PX X) (zc x, zc y)) s) ((PT (PX X) (zc x, zc y)) 200)) s) j < xNc X := by
          by_cases q : j = 0
          · subst q; show 0 < xNc X; omega
          · have := nrs_lt (fun s => 4 * (fun s => ds ((PT (PX X) (zc x, zc y)) s) ((PT (PX X) (zc x, zc y)) 200)) s) j (by omega); omega
        have cpy : ∀ μ i, i + μ = 10 → ∀ S2, Lx [5, 6, 7, 8] S0 S2 → sum10 S2 7 0 (4 * (fun s => ds ((PT (PX X) (zc x, zc y)) s) ((PT (PX X) (zc x, zc y)) 200)) j) → (∀ e, e < i → S2.2.2.1 8 e = lI (can (2 ^ 24) 10 (4 * (fun s => ds ((PT (PX X) (zc x, zc y)) s) ((PT (PX X) (zc x, zc y)) 200)) j) e)) → (0 < j → 4 * (fun s => ds ((PT (PX X) (zc x, zc y)) s) ((PT (PX X) (zc x, zc y)) 200)) j < 4 * (fun s => ds ((PT (PX X) (zc x, zc y)) s) ((PT (PX X) (zc x, zc y)) 200)) (nrs (fun s => 4 * (fun s => ds ((PT (PX X) (zc x, zc y)) s) ((PT (PX X) (zc x, zc y)) 200)) s) j)) → XP mX9_nearest 136 [(7, .int (nI i)), (6, .int (nI j)), (5, .int (nI j)), (0, .ref 0)] [] (xwS S2) (sQ (fun r S' => r = some (.int (if xNc X = 0 then -1 else nI (nrs (fun s => ds ((PT (PX X) (zc x, zc y)) s) ((PT (PX X) (zc x, zc y)) 200)) (xNc X)))) ∧ RM S' X ∧ frM S S')) := by
          intro μ
          induction μ with
          | zero =>
            intro i hi S2 hx2 s7 s8 lt
            have nj : nrs (fun s => 4 * (fun s => ds ((PT (PX X) (zc x, zc y)) s) ((PT (PX X) (zc x, zc y)) 200)) s) (j + 1) = j := by
              by_cases q : j = 0
              · subst q; show (if _ then 0 else 0) = 0; split <;> rfl
              · exact if_pos (lt (by omega))
            refine x_iload eX9_nearest_136 rfl ?_
            refine x_bipush (v := nI 10) eX9_nearest_138 (by decide) ?_
            refine x_icmp_geN eX9_nearest_140 (by omega) (by omega) (fun c_140 => ?_) (fun c_140 => ?_)
            · refine x_iinc (lv' := [_, _, _, _]) eX9_nearest_163 rfl (by first | exact nI_inc _ | exact rfl) (by decide) rfl ?_
              refine x_goto eX9_nearest_166 ?_
              refine x_pick [0, 2, 3] rfl ?_
              refine oh (j + 1) (by omega) _ _ ⟨hx2, Or.inr ⟨by omega, by rw [nj], ?_⟩⟩
              rw [nj]
              exact fun e he => by rw [Nat.zero_add]; exact s8 e (by omega)
            · omega
          | succ μ ihc =>
            intro i hi S2 hx2 s7 s8 lt
            refine x_iload eX9_nearest_136 rfl ?_
            refine x_bipush (v := nI 10) eX9_nearest_138 (by decide) ?_
            refine x_icmp_geN eX9_nearest_140 (by omega) (by omega) (fun c_140 => ?_) (fun c_140 => ?_)
            · omega
            · refine x_aload_n eX9_nearest_143 rfl ?_
              refine s_getR (k := 8) eX9_nearest_144 fX9_35 rfl (by decide) (by decide) rfl ?_
              refine x_iload eX9_nearest_147 rfl ?_
              refine x_aload_n eX9_nearest_149 rfl ?_
              refine s_getR (k := 7) eX9_nearest_150 fX9_28 rfl (by decide) (by decide) rfl ?_
              refine x_iload eX9_nearest_153 rfl ?_
              refine s_lald eX9_nearest_155 rfl (by decide) rfl (show _ < 10 by omega) ?_
              refine s_last eX9_nearest_156 rfl (by decide) rfl (show _ < 10 by omega) ?_
              refine x_iinc (lv' := [_, _, _, _]) eX9_nearest_157 rfl (by first | exact nI_inc _ | exact rfl) (by decide) rfl ?_
              refine x_goto eX9_nearest_160 ?_
              refine x_pick [0, 1, 2, 3] rfl ?_
              refine ihc (i + 1) (by omega) _ (hx2.tr (Lx.set _ _ (by simp))) (fun e he => by rw [setL_ne _ _ (by decide)]; exact s7 e he) (fun e he => ?_) lt
              rw [setL_at]
              by_cases q : e = i
              · subst q; rw [vul_at]; have := s7 e (by omega); rw [Nat.zero_add] at this; exact this
              · rw [vul_ne _ _ q]; exact s8 e (by omega)
        refine x_iload eX9_nearest_32 rfl ?_
        refine x_aload_n eX9_nearest_34 rfl ?_
        refine s_geti eX9_nearest_35 fX9_170 rfl (by decide) (by decide) ?_
        rw [en]
        refine x_icmp_geN eX9_nearest_38 (by omega) (by omega) (fun c_38 => ?_) (fun c_38 => ?_)
        · omega
        · refine x_aload_n eX9_nearest_41 rfl ?_
          refine s_getR (k := 7) eX9_nearest_42 fX9_28 rfl (by decide) (by decide) rfl ?_
          refine x_iconst (v := nI 0) eX9_nearest_45 (by decide) ?_
          refine x_bipush (v := nI 10) eX9_nearest_46 (by decide) ?_
          refine s_callS0 (As := [_, _, _]) eX9_nearest_48 kX9_144 ⟨by decide, by decide⟩ rfl rfl (Nat.le_of_ble_eq_true rfl) (Nat.le_of_ble_eq_true rfl) (sp_X9_clear (a := 7) rfl (by decide) (fr := 0) (n := 10) (by decide) S1) (fun S_48 h_48 => ?_)
          have x1 : Lx [5, 6, 7, 8] S0 S_48 := hx.tr (by rw [h_48]; exact Lx.set _ _ (by simp))
          have tA76 : pt S_48 j (dbl (PT (PX X) (zc x, zc y)) j) := (pts j (Or.inl (by omega))).mv x1 (by decide) (by decide)
          have tT76 : pt S_48 200 (dbl (PT (PX X) (zc x, zc y)) 200) := (pts 200 (Or.inr rfl)).mv x1 (by decide) (by decide)
          have la := tA76.2.2.2.2
          have a1 := tA76.2.2.1
          have a2 := tA76.2.2.2.1
          have t1 := tT76.2.2.1
          have t2 := tT76.2.2.2.1
          have hT76 : sum10 S_48 7 0 0 := fun i hi => by rw [h_48, setL_at, if_pos (by omega), can_of_zero]; rfl
          have bT76 := tb9 (T := 0) (by decide)
          have m1 := mulB (a := (dbl (PT (PX X) (zc x, zc y)) j).1 - (dbl (PT (PX X) (zc x, zc y)) 200).1) (b := (dbl (PT (PX X) (zc x, zc y)) j).1 - (dbl (PT (PX X) (zc x, zc y)) 200).1) (A := 2 ^ 103) (B := 2 ^ 103) ⟨by omega, by omega⟩ ⟨by omega, by omega⟩
          refine x_aload_n eX9_nearest_51 rfl ?_
          refine x_aload_n eX9_nearest_52 rfl ?_
          refine s_getR (k := 3) eX9_nearest_53 fX9_16 rfl (by decide) (by decide) rfl ?_
          refine x_iload eX9_nearest_56 rfl ?_
          refine x_sipush (v := nI 200) eX9_nearest_58 (by decide) ?_
          refine x_aload_n eX9_nearest_61 rfl ?_
          refine s_getR (k := 3) eX9_nearest_62 fX9_16 rfl (by decide) (by decide) rfl ?_
          refine x_iload eX9_nearest_65 rfl ?_
          refine x_sipush (v := nI 200) eX9_nearest_67 (by decide) ?_
          refine x_aload_n eX9_nearest_70 rfl ?_
          refine s_getR (k := 7) eX9_nearest_71 fX9_28 rfl (by decide) (by decide) rfl ?_
          refine x_iconst (v := nI 0) eX9_nearest_74 (by decide) ?_
          refine x_lconst (v := lI 1) eX9_nearest_75 (by decide) ?_
          refine s_callV0 (As := [_, _, _, _, _, _, _, _, _]) eX9_nearest_76 kX9_147 ⟨by decide, by decide⟩ rfl (by decide) (by decide) rfl rfl (Nat.le_of_ble_eq_true rfl) (Nat.le_of_ble_eq_true rfl) (sp_X9_times S_48 (p1 := 3) (p2 := 3) (p3 := 7) rfl (by decide) rfl (by decide) rfl (by decide) (by decide) (by decide) (by decide) (VA := (dbl (PT (PX X) (zc x, zc y)) j).1) (VB := (dbl (PT (PX X) (zc x, zc y)) 200).1) (VC := (dbl (PT (PX X) (zc x, zc y)) j).1) (VD := (dbl (PT (PX X) (zc x, zc y)) 200).1) (T := 0) (s := 1) (show _ ≤ 1010 by omega) (show _ ≤ 1010 by omega) (by decide) tA76.1 tA76.1 (Or.inr ⟨200, rfl, by decide, tT76.1⟩) (Or.inr ⟨200, rfl, by decide, tT76.1⟩) (by omega) (by omega) (by omega) (by omega) (Or.inl rfl) hT76 bT76) (fun S_76 h_76 => ?_)
          have x2 : Lx [5, 6, 7, 8] S0 S_76 := x1.tr (h_76.1.mono (by simp))
          have tA104 : pt S_76 j (dbl (PT (PX X) (zc x, zc y)) j) := (pts j (Or.inl (by omega))).mv x2 (by decide) (by decide)
          have tT104 : pt S_76 200 (dbl (PT (PX X) (zc x, zc y)) 200) := (pts 200 (Or.inr rfl)).mv x2 (by decide) (by decide)
          have hT104 : sum10 S_76 7 0 (0 + 1 * (((dbl (PT (PX X) (zc x, zc y)) j).1 - (dbl (PT (PX X) (zc x, zc y)) 200).1) * ((dbl (PT (PX X) (zc x, zc y)) j).1 - (dbl (PT (PX X) (zc x, zc y)) 200).1))) := fun i hi => by rw [h_76.2, if_pos (by omega), show 0 + i - 0 = i by omega]
          have bT104 := tb9 (T := 0 + 1 * (((dbl (PT (PX X) (zc x, zc y)) j).1 - (dbl (PT (PX X) (zc x, zc y)) 200).1) * ((dbl (PT (PX X) (zc x, zc y)) j).1 - (dbl (PT (PX X) (zc x, zc y)) 200).1))) (by generalize ((dbl (PT (PX X) (zc x, zc y)) j).1 - (dbl (PT (PX X) (zc x, zc y)) 200).1) * ((dbl (PT (PX X) (zc x, zc y)) j).1 - (dbl (PT (PX X) (zc x, zc y)) 200).1) = u at *; omega)
          refine x_aload_n eX9_nearest_79 rfl ?_
          refine x_aload_n eX9_nearest_80 rfl ?_
          refine s_getR (k := 4) eX9_nearest_81 fX9_19 rfl (by decide) (by decide) rfl ?_
          refine x_iload eX9_nearest_84 rfl ?_
          refine x_sipush (v := nI 200) eX9_nearest_86 (by decide) ?_
          refine x_aload_n eX9_nearest_89 rfl ?_
          refine s_getR (k := 4) eX9_nearest_90 fX9_19 rfl (by decide) (by decide) rfl ?_
          refine x_iload eX9_nearest_93 rfl ?_
          refine x_sipush (v := nI 200) eX9_nearest_95 (by decide) ?_
          refine x_aload_n eX9_nearest_98 rfl ?_
          refine s_getR (k := 7) eX9_nearest_99 fX9_28 rfl (by decide) (by decide) rfl ?_
          refine x_iconst (v := nI 0) eX9_nearest_102 (by decide) ?_
          refine x_lconst (v := lI 1) eX9_nearest_103 (by decide) ?_
          refine s_callV0 (As := [_, _, _, _, _, _, _, _, _]) eX9_nearest_104 kX9_147 ⟨by decide, by decide⟩ rfl (by decide) (by decide) rfl rfl (Nat.le_of_ble_eq_true rfl) (Nat.le_of_ble_eq_true rfl) (sp_X9_times S_76 (p1 := 4) (p2 := 4) (p3 := 7) rfl (by decide) rfl (by decide) rfl (by decide) (by decide) (by decide) (by decide) (VA := (dbl (PT (PX X) (zc x, zc y)) j).2) (VB := (dbl (PT (PX X) (zc x, zc y)) 200).2) (VC := (dbl (PT (PX X) (zc x, zc y)) j).2) (VD := (dbl (PT (PX X) (zc x, zc y)) 200).2) (T := 0 + 1 * (((dbl (PT (PX X) (zc x, zc y)) j).1 - (dbl (PT (PX X) (zc x, zc y)) 200).1) * ((dbl (PT (PX X) (zc x, zc y)) j).1 - (dbl (PT (PX X) (zc x, zc y)) 200).1))) (s := 1) (show _ ≤ 1010 by omega) (show _ ≤ 1010 by omega) (by decide) tA104.2.1 tA104.2.1 (Or.inr ⟨200, rfl, by decide, tT104.2.1⟩) (Or.inr ⟨200, rfl, by decide, tT104.2.1⟩) (by omega) (by omega) (by omega) (by omega) (Or.inl rfl) hT104 bT104) (fun S_104 h_104 => ?_)
          have x3 : Lx [5, 6, 7, 8] S0 S_104 := x2.tr (h_104.1.mono (by simp))
          have s7 : sum10 S_104 7 0 (4 * (fun s => ds ((PT (PX X) (zc x, zc y)) s) ((PT (PX X) (zc x, zc y)) 200)) j) := fun i hi => by
            rw [h_104.2, if_pos (by omega), show 0 + i - 0 = i by omega]
            congr 2
            show _ = 4 * ds ((PT (PX X) (zc x, zc y)) j) ((PT (PX X) (zc x, zc y)) 200)
            rw [← ds_dbl (PT (PX X) (zc x, zc y)) j 200]
            unfold ds
            grind
          have y8 : S_104.2.2.1 8 = S1.2.2.1 8 := by rw [h_104.1.2.2.2 8 (by decide), h_76.1.2.2.2 8 (by decide), h_48, setL_ne _ _ (by decide)]
          refine x_iload eX9_nearest_107 rfl ?_
          refine x_iconst (v := -1) eX9_nearest_109 (by decide) ?_
          refine x_icmp_eq eX9_nearest_110 (fun c_110 => ?_) (fun c_110 => ?_)
          · refine x_iload eX9_nearest_129 rfl ?_
            refine x_istore (lv' := [_, _, _]) eX9_nearest_131 (by decide) rfl ?_
            refine x_iconst (v := nI 0) eX9_nearest_133 (by decide) ?_
            refine x_istore (lv' := [_, _, _, _]) eX9_nearest_134 (by decide) rfl ?_
            refine x_pick [0, 2, 1, 3] rfl ?_
            refine cpy 10 0 (by omega) _ x3 s7 (fun e he => by omega) (fun jp => ?_)
            rcases hc with ⟨j0, -⟩ | ⟨-, e, -⟩
            · omega
            · first
              | exact of_decide_eq_true c_126
              | (rw [e] at c_110; exact absurd c_110 (nI_ne_m1 (by omega)))
          · refine x_aload_n eX9_nearest_113 rfl ?_
            refine s_getR (k := 7) eX9_nearest_114 fX9_28 rfl (by decide) (by decide) rfl ?_
            refine x_iconst (v := nI 0) eX9_nearest_117 (by decide) ?_
            refine x_aload_n eX9_nearest_118 rfl ?_
            refine s_getR (k := 8) eX9_nearest_119 fX9_35 rfl (by decide) (by decide) rfl ?_
            refine x_iconst (v := nI 0) eX9_nearest_122 (by decide) ?_
            refine s_callS1 (As := [_, _, _, _]) eX9_nearest_123 kX9_208 ⟨by decide, by decide⟩ rfl rfl (Nat.le_of_ble_eq_true rfl) (Nat.le_of_ble_eq_true rfl) (sp_X9_less (p := 7) (q := 8) rfl (by decide) rfl (by decide) (a := 0) (b := 0) (by decide) (by decide) _ (4 * (fun s => ds ((PT (PX X) (zc x, zc y)) s) ((PT (PX X) (zc x, zc y)) 200)) j) (4 * (fun s => ds ((PT (PX X) (zc x, zc y)) s) ((PT (PX X) (zc x, zc y)) 200)) (nrs (fun s => 4 * (fun s => ds ((PT (PX X) (zc x, zc y)) s) ((PT (PX X) (zc x, zc y)) 200)) s) j)) s7 (by rcases hc with ⟨-, e⟩ | ⟨-, -, sb⟩; exact absurd e c_110; exact fun e he => by rw [y8]; exact sb e he) (dbd _ (by omega)) (dbd _ nl)) (fun S_123 h_123 => ?_)
            have h_123 := h_123.symm
            subst h_123
            refine x_if_eqB eX9_nearest_126 (fun c_126 => ?_) (fun c_126 => ?_)
            · refine x_iinc (lv' := [_, _, _]) eX9_nearest_163 rfl (by first | exact nI_inc _ | exact rfl) (by decide) rfl ?_
              refine x_goto eX9_nearest_166 ?_
              refine x_pick [0, 1, 2] rfl ?_
              rcases hc with ⟨j0, rfl⟩ | ⟨j0, rfl, sb⟩
              · exact absurd rfl c_110
              · have nj : nrs (fun s => 4 * (fun s => ds ((PT (PX X) (zc x, zc y)) s) ((PT (PX X) (zc x, zc y)) 200)) s) (j + 1) = nrs (fun s => 4 * (fun s => ds ((PT (PX X) (zc x, zc y)) s) ((PT (PX X) (zc x, zc y)) 200)) s) j := if_neg (fun z => by rw [decide_eq_true z] at c_126; exact absurd c_126 (by decide))
                refine oh (j + 1) (by omega) _ _ ⟨x3, Or.inr ⟨by omega, by rw [nj], ?_⟩⟩
                rw [nj]
                exact fun e he => by rw [y8]; exact sb e he
            · refine x_iload eX9_nearest_129 rfl ?_
              refine x_istore (lv' := [_, _, _]) eX9_nearest_131 (by decide) rfl ?_
              refine x_iconst (v := nI 0) eX9_nearest_133 (by decide) ?_
              refine x_istore (lv' := [_, _, _, _]) eX9_nearest_134 (by decide) rfl ?_
              refine x_pick [0, 2, 1, 3] rfl ?_
              refine cpy 10 0 (by omega) _ x3 s7 (fun e he => by omega) (fun jp => ?_)
              rcases hc with ⟨j0, -⟩ | ⟨-, e, -⟩
              · omega
              · first
                | exact of_decide_eq_true c_126
                | (rw [e] at c_110; exact absurd c_110 (nI_ne_m1 (by omega)))
      refine x_iconst (v := -1) eX9_nearest_26 (by decide) ?_
      refine x_istore (lv' := [_, _, _, _]) eX9_nearest_27 (by decide) rfl ?_
      refine x_iconst (v := nI 0) eX9_nearest_29 (by decide) ?_
      refine x_istore (lv' := [_, _, _, _, _]) eX9_nearest_30 (by decide) rfl ?_
      refine x_pick [0, 1, 2] rfl ?_
      exact loop (xNc X) 0 (by omega) _ _ ⟨Lx.rf _ _, Or.inl ⟨rfl, rfl⟩⟩
    show XP _ _ [_, _, _] _ _ _
    refine x_lload_n eX9_nearest_0 rfl ?_
    refine s_callS1 (As := [_]) eX9_nearest_1 kX9_176 ⟨by decide, by decide⟩ rfl rfl (Nat.le_of_ble_eq_true rfl) (Nat.le_of_ble_eq_true rfl) (sp_X9_isNumber _ x) (fun S_1 h_1 => ?_)
    have h_1 := h_1.symm
    subst h_1
    refine x_if_eqB eX9_nearest_4 (fun c_4 => ?_) (fun c_4 => ?_)
    · rw [nx] at c_4; exact absurd c_4 (by decide)
    · refine x_lload_n eX9_nearest_7 rfl ?_
      refine s_callS1 (As := [_]) eX9_nearest_8 kX9_176 ⟨by decide, by decide⟩ rfl rfl (Nat.le_of_ble_eq_true rfl) (Nat.le_of_ble_eq_true rfl) (sp_X9_isNumber _ y) (fun S_8 h_8 => ?_)
      have h_8 := h_8.symm
      subst h_8
      refine x_if_neB eX9_nearest_11 (fun c_11 => ?_) (fun c_11 => ?_)
      · refine x_aload_n eX9_nearest_17 rfl ?_
        refine x_sipush (v := nI 200) eX9_nearest_18 (by decide) ?_
        refine x_lload_n eX9_nearest_21 rfl ?_
        refine x_lload_n eX9_nearest_22 rfl ?_
        refine s_callV0 (As := [_, _, _]) eX9_nearest_23 kX9_180 ⟨by decide, by decide⟩ rfl (by decide) (by decide) rfl rfl (Nat.le_of_ble_eq_true rfl) (Nat.le_of_ble_eq_true rfl) (sp_X9_lay _ (slot := 200) (by decide) nx ny) (fun S_23 h_23 => ?_)
        exact key _ h_23
      · rw [ny] at c_11; exact absurd c_11 (by decide)
