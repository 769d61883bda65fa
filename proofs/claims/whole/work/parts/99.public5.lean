/-! ===== the loose point; where, sure, edge ===== -/
def uS (X : LM) (wh su ed : Int32) : LM := (X.1, X.2.1, (wh, su, ed), X.2.2.2)
theorem wf_uS {X : LM} (w : wf X) (a b c : Int32) : wf (uS X a b c) := w
theorem RC_put {S S' : xS} {X : LM} (w : wf X) (h : RC S X) {x y : Int64} (p : putP S 200 x y S') : RC S' X := by
  have n200 := w.1
  obtain ⟨e1, e2, e3, e4, e5, e6, e7⟩ := p
  obtain ⟨⟨p1, p2, T, p3⟩, d, ⟨w1, w2, w3⟩, ⟨n1, n2⟩, z, ⟨k1, k2⟩, h1, h2⟩ := h
  have cg : ∀ {r n : Nat} {c : Nat → Nat}, crg S r n c → crg S' r n c := fun {r n c} g => ⟨g.1, g.2.1, by rw [e1]; exact g.2.2.1, fun i hi => by rw [e2]; exact g.2.2.2 i hi⟩
  have ec : ∀ {a e : Nat} {t : TB}, cent S a t e → cent S' a t e := fun {a e t} g => ⟨by rw [e1]; exact g.1, fun q => by have := g.2 q; rw [e1]; exact ⟨this.1, this.2.1, cg this.2.2⟩⟩
  refine ⟨⟨by rw [e1]; exact p1, fun s hs => ?_, _, e6⟩, cg d, by rw [e1]; exact ⟨w1, w2, w3⟩, ⟨by rw [e1]; exact n1, fun e he => ec (n2 e he)⟩, fun a ha => by rw [e1]; exact z a ha, ⟨by rw [e1]; exact k1, fun q => ?_⟩, by rw [e1]; exact h1, fun k hk => by rw [e2]; exact h2 k hk⟩
  · have := p2 s hs
    rw [e4, e4, if_neg (by omega), if_neg (by omega), if_neg (by omega), if_neg (by omega)]
    exact ⟨this.1, this.2.1, e7 s _ (by omega) this.2.2⟩
  · obtain ⟨p, q2, a1, a2, a3, a4, a5, a6⟩ := k2 q
    exact ⟨p, q2, a1, by rw [e1]; exact a2, by rw [e1]; exact a3, ec a4, fun w => ec (a5 w), fun e x y w => ec (a6 e x y w)⟩
theorem putP_fr {S S' : xS} {s : Nat} {x y : Int64} (p : putP S s x y S') : frC S S' := fun q hq => ⟨by rw [p.1], by rw [p.2.1], p.2.2.1 q (by omega) (by omega)⟩
theorem RM_lay {S S' : xS} {X : LM} (w : wf X) (h : RM S X) {x y : Int64} (p : layP S 200 x y S') : RM S' X := by
  have n200 := w.1
  obtain ⟨e1, e2, e3, e4, e5, e6, e7, e8⟩ := p
  obtain ⟨⟨p1, p2, T, p3⟩, d, w1, n1, k1, h1⟩ := h
  have em : ∀ {r q : Nat} {t : TB}, ment S r t q → ment S' r t q := fun {r q t} m => by unfold ment at m ⊢; rw [e2]; exact m
  refine ⟨⟨by rw [e1]; exact p1, fun s hs => ?_, _, e7⟩, by rw [e1, e2]; exact d, by rw [e1]; exact w1, ⟨by rw [e1]; exact n1.1, fun e he => em (n1.2 e he)⟩, ⟨by rw [e1]; exact k1.1, by rw [e2]; exact k1.2.1, fun z e he => em (k1.2.2 z e he)⟩, by rw [e1, e2]; exact h1⟩
  have := p2 s hs
  rw [e5, e6, if_neg (by omega), if_neg (by omega)]
  exact ⟨this.1, this.2.1, e8 s _ (by omega) this.2.2⟩
theorem layP_fr {S S' : xS} {s : Nat} {x y : Int64} (p : layP S s x y S') : frM S S' := ⟨fun q hq => ⟨by rw [p.1], by rw [p.2.1], p.2.2.2.1 q (by simp; omega)⟩, by rw [p.2.2.1]⟩
theorem RC_31 {S S' : xS} {X : LM} (h : RC S X) (hF : ∀ p, p ≠ 31 → S'.1 p = S.1 p) (h2 : S'.2 = S.2) {a b c : Int32} (ea : S'.1 31 8 = a) (eb : S'.1 31 9 = b) (ec : S'.1 31 10 = c) : RC S' (uS X a b c) := by
  obtain ⟨⟨p1, p2, T, p3⟩, d, -, ⟨n1, n2⟩, z, ⟨k1, k2⟩, h1, h3⟩ := h
  have cg : ∀ {r n : Nat} {c : Nat → Nat}, crg S r n c → crg S' r n c := fun {r n c} g => ⟨g.1, g.2.1, by rw [hF _ (by omega)]; exact g.2.2.1, fun i hi => by rw [h2]; exact g.2.2.2 i hi⟩
  have ce : ∀ {a e : Nat} {t : TB}, cent S a t e → cent S' a t e := fun {a e t} g => ⟨by rw [hF _ (by omega)]; exact g.1, fun q => by have := g.2 q; rw [hF _ (by omega)]; exact ⟨this.1, this.2.1, cg this.2.2⟩⟩
  have cp : ∀ {s : Nat} {P : Pt}, cpt S s P → cpt S' s P := fun {s P} g => by unfold cpt at g ⊢; rw [h2]; exact g
  refine ⟨⟨by rw [hF _ (by decide)]; exact p1, fun s hs => by rw [h2]; exact ⟨(p2 s hs).1, (p2 s hs).2.1, cp (p2 s hs).2.2⟩, T, cp p3⟩, cg d, ⟨ea, eb, ec⟩, ⟨by rw [hF _ (by decide)]; exact n1, fun e he => ce (n2 e he)⟩, fun a ha => by rw [hF _ (by omega)]; exact z a ha, ⟨by rw [hF _ (by decide)]; exact k1, fun q => ?_⟩, by rw [hF _ (by decide)]; exact h1, fun k hk => by rw [h2]; exact h3 k hk⟩
  obtain ⟨p, q2, a1, a2, a3, a4, a5, a6⟩ := k2 q
  exact ⟨p, q2, a1, by rw [hF _ (by decide)]; exact a2, by rw [hF _ (by decide)]; exact a3, ce a4, fun w => ce (a5 w), fun e x y w => ce (a6 e x y w)⟩
theorem RM_0 {S S' : xS} {X : LM} (h : RM S X) (hF : ∀ f, f ≠ 8 → f ≠ 12 → f ≠ 34 → S'.1 0 f = S.1 0 f) (h2 : S'.2 = S.2) {a b c : Int32} (ea : S'.1 0 12 = a) (eb : S'.1 0 8 = b) (ec : S'.1 0 34 = c) : RM S' (uS X a b c) := by
  obtain ⟨⟨p1, p2, T, p3⟩, d, w1, n1, k1, h1⟩ := h
  have em : ∀ {r q : Nat} {t : TB}, ment S r t q → ment S' r t q := fun {r q t} m => by unfold ment at m ⊢; rw [h2]; exact m
  have ep : ∀ {s : Nat} {P : Pt}, pt S s P → pt S' s P := fun {s P} g => by unfold pt lim at g ⊢; rw [h2]; exact g
  refine ⟨⟨by rw [hF _ (by decide) (by decide) (by decide)]; exact p1, fun s hs => by rw [h2]; exact ⟨(p2 s hs).1, (p2 s hs).2.1, ep (p2 s hs).2.2⟩, T, ep p3⟩, by rw [hF _ (by decide) (by decide) (by decide), h2]; exact d, ⟨ea, eb, ec⟩, ⟨by rw [hF _ (by decide) (by decide) (by decide)]; exact n1.1, fun e he => em (n1.2 e he)⟩, ⟨by rw [hF _ (by decide) (by decide) (by decide)]; exact k1.1, by rw [h2]; exact k1.2.1, fun z e he => em (k1.2.2 z e he)⟩, by rw [hF _ (by decide) (by decide) (by decide), h2]; exact h1⟩
theorem cps_200 {S S' : xS} {X : LM} (w : wf X) {x y : Int64} (h : RC S X) (p : putP S 200 x y S') : cps S' (xNc X) (PT (PX X) (zc x, zc y)) := by
  have n200 := w.1
  have g := RC_put w h p
  intro s hs
  rcases hs with hs | hs
  · rw [PT_lt _ _ (by omega)]; exact (g.1.2.1 s hs).2.2
  · subst hs; rw [PT_200]; exact p.2.2.2.2.2.1
theorem mps_200 {S S' : xS} {X : LM} (w : wf X) {x y : Int64} (h : RM S X) (p : layP S 200 x y S') : mps S' (xNc X) (dbl (PT (PX X) (zc x, zc y))) := by
  have n200 := w.1
  have g := RM_lay w h p
  intro s hs
  show pt S' s (scP 2 (PT (PX X) (zc x, zc y) s))
  rcases hs with hs | hs
  · rw [PT_lt _ _ (by omega)]; exact (g.1.2.1 s hs).2.2
  · subst hs; rw [PT_200]; exact p.2.2.2.2.2.2.1

theorem b_locate {X : LM} (w : wf X) (l : Int32) (x y : Int64) : both X mX8_locate mX9_locate [.int l, .long x, .long y] := by
  have n60 : xNp X ≤ 60 := w.2.2.2.2.1.1
  have n200 := w.1
  by_cases zl : ∃ k : Nat, k < 4 ∧ l = nI k
  rotate_left
  · refine ⟨.int (-102), X, w, fun S h => ?_, fun S h => ?_⟩
    · show XP _ _ [_, _, _, _] _ _ _
      refine x_iload_n eX8_locate_0 rfl ?_
      refine s_callS1 (As := [_]) eX8_locate_1 kX8_125 ⟨by decide, by decide⟩ rfl rfl (Nat.le_of_ble_eq_true rfl) (Nat.le_of_ble_eq_true rfl) (sp_X8_isLayer _ l) (fun S_1 h_1 => ?_)
      have h_1 := h_1.symm
      subst h_1
      refine x_if_eqT eX8_locate_4 (fun c_4 => ?_) (fun c_4 => ?_)
      · refine x_bipush (v := -102) eX8_locate_22 (by decide) ?_
        exact s_iret eX8_locate_24 rfl rfl ⟨rfl, h, frC.rf _⟩
      · exact absurd c_4 zl
    · show XP _ _ [_, _, _, _] _ _ _
      refine x_iload_n eX9_locate_0 rfl ?_
      refine x_iconst (v := nI 0) eX9_locate_1 (by decide) ?_
      refine x_iconst (v := nI 3) eX9_locate_2 (by decide) ?_
      refine s_callS1 (As := [_, _, _]) eX9_locate_3 kX9_173 ⟨by decide, by decide⟩ rfl rfl (Nat.le_of_ble_eq_true rfl) (Nat.le_of_ble_eq_true rfl) (sp_X9_in _ _ _ _) (fun S_3 h_3 => ?_)
      have h_3 := h_3.symm
      subst h_3
      rw [in03]
      refine x_if_eqB eX9_locate_6 (fun c_6 => ?_) (fun c_6 => ?_)
      · refine x_bipush (v := -102) eX9_locate_24 (by decide) ?_
        exact s_iret eX9_locate_26 rfl rfl ⟨rfl, h, frM.rf _⟩
      · exact absurd (of_decide_eq_true c_6) zl
  by_cases nx : isNum x = true
  rotate_left
  · refine ⟨.int (-102), X, w, fun S h => ?_, fun S h => ?_⟩
    · show XP _ _ [_, _, _, _] _ _ _
      refine x_iload_n eX8_locate_0 rfl ?_
      refine s_callS1 (As := [_]) eX8_locate_1 kX8_125 ⟨by decide, by decide⟩ rfl rfl (Nat.le_of_ble_eq_true rfl) (Nat.le_of_ble_eq_true rfl) (sp_X8_isLayer _ l) (fun S_1 h_1 => ?_)
      have h_1 := h_1.symm
      subst h_1
      refine x_if_eqT eX8_locate_4 (fun c_4 => ?_) (fun c_4 => ?_)
      · exact absurd zl c_4
      · refine x_lload_n eX8_locate_7 rfl ?_
        refine s_callS1 (As := [_]) eX8_locate_8 kX8_69 ⟨by decide, by decide⟩ rfl rfl (Nat.le_of_ble_eq_true rfl) (Nat.le_of_ble_eq_true rfl) (sp_X8_isNumber _ x) (fun S_8 h_8 => ?_)
        have h_8 := h_8.symm
        subst h_8
        refine x_if_eqT eX8_locate_11 (fun c_11 => ?_) (fun c_11 => ?_)
        · refine x_bipush (v := -102) eX8_locate_22 (by decide) ?_
          exact s_iret eX8_locate_24 rfl rfl ⟨rfl, h, frC.rf _⟩
        · exact absurd c_11 nx
    · show XP _ _ [_, _, _, _] _ _ _
      refine x_iload_n eX9_locate_0 rfl ?_
      refine x_iconst (v := nI 0) eX9_locate_1 (by decide) ?_
      refine x_iconst (v := nI 3) eX9_locate_2 (by decide) ?_
      refine s_callS1 (As := [_, _, _]) eX9_locate_3 kX9_173 ⟨by decide, by decide⟩ rfl rfl (Nat.le_of_ble_eq_true rfl) (Nat.le_of_ble_eq_true rfl) (sp_X9_in _ _ _ _) (fun S_3 h_3 => ?_)
      have h_3 := h_3.symm
      subst h_3
      rw [in03]
      refine x_if_eqB eX9_locate_6 (fun c_6 => ?_) (fun c_6 => ?_)
      · exact absurd zl (of_decide_eq_false c_6)
      · refine x_lload_n eX9_locate_9 rfl ?_
        refine s_callS1 (As := [_]) eX9_locate_10 kX9_176 ⟨by decide, by decide⟩ rfl rfl (Nat.le_of_ble_eq_true rfl) (Nat.le_of_ble_eq_true rfl) (sp_X9_isNumber _ x) (fun S_10 h_10 => ?_)
        have h_10 := h_10.symm
        subst h_10
        refine x_if_eqB eX9_locate_13 (fun c_13 => ?_) (fun c_13 => ?_)
        · refine x_bipush (v := -102) eX9_locate_24 (by decide) ?_
          exact s_iret eX9_locate_26 rfl rfl ⟨rfl, h, frM.rf _⟩
        · exact absurd c_13 nx
  by_cases ny : isNum y = true
  rotate_left
  · refine ⟨.int (-102), X, w, fun S h => ?_, fun S h => ?_⟩
    · show XP _ _ [_, _, _, _] _ _ _
      refine x_iload_n eX8_locate_0 rfl ?_
      refine s_callS1 (As := [_]) eX8_locate_1 kX8_125 ⟨by decide, by decide⟩ rfl rfl (Nat.le_of_ble_eq_true rfl) (Nat.le_of_ble_eq_true rfl) (sp_X8_isLayer _ l) (fun S_1 h_1 => ?_)
      have h_1 := h_1.symm
      subst h_1
      refine x_if_eqT eX8_locate_4 (fun c_4 => ?_) (fun c_4 => ?_)
      · exact absurd zl c_4
      · refine x_lload_n eX8_locate_7 rfl ?_
        refine s_callS1 (As := [_]) eX8_locate_8 kX8_69 ⟨by decide, by decide⟩ rfl rfl (Nat.le_of_ble_eq_true rfl) (Nat.le_of_ble_eq_true rfl) (sp_X8_isNumber _ x) (fun S_8 h_8 => ?_)
        have h_8 := h_8.symm
        subst h_8
        refine x_if_eqT eX8_locate_11 (fun c_11 => ?_) (fun c_11 => ?_)
        · exact absurd nx c_11
        · refine x_lload eX8_locate_14 rfl ?_
          refine s_callS1 (As := [_]) eX8_locate_16 kX8_69 ⟨by decide, by decide⟩ rfl rfl (Nat.le_of_ble_eq_true rfl) (Nat.le_of_ble_eq_true rfl) (sp_X8_isNumber _ y) (fun S_16 h_16 => ?_)
          have h_16 := h_16.symm
          subst h_16
          refine x_if_neT eX8_locate_19 (fun c_19 => ?_) (fun c_19 => ?_)
          · exact absurd c_19 ny
          · refine x_bipush (v := -102) eX8_locate_22 (by decide) ?_
            exact s_iret eX8_locate_24 rfl rfl ⟨rfl, h, frC.rf _⟩
    · show XP _ _ [_, _, _, _] _ _ _
      refine x_iload_n eX9_locate_0 rfl ?_
      refine x_iconst (v := nI 0) eX9_locate_1 (by decide) ?_
      refine x_iconst (v := nI 3) eX9_locate_2 (by decide) ?_
      refine s_callS1 (As := [_, _, _]) eX9_locate_3 kX9_173 ⟨by decide, by decide⟩ rfl rfl (Nat.le_of_ble_eq_true rfl) (Nat.le_of_ble_eq_true rfl) (sp_X9_in _ _ _ _) (fun S_3 h_3 => ?_)
      have h_3 := h_3.symm
      subst h_3
      rw [in03]
      refine x_if_eqB eX9_locate_6 (fun c_6 => ?_) (fun c_6 => ?_)
      · exact absurd zl (of_decide_eq_false c_6)
      · refine x_lload_n eX9_locate_9 rfl ?_
        refine s_callS1 (As := [_]) eX9_locate_10 kX9_176 ⟨by decide, by decide⟩ rfl rfl (Nat.le_of_ble_eq_true rfl) (Nat.le_of_ble_eq_true rfl) (sp_X9_isNumber _ x) (fun S_10 h_10 => ?_)
        have h_10 := h_10.symm
        subst h_10
        refine x_if_eqB eX9_locate_13 (fun c_13 => ?_) (fun c_13 => ?_)
        · rw [nx] at c_13; exact absurd c_13 (by decide)
        · refine x_lload eX9_locate_16 rfl ?_
          refine s_callS1 (As := [_]) eX9_locate_18 kX9_176 ⟨by decide, by decide⟩ rfl rfl (Nat.le_of_ble_eq_true rfl) (Nat.le_of_ble_eq_true rfl) (sp_X9_isNumber _ y) (fun S_18 h_18 => ?_)
          have h_18 := h_18.symm
          subst h_18
          refine x_if_neB eX9_locate_21 (fun c_21 => ?_) (fun c_21 => ?_)
          · exact absurd c_21 ny
          · refine x_bipush (v := -102) eX9_locate_24 (by decide) ?_
            exact s_iret eX9_locate_26 rfl rfl ⟨rfl, h, frM.rf _⟩
  refine ⟨.int (match fst1 (fun q => xTh X q = true ∧ nI (xLy X q) = l ∧ (plc (vq X q) (xSz X q) (zc x, zc y)) ≠ -3) (xNp X) with | some q => nI q | none => -1), uS X (xWh X) (xSu X) (match fst1 (fun q => xTh X q = true ∧ nI (xLy X q) = l ∧ (plc (vq X q) (xSz X q) (zc x, zc y)) ≠ -3) (xNp X) with | some q => (if (plc (vq X q) (xSz X q) (zc x, zc y)) = -2 then -1 else (plc (vq X q) (xSz X q) (zc x, zc y))) | none => -1), wf_uS w _ _ _, fun S h => ?_, fun S h => ?_⟩
  · have key : ∀ S0, putP S 200 x y S0 → XP mX8_locate 38 [(0, .ref 31), (1, .int l), (2, .long x), (4, .long y)] [] (xwS S0) (sQ (fun r S' => r = some (.int (match fst1 (fun q => xTh X q = true ∧ nI (xLy X q) = l ∧ (plc (vq X q) (xSz X q) (zc x, zc y)) ≠ -3) (xNp X) with | some q => nI q | none => -1)) ∧ RC S' (uS X (xWh X) (xSu X) (match fst1 (fun q => xTh X q = true ∧ nI (xLy X q) = l ∧ (plc (vq X q) (xSz X q) (zc x, zc y)) ≠ -3) (xNp X) with | some q => (if (plc (vq X q) (xSz X q) (zc x, zc y)) = -2 then -1 else (plc (vq X q) (xSz X q) (zc x, zc y))) | none => -1)) ∧ frC S S')) := by
      intro S0 p0
      have g0 := RC_put w h p0
      have c0 := cps_200 w h p0
      have f0 := putP_fr p0
      have loop : ∀ μ j, j + μ = (xNp X) → ∀ S1, (Lx [364] (setF S0 31 (upd (S0.1 31) 10 (-1))) S1 ∧ ∀ q, q < j → ¬ (fun q => xTh X q = true ∧ nI (xLy X q) = l ∧ (plc (vq X q) (xSz X q) (zc x, zc y)) ≠ -3) q) → XP mX8_locate 46 [(6, .int (nI j)), (0, .ref 31), (1, .int l)] [] (xwS S1) (sQ (fun r S' => r = some (.int (match fst1 (fun q => xTh X q = true ∧ nI (xLy X q) = l ∧ (plc (vq X q) (xSz X q) (zc x, zc y)) ≠ -3) (xNp X) with | some q => nI q | none => -1)) ∧ RC S' (uS X (xWh X) (xSu X) (match fst1 (fun q => xTh X q = true ∧ nI (xLy X q) = l ∧ (plc (vq X q) (xSz X q) (zc x, zc y)) ≠ -3) (xNp X) with | some q => (if (plc (vq X q) (xSz X q) (zc x, zc y)) = -2 then -1 else (plc (vq X q) (xSz X q) (zc x, zc y))) | none => -1)) ∧ frC S S')) := by
        intro μ
        induction μ with
        | zero =>
          intro j hk S1 h1
          obtain ⟨hx, hno⟩ := h1
          have hx0 : Fx [31] [] [364] [] S0 S1 := (Fx.sF (by simp)).tr (hx.fx (by simp))
          have e31 : S1.1 31 = upd (S0.1 31) 10 (-1) := by rw [hx.1, setF_at]
          have g := RC_L (RC_31 (S' := setF S0 31 (upd (S0.1 31) 10 (-1))) (a := xWh X) (b := xSu X) (c := -1) g0 (fun p hp => setF_ne _ _ hp) rfl (by rw [setF_at, upd_ne _ _ (by decide)]; exact g0.2.2.1.1) (by rw [setF_at, upd_ne _ _ (by decide)]; exact g0.2.2.1.2.1) (by rw [setF_at, upd_at])) hx
          have t := g.tab w
          have pts := c0.fx hx0 (by simp) (by simp)
          have fr1 : frC S S1 := f0.tr (hx0.frC (by simp) (by simp) (by simp))
          refine x_iload eX8_locate_46 rfl ?_
          refine x_aload_n eX8_locate_48 rfl ?_
          refine s_getR (k := 37) eX8_locate_49 fX8_28 rfl (by decide) (by decide) rfl ?_
          refine s_geti eX8_locate_52 fX8_136 rfl (by decide) (by decide) ?_
          rw [show S1.1 37 6 = nI (xNp X) from t.1]
          refine x_icmp_geN eX8_locate_55 (by omega) (by omega) (fun c_55 => ?_) (fun c_55 => ?_)
          · refine x_iconst (v := -1) eX8_locate_129 (by decide) ?_
            have en := fst1_none (R := (fun q => xTh X q = true ∧ nI (xLy X q) = l ∧ (plc (vq X q) (xSz X q) (zc x, zc y)) ≠ -3)) (n := xNp X) (fun q hq => hno q (by omega))
            refine s_iret eX8_locate_130 rfl rfl ⟨by simp only [en], ?_, fr1⟩
            simp only [en]; exact g
          · omega
        | succ μ ih =>
          intro j hk S1 h1
          obtain ⟨hx, hno⟩ := h1
          have hx0 : Fx [31] [] [364] [] S0 S1 := (Fx.sF (by simp)).tr (hx.fx (by simp))
          have e31 : S1.1 31 = upd (S0.1 31) 10 (-1) := by rw [hx.1, setF_at]
          have g := RC_L (RC_31 (S' := setF S0 31 (upd (S0.1 31) 10 (-1))) (a := xWh X) (b := xSu X) (c := -1) g0 (fun p hp => setF_ne _ _ hp) rfl (by rw [setF_at, upd_ne _ _ (by decide)]; exact g0.2.2.1.1) (by rw [setF_at, upd_ne _ _ (by decide)]; exact g0.2.2.1.2.1) (by rw [setF_at, upd_at])) hx
          have t := g.tab w
          have pts := c0.fx hx0 (by simp) (by simp)
          have fr1 : frC S S1 := f0.tr (hx0.frC (by simp) (by simp) (by simp))
          refine x_iload eX8_locate_46 rfl ?_
          refine x_aload_n eX8_locate_48 rfl ?_
          refine s_getR (k := 37) eX8_locate_49 fX8_28 rfl (by decide) (by decide) rfl ?_
          refine s_geti eX8_locate_52 fX8_136 rfl (by decide) (by decide) ?_
          rw [show S1.1 37 6 = nI (xNp X) from t.1]
          refine x_icmp_geN eX8_locate_55 (by omega) (by omega) (fun c_55 => ?_) (fun c_55 => ?_)
          · omega
          · refine x_aload_n eX8_locate_58 rfl ?_
            refine s_getR (k := 37) eX8_locate_59 fX8_28 rfl (by decide) (by decide) rfl ?_
            refine x_iload eX8_locate_62 rfl ?_
            refine x_iload_n eX8_locate_64 rfl ?_
            refine s_callV1 (As := [_, _]) eX8_locate_65 kX8_208 ⟨by decide, by decide⟩ rfl (by decide) (by decide) rfl rfl (Nat.le_of_ble_eq_true rfl) (Nat.le_of_ble_eq_true rfl) (sp_X3_isOf t (by omega) _) (fun S_65 h_65 => ?_)
            have h_65 := h_65.symm
            subst h_65
            refine x_if_eqT eX8_locate_68 (fun c_68 => ?_) (fun c_68 => ?_)
            · refine x_iinc (lv' := [_, _, _]) eX8_locate_123 rfl (by first | exact nI_inc _ | exact rfl) (by decide) rfl ?_
              refine x_goto eX8_locate_126 ?_
              refine x_pick [0, 1, 2] rfl ?_
              refine ih (j + 1) (by omega) _ ⟨hx, fun q hq z => ?_⟩
              by_cases e : q = j
              · subst e
                first
                  | exact z.2.2 c_100
                  | exact c_68 ⟨show _ < xNp X by omega, z.1, z.2.1⟩
              · exact hno q (by omega) z
            · refine x_aload_n eX8_locate_71 rfl ?_
              refine s_getR (k := 36) eX8_locate_72 fX8_21 rfl (by decide) (by decide) rfl ?_
              refine x_sipush (v := nI 200) eX8_locate_75 (by decide) ?_
              refine x_aload_n eX8_locate_78 rfl ?_
              refine s_getR (k := 37) eX8_locate_79 fX8_28 rfl (by decide) (by decide) rfl ?_
              refine s_getR (k := 38) eX8_locate_82 fX8_145 rfl (by decide) (by decide) rfl ?_
              refine x_iload eX8_locate_85 rfl ?_
              refine s_raldR eX8_locate_87 (by first | exact Or.inl rfl | exact Or.inr rfl) (by decide) rfl (show _ < 60 by omega) (rf_parcels j) ?_
              refine s_getR (k := (45 + 2 * j)) eX8_locate_88 fX8_157 (kd_parcel (by omega)) (show _ < 365 by omega) (by decide) (rf_parcel (by omega)) ?_
              refine s_callV1 (As := [_, _]) eX8_locate_91 kX8_212 ⟨by decide, by decide⟩ rfl (by decide) (by decide) rfl rfl (Nat.le_of_ble_eq_true rfl) (Nat.le_of_ble_eq_true rfl) (sp_X5_placeOf _ pts (show CR S1 (xNc X) j (xSz X j) (xRg X j) from g.cr w c_68.1 c_68.2.1) (Or.inr rfl) n200) (fun S_91 h_91 => ?_)
              rw [PT_200, vq_PT w c_68.2.1]
              have hx := hx.tr h_91
              have g := RC_L g h_91
              have fr1 := fr1.tr (h_91.frC (by simp))
              refine x_istore (lv' := [_, _, _, _]) eX8_locate_94 (by decide) rfl ?_
              refine x_iload eX8_locate_96 rfl ?_
              refine x_bipush (v := -3) eX8_locate_98 (by decide) ?_
              refine x_icmp_eq eX8_locate_100 (fun c_100 => ?_) (fun c_100 => ?_)
              · refine x_iinc (lv' := [_, _, _, _]) eX8_locate_123 rfl (by first | exact nI_inc _ | exact rfl) (by decide) rfl ?_
                refine x_goto eX8_locate_126 ?_
                refine x_pick [0, 2, 3] rfl ?_
                refine ih (j + 1) (by omega) _ ⟨hx, fun q hq z => ?_⟩
                by_cases e : q = j
                · subst e
                  first
                    | exact z.2.2 c_100
                    | exact c_68 ⟨show _ < xNp X by omega, z.1, z.2.1⟩
                · exact hno q (by omega) z
              · refine x_aload_n eX8_locate_103 rfl ?_
                refine x_iload eX8_locate_104 rfl ?_
                refine x_bipush (v := -2) eX8_locate_106 (by decide) ?_
                refine x_icmp_ne eX8_locate_108 (fun c_108 => ?_) (fun c_108 => ?_)
                · refine x_iload eX8_locate_115 rfl ?_
                  refine s_puti eX8_locate_117 fX8_66 wX8_10 rfl (by decide) (by decide) ?_
                  refine x_iload eX8_locate_120 rfl ?_
                  have es := fst1_some (R := (fun q => xTh X q = true ∧ nI (xLy X q) = l ∧ (plc (vq X q) (xSz X q) (zc x, zc y)) ≠ -3)) (n := xNp X) (k := j) (by omega) ⟨c_68.2.1, c_68.2.2, c_100⟩ hno
                  refine s_iret eX8_locate_122 rfl rfl ⟨by simp only [es], ?_, fr1.tr ((Fx.sF (fs := [31]) (is := []) (ls := []) (ds := []) (by simp)).frC (by simp) (by simp) (by simp))⟩
                  simp only [es]
                  refine RC_31 (X := uS X (xWh X) (xSu X) (-1)) (S' := setF S_91 31 _) (a := xWh X) (b := xSu X) g (fun p hp => setF_ne _ _ hp) rfl (by rw [setF_at, upd_ne _ _ (by decide)]; exact g.2.2.1.1) (by rw [setF_at, upd_ne _ _ (by decide)]; exact g.2.2.1.2.1) ?_
                  rw [setF_at, upd_at]
                  first
                    | (rw [if_pos c_108])
                    | (rw [if_neg c_108])
                · refine x_iconst (v := -1) eX8_locate_111 (by decide) ?_
                  refine x_goto eX8_locate_112 ?_
                  refine s_puti eX8_locate_117 fX8_66 wX8_10 rfl (by decide) (by decide) ?_
                  refine x_iload eX8_locate_120 rfl ?_
                  have es := fst1_some (R := (fun q => xTh X q = true ∧ nI (xLy X q) = l ∧ (plc (vq X q) (xSz X q) (zc x, zc y)) ≠ -3)) (n := xNp X) (k := j) (by omega) ⟨c_68.2.1, c_68.2.2, c_100⟩ hno
                  refine s_iret eX8_locate_122 rfl rfl ⟨by simp only [es], ?_, fr1.tr ((Fx.sF (fs := [31]) (is := []) (ls := []) (ds := []) (by simp)).frC (by simp) (by simp) (by simp))⟩
                  simp only [es]
                  refine RC_31 (X := uS X (xWh X) (xSu X) (-1)) (S' := setF S_91 31 _) (a := xWh X) (b := xSu X) g (fun p hp => setF_ne _ _ hp) rfl (by rw [setF_at, upd_ne _ _ (by decide)]; exact g.2.2.1.1) (by rw [setF_at, upd_ne _ _ (by decide)]; exact g.2.2.1.2.1) ?_
                  rw [setF_at, upd_at]
                  first
                    | (rw [if_pos c_108])
                    | (rw [if_neg c_108])
      refine x_aload_n eX8_locate_38 rfl ?_
      refine x_iconst (v := -1) eX8_locate_39 (by decide) ?_
      refine s_puti eX8_locate_40 fX8_66 wX8_10 rfl (by decide) (by decide) ?_
      refine x_iconst (v := nI 0) eX8_locate_43 (by decide) ?_
      refine x_istore (lv' := [_, _, _, _, _]) eX8_locate_44 (by decide) rfl ?_
      refine x_pick [0, 1, 2] rfl ?_
      exact loop (xNp X) 0 (by omega) _ ⟨Lx.rf _ _, fun q hq => by omega⟩
    show XP _ _ [_, _, _, _] _ _ _
    refine x_iload_n eX8_locate_0 rfl ?_
    refine s_callS1 (As := [_]) eX8_locate_1 kX8_125 ⟨by decide, by decide⟩ rfl rfl (Nat.le_of_ble_eq_true rfl) (Nat.le_of_ble_eq_true rfl) (sp_X8_isLayer _ l) (fun S_1 h_1 => ?_)
    have h_1 := h_1.symm
    subst h_1
    refine x_if_eqT eX8_locate_4 (fun c_4 => ?_) (fun c_4 => ?_)
    · exact absurd zl c_4
    · refine x_lload_n eX8_locate_7 rfl ?_
      refine s_callS1 (As := [_]) eX8_locate_8 kX8_69 ⟨by decide, by decide⟩ rfl rfl (Nat.le_of_ble_eq_true rfl) (Nat.le_of_ble_eq_true rfl) (sp_X8_isNumber _ x) (fun S_8 h_8 => ?_)
      have h_8 := h_8.symm
      subst h_8
      refine x_if_eqT eX8_locate_11 (fun c_11 => ?_) (fun c_11 => ?_)
      · exact absurd nx c_11
      · refine x_lload eX8_locate_14 rfl ?_
        refine s_callS1 (As := [_]) eX8_locate_16 kX8_69 ⟨by decide, by decide⟩ rfl rfl (Nat.le_of_ble_eq_true rfl) (Nat.le_of_ble_eq_true rfl) (sp_X8_isNumber _ y) (fun S_16 h_16 => ?_)
        have h_16 := h_16.symm
        subst h_16
        refine x_if_neT eX8_locate_19 (fun c_19 => ?_) (fun c_19 => ?_)
        · refine x_aload_n eX8_locate_25 rfl ?_
          refine s_getR (k := 32) eX8_locate_26 fX8_12 rfl (by decide) (by decide) rfl ?_
          refine x_sipush (v := nI 200) eX8_locate_29 (by decide) ?_
          refine x_lload_n eX8_locate_32 rfl ?_
          refine x_lload eX8_locate_33 rfl ?_
          refine s_callV0 (As := [_, _, _]) eX8_locate_35 kX8_73 ⟨by decide, by decide⟩ rfl (by decide) (by decide) rfl rfl (Nat.le_of_ble_eq_true rfl) (Nat.le_of_ble_eq_true rfl) (sp_X2_put _ (slot := 200) (by decide) nx ny) (fun S_35 h_35 => ?_)
          exact key _ h_35
        · exact absurd ny c_19
  · have key : ∀ S0, layP S 200 x y S0 → XP mX9_locate 37 [(0, .ref 0), (1, .int l), (2, .long x), (4, .long y)] [] (xwS S0) (sQ (fun r S' => r = some (.int (match fst1 (fun q => xTh X q = true ∧ nI (xLy X q) = l ∧ (plc (vq X q) (xSz X q) (zc x, zc y)) ≠ -3) (xNp X) with | some q => nI q | none => -1)) ∧ RM S' (uS X (xWh X) (xSu X) (match fst1 (fun q => xTh X q = true ∧ nI (xLy X q) = l ∧ (plc (vq X q) (xSz X q) (zc x, zc y)) ≠ -3) (xNp X) with | some q => (if (plc (vq X q) (xSz X q) (zc x, zc y)) = -2 then -1 else (plc (vq X q) (xSz X q) (zc x, zc y))) | none => -1)) ∧ frM S S')) := by
      intro S0 p0
      have g0 := RM_lay w h p0
      have c0 := mps_200 w h p0
      have f0 := layP_fr p0
      have loop : ∀ μ j, j + μ = (xNp X) → ∀ S1, (Ox (setF S0 0 (upd (S0.1 0) 34 (-1))) S1 ∧ ∀ q, q < j → ¬ (fun q => xTh X q = true ∧ nI (xLy X q) = l ∧ (plc (vq X q) (xSz X q) (zc x, zc y)) ≠ -3) q) → XP mX9_locate 45 [(6, .int (nI j)), (0, .ref 0), (1, .int l)] [] (xwS S1) (sQ (fun r S' => r = some (.int (match fst1 (fun q => xTh X q = true ∧ nI (xLy X q) = l ∧ (plc (vq X q) (xSz X q) (zc x, zc y)) ≠ -3) (xNp X) with | some q => nI q | none => -1)) ∧ RM S' (uS X (xWh X) (xSu X) (match fst1 (fun q => xTh X q = true ∧ nI (xLy X q) = l ∧ (plc (vq X q) (xSz X q) (zc x, zc y)) ≠ -3) (xNp X) with | some q => (if (plc (vq X q) (xSz X q) (zc x, zc y)) = -2 then -1 else (plc (vq X q) (xSz X q) (zc x, zc y))) | none => -1)) ∧ frM S S')) := by
        intro μ
        induction μ with
        | zero =>
          intro j hk S1 h1
          obtain ⟨hx, hno⟩ := h1
          have g1 := RM_0 (S' := setF S0 0 (upd (S0.1 0) 34 (-1))) (a := xWh X) (b := xSu X) (c := -1) g0 (fun f a b c => by rw [setF_at, upd_ne _ _ c]) rfl (by rw [setF_at, upd_ne _ _ (by decide)]; exact g0.2.2.1.1) (by rw [setF_at, upd_ne _ _ (by decide)]; exact g0.2.2.1.2.1) (by rw [setF_at, upd_at])
          have g := RM_G (wf_uS w _ _ _) g1 hx.gx
          have t := g.tab (wf_uS w _ _ _)
          have pts : mps S1 (xNc X) (dbl (PT (PX X) (zc x, zc y))) := (c0.fx (Fx.sF (fs := [0]) (is := []) (ls := []) (ds := []) (by simp)) (by simp) (by simp)).ox hx
          have fr1 : frM S S1 := (f0.tr ((Fx.sF (fs := [0]) (is := []) (ls := []) (ds := []) (by simp)).frM (by simp) (by simp) (by simp) (by simp))).tr hx.gx.frM
          refine x_iload eX9_locate_45 rfl ?_
          refine x_aload_n eX9_locate_47 rfl ?_
          refine s_geti eX9_locate_48 fX9_224 rfl (by decide) (by decide) ?_
          rw [show S1.1 0 16 = nI (xNp X) from t.1]
          refine x_icmp_geN eX9_locate_51 (by omega) (by omega) (fun c_51 => ?_) (fun c_51 => ?_)
          · refine x_iconst (v := -1) eX9_locate_104 (by decide) ?_
            have en := fst1_none (R := (fun q => xTh X q = true ∧ nI (xLy X q) = l ∧ (plc (vq X q) (xSz X q) (zc x, zc y)) ≠ -3)) (n := xNp X) (fun q hq => hno q (by omega))
            refine s_iret eX9_locate_105 rfl rfl ⟨by simp only [en], ?_, fr1⟩
            simp only [en]; exact g
          · omega
        | succ μ ih =>
          intro j hk S1 h1
          obtain ⟨hx, hno⟩ := h1
          have g1 := RM_0 (S' := setF S0 0 (upd (S0.1 0) 34 (-1))) (a := xWh X) (b := xSu X) (c := -1) g0 (fun f a b c => by rw [setF_at, upd_ne _ _ c]) rfl (by rw [setF_at, upd_ne _ _ (by decide)]; exact g0.2.2.1.1) (by rw [setF_at, upd_ne _ _ (by decide)]; exact g0.2.2.1.2.1) (by rw [setF_at, upd_at])
          have g := RM_G (wf_uS w _ _ _) g1 hx.gx
          have t := g.tab (wf_uS w _ _ _)
          have pts : mps S1 (xNc X) (dbl (PT (PX X) (zc x, zc y))) := (c0.fx (Fx.sF (fs := [0]) (is := []) (ls := []) (ds := []) (by simp)) (by simp) (by simp)).ox hx
          have fr1 : frM S S1 := (f0.tr ((Fx.sF (fs := [0]) (is := []) (ls := []) (ds := []) (by simp)).frM (by simp) (by simp) (by simp) (by simp))).tr hx.gx.frM
          refine x_iload eX9_locate_45 rfl ?_
          refine x_aload_n eX9_locate_47 rfl ?_
          refine s_geti eX9_locate_48 fX9_224 rfl (by decide) (by decide) ?_
          rw [show S1.1 0 16 = nI (xNp X) from t.1]
          refine x_icmp_geN eX9_locate_51 (by omega) (by omega) (fun c_51 => ?_) (fun c_51 => ?_)
          · omega
          · refine x_aload_n eX9_locate_54 rfl ?_
            refine s_getR (k := 12) eX9_locate_55 fX9_48 rfl (by decide) (by decide) rfl ?_
            refine x_iload eX9_locate_58 rfl ?_
            refine s_zald eX9_locate_60 rfl (by decide) rfl (show _ < 60 by omega) ?_
            rw [show S1.2.1 12 j = bI (xTh X j) from (t.2.2 j (by show j < xNp X; omega)).1]
            refine x_if_eqB eX9_locate_61 (fun c_61 => ?_) (fun c_61 => ?_)
            · refine x_iinc (lv' := [_, _, _]) eX9_locate_98 rfl (by first | exact nI_inc _ | exact rfl) (by decide) rfl ?_
              refine x_goto eX9_locate_101 ?_
              refine x_pick [0, 1, 2] rfl ?_
              refine ih (j + 1) (by omega) _ ⟨hx, fun q hq z => ?_⟩
              by_cases e : q = j
              · subst e
                first
                  | exact c_72 z.2.1
                  | (have z2 := z.1; rw [show xTh X q = false from c_61] at z2; exact absurd z2 (by decide))
                  | exact z.2.2 (ps.1.mpr (Int32.not_le.mpr c_84))
              · exact hno q (by omega) z
            · refine x_aload_n eX9_locate_64 rfl ?_
              refine s_getR (k := 13) eX9_locate_65 fX9_52 rfl (by decide) (by decide) rfl ?_
              refine x_iload eX9_locate_68 rfl ?_
              refine s_iald eX9_locate_70 rfl (by decide) rfl (show _ < 60 by omega) ?_
              rw [show S1.2.1 13 j = nI (xLy X j) from ((t.2.2 j (by show j < xNp X; omega)).2 c_61).1]
              refine x_iload_n eX9_locate_71 rfl ?_
              refine x_icmp_ne eX9_locate_72 (fun c_72 => ?_) (fun c_72 => ?_)
              · refine x_iinc (lv' := [_, _, _]) eX9_locate_98 rfl (by first | exact nI_inc _ | exact rfl) (by decide) rfl ?_
                refine x_goto eX9_locate_101 ?_
                refine x_pick [0, 1, 2] rfl ?_
                refine ih (j + 1) (by omega) _ ⟨hx, fun q hq z => ?_⟩
                by_cases e : q = j
                · subst e
                  first
                    | exact c_72 z.2.1
                    | (have z2 := z.1; rw [show xTh X q = false from c_61] at z2; exact absurd z2 (by decide))
                    | exact z.2.2 (ps.1.mpr (Int32.not_le.mpr c_84))
                · exact hno q (by omega) z
              · refine x_aload_n eX9_locate_75 rfl ?_
                refine x_iload eX9_locate_76 rfl ?_
                refine x_sipush (v := nI 200) eX9_locate_78 (by decide) ?_
                refine s_callV1 (As := [_, _]) eX9_locate_81 kX9_257 ⟨by decide, by decide⟩ rfl (by decide) (by decide) rfl rfl (Nat.le_of_ble_eq_true rfl) (Nat.le_of_ble_eq_true rfl) (sp_X9_lies _ pts (show mpr S1 j (xSz X j) (xRg X j) from ((t.2.2 j (by show j < xNp X; omega)).2 c_61).2.2) (good_c w c_61).2 (pts 200 (Or.inr rfl))) (fun S_81 h_81 => ?_)
                obtain ⟨ox, eo⟩ := h_81
                have hx := hx.tr ox
                have gg := RM_G (wf_uS w _ _ _) g ox.gx
                have fr1 := fr1.tr ox.gx.frM
                have ps := place_same (wf_good w c_61) (zc x, zc y)
                have ev : vr (dbl (PT (PX X) (zc x, zc y))) (xRg X j) (xSz X j) = vr (dbl (PX X)) (xRg X j) (xSz X j) := vr_PTd (good_c w c_61).1 (fun i hi => by have := (good_c w c_61).2 i hi; omega)
                rw [ev, show dbl (PT (PX X) (zc x, zc y)) 200 = scP 2 (zc x, zc y) from congrArg (scP 2) (PT_200 _ _)] at eo
                rw [ev, show dbl (PT (PX X) (zc x, zc y)) 200 = scP 2 (zc x, zc y) from congrArg (scP 2) (PT_200 _ _)]
                refine x_if_lt eX9_locate_84 (fun c_84 => ?_) (fun c_84 => ?_)
                · refine x_iinc (lv' := [_, _, _]) eX9_locate_98 rfl (by first | exact nI_inc _ | exact rfl) (by decide) rfl ?_
                  refine x_goto eX9_locate_101 ?_
                  refine x_pick [0, 1, 2] rfl ?_
                  refine ih (j + 1) (by omega) _ ⟨hx, fun q hq z => ?_⟩
                  by_cases e : q = j
                  · subst e
                    first
                      | exact c_72 z.2.1
                      | (have z2 := z.1; rw [show xTh X q = false from c_61] at z2; exact absurd z2 (by decide))
                      | exact z.2.2 (ps.1.mpr (Int32.not_le.mpr c_84))
                  · exact hno q (by omega) z
                · refine x_aload_n eX9_locate_87 rfl ?_
                  refine x_aload_n eX9_locate_88 rfl ?_
                  refine s_geti eX9_locate_89 fX9_238 rfl (by decide) (by decide) ?_
                  rw [eo]
                  refine s_puti eX9_locate_92 fX9_85 wX9_34 rfl (by decide) (by decide) ?_
                  refine x_iload eX9_locate_95 rfl ?_
                  have nr : plc (vq X j) (xSz X j) (zc x, zc y) ≠ -3 := fun z => ps.1.mp z (Int32.not_lt.mp c_84)
                  have es := fst1_some (R := (fun q => xTh X q = true ∧ nI (xLy X q) = l ∧ (plc (vq X q) (xSz X q) (zc x, zc y)) ≠ -3)) (n := xNp X) (k := j) (by omega) ⟨c_61, c_72, nr⟩ hno
                  refine s_iret eX9_locate_97 rfl rfl ⟨by simp only [es], ?_, fr1.tr ((Fx.sF (fs := [0]) (is := []) (ls := []) (ds := []) (by simp)).frM (by simp) (by simp) (by simp) (by simp))⟩
                  simp only [es]
                  refine RM_0 (X := uS X (xWh X) (xSu X) (-1)) (S' := setF S_81 0 _) (a := xWh X) (b := xSu X) gg (fun f a b c => by rw [setF_at, upd_ne _ _ c]) rfl (by rw [setF_at, upd_ne _ _ (by decide)]; exact gg.2.2.1.1) (by rw [setF_at, upd_ne _ _ (by decide)]; exact gg.2.2.1.2.1) ?_
                  rw [setF_at, upd_at]
                  exact (ps.2 nr).symm
      refine x_aload_n eX9_locate_37 rfl ?_
      refine x_iconst (v := -1) eX9_locate_38 (by decide) ?_
      refine s_puti eX9_locate_39 fX9_85 wX9_34 rfl (by decide) (by decide) ?_
      refine x_iconst (v := nI 0) eX9_locate_42 (by decide) ?_
      refine x_istore (lv' := [_, _, _, _, _]) eX9_locate_43 (by decide) rfl ?_
      refine x_pick [0, 1, 2] rfl ?_
      exact loop (xNp X) 0 (by omega) _ ⟨Ox.rf _, fun q hq => by omega⟩
    show XP _ _ [_, _, _, _] _ _ _
    refine x_iload_n eX9_locate_0 rfl ?_
    refine x_iconst (v := nI 0) eX9_locate_1 (by decide) ?_
    refine x_iconst (v := nI 3) eX9_locate_2 (by decide) ?_
    refine s_callS1 (As := [_, _, _]) eX9_locate_3 kX9_173 ⟨by decide, by decide⟩ rfl rfl (Nat.le_of_ble_eq_true rfl) (Nat.le_of_ble_eq_true rfl) (sp_X9_in _ _ _ _) (fun S_3 h_3 => ?_)
    have h_3 := h_3.symm
    subst h_3
    rw [in03]
    refine x_if_eqB eX9_locate_6 (fun c_6 => ?_) (fun c_6 => ?_)
    · exact absurd zl (of_decide_eq_false c_6)
    · refine x_lload_n eX9_locate_9 rfl ?_
      refine s_callS1 (As := [_]) eX9_locate_10 kX9_176 ⟨by decide, by decide⟩ rfl rfl (Nat.le_of_ble_eq_true rfl) (Nat.le_of_ble_eq_true rfl) (sp_X9_isNumber _ x) (fun S_10 h_10 => ?_)
      have h_10 := h_10.symm
      subst h_10
      refine x_if_eqB eX9_locate_13 (fun c_13 => ?_) (fun c_13 => ?_)
      · rw [nx] at c_13; exact absurd c_13 (by decide)
      · refine x_lload eX9_locate_16 rfl ?_
        refine s_callS1 (As := [_]) eX9_locate_18 kX9_176 ⟨by decide, by decide⟩ rfl rfl (Nat.le_of_ble_eq_true rfl) (Nat.le_of_ble_eq_true rfl) (sp_X9_isNumber _ y) (fun S_18 h_18 => ?_)
        have h_18 := h_18.symm
        subst h_18
        refine x_if_neB eX9_locate_21 (fun c_21 => ?_) (fun c_21 => ?_)
        · refine x_aload_n eX9_locate_27 rfl ?_
          refine x_sipush (v := nI 200) eX9_locate_28 (by decide) ?_
          refine x_lload_n eX9_locate_31 rfl ?_
          refine x_lload eX9_locate_32 rfl ?_
          refine s_callV0 (As := [_, _, _]) eX9_locate_34 kX9_180 ⟨by decide, by decide⟩ rfl (by decide) (by decide) rfl rfl (Nat.le_of_ble_eq_true rfl) (Nat.le_of_ble_eq_true rfl) (sp_X9_lay _ (slot := 200) (by decide) nx ny) (fun S_34 h_34 => ?_)
          exact key _ h_34
        · rw [ny] at c_21; exact absurd c_21 (by decide)
