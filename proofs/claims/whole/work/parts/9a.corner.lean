/-! ===== corner ===== -/
def uC (X : LM) (x y : Int64) : LM := ((xNc X + 1, (fun s => if s = xNc X then plainB x else xBx X s), fun s => if s = xNc X then plainB y else xBy X s), X.2)
theorem plain2 (x : Int64) : plainB (plainB x) = plainB x := by
  unfold plainB
  by_cases h : x &&& 9223372036854775807 = 0
  · rw [if_pos h]; rfl
  · rw [if_neg h, if_neg h]
theorem PX_uC {X : LM} {x y : Int64} {s : Nat} (h : s < xNc X) : PX (uC X x y) s = PX X s := by
  show (zc (if s = xNc X then plainB x else xBx X s), zc (if s = xNc X then plainB y else xBy X s)) = _
  rw [if_neg (by omega), if_neg (by omega)]; rfl
theorem PX_new (X : LM) (x y : Int64) : PX (uC X x y) (xNc X) = (zc x, zc y) := by
  show (zc (if xNc X = xNc X then plainB x else xBx X (xNc X)), zc (if xNc X = xNc X then plainB y else xBy X (xNc X))) = _
  rw [if_pos rfl, if_pos rfl, zc_plain, zc_plain]
theorem good_mono {nc nc' : Nat} {P P' : Nat → Pt} {n : Nat} {c : Nat → Nat} (g : good nc P n c) (h : nc ≤ nc') (e : ∀ s, s < nc → P' s = P s) : good nc' P' n c := by
  obtain ⟨a, b, d, f, k⟩ := g
  have v : vr P' c n = vr P c n := by
    funext i
    exact e _ (d _ (Nat.mod_lt _ (by omega)))
  exact ⟨a, b, fun i hi => by have := d i hi; omega, f, by rw [v]; exact k⟩
theorem wf_uC {X : LM} (w : wf X) (h : xNc X < 200) {x y : Int64} (hx : isNum x = true) (hy : isNum y = true) (no : ∀ s, s < xNc X → ¬ (xBx X s = plainB x ∧ xBy X s = plainB y)) : wf (uC X x y) := by
  obtain ⟨w1, w2, w3, w4, w5, w6, w7, w8⟩ := w
  have tm : ∀ {t : TB}, tabOk (xNc X) (PX X) t → tabOk (xNc X + 1) (PX (uC X x y)) t := fun {t} k q hq => ⟨(k q hq).1, good_mono (k q hq).2 (by omega) (fun s hs => PX_uC hs)⟩
  have bx : ∀ s, xBx (uC X x y) s = if s = xNc X then plainB x else xBx X s := fun s => rfl
  have bY : ∀ s, xBy (uC X x y) s = if s = xNc X then plainB y else xBy X s := fun s => rfl
  refine ⟨by show xNc X + 1 ≤ 200; omega, fun s hs => ?_, fun s t hs ht e1 e2 => ?_, ⟨w4.1, fun i hi => by have := w4.2 i hi; show xDr X i < xNc X + 1; omega⟩, ⟨w5.1, tm w5.2.1, w5.2.2⟩, fun q => ⟨tm (w6 q).1, (w6 q).2⟩, w7, fun k hk => by have := w8 k hk; show xHr X k < xNc X + 1; omega⟩
  · have hs : s < xNc X + 1 := hs
    rw [bx, bY]
    by_cases q : s = xNc X
    · rw [if_pos q, if_pos q]; exact ⟨⟨plainB_num hx, plain2 x⟩, plainB_num hy, plain2 y⟩
    · rw [if_neg q, if_neg q]; exact w2 s (by omega)
  · have hs : s < xNc X + 1 := hs
    have ht : t < xNc X + 1 := ht
    rw [bx, bx] at e1
    rw [bY, bY] at e2
    by_cases q1 : s = xNc X <;> by_cases q2 : t = xNc X
    · omega
    · rw [if_pos q1, if_neg q2] at e1 e2; exact absurd ⟨e1.symm, e2.symm⟩ (no t (by omega))
    · rw [if_neg q1, if_pos q2] at e1 e2; exact absurd ⟨e1, e2⟩ (no s (by omega))
    · rw [if_neg q1, if_neg q2] at e1 e2; exact w3 s t (by omega) (by omega) e1 e2
theorem RC_make {S S1 : xS} {X : LM} (h200 : xNc X < 200) (h : RC S X) {x y : Int64} (p : putP S (xNc X) x y S1) : RC (setF S1 32 (upd (S1.1 32) 4 (nI (xNc X + 1)))) (uC X x y) := by
  obtain ⟨e1, e2, e3, e4, e5, e6, e7⟩ := p
  obtain ⟨⟨p1, p2, T, p3⟩, d, ⟨w1, w2, w3⟩, ⟨n1, n2⟩, z, ⟨k1, k2⟩, h1, h2⟩ := h
  have f : ∀ q, q ≠ 32 → (setF S1 32 (upd (S1.1 32) 4 (nI (xNc X + 1)))).1 q = S.1 q := fun q hq => by rw [setF_ne _ _ hq, e1]
  have cg : ∀ {r n : Nat} {c : Nat → Nat}, crg S r n c → crg (setF S1 32 (upd (S1.1 32) 4 (nI (xNc X + 1)))) r n c := fun {r n c} g => ⟨g.1, g.2.1, by rw [f _ (by omega)]; exact g.2.2.1, fun i hi => by show S1.2.1 _ i = _ ∧ _; rw [e2]; exact g.2.2.2 i hi⟩
  have ec : ∀ {a e : Nat} {t : TB}, cent S a t e → cent (setF S1 32 (upd (S1.1 32) 4 (nI (xNc X + 1)))) a t e := fun {a e t} g => ⟨by rw [f _ (by omega)]; exact g.1, fun q => by have := g.2 q; rw [f _ (by omega)]; exact ⟨this.1, this.2.1, cg this.2.2⟩⟩
  have bx : ∀ s, xBx (uC X x y) s = if s = xNc X then plainB x else xBx X s := fun s => rfl
  have bY : ∀ s, xBy (uC X x y) s = if s = xNc X then plainB y else xBy X s := fun s => rfl
  refine ⟨⟨by rw [setF_at, upd_at]; rfl, fun s hs => ?_, T, e7 200 T (by omega) p3⟩, cg d, ⟨by rw [f _ (by decide)]; exact w1, by rw [f _ (by decide)]; exact w2, by rw [f _ (by decide)]; exact w3⟩, ⟨by rw [f _ (by decide)]; exact n1, fun e he => ec (n2 e he)⟩, fun a ha => by rw [f _ (by omega)]; exact z a ha, ⟨by rw [f _ (by decide)]; exact k1, fun q => ?_⟩, by rw [f _ (by decide)]; exact h1, fun k hk => by show S1.2.1 44 k = _; rw [e2]; exact h2 k hk⟩
  · have hs : s < xNc X + 1 := hs
    show S1.2.2.1 33 (2 * s) = _ ∧ S1.2.2.1 33 (2 * s + 1) = _ ∧ cpt S1 s _
    rw [e4, e4, bx, bY]
    by_cases q : s = xNc X
    · subst q
      rw [if_pos rfl, if_pos rfl, if_neg (by omega), if_pos rfl, if_pos rfl, PX_new]
      exact ⟨rfl, rfl, e6⟩
    · have := p2 s (by omega)
      rw [if_neg (show ¬ 2 * s = 2 * xNc X by omega), if_neg (show ¬ 2 * s = 2 * xNc X + 1 by omega), if_neg (show ¬ 2 * s + 1 = 2 * xNc X by omega), if_neg (show ¬ 2 * s + 1 = 2 * xNc X + 1 by omega), if_neg q, if_neg q, PX_uC (by omega)]
      exact ⟨this.1, this.2.1, e7 s _ q this.2.2⟩
  · obtain ⟨p, q2, a1, a2, a3, a4, a5, a6⟩ := k2 q
    exact ⟨p, q2, a1, by rw [f _ (by decide)]; exact a2, by rw [f _ (by decide)]; exact a3, ec a4, fun w => ec (a5 w), fun e x y w => ec (a6 e x y w)⟩
theorem RM_make {S S1 : xS} {X : LM} (h200 : xNc X < 200) (h : RM S X) {x y : Int64} (p : layP S (xNc X) x y S1) : RM (setF S1 0 (upd (S1.1 0) 4 (nI (xNc X + 1)))) (uC X x y) := by
  obtain ⟨e1, e2, e3, e4, e5, e6, e7, e8⟩ := p
  obtain ⟨⟨p1, p2, T, p3⟩, d, w1, n1, k1, h1⟩ := h
  have f : ∀ g, g ≠ 4 → (setF S1 0 (upd (S1.1 0) 4 (nI (xNc X + 1)))).1 0 g = S.1 0 g := fun g hg => by rw [setF_at, upd_ne _ _ hg, e1]
  have i2 : (setF S1 0 (upd (S1.1 0) 4 (nI (xNc X + 1)))).2.1 = S.2.1 := e2
  have em : ∀ {r q : Nat} {t : TB}, ment S r t q → ment (setF S1 0 (upd (S1.1 0) 4 (nI (xNc X + 1)))) r t q := fun {r q t} m => by unfold ment at m ⊢; rw [i2]; exact m
  have bx : ∀ s, xBx (uC X x y) s = if s = xNc X then plainB x else xBx X s := fun s => rfl
  have bY : ∀ s, xBy (uC X x y) s = if s = xNc X then plainB y else xBy X s := fun s => rfl
  refine ⟨⟨by rw [setF_at, upd_at]; rfl, fun s hs => ?_, T, e8 200 _ (by omega) p3⟩, by rw [f _ (by decide), i2]; exact d, by rw [f _ (by decide), f _ (by decide), f _ (by decide)]; exact w1, ⟨by rw [f _ (by decide)]; exact n1.1, fun e he => em (n1.2 e he)⟩, ⟨by rw [f _ (by decide)]; exact k1.1, by rw [i2]; exact k1.2.1, fun z e he => em (k1.2.2 z e he)⟩, by rw [f _ (by decide), i2]; exact h1⟩
  have hs : s < xNc X + 1 := hs
  show S1.2.2.1 1 s = _ ∧ S1.2.2.1 2 s = _ ∧ pt S1 s _
  rw [e5, e6, bx, bY]
  by_cases q : s = xNc X
  · subst q
    rw [if_pos rfl, if_pos rfl, if_pos rfl, if_pos rfl, PX_new]
    exact ⟨rfl, rfl, e7⟩
  · have := p2 s (by omega)
    rw [if_neg q, if_neg q, if_neg q, if_neg q, PX_uC (by omega)]
    exact ⟨this.1, this.2.1, e8 s _ q this.2.2⟩

theorem b_corner {X : LM} (w : wf X) (x y : Int64) : both X mX8_corner mX9_corner [.long x, .long y] := by
  have n200 := w.1
  by_cases nx : isNum x = true
  rotate_left
  · refine ⟨.int (-102), X, w, fun S h => ?_, fun S h => ?_⟩
    · show XP _ _ [_, _, _] _ _ _
      refine x_lload_n eX8_corner_0 rfl ?_
      refine s_callS1 (As := [_]) eX8_corner_1 kX8_69 ⟨by decide, by decide⟩ rfl rfl (Nat.le_of_ble_eq_true rfl) (Nat.le_of_ble_eq_true rfl) (sp_X8_isNumber _ x) (fun S_1 h_1 => ?_)
      have h_1 := h_1.symm
      subst h_1
      refine x_if_eqT eX8_corner_4 (fun c_4 => ?_) (fun c_4 => ?_)
      · refine x_bipush (v := -102) eX8_corner_14 (by decide) ?_
        exact s_iret eX8_corner_16 rfl rfl ⟨rfl, h, frC.rf _⟩
      · exact absurd c_4 nx
    · show XP _ _ [_, _, _] _ _ _
      refine x_lload_n eX9_corner_0 rfl ?_
      refine s_callS1 (As := [_]) eX9_corner_1 kX9_176 ⟨by decide, by decide⟩ rfl rfl (Nat.le_of_ble_eq_true rfl) (Nat.le_of_ble_eq_true rfl) (sp_X9_isNumber _ x) (fun S_1 h_1 => ?_)
      have h_1 := h_1.symm
      subst h_1
      refine x_if_eqB eX9_corner_4 (fun c_4 => ?_) (fun c_4 => ?_)
      · refine x_bipush (v := -102) eX9_corner_14 (by decide) ?_
        exact s_iret eX9_corner_16 rfl rfl ⟨rfl, h, frM.rf _⟩
      · exact absurd c_4 nx
  by_cases ny : isNum y = true
  rotate_left
  · refine ⟨.int (-102), X, w, fun S h => ?_, fun S h => ?_⟩
    · show XP _ _ [_, _, _] _ _ _
      refine x_lload_n eX8_corner_0 rfl ?_
      refine s_callS1 (As := [_]) eX8_corner_1 kX8_69 ⟨by decide, by decide⟩ rfl rfl (Nat.le_of_ble_eq_true rfl) (Nat.le_of_ble_eq_true rfl) (sp_X8_isNumber _ x) (fun S_1 h_1 => ?_)
      have h_1 := h_1.symm
      subst h_1
      refine x_if_eqT eX8_corner_4 (fun c_4 => ?_) (fun c_4 => ?_)
      · exact absurd nx c_4
      · refine x_lload_n eX8_corner_7 rfl ?_
        refine s_callS1 (As := [_]) eX8_corner_8 kX8_69 ⟨by decide, by decide⟩ rfl rfl (Nat.le_of_ble_eq_true rfl) (Nat.le_of_ble_eq_true rfl) (sp_X8_isNumber _ y) (fun S_8 h_8 => ?_)
        have h_8 := h_8.symm
        subst h_8
        refine x_if_neT eX8_corner_11 (fun c_11 => ?_) (fun c_11 => ?_)
        · exact absurd c_11 ny
        · refine x_bipush (v := -102) eX8_corner_14 (by decide) ?_
          exact s_iret eX8_corner_16 rfl rfl ⟨rfl, h, frC.rf _⟩
    · show XP _ _ [_, _, _] _ _ _
      refine x_lload_n eX9_corner_0 rfl ?_
      refine s_callS1 (As := [_]) eX9_corner_1 kX9_176 ⟨by decide, by decide⟩ rfl rfl (Nat.le_of_ble_eq_true rfl) (Nat.le_of_ble_eq_true rfl) (sp_X9_isNumber _ x) (fun S_1 h_1 => ?_)
      have h_1 := h_1.symm
      subst h_1
      refine x_if_eqB eX9_corner_4 (fun c_4 => ?_) (fun c_4 => ?_)
      · rw [nx] at c_4; exact absurd c_4 (by decide)
      · refine x_lload_n eX9_corner_7 rfl ?_
        refine s_callS1 (As := [_]) eX9_corner_8 kX9_176 ⟨by decide, by decide⟩ rfl rfl (Nat.le_of_ble_eq_true rfl) (Nat.le_of_ble_eq_true rfl) (sp_X9_isNumber _ y) (fun S_8 h_8 => ?_)
        have h_8 := h_8.symm
        subst h_8
        refine x_if_neB eX9_corner_11 (fun c_11 => ?_) (fun c_11 => ?_)
        · exact absurd c_11 ny
        · refine x_bipush (v := -102) eX9_corner_14 (by decide) ?_
          exact s_iret eX9_corner_16 rfl rfl ⟨rfl, h, frM.rf _⟩
  rcases fst1_cases (fun s => xBx X s = plainB x ∧ xBy X s = plainB y) (xNc X) with ⟨k, hk, rk, mk, ek⟩ | ⟨no, ek⟩
  · refine ⟨.int (nI k), X, w, fun S h => ?_, fun S h => ?_⟩
    · show XP _ _ [_, _, _] _ _ _
      refine x_lload_n eX8_corner_0 rfl ?_
      refine s_callS1 (As := [_]) eX8_corner_1 kX8_69 ⟨by decide, by decide⟩ rfl rfl (Nat.le_of_ble_eq_true rfl) (Nat.le_of_ble_eq_true rfl) (sp_X8_isNumber _ x) (fun S_1 h_1 => ?_)
      have h_1 := h_1.symm
      subst h_1
      refine x_if_eqT eX8_corner_4 (fun c_4 => ?_) (fun c_4 => ?_)
      · exact absurd nx c_4
      · refine x_lload_n eX8_corner_7 rfl ?_
        refine s_callS1 (As := [_]) eX8_corner_8 kX8_69 ⟨by decide, by decide⟩ rfl rfl (Nat.le_of_ble_eq_true rfl) (Nat.le_of_ble_eq_true rfl) (sp_X8_isNumber _ y) (fun S_8 h_8 => ?_)
        have h_8 := h_8.symm
        subst h_8
        refine x_if_neT eX8_corner_11 (fun c_11 => ?_) (fun c_11 => ?_)
        · refine x_aload_n eX8_corner_17 rfl ?_
          refine s_getR (k := 32) eX8_corner_18 fX8_12 rfl (by decide) (by decide) rfl ?_
          refine x_sipush (v := nI 200) eX8_corner_21 (by decide) ?_
          refine x_lload_n eX8_corner_24 rfl ?_
          refine x_lload_n eX8_corner_25 rfl ?_
          refine s_callV0 (As := [_, _, _]) eX8_corner_26 kX8_73 ⟨by decide, by decide⟩ rfl (by decide) (by decide) rfl rfl (Nat.le_of_ble_eq_true rfl) (Nat.le_of_ble_eq_true rfl) (sp_X2_put _ (slot := 200) (by decide) nx ny) (fun S_26 h_26 => ?_)
          have g := RC_put w h h_26
          have f0 := putP_fr h_26
          refine x_aload_n eX8_corner_29 rfl ?_
          refine s_getR (k := 32) eX8_corner_30 fX8_12 rfl (by decide) (by decide) rfl ?_
          refine s_callV1 (As := []) eX8_corner_33 kX8_77 ⟨by decide, by decide⟩ rfl (by decide) (by decide) rfl rfl (Nat.le_of_ble_eq_true rfl) (Nat.le_of_ble_eq_true rfl) (sp_X2_sameAsLoose S_26 g.1.1 n200) (fun S_33 h_33 => ?_)
          have h_33 := h_33.symm
          subst h_33
          have er : fst1 (fun k => S_26.2.2.1 33 (2 * k) = S_26.2.2.1 33 400 ∧ S_26.2.2.1 33 (2 * k + 1) = S_26.2.2.1 33 401) (xNc X) = fst1 (fun s => xBx X s = plainB x ∧ xBy X s = plainB y) (xNc X) := fst1_congr (fun s hs => by
            have e1 := h_26.2.2.2.1 400
            have e2 := h_26.2.2.2.1 401
            rw [if_pos (by omega)] at e1
            rw [if_neg (by omega), if_pos (by omega)] at e2
            rw [e1, e2, (g.1.2.1 s hs).1, (g.1.2.1 s hs).2.1])
          rw [er, ek]
          refine x_istore (lv' := [_, _, _, _]) eX8_corner_36 (by decide) rfl ?_
          refine x_iload eX8_corner_38 rfl ?_
          refine x_iconst (v := -1) eX8_corner_40 (by decide) ?_
          refine x_icmp_eq eX8_corner_41 (fun c_41 => ?_) (fun c_41 => ?_)
          · exact absurd c_41 (nI_ne_m1 (by omega))
          · refine x_iload eX8_corner_44 rfl ?_
            exact s_iret eX8_corner_46 rfl rfl ⟨rfl, g, f0⟩
        · exact absurd ny c_11
    · have loop : ∀ μ j, j + μ = (xNc X) → ∀ S1, (S1 = S ∧ ∀ s, s < j → ¬ (fun s => xBx X s = plainB x ∧ xBy X s = plainB y) s) → XP mX9_corner 20 [(5, .int (nI j)), (0, .ref 0), (1, .long x), (3, .long y)] [] (xwS S1) (sQ (fun r S' => r = some (.int (nI k)) ∧ RM S' X ∧ frM S S')) := by
        intro μ
        induction μ with
        | zero =>
          intro j hk S1 h1
          obtain ⟨e1, hno⟩ := h1
          have e1 := e1.symm
          subst e1
          refine x_iload eX9_corner_20 rfl ?_
          refine x_aload_n eX9_corner_22 rfl ?_
          refine s_geti eX9_corner_23 fX9_170 rfl (by decide) (by decide) ?_
          rw [h.1.1]
          refine x_icmp_geN eX9_corner_26 (by omega) (by omega) (fun c_26 => ?_) (fun c_26 => ?_)
          · refine x_aload_n eX9_corner_68 rfl ?_
            refine s_geti eX9_corner_69 fX9_170 rfl (by decide) (by decide) ?_
            rw [h.1.1]
            refine x_sipush (v := nI 200) eX9_corner_72 (by decide) ?_
            refine x_icmp_neN eX9_corner_75 (by omega) (by omega) (fun c_75 => ?_) (fun c_75 => ?_)
            · exact absurd rk (hno k (by omega))
            · refine x_bipush (v := -104) eX9_corner_78 (by decide) ?_
              exact absurd rk (hno k (by omega))
          · omega
        | succ μ ih =>
          intro j hk S1 h1
          obtain ⟨e1, hno⟩ := h1
          have e1 := e1.symm
          subst e1
          refine x_iload eX9_corner_20 rfl ?_
          refine x_aload_n eX9_corner_22 rfl ?_
          refine s_geti eX9_corner_23 fX9_170 rfl (by decide) (by decide) ?_
          rw [h.1.1]
          refine x_icmp_geN eX9_corner_26 (by omega) (by omega) (fun c_26 => ?_) (fun c_26 => ?_)
          · omega
          · refine x_aload_n eX9_corner_29 rfl ?_
            refine s_getR (k := 1) eX9_corner_30 fX9_7 rfl (by decide) (by decide) rfl ?_
            refine x_iload eX9_corner_33 rfl ?_
            refine s_lald eX9_corner_35 rfl (by decide) rfl (show _ < 202 by omega) ?_
            rw [(h.1.2.1 j (by omega)).1]
            refine x_lload_n eX9_corner_36 rfl ?_
            refine s_callS1 (As := [_]) eX9_corner_37 kX9_132 ⟨by decide, by decide⟩ rfl rfl (Nat.le_of_ble_eq_true rfl) (Nat.le_of_ble_eq_true rfl) (sp_X9_plain _ _) (fun S_37 h_37 => ?_)
            have h_37 := h_37.symm
            subst h_37
            refine x_lcmp eX9_corner_40 ?_
            refine x_if_neL eX9_corner_41 (fun c_41 => ?_) (fun c_41 => ?_)
            · refine x_iinc (lv' := [_, _, _, _]) eX9_corner_62 rfl (by first | exact nI_inc _ | exact rfl) (by decide) rfl ?_
              refine x_goto eX9_corner_65 ?_
              refine x_pick [0, 1, 2, 3] rfl ?_
              refine ih (j + 1) (by omega) _ ⟨rfl, fun s hs z => ?_⟩
              by_cases e : s = j
              · subst e
                first
                  | exact c_41 z.1
                  | exact c_56 z.2
              · exact hno s (by omega) z
            · refine x_aload_n eX9_corner_44 rfl ?_
              refine s_getR (k := 2) eX9_corner_45 fX9_13 rfl (by decide) (by decide) rfl ?_
              refine x_iload eX9_corner_48 rfl ?_
              refine s_lald eX9_corner_50 rfl (by decide) rfl (show _ < 202 by omega) ?_
              rw [(h.1.2.1 j (by omega)).2.1]
              refine x_lload_n eX9_corner_51 rfl ?_
              refine s_callS1 (As := [_]) eX9_corner_52 kX9_132 ⟨by decide, by decide⟩ rfl rfl (Nat.le_of_ble_eq_true rfl) (Nat.le_of_ble_eq_true rfl) (sp_X9_plain _ _) (fun S_52 h_52 => ?_)
              have h_52 := h_52.symm
              subst h_52
              refine x_lcmp eX9_corner_55 ?_
              refine x_if_neL eX9_corner_56 (fun c_56 => ?_) (fun c_56 => ?_)
              · refine x_iinc (lv' := [_, _, _, _]) eX9_corner_62 rfl (by first | exact nI_inc _ | exact rfl) (by decide) rfl ?_
                refine x_goto eX9_corner_65 ?_
                refine x_pick [0, 1, 2, 3] rfl ?_
                refine ih (j + 1) (by omega) _ ⟨rfl, fun s hs z => ?_⟩
                by_cases e : s = j
                · subst e
                  first
                    | exact c_41 z.1
                    | exact c_56 z.2
                · exact hno s (by omega) z
              · refine x_iload eX9_corner_59 rfl ?_
                have ej : j = k := by
                  rcases Nat.lt_trichotomy j k with q | q | q
                  · exact absurd ⟨c_41, c_56⟩ (mk j q)
                  · exact q
                  · exact absurd rk (hno k q)
                subst ej
                exact s_iret eX9_corner_61 rfl rfl ⟨rfl, h, frM.rf _⟩
      show XP _ _ [_, _, _] _ _ _
      refine x_lload_n eX9_corner_0 rfl ?_
      refine s_callS1 (As := [_]) eX9_corner_1 kX9_176 ⟨by decide, by decide⟩ rfl rfl (Nat.le_of_ble_eq_true rfl) (Nat.le_of_ble_eq_true rfl) (sp_X9_isNumber _ x) (fun S_1 h_1 => ?_)
      have h_1 := h_1.symm
      subst h_1
      refine x_if_eqB eX9_corner_4 (fun c_4 => ?_) (fun c_4 => ?_)
      · rw [nx] at c_4; exact absurd c_4 (by decide)
      · refine x_lload_n eX9_corner_7 rfl ?_
        refine s_callS1 (As := [_]) eX9_corner_8 kX9_176 ⟨by decide, by decide⟩ rfl rfl (Nat.le_of_ble_eq_true rfl) (Nat.le_of_ble_eq_true rfl) (sp_X9_isNumber _ y) (fun S_8 h_8 => ?_)
        have h_8 := h_8.symm
        subst h_8
        refine x_if_neB eX9_corner_11 (fun c_11 => ?_) (fun c_11 => ?_)
        · refine x_iconst (v := nI 0) eX9_corner_17 (by decide) ?_
          refine x_istore (lv' := [_, _, _, _]) eX9_corner_18 (by decide) rfl ?_
          refine x_pick [0, 1, 2, 3] rfl ?_
          exact loop (xNc X) 0 (by omega) _ ⟨rfl, fun s hs => by omega⟩
        · rw [ny] at c_11; exact absurd c_11 (by decide)
  · by_cases full : xNc X = 200
    · refine ⟨.int (-104), X, w, fun S h => ?_, fun S h => ?_⟩
      · show XP _ _ [_, _, _] _ _ _
        refine x_lload_n eX8_corner_0 rfl ?_
        refine s_callS1 (As := [_]) eX8_corner_1 kX8_69 ⟨by decide, by decide⟩ rfl rfl (Nat.le_of_ble_eq_true rfl) (Nat.le_of_ble_eq_true rfl) (sp_X8_isNumber _ x) (fun S_1 h_1 => ?_)
        have h_1 := h_1.symm
        subst h_1
        refine x_if_eqT eX8_corner_4 (fun c_4 => ?_) (fun c_4 => ?_)
        · exact absurd nx c_4
        · refine x_lload_n eX8_corner_7 rfl ?_
          refine s_callS1 (As := [_]) eX8_corner_8 kX8_69 ⟨by decide, by decide⟩ rfl rfl (Nat.le_of_ble_eq_true rfl) (Nat.le_of_ble_eq_true rfl) (sp_X8_isNumber _ y) (fun S_8 h_8 => ?_)
          have h_8 := h_8.symm
          subst h_8
          refine x_if_neT eX8_corner_11 (fun c_11 => ?_) (fun c_11 => ?_)
          · refine x_aload_n eX8_corner_17 rfl ?_
            refine s_getR (k := 32) eX8_corner_18 fX8_12 rfl (by decide) (by decide) rfl ?_
            refine x_sipush (v := nI 200) eX8_corner_21 (by decide) ?_
            refine x_lload_n eX8_corner_24 rfl ?_
            refine x_lload_n eX8_corner_25 rfl ?_
            refine s_callV0 (As := [_, _, _]) eX8_corner_26 kX8_73 ⟨by decide, by decide⟩ rfl (by decide) (by decide) rfl rfl (Nat.le_of_ble_eq_true rfl) (Nat.le_of_ble_eq_true rfl) (sp_X2_put _ (slot := 200) (by decide) nx ny) (fun S_26 h_26 => ?_)
            have g := RC_put w h h_26
            have f0 := putP_fr h_26
            refine x_aload_n eX8_corner_29 rfl ?_
            refine s_getR (k := 32) eX8_corner_30 fX8_12 rfl (by decide) (by decide) rfl ?_
            refine s_callV1 (As := []) eX8_corner_33 kX8_77 ⟨by decide, by decide⟩ rfl (by decide) (by decide) rfl rfl (Nat.le_of_ble_eq_true rfl) (Nat.le_of_ble_eq_true rfl) (sp_X2_sameAsLoose S_26 g.1.1 n200) (fun S_33 h_33 => ?_)
            have h_33 := h_33.symm
            subst h_33
            have er : fst1 (fun k => S_26.2.2.1 33 (2 * k) = S_26.2.2.1 33 400 ∧ S_26.2.2.1 33 (2 * k + 1) = S_26.2.2.1 33 401) (xNc X) = fst1 (fun s => xBx X s = plainB x ∧ xBy X s = plainB y) (xNc X) := fst1_congr (fun s hs => by
              have e1 := h_26.2.2.2.1 400
              have e2 := h_26.2.2.2.1 401
              rw [if_pos (by omega)] at e1
              rw [if_neg (by omega), if_pos (by omega)] at e2
              rw [e1, e2, (g.1.2.1 s hs).1, (g.1.2.1 s hs).2.1])
            rw [er, ek]
            refine x_istore (lv' := [_, _, _, _]) eX8_corner_36 (by decide) rfl ?_
            refine x_iload eX8_corner_38 rfl ?_
            refine x_iconst (v := -1) eX8_corner_40 (by decide) ?_
            refine x_icmp_eq eX8_corner_41 (fun c_41 => ?_) (fun c_41 => ?_)
            · refine x_aload_n eX8_corner_47 rfl ?_
              refine s_getR (k := 32) eX8_corner_48 fX8_12 rfl (by decide) (by decide) rfl ?_
              refine s_geti eX8_corner_51 fX8_81 rfl (by decide) (by decide) ?_
              rw [g.1.1]
              refine x_sipush (v := nI 200) eX8_corner_54 (by decide) ?_
              refine x_icmp_geN eX8_corner_57 (by omega) (by omega) (fun c_57 => ?_) (fun c_57 => ?_)
              · refine x_bipush (v := -104) eX8_corner_72 (by decide) ?_
                exact s_iret eX8_corner_74 rfl rfl ⟨rfl, g, f0⟩
              · omega
            · exact absurd rfl c_41
          · exact absurd ny c_11
      · have loop : ∀ μ j, j + μ = (xNc X) → ∀ S1, (S1 = S ∧ ∀ s, s < j → ¬ (fun s => xBx X s = plainB x ∧ xBy X s = plainB y) s) → XP mX9_corner 20 [(5, .int (nI j)), (0, .ref 0), (1, .long x), (3, .long y)] [] (xwS S1) (sQ (fun r S' => r = some (.int (-104)) ∧ RM S' X ∧ frM S S')) := by
          intro μ
          induction μ with
          | zero =>
            intro j hk S1 h1
            obtain ⟨e1, hno⟩ := h1
            have e1 := e1.symm
            subst e1
            refine x_iload eX9_corner_20 rfl ?_
            refine x_aload_n eX9_corner_22 rfl ?_
            refine s_geti eX9_corner_23 fX9_170 rfl (by decide) (by decide) ?_
            rw [h.1.1]
            refine x_icmp_geN eX9_corner_26 (by omega) (by omega) (fun c_26 => ?_) (fun c_26 => ?_)
            · refine x_aload_n eX9_corner_68 rfl ?_
              refine s_geti eX9_corner_69 fX9_170 rfl (by decide) (by decide) ?_
              rw [h.1.1]
              refine x_sipush (v := nI 200) eX9_corner_72 (by decide) ?_
              refine x_icmp_neN eX9_corner_75 (by omega) (by omega) (fun c_75 => ?_) (fun c_75 => ?_)
              · omega
              · refine x_bipush (v := -104) eX9_corner_78 (by decide) ?_
                exact s_iret eX9_corner_80 rfl rfl ⟨rfl, h, frM.rf _⟩
            · omega
          | succ μ ih =>
            intro j hk S1 h1
            obtain ⟨e1, hno⟩ := h1
            have e1 := e1.symm
            subst e1
            refine x_iload eX9_corner_20 rfl ?_
            refine x_aload_n eX9_corner_22 rfl ?_
            refine s_geti eX9_corner_23 fX9_170 rfl (by decide) (by decide) ?_
            rw [h.1.1]
            refine x_icmp_geN eX9_corner_26 (by omega) (by omega) (fun c_26 => ?_) (fun c_26 => ?_)
            · omega
            · refine x_aload_n eX9_corner_29 rfl ?_
              refine s_getR (k := 1) eX9_corner_30 fX9_7 rfl (by decide) (by decide) rfl ?_
              refine x_iload eX9_corner_33 rfl ?_
              refine s_lald eX9_corner_35 rfl (by decide) rfl (show _ < 202 by omega) ?_
              rw [(h.1.2.1 j (by omega)).1]
              refine x_lload_n eX9_corner_36 rfl ?_
              refine s_callS1 (As := [_]) eX9_corner_37 kX9_132 ⟨by decide, by decide⟩ rfl rfl (Nat.le_of_ble_eq_true rfl) (Nat.le_of_ble_eq_true rfl) (sp_X9_plain _ _) (fun S_37 h_37 => ?_)
              have h_37 := h_37.symm
              subst h_37
              refine x_lcmp eX9_corner_40 ?_
              refine x_if_neL eX9_corner_41 (fun c_41 => ?_) (fun c_41 => ?_)
              · refine x_iinc (lv' := [_, _, _, _]) eX9_corner_62 rfl (by first | exact nI_inc _ | exact rfl) (by decide) rfl ?_
                refine x_goto eX9_corner_65 ?_
                refine x_pick [0, 1, 2, 3] rfl ?_
                refine ih (j + 1) (by omega) _ ⟨rfl, fun s hs z => ?_⟩
                by_cases e : s = j
                · subst e
                  first
                    | exact c_41 z.1
                    | exact c_56 z.2
                · exact hno s (by omega) z
              · refine x_aload_n eX9_corner_44 rfl ?_
                refine s_getR (k := 2) eX9_corner_45 fX9_13 rfl (by decide) (by decide) rfl ?_
                refine x_iload eX9_corner_48 rfl ?_
                refine s_lald eX9_corner_50 rfl (by decide) rfl (show _ < 202 by omega) ?_
                rw [(h.1.2.1 j (by omega)).2.1]
                refine x_lload_n eX9_corner_51 rfl ?_
                refine s_callS1 (As := [_]) eX9_corner_52 kX9_132 ⟨by decide, by decide⟩ rfl rfl (Nat.le_of_ble_eq_true rfl) (Nat.le_of_ble_eq_true rfl) (sp_X9_plain _ _) (fun S_52 h_52 => ?_)
                have h_52 := h_52.symm
                subst h_52
                refine x_lcmp eX9_corner_55 ?_
                refine x_if_neL eX9_corner_56 (fun c_56 => ?_) (fun c_56 => ?_)
                · refine x_iinc (lv' := [_, _, _, _]) eX9_corner_62 rfl (by first | exact nI_inc _ | exact rfl) (by decide) rfl ?_
                  refine x_goto eX9_corner_65 ?_
                  refine x_pick [0, 1, 2, 3] rfl ?_
                  refine ih (j + 1) (by omega) _ ⟨rfl, fun s hs z => ?_⟩
                  by_cases e : s = j
                  · subst e
                    first
                      | exact c_41 z.1
                      | exact c_56 z.2
                  · exact hno s (by omega) z
                · refine x_iload eX9_corner_59 rfl ?_
                  exact absurd ⟨c_41, c_56⟩ (no j (by omega))
        show XP _ _ [_, _, _] _ _ _
        refine x_lload_n eX9_corner_0 rfl ?_
        refine s_callS1 (As := [_]) eX9_corner_1 kX9_176 ⟨by decide, by decide⟩ rfl rfl (Nat.le_of_ble_eq_true rfl) (Nat.le_of_ble_eq_true rfl) (sp_X9_isNumber _ x) (fun S_1 h_1 => ?_)
        have h_1 := h_1.symm
        subst h_1
        refine x_if_eqB eX9_corner_4 (fun c_4 => ?_) (fun c_4 => ?_)
        · rw [nx] at c_4; exact absurd c_4 (by decide)
        · refine x_lload_n eX9_corner_7 rfl ?_
          refine s_callS1 (As := [_]) eX9_corner_8 kX9_176 ⟨by decide, by decide⟩ rfl rfl (Nat.le_of_ble_eq_true rfl) (Nat.le_of_ble_eq_true rfl) (sp_X9_isNumber _ y) (fun S_8 h_8 => ?_)
          have h_8 := h_8.symm
          subst h_8
          refine x_if_neB eX9_corner_11 (fun c_11 => ?_) (fun c_11 => ?_)
          · refine x_iconst (v := nI 0) eX9_corner_17 (by decide) ?_
            refine x_istore (lv' := [_, _, _, _]) eX9_corner_18 (by decide) rfl ?_
            refine x_pick [0, 1, 2, 3] rfl ?_
            exact loop (xNc X) 0 (by omega) _ ⟨rfl, fun s hs => by omega⟩
          · rw [ny] at c_11; exact absurd c_11 (by decide)
    · refine ⟨.int (nI (xNc X)), uC X x y, wf_uC w (by omega) nx ny no, fun S h => ?_, fun S h => ?_⟩
      · show XP _ _ [_, _, _] _ _ _
        refine x_lload_n eX8_corner_0 rfl ?_
        refine s_callS1 (As := [_]) eX8_corner_1 kX8_69 ⟨by decide, by decide⟩ rfl rfl (Nat.le_of_ble_eq_true rfl) (Nat.le_of_ble_eq_true rfl) (sp_X8_isNumber _ x) (fun S_1 h_1 => ?_)
        have h_1 := h_1.symm
        subst h_1
        refine x_if_eqT eX8_corner_4 (fun c_4 => ?_) (fun c_4 => ?_)
        · exact absurd nx c_4
        · refine x_lload_n eX8_corner_7 rfl ?_
          refine s_callS1 (As := [_]) eX8_corner_8 kX8_69 ⟨by decide, by decide⟩ rfl rfl (Nat.le_of_ble_eq_true rfl) (Nat.le_of_ble_eq_true rfl) (sp_X8_isNumber _ y) (fun S_8 h_8 => ?_)
          have h_8 := h_8.symm
          subst h_8
          refine x_if_neT eX8_corner_11 (fun c_11 => ?_) (fun c_11 => ?_)
          · refine x_aload_n eX8_corner_17 rfl ?_
            refine s_getR (k := 32) eX8_corner_18 fX8_12 rfl (by decide) (by decide) rfl ?_
            refine x_sipush (v := nI 200) eX8_corner_21 (by decide) ?_
            refine x_lload_n eX8_corner_24 rfl ?_
            refine x_lload_n eX8_corner_25 rfl ?_
            refine s_callV0 (As := [_, _, _]) eX8_corner_26 kX8_73 ⟨by decide, by decide⟩ rfl (by decide) (by decide) rfl rfl (Nat.le_of_ble_eq_true rfl) (Nat.le_of_ble_eq_true rfl) (sp_X2_put _ (slot := 200) (by decide) nx ny) (fun S_26 h_26 => ?_)
            have g := RC_put w h h_26
            have f0 := putP_fr h_26
            refine x_aload_n eX8_corner_29 rfl ?_
            refine s_getR (k := 32) eX8_corner_30 fX8_12 rfl (by decide) (by decide) rfl ?_
            refine s_callV1 (As := []) eX8_corner_33 kX8_77 ⟨by decide, by decide⟩ rfl (by decide) (by decide) rfl rfl (Nat.le_of_ble_eq_true rfl) (Nat.le_of_ble_eq_true rfl) (sp_X2_sameAsLoose S_26 g.1.1 n200) (fun S_33 h_33 => ?_)
            have h_33 := h_33.symm
            subst h_33
            have er : fst1 (fun k => S_26.2.2.1 33 (2 * k) = S_26.2.2.1 33 400 ∧ S_26.2.2.1 33 (2 * k + 1) = S_26.2.2.1 33 401) (xNc X) = fst1 (fun s => xBx X s = plainB x ∧ xBy X s = plainB y) (xNc X) := fst1_congr (fun s hs => by
              have e1 := h_26.2.2.2.1 400
              have e2 := h_26.2.2.2.1 401
              rw [if_pos (by omega)] at e1
              rw [if_neg (by omega), if_pos (by omega)] at e2
              rw [e1, e2, (g.1.2.1 s hs).1, (g.1.2.1 s hs).2.1])
            rw [er, ek]
            refine x_istore (lv' := [_, _, _, _]) eX8_corner_36 (by decide) rfl ?_
            refine x_iload eX8_corner_38 rfl ?_
            refine x_iconst (v := -1) eX8_corner_40 (by decide) ?_
            refine x_icmp_eq eX8_corner_41 (fun c_41 => ?_) (fun c_41 => ?_)
            · refine x_aload_n eX8_corner_47 rfl ?_
              refine s_getR (k := 32) eX8_corner_48 fX8_12 rfl (by decide) (by decide) rfl ?_
              refine s_geti eX8_corner_51 fX8_81 rfl (by decide) (by decide) ?_
              rw [g.1.1]
              refine x_sipush (v := nI 200) eX8_corner_54 (by decide) ?_
              refine x_icmp_geN eX8_corner_57 (by omega) (by omega) (fun c_57 => ?_) (fun c_57 => ?_)
              · omega
              · refine x_aload_n eX8_corner_60 rfl ?_
                refine s_getR (k := 32) eX8_corner_61 fX8_12 rfl (by decide) (by decide) rfl ?_
                refine x_lload_n eX8_corner_64 rfl ?_
                refine x_lload_n eX8_corner_65 rfl ?_
                refine s_callV1 (As := [_, _]) eX8_corner_66 kX8_84 ⟨by decide, by decide⟩ rfl (by decide) (by decide) rfl rfl (Nat.le_of_ble_eq_true rfl) (Nat.le_of_ble_eq_true rfl) (sp_X2_make _ g.1.1 (by omega) nx ny) (fun S_66 h_66 => ?_)
                obtain ⟨S2, p2, rfl⟩ := h_66
                refine x_goto eX8_corner_69 ?_
                exact s_iret eX8_corner_74 rfl rfl ⟨rfl, RC_make (by omega) g p2, (f0.tr (putP_fr p2)).tr ((Fx.sF (fs := [32]) (is := []) (ls := []) (ds := []) (by simp)).frC (by simp) (by simp) (by simp))⟩
            · exact absurd rfl c_41
          · exact absurd ny c_11
      · have fin : XP mX9_corner 81 [(5, .int (nI (xNc X))), (0, .ref 0), (1, .long x), (3, .long y)] [] (xwS S) (sQ (fun r S' => r = some (.int (nI (xNc X))) ∧ RM S' (uC X x y) ∧ frM S S')) := by
          refine x_aload_n eX9_corner_81 rfl ?_
          refine x_aload_n eX9_corner_82 rfl ?_
          refine s_geti eX9_corner_83 fX9_170 rfl (by decide) (by decide) ?_
          rw [h.1.1]
          refine x_lload_n eX9_corner_86 rfl ?_
          refine x_lload_n eX9_corner_87 rfl ?_
          refine s_callV0 (As := [_, _, _]) eX9_corner_88 kX9_180 ⟨by decide, by decide⟩ rfl (by decide) (by decide) rfl rfl (Nat.le_of_ble_eq_true rfl) (Nat.le_of_ble_eq_true rfl) (sp_X9_lay _ (by omega) nx ny) (fun S_88 h_88 => ?_)
          have e4 : S_88.1 0 4 = nI (xNc X) := by rw [h_88.1]; exact h.1.1
          refine x_aload_n eX9_corner_91 rfl ?_
          refine x_dup eX9_corner_92 rfl ?_
          refine s_geti eX9_corner_93 fX9_170 rfl (by decide) (by decide) ?_
          rw [e4]
          refine x_iconst (v := nI 1) eX9_corner_96 (by decide) ?_
          first | refine x_iaddN eX9_corner_97 ?_ | refine x_iadd eX9_corner_97 ?_
          refine s_puti eX9_corner_98 fX9_170 wX9_4 rfl (by decide) (by decide) ?_
          refine x_aload_n eX9_corner_101 rfl ?_
          refine s_geti eX9_corner_102 fX9_170 rfl (by decide) (by decide) ?_
          rw [setF_at, upd_at]
          refine x_iconst (v := nI 1) eX9_corner_105 (by decide) ?_
          first | refine x_isubN eX9_corner_106 (by omega) ?_ | refine x_isub eX9_corner_106 ?_
          rw [show xNc X + 1 - 1 = xNc X by omega]
          exact s_iret eX9_corner_107 rfl rfl ⟨rfl, RM_make (by omega) h h_88, (layP_fr h_88).tr ((Fx.sF (fs := [0]) (is := []) (ls := []) (ds := []) (by simp)).frM (by simp) (by simp) (by simp) (by simp))⟩
        have loop : ∀ μ j, j + μ = (xNc X) → ∀ S1, (S1 = S ∧ ∀ s, s < j → ¬ (fun s => xBx X s = plainB x ∧ xBy X s = plainB y) s) → XP mX9_corner 20 [(5, .int (nI j)), (0, .ref 0), (1, .long x), (3, .long y)] [] (xwS S1) (sQ (fun r S' => r = some (.int (nI (xNc X))) ∧ RM S' (uC X x y) ∧ frM S S')) := by
          intro μ
          induction μ with
          | zero =>
            intro j hk S1 h1
            obtain ⟨e1, hno⟩ := h1
            have e1 := e1.symm
            subst e1
            refine x_iload eX9_corner_20 rfl ?_
            refine x_aload_n eX9_corner_22 rfl ?_
            refine s_geti eX9_corner_23 fX9_170 rfl (by decide) (by decide) ?_
            rw [h.1.1]
            refine x_icmp_geN eX9_corner_26 (by omega) (by omega) (fun c_26 => ?_) (fun c_26 => ?_)
            · refine x_aload_n eX9_corner_68 rfl ?_
              refine s_geti eX9_corner_69 fX9_170 rfl (by decide) (by decide) ?_
              rw [h.1.1]
              refine x_sipush (v := nI 200) eX9_corner_72 (by decide) ?_
              refine x_icmp_neN eX9_corner_75 (by omega) (by omega) (fun c_75 => ?_) (fun c_75 => ?_)
              · rw [show j = xNc X by omega]; exact fin
              · refine x_bipush (v := -104) eX9_corner_78 (by decide) ?_
                omega
            · omega
          | succ μ ih =>
            intro j hk S1 h1
            obtain ⟨e1, hno⟩ := h1
            have e1 := e1.symm
            subst e1
            refine x_iload eX9_corner_20 rfl ?_
            refine x_aload_n eX9_corner_22 rfl ?_
            refine s_geti eX9_corner_23 fX9_170 rfl (by decide) (by decide) ?_
            rw [h.1.1]
            refine x_icmp_geN eX9_corner_26 (by omega) (by omega) (fun c_26 => ?_) (fun c_26 => ?_)
            · omega
            · refine x_aload_n eX9_corner_29 rfl ?_
              refine s_getR (k := 1) eX9_corner_30 fX9_7 rfl (by decide) (by decide) rfl ?_
              refine x_iload eX9_corner_33 rfl ?_
              refine s_lald eX9_corner_35 rfl (by decide) rfl (show _ < 202 by omega) ?_
              rw [(h.1.2.1 j (by omega)).1]
              refine x_lload_n eX9_corner_36 rfl ?_
              refine s_callS1 (As := [_]) eX9_corner_37 kX9_132 ⟨by decide, by decide⟩ rfl rfl (Nat.le_of_ble_eq_true rfl) (Nat.le_of_ble_eq_true rfl) (sp_X9_plain _ _) (fun S_37 h_37 => ?_)
              have h_37 := h_37.symm
              subst h_37
              refine x_lcmp eX9_corner_40 ?_
              refine x_if_neL eX9_corner_41 (fun c_41 => ?_) (fun c_41 => ?_)
              · refine x_iinc (lv' := [_, _, _, _]) eX9_corner_62 rfl (by first | exact nI_inc _ | exact rfl) (by decide) rfl ?_
                refine x_goto eX9_corner_65 ?_
                refine x_pick [0, 1, 2, 3] rfl ?_
                refine ih (j + 1) (by omega) _ ⟨rfl, fun s hs z => ?_⟩
                by_cases e : s = j
                · subst e
                  first
                    | exact c_41 z.1
                    | exact c_56 z.2
                · exact hno s (by omega) z
              · refine x_aload_n eX9_corner_44 rfl ?_
                refine s_getR (k := 2) eX9_corner_45 fX9_13 rfl (by decide) (by decide) rfl ?_
                refine x_iload eX9_corner_48 rfl ?_
                refine s_lald eX9_corner_50 rfl (by decide) rfl (show _ < 202 by omega) ?_
                rw [(h.1.2.1 j (by omega)).2.1]
                refine x_lload_n eX9_corner_51 rfl ?_
                refine s_callS1 (As := [_]) eX9_corner_52 kX9_132 ⟨by decide, by decide⟩ rfl rfl (Nat.le_of_ble_eq_true rfl) (Nat.le_of_ble_eq_true rfl) (sp_X9_plain _ _) (fun S_52 h_52 => ?_)
                have h_52 := h_52.symm
                subst h_52
                refine x_lcmp eX9_corner_55 ?_
                refine x_if_neL eX9_corner_56 (fun c_56 => ?_) (fun c_56 => ?_)
                · refine x_iinc (lv' := [_, _, _, _]) eX9_corner_62 rfl (by first | exact nI_inc _ | exact rfl) (by decide) rfl ?_
                  refine x_goto eX9_corner_65 ?_
                  refine x_pick [0, 1, 2, 3] rfl ?_
                  refine ih (j + 1) (by omega) _ ⟨rfl, fun s hs z => ?_⟩
                  by_cases e : s = j
                  · subst e
                    first
                      | exact c_41 z.1
                      | exact c_56 z.2
                  · exact hno s (by omega) z
                · refine x_iload eX9_corner_59 rfl ?_
                  exact absurd ⟨c_41, c_56⟩ (no j (by omega))
        show XP _ _ [_, _, _] _ _ _
        refine x_lload_n eX9_corner_0 rfl ?_
        refine s_callS1 (As := [_]) eX9_corner_1 kX9_176 ⟨by decide, by decide⟩ rfl rfl (Nat.le_of_ble_eq_true rfl) (Nat.le_of_ble_eq_true rfl) (sp_X9_isNumber _ x) (fun S_1 h_1 => ?_)
        have h_1 := h_1.symm
        subst h_1
        refine x_if_eqB eX9_corner_4 (fun c_4 => ?_) (fun c_4 => ?_)
        · rw [nx] at c_4; exact absurd c_4 (by decide)
        · refine x_lload_n eX9_corner_7 rfl ?_
          refine s_callS1 (As := [_]) eX9_corner_8 kX9_176 ⟨by decide, by decide⟩ rfl rfl (Nat.le_of_ble_eq_true rfl) (Nat.le_of_ble_eq_true rfl) (sp_X9_isNumber _ y) (fun S_8 h_8 => ?_)
          have h_8 := h_8.symm
          subst h_8
          refine x_if_neB eX9_corner_11 (fun c_11 => ?_) (fun c_11 => ?_)
          · refine x_iconst (v := nI 0) eX9_corner_17 (by decide) ?_
            refine x_istore (lv' := [_, _, _, _]) eX9_corner_18 (by decide) rfl ?_
            refine x_pick [0, 1, 2, 3] rfl ?_
            exact loop (xNc X) 0 (by omega) _ ⟨rfl, fun s hs => by omega⟩
          · rw [ny] at c_11; exact absurd c_11 (by decide)
