/-! ===== the reference's changes of the table; give, drop ===== -/
def mkp (S : xS) (X : LM) (S' : xS) : Prop := Fx [0] [17, 18, 19, 20, 21] [] [] S S' ∧ S'.1 0 22 = 1 ∧ (∀ f, f ≠ 22 → f ≠ 23 → S'.1 0 f = S.1 0 f) ∧ (∀ j, j < 60 → S'.2.1 17 j = bI (decide (j < xNp X) && xTh X j)) ∧ (∀ j, j < 60 → S'.2.1 18 j = S.2.1 13 j ∧ S'.2.1 19 j = S.2.1 14 j ∧ S'.2.1 20 j = S.2.1 15 j) ∧ ∀ j, j < 720 → S'.2.1 21 j = S.2.1 16 j
theorem RM_mut {S S1 S2 : xS} {X : LM} (w : wf X) (h : RM S X) (k : mkp S X S1) (x2 : Fx [0] [10, 11, 12, 13, 14, 15, 16, 23] [5, 6, 7] [] S1 S2) (ff : ∀ f, f ≠ 14 → f ≠ 16 → S2.1 0 f = S1.1 0 f) {np : Nat} (n6 : S2.1 0 16 = nI np) {t : TB} (et : ∀ e, e < np → ment S2 12 t e) : RM S2 (uT X np t) := by
  obtain ⟨x1, k2, k3, k4, k5, k6⟩ := k
  obtain ⟨⟨p1, p2, T, p3⟩, ⟨d1, d2⟩, ⟨w1, w2, w3⟩, ⟨n1, n2⟩, -, h1, h2⟩ := h
  have f1 : ∀ f, f ≠ 22 → f ≠ 23 → f ≠ 14 → f ≠ 16 → S2.1 0 f = S.1 0 f := fun f a b c d => by rw [ff f c d, k3 f a b]
  have i1 : ∀ r, r ∉ [17, 18, 19, 20, 21] → r ∉ [10, 11, 12, 13, 14, 15, 16, 23] → S2.2.1 r = S.2.1 r := fun r a b => by rw [x2.2.1 r b, x1.2.1 r a]
  have ep : ∀ {s : Nat} {P : Pt}, pt S s P → pt S2 s P := fun {s P} g => by
    obtain ⟨a1, a2, a3, a4, a5⟩ := g
    exact ⟨fun i hi => by rw [x2.2.2.1 3 (by decide), x1.2.2.1 3 (by decide)]; exact a1 i hi, fun i hi => by rw [x2.2.2.1 4 (by decide), x1.2.2.1 4 (by decide)]; exact a2 i hi, a3, a4, a5⟩
  have n60 := w.2.2.2.2.1.1
  have th0 : ∀ e, e < 60 → (decide (e < xNp X) && xTh X e) = xTh X e := fun e _ => by
    by_cases q : e < xNp X
    · rw [decide_eq_true q]; rfl
    · rw [decide_eq_false q]
      cases c : xTh X e with
      | false => rfl
      | true => exact absurd (w.2.2.2.2.1.2.2 e c) q
  have i2 : ∀ r, r = 17 ∨ r = 18 ∨ r = 19 ∨ r = 20 ∨ r = 21 → S2.2.1 r = S1.2.1 r := fun r hr => x2.2.1 r (by simp; omega)
  refine ⟨⟨by rw [f1 _ (by decide) (by decide) (by decide) (by decide)]; exact p1, fun s hs => ?_, T, ep p3⟩, ⟨by rw [f1 _ (by decide) (by decide) (by decide) (by decide)]; exact d1, fun i hi => by rw [i1 _ (by decide) (by decide)]; exact d2 i hi⟩, ⟨by rw [f1 _ (by decide) (by decide) (by decide) (by decide)]; exact w1, by rw [f1 _ (by decide) (by decide) (by decide) (by decide)]; exact w2, by rw [f1 _ (by decide) (by decide) (by decide) (by decide)]; exact w3⟩, ⟨n6, et⟩, ⟨by rw [ff _ (by decide) (by decide), k2]; rfl, fun j hj => by rw [i2 17 (by simp), k4 j hj]; exact bI01 _, fun _ e he => ?_⟩, by rw [f1 _ (by decide) (by decide) (by decide) (by decide)]; exact h1, fun k hk => by rw [i1 _ (by decide) (by decide)]; exact h2 k hk⟩
  · have := p2 s hs
    rw [x2.2.2.1 1 (by decide), x1.2.2.1 1 (by decide), x2.2.2.1 2 (by decide), x1.2.2.1 2 (by decide)]
    exact ⟨this.1, this.2.1, ep this.2.2⟩
  · refine ⟨by rw [i2 17 (by simp), k4 e he, th0 e he]; rfl, fun q => ?_⟩
    have lt : e < xNp X := w.2.2.2.2.1.2.2 e q
    have := (n2 e lt).2 q
    have k := k5 e he
    have sz := (wf_good w q).2.1
    refine ⟨by rw [i2 18 (by simp), k.1]; exact this.1, by rw [i2 19 (by simp), k.2.1]; exact this.2.1, by rw [i2 20 (by simp), k.2.2]; exact this.2.2.1, fun i hi => ?_⟩
    have hi2 : i < tSz (xTb X) e := hi
    rw [i2 21 (by simp), k6 _ (by omega)]
    exact this.2.2.2 i hi
theorem sp_mkp {S : xS} {X : LM} (w : wf X) (h : RM S X) : Sp mX9_keep [.ref 0] S (fun r S' => r = none ∧ mkp S X S') := sp_X9_keep (h.tab w)
theorem sp_kpost {S : xS} {X : LM} (h : RC S X) {p : Nat} (hp : p < 60) (qv : Int32) (hq : qv = -1 ∨ ∃ q, q < 60 ∧ qv = nI q) : Sp mX3_keep [.ref 37, .int (nI p), .int qv] S (fun r S' => r = none ∧ kpost S p qv S') := sp_X3_keep S hp qv hq h.2.2.2.2.1
def setOw (t : TB) (a : Nat) (o : Int32) : TB := (t.1, t.2.1, (fun e => if e = a then o else t.2.2.1 e), t.2.2.2)
def setTh (t : TB) (a : Nat) (b : Bool) : TB := ((fun e => if e = a then b else t.1 e), t.2)
theorem ow_ag {t : TB} {a : Nat} {o : Int32} {e : Nat} (h : e ≠ a) : tAg t (setOw t a o) e := ⟨rfl, rfl, if_neg h, rfl, rfl⟩
theorem th_ag {t : TB} {a : Nat} {b : Bool} {e : Nat} (h : e ≠ a) : tAg t (setTh t a b) e := ⟨if_neg h, rfl, rfl, rfl, rfl⟩

theorem b_give {X : LM} (w : wf X) (p o : Int32) : both X mX8_give mX9_give [.int p, .int o] := by
  have n60 : xNp X ≤ 60 := w.2.2.2.2.1.1
  by_cases hp : xHas X p
  rotate_left
  · refine ⟨.int (-101), X, w, fun S h => ?_, fun S h => ?_⟩
    · show XP _ _ [_, _, _] _ _ _
      refine x_aload_n eX8_give_0 rfl ?_
      refine s_getR (k := 37) eX8_give_1 fX8_28 rfl (by decide) (by decide) rfl ?_
      refine x_iload_n eX8_give_4 rfl ?_
      refine s_callV1 (As := [_]) eX8_give_5 kX8_144 ⟨by decide, by decide⟩ rfl (by decide) (by decide) rfl rfl (Nat.le_of_ble_eq_true rfl) (Nat.le_of_ble_eq_true rfl) (sp_X3_has (h.tab w) p) (fun S_5 h_5 => ?_)
      have h_5 := h_5.symm
      subst h_5
      refine x_if_neT eX8_give_8 (fun c_8 => ?_) (fun c_8 => ?_)
      · exact absurd c_8 hp
      · refine x_bipush (v := -101) eX8_give_11 (by decide) ?_
        exact s_iret eX8_give_13 rfl rfl ⟨rfl, h, frC.rf _⟩
    · show XP _ _ [_, _, _] _ _ _
      refine x_aload_n eX9_give_0 rfl ?_
      refine x_iload_n eX9_give_1 rfl ?_
      refine s_callV1 (As := [_]) eX9_give_2 kX9_284 ⟨by decide, by decide⟩ rfl (by decide) (by decide) rfl rfl (Nat.le_of_ble_eq_true rfl) (Nat.le_of_ble_eq_true rfl) (sp_X9_isParcel (h.tab w) p) (fun S_2 h_2 => ?_)
      have h_2 := h_2.symm
      subst h_2
      refine x_if_neT eX9_give_5 (fun c_5 => ?_) (fun c_5 => ?_)
      · exact absurd c_5 hp
      · refine x_bipush (v := -101) eX9_give_8 (by decide) ?_
        exact s_iret eX9_give_10 rfl rfl ⟨rfl, h, frM.rf _⟩
  obtain ⟨a, ha, rfl, ta⟩ := hp
  have ya : xHas X (nI a) := ⟨a, ha, rfl, ta⟩
  have w2 : wf (uT X (xNp X) (setOw (xTb X) a o)) := wf_uT w n60 (Nat.le_refl _) (fun q hq => w.2.2.2.2.1.2.1 q hq) (fun q hq => w.2.2.2.2.1.2.2 q hq)
  refine ⟨.int (tOw (xTb X) a), uT X (xNp X) (setOw (xTb X) a o), w2, fun S h => ?_, fun S h => ?_⟩
  · have ce := (h.2.2.2.1.2 a (by omega)).2 ta
    show XP _ _ [_, _, _] _ _ _
    refine x_aload_n eX8_give_0 rfl ?_
    refine s_getR (k := 37) eX8_give_1 fX8_28 rfl (by decide) (by decide) rfl ?_
    refine x_iload_n eX8_give_4 rfl ?_
    refine s_callV1 (As := [_]) eX8_give_5 kX8_144 ⟨by decide, by decide⟩ rfl (by decide) (by decide) rfl rfl (Nat.le_of_ble_eq_true rfl) (Nat.le_of_ble_eq_true rfl) (sp_X3_has (h.tab w) (nI a)) (fun S_5 h_5 => ?_)
    have h_5 := h_5.symm
    subst h_5
    refine x_if_neT eX8_give_8 (fun c_8 => ?_) (fun c_8 => ?_)
    · refine x_aload_n eX8_give_14 rfl ?_
      refine s_getR (k := 37) eX8_give_15 fX8_28 rfl (by decide) (by decide) rfl ?_
      refine x_iload_n eX8_give_18 rfl ?_
      refine x_iconst (v := -1) eX8_give_19 (by decide) ?_
      refine s_callV0 (As := [_, _]) eX8_give_20 kX8_137 ⟨by decide, by decide⟩ rfl (by decide) (by decide) rfl rfl (Nat.le_of_ble_eq_true rfl) (Nat.le_of_ble_eq_true rfl) (sp_kpost h (by omega) _ (Or.inl rfl)) (fun S_20 h_20 => ?_)
      have k1 := h_20
      have e3 : S_20.1 (175 + a) = S.1 (175 + a) := k1.1.1 _ (by simp; omega)
      refine x_aload_n eX8_give_23 rfl ?_
      refine s_getR (k := 37) eX8_give_24 fX8_28 rfl (by decide) (by decide) rfl ?_
      refine s_getR (k := 38) eX8_give_27 fX8_145 rfl (by decide) (by decide) rfl ?_
      refine x_iload_n eX8_give_30 rfl ?_
      refine s_raldR eX8_give_31 (by first | exact Or.inl rfl | exact Or.inr rfl) (by decide) rfl (show _ < 60 by omega) (rf_parcels a) ?_
      refine s_geti eX8_give_32 fX8_154 (kd_parcel (by omega)) (show _ < 365 by omega) (by decide) ?_
      rw [e3, ce.2.1]
      refine x_istore_n (lv' := [_, _, _, _]) eX8_give_35 (by decide) rfl ?_
      refine x_aload_n eX8_give_36 rfl ?_
      refine s_getR (k := 37) eX8_give_37 fX8_28 rfl (by decide) (by decide) rfl ?_
      refine s_getR (k := 38) eX8_give_40 fX8_145 rfl (by decide) (by decide) rfl ?_
      refine x_iload_n eX8_give_43 rfl ?_
      refine s_raldR eX8_give_44 (by first | exact Or.inl rfl | exact Or.inr rfl) (by decide) rfl (show _ < 60 by omega) (rf_parcels a) ?_
      refine x_iload_n eX8_give_45 rfl ?_
      refine s_puti eX8_give_46 fX8_154 wX1_3 (kd_parcel (by omega)) (show _ < 365 by omega) (by decide) ?_
      refine x_iload_n eX8_give_49 rfl ?_
      have x2 : Fx [37, 36, 175 + a, 45 + 2 * a, 175 + a, 45 + 2 * a, 171, 173] [46 + 2 * a, 46 + 2 * a, 172, 174] [364] [] S_20 (setF S_20 (175 + a) (upd (S_20.1 (175 + a)) 3 o)) := Fx.sF (by simp)
      have ec : cent (setF S_20 (175 + a) (upd (S_20.1 (175 + a)) 3 o)) a (setOw (xTb X) a o) a := ⟨by rw [setF_at, upd_ne _ _ (by decide), e3]; exact (h.2.2.2.1.2 a (by omega)).1, fun _ => ⟨by rw [setF_at, upd_ne _ _ (by decide), e3]; exact ce.1, by rw [setF_at, upd_at]; exact (if_pos rfl).symm, (ce.2.2.fx k1.1 (by simp; omega) (by simp; omega)).fx (Fx.sF (fs := [175 + a]) (is := []) (ls := []) (ds := []) (by simp)) (by simp; omega) (by simp)⟩⟩
      refine s_iret eX8_give_50 rfl rfl ⟨rfl, RC_mut h (p := a) (q := a) (by omega) (by omega) (Or.inl ⟨rfl, rfl⟩) k1 x2 (fun f hf => by rw [setF_ne _ _ (by omega)]) (by rw [setF_ne _ _ (by omega), k1.2.2.2.2.1]; exact h.2.2.2.1.1) (fun e e1 _ => ow_ag e1) ec ec, (k1.1.frC (by simp) (by simp) (by simp)).tr (x2.frC (by simp; omega) (by simp; omega) (by simp))⟩
    · exact absurd ya c_8
  · have t := h.tab w
    have ce := (t.2.2 a ha).2 ta
    show XP _ _ [_, _, _] _ _ _
    refine x_aload_n eX9_give_0 rfl ?_
    refine x_iload_n eX9_give_1 rfl ?_
    refine s_callV1 (As := [_]) eX9_give_2 kX9_284 ⟨by decide, by decide⟩ rfl (by decide) (by decide) rfl rfl (Nat.le_of_ble_eq_true rfl) (Nat.le_of_ble_eq_true rfl) (sp_X9_isParcel (h.tab w) (nI a)) (fun S_2 h_2 => ?_)
    have h_2 := h_2.symm
    subst h_2
    refine x_if_neT eX9_give_5 (fun c_5 => ?_) (fun c_5 => ?_)
    · refine x_aload_n eX9_give_11 rfl ?_
      refine s_callV0 (As := []) eX9_give_12 kX9_278 ⟨by decide, by decide⟩ rfl (by decide) (by decide) rfl rfl (Nat.le_of_ble_eq_true rfl) (Nat.le_of_ble_eq_true rfl) (sp_mkp w h) (fun S_12 h_12 => ?_)
      have k1 := h_12
      have e14 : S_12.2.1 14 = S.2.1 14 := k1.1.2.1 14 (by simp)
      refine x_aload_n eX9_give_15 rfl ?_
      refine s_getR (k := 14) eX9_give_16 fX9_55 rfl (by decide) (by decide) rfl ?_
      refine x_iload_n eX9_give_19 rfl ?_
      refine s_iald eX9_give_20 rfl (by decide) rfl (show _ < 60 by omega) ?_
      rw [e14, ce.2.1]
      refine x_istore_n (lv' := [_, _, _, _]) eX9_give_21 (by decide) rfl ?_
      refine x_aload_n eX9_give_22 rfl ?_
      refine s_getR (k := 14) eX9_give_23 fX9_55 rfl (by decide) (by decide) rfl ?_
      refine x_iload_n eX9_give_26 rfl ?_
      refine x_iload_n eX9_give_27 rfl ?_
      refine s_iast eX9_give_28 rfl (by decide) rfl (show _ < 60 by omega) ?_
      refine x_iload_n eX9_give_29 rfl ?_
      have x2 : Fx [0] [10, 11, 12, 13, 14, 15, 16, 23] [5, 6, 7] [] S_12 (setI S_12 14 (upd (S_12.2.1 14) a o)) := Fx.sI (by simp)
      have ir : ∀ r, r = 12 ∨ r = 13 ∨ r = 15 ∨ r = 16 → (setI S_12 14 (upd (S_12.2.1 14) a o)).2.1 r = S.2.1 r := fun r hr => by rw [setI_ne _ _ (by omega)]; exact k1.1.2.1 r (by simp; omega)
      refine s_iret eX9_give_30 rfl rfl ⟨rfl, RM_mut w h k1 x2 (fun f _ _ => rfl) (by show S_12.1 0 16 = _; rw [k1.2.2.1 16 (by decide) (by decide)]; exact t.1) (fun e he => ?_), (k1.1.frM (by simp) (by simp) (by simp) (by simp)).tr (x2.frM (by simp) (by simp) (by simp) (by simp))⟩
      have m := h.2.2.2.1.2 e he
      refine ⟨by rw [ir 12 (by simp)]; exact m.1, fun q => ?_⟩
      have b := m.2 q
      refine ⟨by rw [ir 13 (by simp)]; exact b.1, ?_, by rw [ir 15 (by simp)]; exact b.2.2.1, fun i hi => by rw [ir 16 (by simp)]; exact b.2.2.2 i hi⟩
      rw [setI_at]
      show _ = if e = a then o else tOw (xTb X) e
      by_cases z : e = a
      · subst z; rw [upd_at, if_pos rfl]
      · rw [upd_ne _ _ z, if_neg z, e14]; exact b.2.1
    · exact absurd ya c_5
theorem b_drop {X : LM} (w : wf X) (p : Int32) : both X mX8_drop mX9_drop [.int p] := by
  have n60 : xNp X ≤ 60 := w.2.2.2.2.1.1
  by_cases hp : xHas X p
  rotate_left
  · refine ⟨.int (-101), X, w, fun S h => ?_, fun S h => ?_⟩
    · show XP _ _ [_, _] _ _ _
      refine x_aload_n eX8_drop_0 rfl ?_
      refine s_getR (k := 37) eX8_drop_1 fX8_28 rfl (by decide) (by decide) rfl ?_
      refine x_iload_n eX8_drop_4 rfl ?_
      refine s_callV1 (As := [_]) eX8_drop_5 kX8_144 ⟨by decide, by decide⟩ rfl (by decide) (by decide) rfl rfl (Nat.le_of_ble_eq_true rfl) (Nat.le_of_ble_eq_true rfl) (sp_X3_has (h.tab w) p) (fun S_5 h_5 => ?_)
      have h_5 := h_5.symm
      subst h_5
      refine x_if_neT eX8_drop_8 (fun c_8 => ?_) (fun c_8 => ?_)
      · exact absurd c_8 hp
      · refine x_bipush (v := -101) eX8_drop_11 (by decide) ?_
        exact s_iret eX8_drop_13 rfl rfl ⟨rfl, h, frC.rf _⟩
    · show XP _ _ [_, _] _ _ _
      refine x_aload_n eX9_drop_0 rfl ?_
      refine x_iload_n eX9_drop_1 rfl ?_
      refine s_callV1 (As := [_]) eX9_drop_2 kX9_284 ⟨by decide, by decide⟩ rfl (by decide) (by decide) rfl rfl (Nat.le_of_ble_eq_true rfl) (Nat.le_of_ble_eq_true rfl) (sp_X9_isParcel (h.tab w) p) (fun S_2 h_2 => ?_)
      have h_2 := h_2.symm
      subst h_2
      refine x_if_neT eX9_drop_5 (fun c_5 => ?_) (fun c_5 => ?_)
      · exact absurd c_5 hp
      · refine x_bipush (v := -101) eX9_drop_8 (by decide) ?_
        exact s_iret eX9_drop_10 rfl rfl ⟨rfl, h, frM.rf _⟩
  obtain ⟨a, ha, rfl, ta⟩ := hp
  have ya : xHas X (nI a) := ⟨a, ha, rfl, ta⟩
  have old : ∀ q, tTh (setTh (xTb X) a false) q = true → tTh (xTb X) q = true := fun q hq => by
    have hq : (if q = a then false else tTh (xTb X) q) = true := hq
    by_cases e : q = a
    · rw [if_pos e] at hq; exact absurd hq (by decide)
    · rw [if_neg e] at hq; exact hq
  have w2 : wf (uT X (xNp X) (setTh (xTb X) a false)) := wf_uT w n60 (Nat.le_refl _) (fun q hq => w.2.2.2.2.1.2.1 q (old q hq)) (fun q hq => w.2.2.2.2.1.2.2 q (old q hq))
  refine ⟨.int (nI (cnt (fun q => tTh (setTh (xTb X) a false) q = true) (xNp X))), uT X (xNp X) (setTh (xTb X) a false), w2, fun S h => ?_, fun S h => ?_⟩
  · show XP _ _ [_, _] _ _ _
    refine x_aload_n eX8_drop_0 rfl ?_
    refine s_getR (k := 37) eX8_drop_1 fX8_28 rfl (by decide) (by decide) rfl ?_
    refine x_iload_n eX8_drop_4 rfl ?_
    refine s_callV1 (As := [_]) eX8_drop_5 kX8_144 ⟨by decide, by decide⟩ rfl (by decide) (by decide) rfl rfl (Nat.le_of_ble_eq_true rfl) (Nat.le_of_ble_eq_true rfl) (sp_X3_has (h.tab w) (nI a)) (fun S_5 h_5 => ?_)
    have h_5 := h_5.symm
    subst h_5
    refine x_if_neT eX8_drop_8 (fun c_8 => ?_) (fun c_8 => ?_)
    · refine x_aload_n eX8_drop_14 rfl ?_
      refine s_getR (k := 37) eX8_drop_15 fX8_28 rfl (by decide) (by decide) rfl ?_
      refine x_iload_n eX8_drop_18 rfl ?_
      refine x_iconst (v := -1) eX8_drop_19 (by decide) ?_
      refine s_callV0 (As := [_, _]) eX8_drop_20 kX8_137 ⟨by decide, by decide⟩ rfl (by decide) (by decide) rfl rfl (Nat.le_of_ble_eq_true rfl) (Nat.le_of_ble_eq_true rfl) (sp_kpost h (by omega) _ (Or.inl rfl)) (fun S_20 h_20 => ?_)
      have k1 := h_20
      refine x_aload_n eX8_drop_23 rfl ?_
      refine s_getR (k := 37) eX8_drop_24 fX8_28 rfl (by decide) (by decide) rfl ?_
      refine s_getR (k := 38) eX8_drop_27 fX8_145 rfl (by decide) (by decide) rfl ?_
      refine x_iload_n eX8_drop_30 rfl ?_
      refine s_raldR eX8_drop_31 (by first | exact Or.inl rfl | exact Or.inr rfl) (by decide) rfl (show _ < 60 by omega) (rf_parcels a) ?_
      refine x_iconst (v := nI 0) eX8_drop_32 (by decide) ?_
      refine s_putz eX8_drop_33 fX8_164 wX1_1 (kd_parcel (by omega)) (show _ < 365 by omega) (by decide) (by first | exact Or.inl rfl | exact Or.inr rfl | exact bI_01 _) ?_
      have x2 : Fx [37, 36, 175 + a, 45 + 2 * a, 175 + a, 45 + 2 * a, 171, 173] [46 + 2 * a, 46 + 2 * a, 172, 174] [364] [] S_20 (setF S_20 (175 + a) (upd (S_20.1 (175 + a)) 1 (nI 0))) := Fx.sF (by simp)
      have ec : cent (setF S_20 (175 + a) (upd (S_20.1 (175 + a)) 1 (nI 0))) a (setTh (xTb X) a false) a := ⟨by rw [setF_at, upd_at, show tTh (setTh (xTb X) a false) a = false from if_pos rfl]; rfl, fun z => by rw [show tTh (setTh (xTb X) a false) a = false from if_pos rfl] at z; exact absurd z (by decide)⟩
      have rc := RC_mut h (p := a) (q := a) (by omega) (by omega) (Or.inl ⟨rfl, rfl⟩) k1 x2 (fun f hf => by rw [setF_ne _ _ (by omega)]) (by rw [setF_ne _ _ (by omega), k1.2.2.2.2.1]; exact h.2.2.2.1.1) (fun e e1 _ => th_ag e1) ec ec
      refine x_aload_n eX8_drop_36 rfl ?_
      refine s_getR (k := 37) eX8_drop_37 fX8_28 rfl (by decide) (by decide) rfl ?_
      refine s_callV1 (As := []) eX8_drop_40 kX8_168 ⟨by decide, by decide⟩ rfl (by decide) (by decide) rfl rfl (Nat.le_of_ble_eq_true rfl) (Nat.le_of_ble_eq_true rfl) (sp_X3_thereNow (rc.tab w2)) (fun S_40 h_40 => ?_)
      have h_40 := h_40.symm
      subst h_40
      exact s_iret eX8_drop_43 rfl rfl ⟨rfl, rc, (k1.1.frC (by simp) (by simp) (by simp)).tr (x2.frC (by simp; omega) (by simp; omega) (by simp))⟩
    · exact absurd ya c_8
  · have t := h.tab w
    show XP _ _ [_, _] _ _ _
    refine x_aload_n eX9_drop_0 rfl ?_
    refine x_iload_n eX9_drop_1 rfl ?_
    refine s_callV1 (As := [_]) eX9_drop_2 kX9_284 ⟨by decide, by decide⟩ rfl (by decide) (by decide) rfl rfl (Nat.le_of_ble_eq_true rfl) (Nat.le_of_ble_eq_true rfl) (sp_X9_isParcel (h.tab w) (nI a)) (fun S_2 h_2 => ?_)
    have h_2 := h_2.symm
    subst h_2
    refine x_if_neT eX9_drop_5 (fun c_5 => ?_) (fun c_5 => ?_)
    · refine x_aload_n eX9_drop_11 rfl ?_
      refine s_callV0 (As := []) eX9_drop_12 kX9_278 ⟨by decide, by decide⟩ rfl (by decide) (by decide) rfl rfl (Nat.le_of_ble_eq_true rfl) (Nat.le_of_ble_eq_true rfl) (sp_mkp w h) (fun S_12 h_12 => ?_)
      have k1 := h_12
      refine x_aload_n eX9_drop_15 rfl ?_
      refine s_getR (k := 12) eX9_drop_16 fX9_48 rfl (by decide) (by decide) rfl ?_
      refine x_iload_n eX9_drop_19 rfl ?_
      refine x_iconst (v := nI 0) eX9_drop_20 (by decide) ?_
      refine s_zast eX9_drop_21 rfl (by decide) rfl (show _ < 60 by omega) (by first | exact Or.inl rfl | exact Or.inr rfl | exact bI_01 _) ?_
      have x2 : Fx [0] [10, 11, 12, 13, 14, 15, 16, 23] [5, 6, 7] [] S_12 (setI S_12 12 (upd (S_12.2.1 12) a (nI 0))) := Fx.sI (by simp)
      have ir : ∀ r, r = 13 ∨ r = 14 ∨ r = 15 ∨ r = 16 → (setI S_12 12 (upd (S_12.2.1 12) a (nI 0))).2.1 r = S.2.1 r := fun r hr => by rw [setI_ne _ _ (by omega)]; exact k1.1.2.1 r (by simp; omega)
      have rm : RM (setI S_12 12 (upd (S_12.2.1 12) a (nI 0))) (uT X (xNp X) (setTh (xTb X) a false)) := by
        refine RM_mut w h k1 x2 (fun f _ _ => rfl) (by show S_12.1 0 16 = _; rw [k1.2.2.1 16 (by decide) (by decide)]; exact t.1) (fun e he => ?_)
        have m := h.2.2.2.1.2 e he
        by_cases z : e = a
        · subst z
          exact ⟨by rw [setI_at, upd_at, show tTh (setTh (xTb X) e false) e = false from if_pos rfl]; rfl, fun q => by rw [show tTh (setTh (xTb X) e false) e = false from if_pos rfl] at q; exact absurd q (by decide)⟩
        · refine ment_ag (th_ag z) ⟨by rw [setI_at, upd_ne _ _ z, k1.1.2.1 12 (by simp)]; exact m.1, fun q => ?_⟩
          have b := m.2 q
          exact ⟨by rw [ir 13 (by simp)]; exact b.1, by rw [ir 14 (by simp)]; exact b.2.1, by rw [ir 15 (by simp)]; exact b.2.2.1, fun i hi => by rw [ir 16 (by simp)]; exact b.2.2.2 i hi⟩
      refine x_aload_n eX9_drop_22 rfl ?_
      refine x_iconst (v := -1) eX9_drop_23 (by decide) ?_
      refine s_callV1 (As := [_]) eX9_drop_24 kX9_287 ⟨by decide, by decide⟩ rfl (by decide) (by decide) rfl rfl (Nat.le_of_ble_eq_true rfl) (Nat.le_of_ble_eq_true rfl) (sp_X9_there (rm.tab w2) (-1)) (fun S_24 h_24 => ?_)
      have h_24 := h_24.symm
      subst h_24
      exact s_iret eX9_drop_27 rfl rfl ⟨congrArg (fun v => some (Value.int (nI v))) (cnt_congr _ (fun q _ => ⟨And.left, fun z => ⟨z, Or.inl rfl⟩⟩)), rm, (k1.1.frM (by simp) (by simp) (by simp) (by simp)).tr (x2.frM (by simp) (by simp) (by simp) (by simp))⟩
    · exact absurd ya c_5
