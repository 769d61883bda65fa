/-! ===== border, neighbour, walk ===== -/
def xTh (X : LM) : Nat → Bool := tTh (xTb X)
def xLy (X : LM) : Nat → Nat := tLy (xTb X)
def xSz (X : LM) : Nat → Nat := tSz (xTb X)
def xRg (X : LM) : Nat → Nat → Nat := tRg (xTb X)
def xHas (X : LM) (p : Int32) : Prop := hasP (xNp X) (xTh X) p
/-- parcel q's ring as points -/
def vq (X : LM) (q : Nat) : Nat → Pt := vr (PX X) (xRg X q) (xSz X q)
noncomputable def brd (X : LM) (p q : Nat) : Nat := sumN (fun a => cnt (fun j => comP (vq X p a) (vq X p (a + 1)) (vq X q j) (vq X q (j + 1)) = 3) (xSz X q)) (xSz X p)
theorem brd_le {X : LM} (w : wf X) {p q : Nat} (hp : xTh X p = true) (hq : xTh X q = true) : brd X p q < 2 ^ 31 := by
  have a := (wf_good w hp).2.1
  have b := (wf_good w hq).2.1
  have : brd X p q ≤ xSz X p * xSz X q := sumN_le (fun k => cnt_le _ _) _
  have c : xSz X p * xSz X q ≤ 12 * 12 := Nat.mul_le_mul a b
  omega
theorem good_c {X : LM} (w : wf X) {q : Nat} (t : xTh X q = true) : 0 < xSz X q ∧ ∀ i, i < xSz X q → xRg X q i < xNc X := ⟨by have := (wf_good w t).1; unfold xSz; omega, (wf_good w t).2.2.1⟩
theorem RC.cr {S : xS} {X : LM} (h : RC S X) (w : wf X) {q : Nat} (hq : q < xNp X) (t : xTh X q = true) : CR S (xNc X) q (xSz X q) (xRg X q) := ⟨((h.tab w).2.2 q hq).2 t |>.2.2, good_c w t⟩
theorem RM.pr {S : xS} {X : LM} (h : RM S X) (w : wf X) {q : Nat} (hq : q < xNp X) (t : xTh X q = true) : mpr S q (xSz X q) (xRg X q) := ((h.tab w).2.2 q hq).2 t |>.2.2
theorem vq_PT {X : LM} (w : wf X) {q : Nat} (t : xTh X q = true) (T : Pt) : vr (PT (PX X) T) (xRg X q) (xSz X q) = vq X q := vr_PT (good_c w t).1 (fun i hi => by have := (good_c w t).2 i hi; have := w.1; omega)
theorem vq_PTd {X : LM} (w : wf X) {q : Nat} (t : xTh X q = true) (T : Pt) : vr (dbl (PT (PX X) T)) (xRg X q) (xSz X q) = fun k => scP 2 (vq X q k) := by rw [vr_dbl, vq_PT w t]
theorem brd_c {X : LM} (w : wf X) {p q : Nat} (hp : xTh X p = true) (hq : xTh X q = true) (T : Pt) : sumN (fun a => cnt (fun j => metP (vr (PT (PX X) T) (xRg X p) (xSz X p) a) (vr (PT (PX X) T) (xRg X p) (xSz X p) (a + 1)) (vr (PT (PX X) T) (xRg X q) (xSz X q) j) (vr (PT (PX X) T) (xRg X q) (xSz X q) (j + 1)) = 3) (xSz X q)) (xSz X p) = brd X p q := by
  rw [vq_PT w hp, vq_PT w hq]
  refine sumN_congr _ (fun a _ => cnt_congr _ (fun j _ => ?_))
  rw [show metP (vq X p a) (vq X p (a + 1)) (vq X q j) (vq X q (j + 1)) = comP (vq X p a) (vq X p (a + 1)) (vq X q j) (vq X q (j + 1)) from met_com (next_ne (wf_good w hp).2.2.2.2.1 a) (next_ne (wf_good w hq).2.2.2.2.1 j)]
theorem brd_m {X : LM} (w : wf X) {p q : Nat} (hp : xTh X p = true) (hq : xTh X q = true) (T : Pt) : sumN (fun a => cnt (fun j => comP (vr (dbl (PT (PX X) T)) (xRg X p) (xSz X p) a) (vr (dbl (PT (PX X) T)) (xRg X p) (xSz X p) (a + 1)) (vr (dbl (PT (PX X) T)) (xRg X q) (xSz X q) j) (vr (dbl (PT (PX X) T)) (xRg X q) (xSz X q) (j + 1)) = 3) (xSz X q)) (xSz X p) = brd X p q := by
  rw [vq_PTd w hp, vq_PTd w hq]
  refine sumN_congr _ (fun a _ => cnt_congr _ (fun j _ => ?_))
  show comP (scP 2 _) (scP 2 _) (scP 2 _) (scP 2 _) = 3 ↔ _
  rw [comP_sc two0]
theorem RGd_X {X : LM} (w : wf X) {q : Nat} (t : xTh X q = true) (T : Pt) : RGd (xNc X) (dbl (PT (PX X) T)) (xSz X q) (xRg X q) := good_RGd (good_PT w.1 (wf_good w t))
/-- the k-th place with R -/
noncomputable def nthI (R : Nat → Prop) (n : Nat) (k : Int32) : Int32 := match fst1 (fun q => R q ∧ nI (cnt R q) = k) n with
  | some q => nI q
  | none => -1
theorem nth_yes {R : Nat → Prop} {n q : Nat} {k : Int32} (hq : q < n) (h : R q) (e : nI (cnt R q) = k) (no : ∀ j, j < q → ¬ (R j ∧ nI (cnt R j) = k)) : nthI R n k = nI q := by
  unfold nthI
  rw [fst1_some (R := fun q => R q ∧ nI (cnt R q) = k) hq ⟨h, e⟩ no]
theorem nth_no {R : Nat → Prop} {n : Nat} {k : Int32} (no : ∀ j, j < n → ¬ (R j ∧ nI (cnt R j) = k)) : nthI R n k = -1 := by
  unfold nthI
  rw [fst1_none (R := fun q => R q ∧ nI (cnt R q) = k) no]

theorem b_border {X : LM} (w : wf X) (p q : Int32) : both X mX8_border mX9_border [.int p, .int q] := by
  have n60 : xNp X ≤ 60 := w.2.2.2.2.1.1
  by_cases hp : xHas X p
  rotate_left
  · refine ⟨.int (-101), X, w, fun S h => ?_, fun S h => ?_⟩
    · show XP _ _ [_, _, _] _ _ _
      refine x_aload_n eX8_border_0 rfl ?_
      refine s_getR (k := 37) eX8_border_1 fX8_28 rfl (by decide) (by decide) rfl ?_
      refine x_iload_n eX8_border_4 rfl ?_
      refine s_callV1 (As := [_]) eX8_border_5 kX8_144 ⟨by decide, by decide⟩ rfl (by decide) (by decide) rfl rfl (Nat.le_of_ble_eq_true rfl) (Nat.le_of_ble_eq_true rfl) (sp_X3_has (h.tab w) p) (fun S_5 h_5 => ?_)
      have h_5 := h_5.symm
      subst h_5
      refine x_if_eqT eX8_border_8 (fun c_8 => ?_) (fun c_8 => ?_)
      · refine x_bipush (v := -101) eX8_border_22 (by decide) ?_
        exact s_iret eX8_border_24 rfl rfl ⟨rfl, h, frC.rf _⟩
      · exact absurd c_8 hp
    · show XP _ _ [_, _, _] _ _ _
      refine x_aload_n eX9_border_0 rfl ?_
      refine x_iload_n eX9_border_1 rfl ?_
      refine s_callV1 (As := [_]) eX9_border_2 kX9_284 ⟨by decide, by decide⟩ rfl (by decide) (by decide) rfl rfl (Nat.le_of_ble_eq_true rfl) (Nat.le_of_ble_eq_true rfl) (sp_X9_isParcel (h.tab w) p) (fun S_2 h_2 => ?_)
      have h_2 := h_2.symm
      subst h_2
      refine x_if_eqT eX9_border_5 (fun c_5 => ?_) (fun c_5 => ?_)
      · refine x_bipush (v := -101) eX9_border_16 (by decide) ?_
        exact s_iret eX9_border_18 rfl rfl ⟨rfl, h, frM.rf _⟩
      · exact absurd c_5 hp
  by_cases hq : xHas X q
  rotate_left
  · refine ⟨.int (-101), X, w, fun S h => ?_, fun S h => ?_⟩
    · show XP _ _ [_, _, _] _ _ _
      refine x_aload_n eX8_border_0 rfl ?_
      refine s_getR (k := 37) eX8_border_1 fX8_28 rfl (by decide) (by decide) rfl ?_
      refine x_iload_n eX8_border_4 rfl ?_
      refine s_callV1 (As := [_]) eX8_border_5 kX8_144 ⟨by decide, by decide⟩ rfl (by decide) (by decide) rfl rfl (Nat.le_of_ble_eq_true rfl) (Nat.le_of_ble_eq_true rfl) (sp_X3_has (h.tab w) p) (fun S_5 h_5 => ?_)
      have h_5 := h_5.symm
      subst h_5
      refine x_if_eqT eX8_border_8 (fun c_8 => ?_) (fun c_8 => ?_)
      · exact absurd hp c_8
      · refine x_aload_n eX8_border_11 rfl ?_
        refine s_getR (k := 37) eX8_border_12 fX8_28 rfl (by decide) (by decide) rfl ?_
        refine x_iload_n eX8_border_15 rfl ?_
        refine s_callV1 (As := [_]) eX8_border_16 kX8_144 ⟨by decide, by decide⟩ rfl (by decide) (by decide) rfl rfl (Nat.le_of_ble_eq_true rfl) (Nat.le_of_ble_eq_true rfl) (sp_X3_has (h.tab w) q) (fun S_16 h_16 => ?_)
        have h_16 := h_16.symm
        subst h_16
        refine x_if_neT eX8_border_19 (fun c_19 => ?_) (fun c_19 => ?_)
        · exact absurd c_19 hq
        · refine x_bipush (v := -101) eX8_border_22 (by decide) ?_
          exact s_iret eX8_border_24 rfl rfl ⟨rfl, h, frC.rf _⟩
    · show XP _ _ [_, _, _] _ _ _
      refine x_aload_n eX9_border_0 rfl ?_
      refine x_iload_n eX9_border_1 rfl ?_
      refine s_callV1 (As := [_]) eX9_border_2 kX9_284 ⟨by decide, by decide⟩ rfl (by decide) (by decide) rfl rfl (Nat.le_of_ble_eq_true rfl) (Nat.le_of_ble_eq_true rfl) (sp_X9_isParcel (h.tab w) p) (fun S_2 h_2 => ?_)
      have h_2 := h_2.symm
      subst h_2
      refine x_if_eqT eX9_border_5 (fun c_5 => ?_) (fun c_5 => ?_)
      · exact absurd hp c_5
      · refine x_aload_n eX9_border_8 rfl ?_
        refine x_iload_n eX9_border_9 rfl ?_
        refine s_callV1 (As := [_]) eX9_border_10 kX9_284 ⟨by decide, by decide⟩ rfl (by decide) (by decide) rfl rfl (Nat.le_of_ble_eq_true rfl) (Nat.le_of_ble_eq_true rfl) (sp_X9_isParcel (h.tab w) q) (fun S_10 h_10 => ?_)
        have h_10 := h_10.symm
        subst h_10
        refine x_if_neT eX9_border_13 (fun c_13 => ?_) (fun c_13 => ?_)
        · exact absurd c_13 hq
        · refine x_bipush (v := -101) eX9_border_16 (by decide) ?_
          exact s_iret eX9_border_18 rfl rfl ⟨rfl, h, frM.rf _⟩
  obtain ⟨a, ha, rfl, ta⟩ := hp
  obtain ⟨b, hb, rfl, tb⟩ := hq
  have ya : xHas X (nI a) := ⟨a, ha, rfl, ta⟩
  have yb : xHas X (nI b) := ⟨b, hb, rfl, tb⟩
  by_cases e : a = b
  · refine ⟨.int (-102), X, w, fun S h => ?_, fun S h => ?_⟩
    · show XP _ _ [_, _, _] _ _ _
      refine x_aload_n eX8_border_0 rfl ?_
      refine s_getR (k := 37) eX8_border_1 fX8_28 rfl (by decide) (by decide) rfl ?_
      refine x_iload_n eX8_border_4 rfl ?_
      refine s_callV1 (As := [_]) eX8_border_5 kX8_144 ⟨by decide, by decide⟩ rfl (by decide) (by decide) rfl rfl (Nat.le_of_ble_eq_true rfl) (Nat.le_of_ble_eq_true rfl) (sp_X3_has (h.tab w) (nI a)) (fun S_5 h_5 => ?_)
      have h_5 := h_5.symm
      subst h_5
      refine x_if_eqT eX8_border_8 (fun c_8 => ?_) (fun c_8 => ?_)
      · exact absurd ya c_8
      · refine x_aload_n eX8_border_11 rfl ?_
        refine s_getR (k := 37) eX8_border_12 fX8_28 rfl (by decide) (by decide) rfl ?_
        refine x_iload_n eX8_border_15 rfl ?_
        refine s_callV1 (As := [_]) eX8_border_16 kX8_144 ⟨by decide, by decide⟩ rfl (by decide) (by decide) rfl rfl (Nat.le_of_ble_eq_true rfl) (Nat.le_of_ble_eq_true rfl) (sp_X3_has (h.tab w) (nI b)) (fun S_16 h_16 => ?_)
        have h_16 := h_16.symm
        subst h_16
        refine x_if_neT eX8_border_19 (fun c_19 => ?_) (fun c_19 => ?_)
        · refine x_iload_n eX8_border_25 rfl ?_
          refine x_iload_n eX8_border_26 rfl ?_
          refine x_icmp_neN eX8_border_27 (by omega) (by omega) (fun c_27 => ?_) (fun c_27 => ?_)
          · omega
          · refine x_bipush (v := -102) eX8_border_30 (by decide) ?_
            exact s_iret eX8_border_32 rfl rfl ⟨rfl, h, frC.rf _⟩
        · exact absurd yb c_19
    · show XP _ _ [_, _, _] _ _ _
      refine x_aload_n eX9_border_0 rfl ?_
      refine x_iload_n eX9_border_1 rfl ?_
      refine s_callV1 (As := [_]) eX9_border_2 kX9_284 ⟨by decide, by decide⟩ rfl (by decide) (by decide) rfl rfl (Nat.le_of_ble_eq_true rfl) (Nat.le_of_ble_eq_true rfl) (sp_X9_isParcel (h.tab w) (nI a)) (fun S_2 h_2 => ?_)
      have h_2 := h_2.symm
      subst h_2
      refine x_if_eqT eX9_border_5 (fun c_5 => ?_) (fun c_5 => ?_)
      · exact absurd ya c_5
      · refine x_aload_n eX9_border_8 rfl ?_
        refine x_iload_n eX9_border_9 rfl ?_
        refine s_callV1 (As := [_]) eX9_border_10 kX9_284 ⟨by decide, by decide⟩ rfl (by decide) (by decide) rfl rfl (Nat.le_of_ble_eq_true rfl) (Nat.le_of_ble_eq_true rfl) (sp_X9_isParcel (h.tab w) (nI b)) (fun S_10 h_10 => ?_)
        have h_10 := h_10.symm
        subst h_10
        refine x_if_neT eX9_border_13 (fun c_13 => ?_) (fun c_13 => ?_)
        · refine x_iload_n eX9_border_19 rfl ?_
          refine x_iload_n eX9_border_20 rfl ?_
          refine x_icmp_neN eX9_border_21 (by omega) (by omega) (fun c_21 => ?_) (fun c_21 => ?_)
          · omega
          · refine x_bipush (v := -102) eX9_border_24 (by decide) ?_
            refine x_goto eX9_border_26 ?_
            exact s_iret eX9_border_35 rfl rfl ⟨rfl, h, frM.rf _⟩
        · exact absurd yb c_13
  · refine ⟨.int (nI (brd X a b)), X, w, fun S h => ?_, fun S h => ?_⟩
    · obtain ⟨T, hT⟩ := h.pts w
      show XP _ _ [_, _, _] _ _ _
      refine x_aload_n eX8_border_0 rfl ?_
      refine s_getR (k := 37) eX8_border_1 fX8_28 rfl (by decide) (by decide) rfl ?_
      refine x_iload_n eX8_border_4 rfl ?_
      refine s_callV1 (As := [_]) eX8_border_5 kX8_144 ⟨by decide, by decide⟩ rfl (by decide) (by decide) rfl rfl (Nat.le_of_ble_eq_true rfl) (Nat.le_of_ble_eq_true rfl) (sp_X3_has (h.tab w) (nI a)) (fun S_5 h_5 => ?_)
      have h_5 := h_5.symm
      subst h_5
      refine x_if_eqT eX8_border_8 (fun c_8 => ?_) (fun c_8 => ?_)
      · exact absurd ya c_8
      · refine x_aload_n eX8_border_11 rfl ?_
        refine s_getR (k := 37) eX8_border_12 fX8_28 rfl (by decide) (by decide) rfl ?_
        refine x_iload_n eX8_border_15 rfl ?_
        refine s_callV1 (As := [_]) eX8_border_16 kX8_144 ⟨by decide, by decide⟩ rfl (by decide) (by decide) rfl rfl (Nat.le_of_ble_eq_true rfl) (Nat.le_of_ble_eq_true rfl) (sp_X3_has (h.tab w) (nI b)) (fun S_16 h_16 => ?_)
        have h_16 := h_16.symm
        subst h_16
        refine x_if_neT eX8_border_19 (fun c_19 => ?_) (fun c_19 => ?_)
        · refine x_iload_n eX8_border_25 rfl ?_
          refine x_iload_n eX8_border_26 rfl ?_
          refine x_icmp_neN eX8_border_27 (by omega) (by omega) (fun c_27 => ?_) (fun c_27 => ?_)
          · refine x_aload_n eX8_border_33 rfl ?_
            refine s_getR (k := 36) eX8_border_34 fX8_21 rfl (by decide) (by decide) rfl ?_
            refine x_aload_n eX8_border_37 rfl ?_
            refine s_getR (k := 37) eX8_border_38 fX8_28 rfl (by decide) (by decide) rfl ?_
            refine s_getR (k := 38) eX8_border_41 fX8_145 rfl (by decide) (by decide) rfl ?_
            refine x_iload_n eX8_border_44 rfl ?_
            refine s_raldR eX8_border_45 (by first | exact Or.inl rfl | exact Or.inr rfl) (by decide) rfl (show _ < 60 by omega) (rf_parcels a) ?_
            refine s_getR (k := (45 + 2 * a)) eX8_border_46 fX8_157 (kd_parcel (by omega)) (show _ < 365 by omega) (by decide) (rf_parcel (by omega)) ?_
            refine x_aload_n eX8_border_49 rfl ?_
            refine s_getR (k := 37) eX8_border_50 fX8_28 rfl (by decide) (by decide) rfl ?_
            refine s_getR (k := 38) eX8_border_53 fX8_145 rfl (by decide) (by decide) rfl ?_
            refine x_iload_n eX8_border_56 rfl ?_
            refine s_raldR eX8_border_57 (by first | exact Or.inl rfl | exact Or.inr rfl) (by decide) rfl (show _ < 60 by omega) (rf_parcels b) ?_
            refine s_getR (k := (45 + 2 * b)) eX8_border_58 fX8_157 (kd_parcel (by omega)) (show _ < 365 by omega) (by decide) (rf_parcel (by omega)) ?_
            refine s_callV1 (As := [_, _]) eX8_border_61 kX8_204 ⟨by decide, by decide⟩ rfl (by decide) (by decide) rfl rfl (Nat.le_of_ble_eq_true rfl) (Nat.le_of_ble_eq_true rfl) (sp_X5_stretches _ hT (h.cr w ha ta) (h.cr w hb tb)) (fun S_61 h_61 => ?_)
            rw [brd_c w ta tb]
            exact s_iret eX8_border_64 rfl rfl ⟨rfl, RC_L h h_61, h_61.frC (by simp)⟩
          · omega
        · exact absurd yb c_19
    · obtain ⟨T, hT⟩ := h.pts w
      have t := h.tab w
      show XP _ _ [_, _, _] _ _ _
      refine x_aload_n eX9_border_0 rfl ?_
      refine x_iload_n eX9_border_1 rfl ?_
      refine s_callV1 (As := [_]) eX9_border_2 kX9_284 ⟨by decide, by decide⟩ rfl (by decide) (by decide) rfl rfl (Nat.le_of_ble_eq_true rfl) (Nat.le_of_ble_eq_true rfl) (sp_X9_isParcel (h.tab w) (nI a)) (fun S_2 h_2 => ?_)
      have h_2 := h_2.symm
      subst h_2
      refine x_if_eqT eX9_border_5 (fun c_5 => ?_) (fun c_5 => ?_)
      · exact absurd ya c_5
      · refine x_aload_n eX9_border_8 rfl ?_
        refine x_iload_n eX9_border_9 rfl ?_
        refine s_callV1 (As := [_]) eX9_border_10 kX9_284 ⟨by decide, by decide⟩ rfl (by decide) (by decide) rfl rfl (Nat.le_of_ble_eq_true rfl) (Nat.le_of_ble_eq_true rfl) (sp_X9_isParcel (h.tab w) (nI b)) (fun S_10 h_10 => ?_)
        have h_10 := h_10.symm
        subst h_10
        refine x_if_neT eX9_border_13 (fun c_13 => ?_) (fun c_13 => ?_)
        · refine x_iload_n eX9_border_19 rfl ?_
          refine x_iload_n eX9_border_20 rfl ?_
          refine x_icmp_neN eX9_border_21 (by omega) (by omega) (fun c_21 => ?_) (fun c_21 => ?_)
          · refine x_aload_n eX9_border_29 rfl ?_
            refine x_iload_n eX9_border_30 rfl ?_
            refine x_iload_n eX9_border_31 rfl ?_
            refine s_callV1 (As := [_, _]) eX9_border_32 kX9_300 ⟨by decide, by decide⟩ rfl (by decide) (by decide) rfl rfl (Nat.le_of_ble_eq_true rfl) (Nat.le_of_ble_eq_true rfl) (sp_X9_borders _ hT w.1 (h.pr w ha ta) (h.pr w hb tb) (RGd_X w ta T) (RGd_X w tb T)) (fun S_32 h_32 => ?_)
            rw [brd_m w ta tb T]
            exact s_iret eX9_border_35 rfl rfl ⟨rfl, RM_L w h h_32, h_32.frM (by simp)⟩
          · omega
        · exact absurd yb c_13
theorem b_neighbour {X : LM} (w : wf X) (p k : Int32) : both X mX8_neighbour mX9_neighbour [.int p, .int k] := by
  have n60 : xNp X ≤ 60 := w.2.2.2.2.1.1
  by_cases hp : xHas X p
  rotate_left
  · refine ⟨.int (-101), X, w, fun S h => ?_, fun S h => ?_⟩
    · show XP _ _ [_, _, _] _ _ _
      refine x_aload_n eX8_neighbour_0 rfl ?_
      refine s_getR (k := 37) eX8_neighbour_1 fX8_28 rfl (by decide) (by decide) rfl ?_
      refine x_iload_n eX8_neighbour_4 rfl ?_
      refine s_callV1 (As := [_]) eX8_neighbour_5 kX8_144 ⟨by decide, by decide⟩ rfl (by decide) (by decide) rfl rfl (Nat.le_of_ble_eq_true rfl) (Nat.le_of_ble_eq_true rfl) (sp_X3_has (h.tab w) p) (fun S_5 h_5 => ?_)
      have h_5 := h_5.symm
      subst h_5
      refine x_if_neT eX8_neighbour_8 (fun c_8 => ?_) (fun c_8 => ?_)
      · exact absurd c_8 hp
      · refine x_bipush (v := -101) eX8_neighbour_11 (by decide) ?_
        exact s_iret eX8_neighbour_13 rfl rfl ⟨rfl, h, frC.rf _⟩
    · show XP _ _ [_, _, _] _ _ _
      refine x_aload_n eX9_neighbour_0 rfl ?_
      refine x_iload_n eX9_neighbour_1 rfl ?_
      refine s_callV1 (As := [_]) eX9_neighbour_2 kX9_284 ⟨by decide, by decide⟩ rfl (by decide) (by decide) rfl rfl (Nat.le_of_ble_eq_true rfl) (Nat.le_of_ble_eq_true rfl) (sp_X9_isParcel (h.tab w) p) (fun S_2 h_2 => ?_)
      have h_2 := h_2.symm
      subst h_2
      refine x_if_neT eX9_neighbour_5 (fun c_5 => ?_) (fun c_5 => ?_)
      · exact absurd c_5 hp
      · refine x_bipush (v := -101) eX9_neighbour_8 (by decide) ?_
        exact s_iret eX9_neighbour_10 rfl rfl ⟨rfl, h, frM.rf _⟩
  obtain ⟨a, ha, rfl, ta⟩ := hp
  have ya : xHas X (nI a) := ⟨a, ha, rfl, ta⟩
  refine ⟨.int (nthI (fun q => q ≠ a ∧ xTh X q = true ∧ nI (xLy X q) = nI (xLy X a) ∧ 0 < brd X a q) (xNp X) k), X, w, fun S h => ?_, fun S h => ?_⟩
  · obtain ⟨T, hT⟩ := h.pts w
    have loop : ∀ μ j, j + μ = (xNp X) → ∀ S1, (Lx [364] S S1 ∧ ∀ q, q < j → ¬ ((fun q => q ≠ a ∧ xTh X q = true ∧ nI (xLy X q) = nI (xLy X a) ∧ 0 < brd X a q) q ∧ nI (cnt (fun q => q ≠ a ∧ xTh X q = true ∧ nI (xLy X q) = nI (xLy X a) ∧ 0 < brd X a q) q) = k)) → XP mX8_neighbour 30 [(5, .int (nI j)), (4, .int (nI (cnt (fun q => q ≠ a ∧ xTh X q = true ∧ nI (xLy X q) = nI (xLy X a) ∧ 0 < brd X a q) j))), (3, .ref (175 + a)), (0, .ref 31), (1, .int (nI a)), (2, .int k)] [] (xwS S1) (sQ (fun r S' => r = some (.int (nthI (fun q => q ≠ a ∧ xTh X q = true ∧ nI (xLy X q) = nI (xLy X a) ∧ 0 < brd X a q) (xNp X) k)) ∧ RC S' X ∧ frC S S')) := by
      intro μ
      induction μ with
      | zero =>
        intro j hk S1 h1
        obtain ⟨hx, hno⟩ := h1
        have g := RC_L h hx
        have t := g.tab w
        have pts := hT.m hx
        refine x_iload eX8_neighbour_30 rfl ?_
        refine x_aload_n eX8_neighbour_32 rfl ?_
        refine s_getR (k := 37) eX8_neighbour_33 fX8_28 rfl (by decide) (by decide) rfl ?_
        refine s_geti eX8_neighbour_36 fX8_136 rfl (by decide) (by decide) ?_
        rw [t.1]
        refine x_icmp_geN eX8_neighbour_39 (by omega) (by omega) (fun c_39 => ?_) (fun c_39 => ?_)
        · refine x_iconst (v := -1) eX8_neighbour_109 (by decide) ?_
          exact s_iret eX8_neighbour_110 rfl rfl ⟨by rw [nth_no (fun q hq => hno q (by omega))], g, hx.frC (by simp)⟩
        · omega
      | succ μ ih =>
        intro j hk S1 h1
        obtain ⟨hx, hno⟩ := h1
        have g := RC_L h hx
        have t := g.tab w
        have pts := hT.m hx
        refine x_iload eX8_neighbour_30 rfl ?_
        refine x_aload_n eX8_neighbour_32 rfl ?_
        refine s_getR (k := 37) eX8_neighbour_33 fX8_28 rfl (by decide) (by decide) rfl ?_
        refine s_geti eX8_neighbour_36 fX8_136 rfl (by decide) (by decide) ?_
        rw [t.1]
        refine x_icmp_geN eX8_neighbour_39 (by omega) (by omega) (fun c_39 => ?_) (fun c_39 => ?_)
        · omega
        · refine x_iload eX8_neighbour_42 rfl ?_
          refine x_iload_n eX8_neighbour_44 rfl ?_
          refine x_icmp_eqN eX8_neighbour_45 (by omega) (by omega) (fun c_45 => ?_) (fun c_45 => ?_)
          · refine x_iinc (lv' := [_, _, _, _, _, _]) eX8_neighbour_103 rfl (by first | exact nI_inc _ | exact rfl) (by decide) rfl ?_
            refine x_goto eX8_neighbour_106 ?_
            refine x_pick [0, 1, 2, 3, 4, 5] rfl ?_
            have nx : ∀ q, q < j + 1 → ¬ ((fun q => q ≠ a ∧ xTh X q = true ∧ nI (xLy X q) = nI (xLy X a) ∧ 0 < brd X a q) q ∧ nI (cnt (fun q => q ≠ a ∧ xTh X q = true ∧ nI (xLy X q) = nI (xLy X a) ∧ 0 < brd X a q) q) = k) := fun q hq z => by
              by_cases e : q = j
              · subst e
                first
                  | exact c_94 z.2
                  | exact z.1.1 c_45
                  | exact c_61 ⟨by omega, z.1.2.1, z.1.2.2.1⟩
                  | (have := z.1.2.2.2; omega)
              · exact hno q (by omega) z
            have := ih (j + 1) (by omega) _ ⟨hx, nx⟩
            first
              | (rw [cnt_t (R := (fun q => q ≠ a ∧ xTh X q = true ∧ nI (xLy X q) = nI (xLy X a) ∧ 0 < brd X a q)) ⟨c_45, c_61.2.1, c_61.2.2, c_88⟩] at this; exact this)
              | (rw [cnt_f (R := (fun q => q ≠ a ∧ xTh X q = true ∧ nI (xLy X q) = nI (xLy X a) ∧ 0 < brd X a q)) (fun z => z.1 c_45)] at this; exact this)
              | (rw [cnt_f (R := (fun q => q ≠ a ∧ xTh X q = true ∧ nI (xLy X q) = nI (xLy X a) ∧ 0 < brd X a q)) (fun z => c_61 ⟨by omega, z.2.1, z.2.2.1⟩)] at this; exact this)
              | (rw [cnt_f (R := (fun q => q ≠ a ∧ xTh X q = true ∧ nI (xLy X q) = nI (xLy X a) ∧ 0 < brd X a q)) (fun z => by have := z.2.2.2; omega)] at this; exact this)
          · refine x_aload_n eX8_neighbour_48 rfl ?_
            refine s_getR (k := 37) eX8_neighbour_49 fX8_28 rfl (by decide) (by decide) rfl ?_
            refine x_iload eX8_neighbour_52 rfl ?_
            refine x_aload_n eX8_neighbour_54 rfl ?_
            refine s_geti eX8_neighbour_55 fX8_149 (kd_parcel (by omega)) (show _ < 365 by omega) (by decide) ?_
            rw [((t.2.2 a ha).2 ta).1]
            refine s_callV1 (As := [_, _]) eX8_neighbour_58 kX8_208 ⟨by decide, by decide⟩ rfl (by decide) (by decide) rfl rfl (Nat.le_of_ble_eq_true rfl) (Nat.le_of_ble_eq_true rfl) (sp_X3_isOf t (by omega) _) (fun S_58 h_58 => ?_)
            have h_58 := h_58.symm
            subst h_58
            refine x_if_eqT eX8_neighbour_61 (fun c_61 => ?_) (fun c_61 => ?_)
            · refine x_iinc (lv' := [_, _, _, _, _, _]) eX8_neighbour_103 rfl (by first | exact nI_inc _ | exact rfl) (by decide) rfl ?_
              refine x_goto eX8_neighbour_106 ?_
              refine x_pick [0, 1, 2, 3, 4, 5] rfl ?_
              have nx : ∀ q, q < j + 1 → ¬ ((fun q => q ≠ a ∧ xTh X q = true ∧ nI (xLy X q) = nI (xLy X a) ∧ 0 < brd X a q) q ∧ nI (cnt (fun q => q ≠ a ∧ xTh X q = true ∧ nI (xLy X q) = nI (xLy X a) ∧ 0 < brd X a q) q) = k) := fun q hq z => by
                by_cases e : q = j
                · subst e
                  first
                    | exact c_94 z.2
                    | exact z.1.1 c_45
                    | exact c_61 ⟨by omega, z.1.2.1, z.1.2.2.1⟩
                    | (have := z.1.2.2.2; omega)
                · exact hno q (by omega) z
              have := ih (j + 1) (by omega) _ ⟨hx, nx⟩
              first
                | (rw [cnt_t (R := (fun q => q ≠ a ∧ xTh X q = true ∧ nI (xLy X q) = nI (xLy X a) ∧ 0 < brd X a q)) ⟨c_45, c_61.2.1, c_61.2.2, c_88⟩] at this; exact this)
                | (rw [cnt_f (R := (fun q => q ≠ a ∧ xTh X q = true ∧ nI (xLy X q) = nI (xLy X a) ∧ 0 < brd X a q)) (fun z => z.1 c_45)] at this; exact this)
                | (rw [cnt_f (R := (fun q => q ≠ a ∧ xTh X q = true ∧ nI (xLy X q) = nI (xLy X a) ∧ 0 < brd X a q)) (fun z => c_61 ⟨by omega, z.2.1, z.2.2.1⟩)] at this; exact this)
                | (rw [cnt_f (R := (fun q => q ≠ a ∧ xTh X q = true ∧ nI (xLy X q) = nI (xLy X a) ∧ 0 < brd X a q)) (fun z => by have := z.2.2.2; omega)] at this; exact this)
            · refine x_aload_n eX8_neighbour_64 rfl ?_
              refine s_getR (k := 36) eX8_neighbour_65 fX8_21 rfl (by decide) (by decide) rfl ?_
              refine x_aload_n eX8_neighbour_68 rfl ?_
              refine s_getR (k := (45 + 2 * a)) eX8_neighbour_69 fX8_157 (kd_parcel (by omega)) (show _ < 365 by omega) (by decide) (rf_parcel (by omega)) ?_
              refine x_aload_n eX8_neighbour_72 rfl ?_
              refine s_getR (k := 37) eX8_neighbour_73 fX8_28 rfl (by decide) (by decide) rfl ?_
              refine s_getR (k := 38) eX8_neighbour_76 fX8_145 rfl (by decide) (by decide) rfl ?_
              refine x_iload eX8_neighbour_79 rfl ?_
              refine s_raldR eX8_neighbour_81 (by first | exact Or.inl rfl | exact Or.inr rfl) (by decide) rfl (show _ < 60 by omega) (rf_parcels j) ?_
              refine s_getR (k := (45 + 2 * j)) eX8_neighbour_82 fX8_157 (kd_parcel (by omega)) (show _ < 365 by omega) (by decide) (rf_parcel (by omega)) ?_
              refine s_callV1 (As := [_, _]) eX8_neighbour_85 kX8_204 ⟨by decide, by decide⟩ rfl (by decide) (by decide) rfl rfl (Nat.le_of_ble_eq_true rfl) (Nat.le_of_ble_eq_true rfl) (sp_X5_stretches _ pts (g.cr w ha ta) (g.cr w c_61.1 c_61.2.1)) (fun S_85 h_85 => ?_)
              rw [brd_c w ta c_61.2.1]
              have hx := hx.tr h_85
              have g := RC_L h hx
              have bl := brd_le w ta c_61.2.1
              refine x_if_leN eX8_neighbour_88 (by omega) (fun c_88 => ?_) (fun c_88 => ?_)
              · refine x_iinc (lv' := [_, _, _, _, _, _]) eX8_neighbour_103 rfl (by first | exact nI_inc _ | exact rfl) (by decide) rfl ?_
                refine x_goto eX8_neighbour_106 ?_
                refine x_pick [0, 1, 2, 3, 4, 5] rfl ?_
                have nx : ∀ q, q < j + 1 → ¬ ((fun q => q ≠ a ∧ xTh X q = true ∧ nI (xLy X q) = nI (xLy X a) ∧ 0 < brd X a q) q ∧ nI (cnt (fun q => q ≠ a ∧ xTh X q = true ∧ nI (xLy X q) = nI (xLy X a) ∧ 0 < brd X a q) q) = k) := fun q hq z => by
                  by_cases e : q = j
                  · subst e
                    first
                      | exact c_94 z.2
                      | exact z.1.1 c_45
                      | exact c_61 ⟨by omega, z.1.2.1, z.1.2.2.1⟩
                      | (have := z.1.2.2.2; omega)
                  · exact hno q (by omega) z
                have := ih (j + 1) (by omega) _ ⟨hx, nx⟩
                first
                  | (rw [cnt_t (R := (fun q => q ≠ a ∧ xTh X q = true ∧ nI (xLy X q) = nI (xLy X a) ∧ 0 < brd X a q)) ⟨c_45, c_61.2.1, c_61.2.2, c_88⟩] at this; exact this)
                  | (rw [cnt_f (R := (fun q => q ≠ a ∧ xTh X q = true ∧ nI (xLy X q) = nI (xLy X a) ∧ 0 < brd X a q)) (fun z => z.1 c_45)] at this; exact this)
                  | (rw [cnt_f (R := (fun q => q ≠ a ∧ xTh X q = true ∧ nI (xLy X q) = nI (xLy X a) ∧ 0 < brd X a q)) (fun z => c_61 ⟨by omega, z.2.1, z.2.2.1⟩)] at this; exact this)
                  | (rw [cnt_f (R := (fun q => q ≠ a ∧ xTh X q = true ∧ nI (xLy X q) = nI (xLy X a) ∧ 0 < brd X a q)) (fun z => by have := z.2.2.2; omega)] at this; exact this)
              · refine x_iload eX8_neighbour_91 rfl ?_
                refine x_iload_n eX8_neighbour_93 rfl ?_
                refine x_icmp_ne eX8_neighbour_94 (fun c_94 => ?_) (fun c_94 => ?_)
                · refine x_iinc (lv' := [_, _, _, _, _, _]) eX8_neighbour_100 rfl (by first | exact nI_inc _ | exact rfl) (by decide) rfl ?_
                  refine x_iinc (lv' := [_, _, _, _, _, _]) eX8_neighbour_103 rfl (by first | exact nI_inc _ | exact rfl) (by decide) rfl ?_
                  refine x_goto eX8_neighbour_106 ?_
                  refine x_pick [0, 1, 2, 3, 4, 5] rfl ?_
                  have nx : ∀ q, q < j + 1 → ¬ ((fun q => q ≠ a ∧ xTh X q = true ∧ nI (xLy X q) = nI (xLy X a) ∧ 0 < brd X a q) q ∧ nI (cnt (fun q => q ≠ a ∧ xTh X q = true ∧ nI (xLy X q) = nI (xLy X a) ∧ 0 < brd X a q) q) = k) := fun q hq z => by
                    by_cases e : q = j
                    · subst e
                      first
                        | exact c_94 z.2
                        | exact z.1.1 c_45
                        | exact c_61 ⟨by omega, z.1.2.1, z.1.2.2.1⟩
                        | (have := z.1.2.2.2; omega)
                    · exact hno q (by omega) z
                  have := ih (j + 1) (by omega) _ ⟨hx, nx⟩
                  first
                    | (rw [cnt_t (R := (fun q => q ≠ a ∧ xTh X q = true ∧ nI (xLy X q) = nI (xLy X a) ∧ 0 < brd X a q)) ⟨c_45, c_61.2.1, c_61.2.2, c_88⟩] at this; exact this)
                    | (rw [cnt_f (R := (fun q => q ≠ a ∧ xTh X q = true ∧ nI (xLy X q) = nI (xLy X a) ∧ 0 < brd X a q)) (fun z => z.1 c_45)] at this; exact this)
                    | (rw [cnt_f (R := (fun q => q ≠ a ∧ xTh X q = true ∧ nI (xLy X q) = nI (xLy X a) ∧ 0 < brd X a q)) (fun z => c_61 ⟨by omega, z.2.1, z.2.2.1⟩)] at this; exact this)
                    | (rw [cnt_f (R := (fun q => q ≠ a ∧ xTh X q = true ∧ nI (xLy X q) = nI (xLy X a) ∧ 0 < brd X a q)) (fun z => by have := z.2.2.2; omega)] at this; exact this)
                · refine x_iload eX8_neighbour_97 rfl ?_
                  exact s_iret eX8_neighbour_99 rfl rfl ⟨by rw [nth_yes (R := (fun q => q ≠ a ∧ xTh X q = true ∧ nI (xLy X q) = nI (xLy X a) ∧ 0 < brd X a q)) (by omega) ⟨c_45, c_61.2.1, c_61.2.2, c_88⟩ c_94 hno], g, hx.frC (by simp)⟩
    show XP _ _ [_, _, _] _ _ _
    refine x_aload_n eX8_neighbour_0 rfl ?_
    refine s_getR (k := 37) eX8_neighbour_1 fX8_28 rfl (by decide) (by decide) rfl ?_
    refine x_iload_n eX8_neighbour_4 rfl ?_
    refine s_callV1 (As := [_]) eX8_neighbour_5 kX8_144 ⟨by decide, by decide⟩ rfl (by decide) (by decide) rfl rfl (Nat.le_of_ble_eq_true rfl) (Nat.le_of_ble_eq_true rfl) (sp_X3_has (h.tab w) (nI a)) (fun S_5 h_5 => ?_)
    have h_5 := h_5.symm
    subst h_5
    refine x_if_neT eX8_neighbour_8 (fun c_8 => ?_) (fun c_8 => ?_)
    · refine x_aload_n eX8_neighbour_14 rfl ?_
      refine s_getR (k := 37) eX8_neighbour_15 fX8_28 rfl (by decide) (by decide) rfl ?_
      refine s_getR (k := 38) eX8_neighbour_18 fX8_145 rfl (by decide) (by decide) rfl ?_
      refine x_iload_n eX8_neighbour_21 rfl ?_
      refine s_raldR eX8_neighbour_22 (by first | exact Or.inl rfl | exact Or.inr rfl) (by decide) rfl (show _ < 60 by omega) (rf_parcels a) ?_
      refine x_astore_n (lv' := [_, _, _, _]) eX8_neighbour_23 (by decide) rfl ?_
      refine x_iconst (v := nI 0) eX8_neighbour_24 (by decide) ?_
      refine x_istore (lv' := [_, _, _, _, _]) eX8_neighbour_25 (by decide) rfl ?_
      refine x_iconst (v := nI 0) eX8_neighbour_27 (by decide) ?_
      refine x_istore (lv' := [_, _, _, _, _, _]) eX8_neighbour_28 (by decide) rfl ?_
      refine x_pick [0, 1, 2, 3, 4, 5] rfl ?_
      exact loop (xNp X) 0 (by omega) _ ⟨Lx.rf _ _, fun q hq => by omega⟩
    · exact absurd ya c_8
  · obtain ⟨T, hT⟩ := h.pts w
    have loop : ∀ μ j, j + μ = (xNp X) → ∀ S1, (Lx [5, 6, 7] S S1 ∧ ∀ q, q < j → ¬ ((fun q => q ≠ a ∧ xTh X q = true ∧ nI (xLy X q) = nI (xLy X a) ∧ 0 < brd X a q) q ∧ nI (cnt (fun q => q ≠ a ∧ xTh X q = true ∧ nI (xLy X q) = nI (xLy X a) ∧ 0 < brd X a q) q) = k)) → XP mX9_neighbour 16 [(4, .int (nI j)), (3, .int (nI (cnt (fun q => q ≠ a ∧ xTh X q = true ∧ nI (xLy X q) = nI (xLy X a) ∧ 0 < brd X a q) j))), (0, .ref 0), (1, .int (nI a)), (2, .int k)] [] (xwS S1) (sQ (fun r S' => r = some (.int (nthI (fun q => q ≠ a ∧ xTh X q = true ∧ nI (xLy X q) = nI (xLy X a) ∧ 0 < brd X a q) (xNp X) k)) ∧ RM S' X ∧ frM S S')) := by
      intro μ
      induction μ with
      | zero =>
        intro j hk S1 h1
        obtain ⟨hx, hno⟩ := h1
        have g := RM_L w h hx
        have t := g.tab w
        have pts := hT.lx hx
        refine x_iload eX9_neighbour_16 rfl ?_
        refine x_aload_n eX9_neighbour_18 rfl ?_
        refine s_geti eX9_neighbour_19 fX9_224 rfl (by decide) (by decide) ?_
        rw [t.1]
        refine x_icmp_geN eX9_neighbour_22 (by omega) (by omega) (fun c_22 => ?_) (fun c_22 => ?_)
        · refine x_iconst (v := -1) eX9_neighbour_84 (by decide) ?_
          exact s_iret eX9_neighbour_85 rfl rfl ⟨by rw [nth_no (fun q hq => hno q (by omega))], g, hx.frM (by simp)⟩
        · omega
      | succ μ ih =>
        intro j hk S1 h1
        obtain ⟨hx, hno⟩ := h1
        have g := RM_L w h hx
        have t := g.tab w
        have pts := hT.lx hx
        refine x_iload eX9_neighbour_16 rfl ?_
        refine x_aload_n eX9_neighbour_18 rfl ?_
        refine s_geti eX9_neighbour_19 fX9_224 rfl (by decide) (by decide) ?_
        rw [t.1]
        refine x_icmp_geN eX9_neighbour_22 (by omega) (by omega) (fun c_22 => ?_) (fun c_22 => ?_)
        · omega
        · refine x_iload eX9_neighbour_25 rfl ?_
          refine x_iload_n eX9_neighbour_27 rfl ?_
          refine x_icmp_eqN eX9_neighbour_28 (by omega) (by omega) (fun c_28 => ?_) (fun c_28 => ?_)
          · refine x_iinc (lv' := [_, _, _, _, _]) eX9_neighbour_78 rfl (by first | exact nI_inc _ | exact rfl) (by decide) rfl ?_
            refine x_goto eX9_neighbour_81 ?_
            refine x_pick [0, 1, 2, 3, 4] rfl ?_
            have nx : ∀ q, q < j + 1 → ¬ ((fun q => q ≠ a ∧ xTh X q = true ∧ nI (xLy X q) = nI (xLy X a) ∧ 0 < brd X a q) q ∧ nI (cnt (fun q => q ≠ a ∧ xTh X q = true ∧ nI (xLy X q) = nI (xLy X a) ∧ 0 < brd X a q) q) = k) := fun q hq z => by
              by_cases e : q = j
              · subst e
                first
                  | exact c_69 z.2
                  | exact z.1.1 c_28
                  | exact c_54 z.1.2.2.1
                  | (have z2 := z.1.2.1; rw [show xTh X q = false from c_38] at z2; exact absurd z2 (by decide))
                  | (have := z.1.2.2.2; omega)
              · exact hno q (by omega) z
            have := ih (j + 1) (by omega) _ ⟨hx, nx⟩
            first
              | (rw [cnt_t (R := (fun q => q ≠ a ∧ xTh X q = true ∧ nI (xLy X q) = nI (xLy X a) ∧ 0 < brd X a q)) ⟨c_28, c_38, c_54, c_64⟩] at this; exact this)
              | (rw [cnt_f (R := (fun q => q ≠ a ∧ xTh X q = true ∧ nI (xLy X q) = nI (xLy X a) ∧ 0 < brd X a q)) (fun z => z.1 c_28)] at this; exact this)
              | (rw [cnt_f (R := (fun q => q ≠ a ∧ xTh X q = true ∧ nI (xLy X q) = nI (xLy X a) ∧ 0 < brd X a q)) (fun z => c_54 z.2.2.1)] at this; exact this)
              | (rw [cnt_f (R := (fun q => q ≠ a ∧ xTh X q = true ∧ nI (xLy X q) = nI (xLy X a) ∧ 0 < brd X a q)) (fun z => by have z2 := z.2.1; rw [show xTh X j = false from c_38] at z2; exact absurd z2 (by decide))] at this; exact this)
              | (rw [cnt_f (R := (fun q => q ≠ a ∧ xTh X q = true ∧ nI (xLy X q) = nI (xLy X a) ∧ 0 < brd X a q)) (fun z => by have := z.2.2.2; omega)] at this; exact this)
          · refine x_aload_n eX9_neighbour_31 rfl ?_
            refine s_getR (k := 12) eX9_neighbour_32 fX9_48 rfl (by decide) (by decide) rfl ?_
            refine x_iload eX9_neighbour_35 rfl ?_
            refine s_zald eX9_neighbour_37 rfl (by decide) rfl (show _ < 60 by omega) ?_
            rw [(t.2.2 j (by omega)).1]
            refine x_if_eqB eX9_neighbour_38 (fun c_38 => ?_) (fun c_38 => ?_)
            · refine x_iinc (lv' := [_, _, _, _, _]) eX9_neighbour_78 rfl (by first | exact nI_inc _ | exact rfl) (by decide) rfl ?_
              refine x_goto eX9_neighbour_81 ?_
              refine x_pick [0, 1, 2, 3, 4] rfl ?_
              have nx : ∀ q, q < j + 1 → ¬ ((fun q => q ≠ a ∧ xTh X q = true ∧ nI (xLy X q) = nI (xLy X a) ∧ 0 < brd X a q) q ∧ nI (cnt (fun q => q ≠ a ∧ xTh X q = true ∧ nI (xLy X q) = nI (xLy X a) ∧ 0 < brd X a q) q) = k) := fun q hq z => by
                by_cases e : q = j
                · subst e
                  first
                    | exact c_69 z.2
                    | exact z.1.1 c_28
                    | exact c_54 z.1.2.2.1
                    | (have z2 := z.1.2.1; rw [show xTh X q = false from c_38] at z2; exact absurd z2 (by decide))
                    | (have := z.1.2.2.2; omega)
                · exact hno q (by omega) z
              have := ih (j + 1) (by omega) _ ⟨hx, nx⟩
              first
                | (rw [cnt_t (R := (fun q => q ≠ a ∧ xTh X q = true ∧ nI (xLy X q) = nI (xLy X a) ∧ 0 < brd X a q)) ⟨c_28, c_38, c_54, c_64⟩] at this; exact this)
                | (rw [cnt_f (R := (fun q => q ≠ a ∧ xTh X q = true ∧ nI (xLy X q) = nI (xLy X a) ∧ 0 < brd X a q)) (fun z => z.1 c_28)] at this; exact this)
                | (rw [cnt_f (R := (fun q => q ≠ a ∧ xTh X q = true ∧ nI (xLy X q) = nI (xLy X a) ∧ 0 < brd X a q)) (fun z => c_54 z.2.2.1)] at this; exact this)
                | (rw [cnt_f (R := (fun q => q ≠ a ∧ xTh X q = true ∧ nI (xLy X q) = nI (xLy X a) ∧ 0 < brd X a q)) (fun z => by have z2 := z.2.1; rw [show xTh X j = false from c_38] at z2; exact absurd z2 (by decide))] at this; exact this)
                | (rw [cnt_f (R := (fun q => q ≠ a ∧ xTh X q = true ∧ nI (xLy X q) = nI (xLy X a) ∧ 0 < brd X a q)) (fun z => by have := z.2.2.2; omega)] at this; exact this)
            · refine x_aload_n eX9_neighbour_41 rfl ?_
              refine s_getR (k := 13) eX9_neighbour_42 fX9_52 rfl (by decide) (by decide) rfl ?_
              refine x_iload eX9_neighbour_45 rfl ?_
              refine s_iald eX9_neighbour_47 rfl (by decide) rfl (show _ < 60 by omega) ?_
              rw [((t.2.2 j (by omega)).2 c_38).1]
              refine x_aload_n eX9_neighbour_48 rfl ?_
              refine s_getR (k := 13) eX9_neighbour_49 fX9_52 rfl (by decide) (by decide) rfl ?_
              refine x_iload_n eX9_neighbour_52 rfl ?_
              refine s_iald eX9_neighbour_53 rfl (by decide) rfl (show _ < 60 by omega) ?_
              rw [((t.2.2 a ha).2 ta).1]
              refine x_icmp_ne eX9_neighbour_54 (fun c_54 => ?_) (fun c_54 => ?_)
              · refine x_iinc (lv' := [_, _, _, _, _]) eX9_neighbour_78 rfl (by first | exact nI_inc _ | exact rfl) (by decide) rfl ?_
                refine x_goto eX9_neighbour_81 ?_
                refine x_pick [0, 1, 2, 3, 4] rfl ?_
                have nx : ∀ q, q < j + 1 → ¬ ((fun q => q ≠ a ∧ xTh X q = true ∧ nI (xLy X q) = nI (xLy X a) ∧ 0 < brd X a q) q ∧ nI (cnt (fun q => q ≠ a ∧ xTh X q = true ∧ nI (xLy X q) = nI (xLy X a) ∧ 0 < brd X a q) q) = k) := fun q hq z => by
                  by_cases e : q = j
                  · subst e
                    first
                      | exact c_69 z.2
                      | exact z.1.1 c_28
                      | exact c_54 z.1.2.2.1
                      | (have z2 := z.1.2.1; rw [show xTh X q = false from c_38] at z2; exact absurd z2 (by decide))
                      | (have := z.1.2.2.2; omega)
                  · exact hno q (by omega) z
                have := ih (j + 1) (by omega) _ ⟨hx, nx⟩
                first
                  | (rw [cnt_t (R := (fun q => q ≠ a ∧ xTh X q = true ∧ nI (xLy X q) = nI (xLy X a) ∧ 0 < brd X a q)) ⟨c_28, c_38, c_54, c_64⟩] at this; exact this)
                  | (rw [cnt_f (R := (fun q => q ≠ a ∧ xTh X q = true ∧ nI (xLy X q) = nI (xLy X a) ∧ 0 < brd X a q)) (fun z => z.1 c_28)] at this; exact this)
                  | (rw [cnt_f (R := (fun q => q ≠ a ∧ xTh X q = true ∧ nI (xLy X q) = nI (xLy X a) ∧ 0 < brd X a q)) (fun z => c_54 z.2.2.1)] at this; exact this)
                  | (rw [cnt_f (R := (fun q => q ≠ a ∧ xTh X q = true ∧ nI (xLy X q) = nI (xLy X a) ∧ 0 < brd X a q)) (fun z => by have z2 := z.2.1; rw [show xTh X j = false from c_38] at z2; exact absurd z2 (by decide))] at this; exact this)
                  | (rw [cnt_f (R := (fun q => q ≠ a ∧ xTh X q = true ∧ nI (xLy X q) = nI (xLy X a) ∧ 0 < brd X a q)) (fun z => by have := z.2.2.2; omega)] at this; exact this)
              · refine x_aload_n eX9_neighbour_57 rfl ?_
                refine x_iload_n eX9_neighbour_58 rfl ?_
                refine x_iload eX9_neighbour_59 rfl ?_
                refine s_callV1 (As := [_, _]) eX9_neighbour_61 kX9_300 ⟨by decide, by decide⟩ rfl (by decide) (by decide) rfl rfl (Nat.le_of_ble_eq_true rfl) (Nat.le_of_ble_eq_true rfl) (sp_X9_borders _ pts w.1 (g.pr w ha ta) (g.pr w (by omega) c_38) (RGd_X w ta T) (RGd_X w c_38 T)) (fun S_61 h_61 => ?_)
                rw [brd_m w ta c_38 T]
                have hx := hx.tr h_61
                have g := RM_L w h hx
                have bl := brd_le w ta c_38
                refine x_if_leN eX9_neighbour_64 (by omega) (fun c_64 => ?_) (fun c_64 => ?_)
                · refine x_iinc (lv' := [_, _, _, _, _]) eX9_neighbour_78 rfl (by first | exact nI_inc _ | exact rfl) (by decide) rfl ?_
                  refine x_goto eX9_neighbour_81 ?_
                  refine x_pick [0, 1, 2, 3, 4] rfl ?_
                  have nx : ∀ q, q < j + 1 → ¬ ((fun q => q ≠ a ∧ xTh X q = true ∧ nI (xLy X q) = nI (xLy X a) ∧ 0 < brd X a q) q ∧ nI (cnt (fun q => q ≠ a ∧ xTh X q = true ∧ nI (xLy X q) = nI (xLy X a) ∧ 0 < brd X a q) q) = k) := fun q hq z => by
                    by_cases e : q = j
                    · subst e
                      first
                        | exact c_69 z.2
                        | exact z.1.1 c_28
                        | exact c_54 z.1.2.2.1
                        | (have z2 := z.1.2.1; rw [show xTh X q = false from c_38] at z2; exact absurd z2 (by decide))
                        | (have := z.1.2.2.2; omega)
                    · exact hno q (by omega) z
                  have := ih (j + 1) (by omega) _ ⟨hx, nx⟩
                  first
                    | (rw [cnt_t (R := (fun q => q ≠ a ∧ xTh X q = true ∧ nI (xLy X q) = nI (xLy X a) ∧ 0 < brd X a q)) ⟨c_28, c_38, c_54, c_64⟩] at this; exact this)
                    | (rw [cnt_f (R := (fun q => q ≠ a ∧ xTh X q = true ∧ nI (xLy X q) = nI (xLy X a) ∧ 0 < brd X a q)) (fun z => z.1 c_28)] at this; exact this)
                    | (rw [cnt_f (R := (fun q => q ≠ a ∧ xTh X q = true ∧ nI (xLy X q) = nI (xLy X a) ∧ 0 < brd X a q)) (fun z => c_54 z.2.2.1)] at this; exact this)
                    | (rw [cnt_f (R := (fun q => q ≠ a ∧ xTh X q = true ∧ nI (xLy X q) = nI (xLy X a) ∧ 0 < brd X a q)) (fun z => by have z2 := z.2.1; rw [show xTh X j = false from c_38] at z2; exact absurd z2 (by decide))] at this; exact this)
                    | (rw [cnt_f (R := (fun q => q ≠ a ∧ xTh X q = true ∧ nI (xLy X q) = nI (xLy X a) ∧ 0 < brd X a q)) (fun z => by have := z.2.2.2; omega)] at this; exact this)
                · refine x_iload_n eX9_neighbour_67 rfl ?_
                  refine x_iload_n eX9_neighbour_68 rfl ?_
                  refine x_icmp_ne eX9_neighbour_69 (fun c_69 => ?_) (fun c_69 => ?_)
                  · refine x_iinc (lv' := [_, _, _, _, _]) eX9_neighbour_75 rfl (by first | exact nI_inc _ | exact rfl) (by decide) rfl ?_
                    refine x_iinc (lv' := [_, _, _, _, _]) eX9_neighbour_78 rfl (by first | exact nI_inc _ | exact rfl) (by decide) rfl ?_
                    refine x_goto eX9_neighbour_81 ?_
                    refine x_pick [0, 1, 2, 3, 4] rfl ?_
                    have nx : ∀ q, q < j + 1 → ¬ ((fun q => q ≠ a ∧ xTh X q = true ∧ nI (xLy X q) = nI (xLy X a) ∧ 0 < brd X a q) q ∧ nI (cnt (fun q => q ≠ a ∧ xTh X q = true ∧ nI (xLy X q) = nI (xLy X a) ∧ 0 < brd X a q) q) = k) := fun q hq z => by
                      by_cases e : q = j
                      · subst e
                        first
                          | exact c_69 z.2
                          | exact z.1.1 c_28
                          | exact c_54 z.1.2.2.1
                          | (have z2 := z.1.2.1; rw [show xTh X q = false from c_38] at z2; exact absurd z2 (by decide))
                          | (have := z.1.2.2.2; omega)
                      · exact hno q (by omega) z
                    have := ih (j + 1) (by omega) _ ⟨hx, nx⟩
                    first
                      | (rw [cnt_t (R := (fun q => q ≠ a ∧ xTh X q = true ∧ nI (xLy X q) = nI (xLy X a) ∧ 0 < brd X a q)) ⟨c_28, c_38, c_54, c_64⟩] at this; exact this)
                      | (rw [cnt_f (R := (fun q => q ≠ a ∧ xTh X q = true ∧ nI (xLy X q) = nI (xLy X a) ∧ 0 < brd X a q)) (fun z => z.1 c_28)] at this; exact this)
                      | (rw [cnt_f (R := (fun q => q ≠ a ∧ xTh X q = true ∧ nI (xLy X q) = nI (xLy X a) ∧ 0 < brd X a q)) (fun z => c_54 z.2.2.1)] at this; exact this)
                      | (rw [cnt_f (R := (fun q => q ≠ a ∧ xTh X q = true ∧ nI (xLy X q) = nI (xLy X a) ∧ 0 < brd X a q)) (fun z => by have z2 := z.2.1; rw [show xTh X j = false from c_38] at z2; exact absurd z2 (by decide))] at this; exact this)
                      | (rw [cnt_f (R := (fun q => q ≠ a ∧ xTh X q = true ∧ nI (xLy X q) = nI (xLy X a) ∧ 0 < brd X a q)) (fun z => by have := z.2.2.2; omega)] at this; exact this)
                  · refine x_iload eX9_neighbour_72 rfl ?_
                    exact s_iret eX9_neighbour_74 rfl rfl ⟨by rw [nth_yes (R := (fun q => q ≠ a ∧ xTh X q = true ∧ nI (xLy X q) = nI (xLy X a) ∧ 0 < brd X a q)) (by omega) ⟨c_28, c_38, c_54, c_64⟩ c_69 hno], g, hx.frM (by simp)⟩
    show XP _ _ [_, _, _] _ _ _
    refine x_aload_n eX9_neighbour_0 rfl ?_
    refine x_iload_n eX9_neighbour_1 rfl ?_
    refine s_callV1 (As := [_]) eX9_neighbour_2 kX9_284 ⟨by decide, by decide⟩ rfl (by decide) (by decide) rfl rfl (Nat.le_of_ble_eq_true rfl) (Nat.le_of_ble_eq_true rfl) (sp_X9_isParcel (h.tab w) (nI a)) (fun S_2 h_2 => ?_)
    have h_2 := h_2.symm
    subst h_2
    refine x_if_neT eX9_neighbour_5 (fun c_5 => ?_) (fun c_5 => ?_)
    · refine x_iconst (v := nI 0) eX9_neighbour_11 (by decide) ?_
      refine x_istore_n (lv' := [_, _, _, _]) eX9_neighbour_12 (by decide) rfl ?_
      refine x_iconst (v := nI 0) eX9_neighbour_13 (by decide) ?_
      refine x_istore (lv' := [_, _, _, _, _]) eX9_neighbour_14 (by decide) rfl ?_
      refine x_pick [0, 1, 2, 3, 4] rfl ?_
      exact loop (xNp X) 0 (by omega) _ ⟨Lx.rf _ _, fun q hq => by omega⟩
    · exact absurd ya c_5
