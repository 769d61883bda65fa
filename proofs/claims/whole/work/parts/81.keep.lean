/-! ===== keep, make, restore ===== -/
theorem entEq.mv {S S1 : xS} {a b : Nat} (h : entEq S a S1 b) {S2 : xS} {fs is : List Nat} (hx : Fx fs is [] [] S1 S2) (h1 : 175 + b ∉ fs) (h2 : 45 + 2 * b ∉ fs) (h3 : 46 + 2 * b ∉ is) : entEq S a S2 b := ⟨fun f hf => by rw [hx.1 _ h1]; exact h.1 f hf, by rw [hx.1 _ h2]; exact h.2.1, fun i hi => by rw [hx.2.1 _ h3]; exact h.2.2 i hi⟩
theorem entEq.of {S S0 S1 : xS} {a b : Nat} (h : entEq S0 a S1 b) {fs is : List Nat} (hx : Fx fs is [] [] S S0) (h1 : 175 + a ∉ fs) (h2 : 45 + 2 * a ∉ fs) (h3 : 46 + 2 * a ∉ is) : entEq S a S1 b := ⟨fun f hf => by rw [h.1 f hf, hx.1 _ h1], by rw [h.2.1, hx.1 _ h2], fun i hi => by rw [h.2.2 i hi, hx.2.1 _ h3]⟩
def zst (S : xS) : Prop := ∀ a, a < 62 → S.1 (175 + a) 1 = 0 ∨ S.1 (175 + a) 1 = 1
theorem zst_of {S S1 : xS} {fs is : List Nat} (h : zst S) (hx : Fx fs is [] [] S S1) {b : Nat} (hb : b < 62) (h1 : 175 + b ∉ fs) : S1.1 (175 + b) 1 = 0 ∨ S1.1 (175 + b) 1 = 1 := by rw [hx.1 _ h1]; exact h b hb

theorem sp_X3_keep (S : xS) {p : Nat} (hp : p < 60) (qv : Int32) (hq : qv = -1 ∨ ∃ q, q < 60 ∧ qv = nI q) (hz : zst S) : Sp mX3_keep [.ref 37, .int (nI p), .int qv] S (fun r S' => r = none ∧ Fx [37, 235, 236, 165, 167] [166, 168] [] [] S S' ∧ S'.1 37 3 = nI p ∧ S'.1 37 4 = qv ∧ S'.1 37 5 = 1 ∧ S'.1 37 6 = S.1 37 6 ∧ entEq S p S' 60 ∧ (∀ q, q < 60 → qv = nI q → entEq S q S' 61) ∧ zst S') := by
  have key : ∀ S0, Fx [37] [] [] [] S S0 → S0.1 37 3 = nI p → S0.1 37 4 = qv → S0.1 37 5 = 1 → S0.1 37 6 = S.1 37 6 → XP mX3_keep 15 [(0, .ref 37), (1, .int (nI p)), (2, .int qv)] [] (xwS S0) (sQ (fun r S' => r = none ∧ Fx [37, 235, 236, 165, 167] [166, 168] [] [] S S' ∧ S'.1 37 3 = nI p ∧ S'.1 37 4 = qv ∧ S'.1 37 5 = 1 ∧ S'.1 37 6 = S.1 37 6 ∧ entEq S p S' 60 ∧ (∀ q, q < 60 → qv = nI q → entEq S q S' 61) ∧ zst S')) := by
    intro S0 x0 f3 f4 f5 f6
    have fin : ∀ S1, Fx [37, 235, 236, 165, 167] [166, 168] [] [] S0 S1 → S1.1 37 = S0.1 37 → entEq S0 p S1 60 → zst S1 → XP mX3_keep 35 [(0, .ref 37), (1, .int (nI p)), (2, .int qv)] [] (xwS S1) (sQ (fun r S' => r = none ∧ Fx [37, 235, 236, 165, 167] [166, 168] [] [] S S' ∧ S'.1 37 3 = nI p ∧ S'.1 37 4 = qv ∧ S'.1 37 5 = 1 ∧ S'.1 37 6 = S.1 37 6 ∧ entEq S p S' 60 ∧ (∀ q, q < 60 → qv = nI q → entEq S q S' 61) ∧ zst S')) := by
      intro S1 x1 e37 en1 z1
      have xx : Fx [37, 235, 236, 165, 167] [166, 168] [] [] S S1 := (x0.mono (by simp) (by simp) (by simp) (by simp)).tr x1
      have en0 : entEq S p S1 60 := en1.of x0 (by simp; omega) (by simp; omega) (by simp)
      rcases hq with rfl | ⟨q, hq, rfl⟩
      · refine x_iload_n eX3_keep_35 rfl ?_
        refine s_callS1 (As := [_]) eX3_keep_36 kX3_70 ⟨by decide, by decide⟩ rfl rfl (Nat.le_of_ble_eq_true rfl) (Nat.le_of_ble_eq_true rfl) (sp_X3_isEntryM _) (fun S_36 h_36 => ?_)
        have h_36 := h_36.symm
        subst h_36
        refine x_if_eqN eX3_keep_39 (by omega) (fun c_39 => ?_) (fun c_39 => ?_)
        · exact s_vret eX3_keep_55 rfl ⟨rfl, xx, by rw [e37, f3], by rw [e37, f4], by rw [e37, f5], by rw [e37, f6], en0, fun q hq e => absurd e.symm (nI_ne_m1 (by omega)), z1⟩
        · omega
      · refine x_iload_n eX3_keep_35 rfl ?_
        refine s_callS1 (As := [_]) eX3_keep_36 kX3_70 ⟨by decide, by decide⟩ rfl rfl (Nat.le_of_ble_eq_true rfl) (Nat.le_of_ble_eq_true rfl) (sp_X3_isEntryN _ hq) (fun S_36 h_36 => ?_)
        have h_36 := h_36.symm
        subst h_36
        refine x_if_eqN eX3_keep_39 (by omega) (fun c_39 => ?_) (fun c_39 => ?_)
        · omega
        · refine x_aload_n eX3_keep_42 rfl ?_
          refine s_getR (k := 236) eX3_keep_43 fX3_22 rfl (by decide) (by decide) rfl ?_
          refine x_aload_n eX3_keep_46 rfl ?_
          refine s_getR (k := 38) eX3_keep_47 fX3_11 rfl (by decide) (by decide) rfl ?_
          refine x_iload_n eX3_keep_50 rfl ?_
          refine s_raldR eX3_keep_51 (by first | exact Or.inl rfl | exact Or.inr rfl) (by decide) rfl (show _ < 60 by omega) (rf_parcels q) ?_
          refine s_callV0 (As := [_]) eX3_keep_52 kX3_73 ⟨by decide, by decide⟩ rfl (by decide) (by decide) rfl rfl (Nat.le_of_ble_eq_true rfl) (Nat.le_of_ble_eq_true rfl) (sp_X1_copy _ (a := 61) (b := q) (by omega) (by omega) (by omega) (by rw [xx.1 (175 + q) (by simp; omega)]; exact hz q (by omega))) (fun S_52 h_52 => ?_)
          obtain ⟨x2, e2⟩ := h_52
          have y2 : Fx [37, 235, 236, 165, 167] [166, 168] [] [] S1 S_52 := x2.mono (by simp) (by simp) (by simp) (by simp)
          have g37 : S_52.1 37 = S1.1 37 := x2.1 37 (by simp)
          have z2 : zst S_52 := fun a ha => by
            by_cases q61 : a = 61
            · subst q61; rw [e2.1 1 (Or.inl rfl)]; exact z1 q (by omega)
            · rw [x2.1 (175 + a) (by simp; omega)]; exact z1 a ha
          exact s_vret eX3_keep_55 rfl ⟨rfl, xx.tr y2, by rw [g37, e37, f3], by rw [g37, e37, f4], by rw [g37, e37, f5], by rw [g37, e37, f6], en0.mv x2 (by simp) (by simp) (by simp), fun q2 hq2 e => by obtain rfl : q = q2 := (nI_eq (by omega) (by omega)).mp e; exact e2.of xx (by simp; omega) (by simp; omega) (by simp; omega), z2⟩
    refine x_iload_n eX3_keep_15 rfl ?_
    refine s_callS1 (As := [_]) eX3_keep_16 kX3_70 ⟨by decide, by decide⟩ rfl rfl (Nat.le_of_ble_eq_true rfl) (Nat.le_of_ble_eq_true rfl) (sp_X3_isEntryN _ hp) (fun S_16 h_16 => ?_)
    have h_16 := h_16.symm
    subst h_16
    refine x_if_eqN eX3_keep_19 (by omega) (fun c_19 => ?_) (fun c_19 => ?_)
    · omega
    · refine x_aload_n eX3_keep_22 rfl ?_
      refine s_getR (k := 235) eX3_keep_23 fX3_18 rfl (by decide) (by decide) rfl ?_
      refine x_aload_n eX3_keep_26 rfl ?_
      refine s_getR (k := 38) eX3_keep_27 fX3_11 rfl (by decide) (by decide) rfl ?_
      refine x_iload_n eX3_keep_30 rfl ?_
      refine s_raldR eX3_keep_31 (by first | exact Or.inl rfl | exact Or.inr rfl) (by decide) rfl (show _ < 60 by omega) (rf_parcels p) ?_
      refine s_callV0 (As := [_]) eX3_keep_32 kX3_73 ⟨by decide, by decide⟩ rfl (by decide) (by decide) rfl rfl (Nat.le_of_ble_eq_true rfl) (Nat.le_of_ble_eq_true rfl) (sp_X1_copy _ (a := 60) (b := p) (by omega) (by omega) (by omega) (by rw [x0.1 (175 + p) (by simp; omega)]; exact hz p (by omega))) (fun S_32 h_32 => ?_)
      obtain ⟨x1, e1⟩ := h_32
      refine fin S_32 (x1.mono (by simp) (by simp) (by simp) (by simp)) (x1.1 37 (by simp)) e1 (fun a ha => ?_)
      by_cases q60 : a = 60
      · subst q60; rw [e1.1 1 (Or.inl rfl), x0.1 (175 + p) (by simp; omega)]; exact hz p (by omega)
      · rw [x1.1 (175 + a) (by simp; omega), x0.1 (175 + a) (by simp; omega)]; exact hz a ha
  show XP _ _ [_, _, _] _ _ _
  refine x_aload_n eX3_keep_0 rfl ?_
  refine x_iload_n eX3_keep_1 rfl ?_
  refine s_puti eX3_keep_2 fX3_25 wX3_3 rfl (by decide) (by decide) ?_
  refine x_aload_n eX3_keep_5 rfl ?_
  refine x_iload_n eX3_keep_6 rfl ?_
  refine s_puti eX3_keep_7 fX3_29 wX3_4 rfl (by decide) (by decide) ?_
  refine x_aload_n eX3_keep_10 rfl ?_
  refine x_iconst (v := nI 1) eX3_keep_11 (by decide) ?_
  refine s_putz eX3_keep_12 fX3_32 wX3_5 rfl (by decide) (by decide) (by first | exact Or.inl rfl | exact Or.inr rfl | exact bI_01 _) ?_
  refine key _ (((Fx.sF (by simp)).tr (Fx.sF (by simp))).tr (Fx.sF (by simp))) ?_ ?_ ?_ ?_
  · rw [setF_at, upd_ne _ _ (by decide), setF_at, upd_ne _ _ (by decide), setF_at, upd_at]
  · rw [setF_at, upd_ne _ _ (by decide), setF_at, upd_at]
  · rw [setF_at, upd_at]; rfl
  · rw [setF_at, upd_ne _ _ (by decide), setF_at, upd_ne _ _ (by decide), setF_at, upd_ne _ _ (by decide)]
theorem sp_X3_make {S : xS} {np : Nat} {th : Nat → Bool} {ly : Nat → Nat} {ow : Nat → Int32} {sz : Nat → Nat} {rg : Nat → Nat → Nat} (h : ctab S np th ly ow sz rg) (h60 : np < 60) {r n : Nat} {c : Nat → Nat} (hr : crg S r n c) (hne : np ≠ r) (l w : Int32) : Sp mX3_make [.ref 37, .int l, .int w, .ref (45 + 2 * r)] S (fun r S' => r = none ∧ Fx [37, 175 + np, 45 + 2 * np] [46 + 2 * np] [] [] S S' ∧ S'.1 37 6 = nI (np + 1) ∧ (∀ f, f ≠ 6 → S'.1 37 f = S.1 37 f) ∧ S'.1 (175 + np) 1 = 1 ∧ S'.1 (175 + np) 2 = l ∧ S'.1 (175 + np) 3 = w ∧ crg S' np n c) := by
  have hr1 := hr.1
  show XP _ _ [_, _, _, _] _ _ _
  refine x_aload_n eX3_make_0 rfl ?_
  refine s_callV1 (As := []) eX3_make_1 kX3_53 ⟨by decide, by decide⟩ rfl (by decide) (by decide) rfl rfl (Nat.le_of_ble_eq_true rfl) (Nat.le_of_ble_eq_true rfl) (sp_X3_hasRoom h) (fun S_1 h_1 => ?_)
  have h_1 := h_1.symm
  subst h_1
  refine x_if_eqT eX3_make_4 (fun c_4 => ?_) (fun c_4 => ?_)
  · exact absurd h60 c_4
  · refine x_aload_n eX3_make_7 rfl ?_
    refine s_getR (k := 38) eX3_make_8 fX3_11 rfl (by decide) (by decide) rfl ?_
    refine x_aload_n eX3_make_11 rfl ?_
    refine s_geti eX3_make_12 fX3_36 rfl (by decide) (by decide) ?_
    rw [h.1]
    refine s_raldR eX3_make_15 (by first | exact Or.inl rfl | exact Or.inr rfl) (by decide) rfl (show _ < 60 by omega) (rf_parcels np) ?_
    refine x_astore (lv' := [_, _, _, _, _]) eX3_make_16 (by decide) rfl ?_
    refine x_aload eX3_make_18 rfl ?_
    refine x_iconst (v := nI 1) eX3_make_20 (by decide) ?_
    refine s_putz eX3_make_21 fX3_39 wX1_1 (kd_parcel (by omega)) (show _ < 365 by omega) (by decide) (by first | exact Or.inl rfl | exact Or.inr rfl | exact bI_01 _) ?_
    refine x_aload eX3_make_24 rfl ?_
    refine x_iload_n eX3_make_26 rfl ?_
    refine s_puti eX3_make_27 fX3_46 wX1_2 (kd_parcel (by omega)) (show _ < 365 by omega) (by decide) ?_
    refine x_aload eX3_make_30 rfl ?_
    refine x_iload_n eX3_make_32 rfl ?_
    refine s_puti eX3_make_33 fX3_57 wX1_3 (kd_parcel (by omega)) (show _ < 365 by omega) (by decide) ?_
    refine x_aload eX3_make_36 rfl ?_
    refine s_getR (k := (45 + 2 * np)) eX3_make_38 fX3_60 (kd_parcel (by omega)) (show _ < 365 by omega) (by decide) (rf_parcel (by omega)) ?_
    refine x_aload_n eX3_make_41 rfl ?_
    refine s_callV0 (As := [_]) eX3_make_42 kX3_64 ⟨by decide, by decide⟩ (kd_ring (by omega)) (by decide) (show _ < 365 by omega) rfl rfl (Nat.le_of_ble_eq_true rfl) (Nat.le_of_ble_eq_true rfl) (sp_X4_copy _ (by omega) (by omega) hne) (fun S_42 h_42 => ?_)
    have y : Fx [37, 175 + np, 45 + 2 * np] [46 + 2 * np] [] [] S S_42 := by rw [h_42]; exact (((Fx.sF (by simp)).tr (Fx.sF (by simp))).tr (Fx.sF (by simp))).tr ((rcp_fx (ls := []) (ds := []) _ _ _).mono (by simp) (by simp) (by simp) (by simp))
    have g37 : S_42.1 37 = S.1 37 := by rw [h_42, (rcp_fx (ls := []) (ds := []) _ np r).1 37 (by simp; omega), setF_ne _ _ (by omega), setF_ne _ _ (by omega), setF_ne _ _ (by omega)]
    have gp : S_42.1 (175 + np) = upd (upd (upd (S.1 (175 + np)) 1 (nI 1)) 2 l) 3 w := by rw [h_42, (rcp_fx (ls := []) (ds := []) _ np r).1 (175 + np) (by simp; omega), setF_at, setF_at, setF_at]
    have gc : crg S_42 np n c := by rw [h_42]; exact rcp_crg (hr.fx (((Fx.sF (fs := [175 + np]) (is := []) (ls := []) (ds := []) (by simp)).tr (Fx.sF (by simp))).tr (Fx.sF (by simp))) (by simp; omega) (by simp)) (by omega)
    refine x_aload_n eX3_make_45 rfl ?_
    refine x_dup eX3_make_46 rfl ?_
    refine s_geti eX3_make_47 fX3_36 rfl (by decide) (by decide) ?_
    rw [g37, h.1]
    refine x_iconst (v := nI 1) eX3_make_50 (by decide) ?_
    first | refine x_iaddN eX3_make_51 ?_ | refine x_iadd eX3_make_51 ?_
    refine s_puti eX3_make_52 fX3_36 wX3_6 rfl (by decide) (by decide) ?_
    refine s_vret eX3_make_55 rfl ⟨rfl, y.tr (Fx.sF (by simp)), by rw [setF_at, upd_at], fun f hf => by rw [setF_at, upd_ne _ _ hf, g37], ?_, ?_, ?_, gc.fx (fs := [37]) (is := []) (ls := []) (ds := []) (Fx.sF (by simp)) (by simp; omega) (by simp)⟩
    · rw [setF_ne _ _ (by omega), gp, upd_ne _ _ (by decide), upd_ne _ _ (by decide), upd_at]; rfl
    · rw [setF_ne _ _ (by omega), gp, upd_ne _ _ (by decide), upd_at]
    · rw [setF_ne _ _ (by omega), gp, upd_at]
