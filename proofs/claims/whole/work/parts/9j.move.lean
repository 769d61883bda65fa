/-! ===== move, the class's side ===== -/
def setRg (t : TB) (a n : Nat) (c : Nat → Nat) : TB := (t.1, t.2.1, t.2.2.1, (fun e => if e = a then n else t.2.2.2.1 e), fun e => if e = a then c else t.2.2.2.2 e)
theorem rg_ag {t : TB} {a n : Nat} {c : Nat → Nat} {e : Nat} (h : e ≠ a) : tAg t (setRg t a n c) e := ⟨rfl, rfl, rfl, if_neg h, if_neg h⟩
theorem rg_own (t : TB) (a n : Nat) (c : Nat → Nat) : tSz (setRg t a n c) a = n ∧ tRg (setRg t a n c) a = c := ⟨if_pos rfl, if_pos rfl⟩
theorem tab_setRg {nc : Nat} {P : Nat → Pt} {t : TB} (h : tabOk nc P t) {a n : Nat} {c : Nat → Nat} (g : good nc P n c) : tabOk nc P (setRg t a n c) := fun q hq => by
  have hq : tTh t q = true := hq
  have hl := (h q hq).1
  refine ⟨hl, ?_⟩
  by_cases e : q = a
  · subst e; rw [(rg_own t q n c).1, (rg_own t q n c).2]; exact g
  · have ag := rg_ag (t := t) (n := n) (c := c) e
    rw [ag.2.2.2.1, ag.2.2.2.2]; exact (h q hq).2
theorem wf_setRg {X : LM} (w : wf X) {a n : Nat} {c : Nat → Nat} (g : good (xNc X) (PX X) n c) : wf (uT X (xNp X) (setRg (xTb X) a n c)) := wf_uT w w.2.2.2.2.1.1 (Nat.le_refl _) (tab_setRg w.2.2.2.2.1.2.1 g) (fun q hq => w.2.2.2.2.1.2.2 q hq)
/-- the ring with corner i moved to c -/
def mvR (X : LM) (a i c : Nat) : Nat → Nat := fun j => if j = i then c else xRg X a j
theorem mvR_lt {X : LM} (w : wf X) {a : Nat} (ta : xTh X a = true) {i c : Nat} (hc : c < xNc X) : ∀ j, j < xSz X a → mvR X a i c j < xNc X := fun j hj => by
  unfold mvR
  split
  · exact hc
  · exact (good_c w ta).2 j hj

theorem c_move_no {S : xS} {X : LM} (w : wf X) (h : RC S X) {a i c : Nat} (ha : a < xNp X) (ta : xTh X a = true) (hi : i < xSz X a) (hc : c < xNc X) (hf : (xFi X (xSz X a) (mvR X a i c) (nI (xLy X a)) (nI a)).1 ≠ 0) : Sp mX8_move [.ref 31, .int (nI a), .int (nI i), .int (nI c)] S (fun r S' => r = some (.int (xFi X (xSz X a) (mvR X a i c) (nI (xLy X a)) (nI a)).1) ∧ RC S' (uS X (xFi X (xSz X a) (mvR X a i c) (nI (xLy X a)) (nI a)).2 (xSu X) (xEd X)) ∧ frC S S') := by
  have n60 : xNp X ≤ 60 := w.2.2.2.2.1.1
  have n200 := w.1
  have n12 : xSz X a ≤ 12 := (wf_good w ta).2.1
  have ya : hasP (xNp X) (tTh (xTb X)) (nI a) := ⟨a, ha, rfl, ta⟩
  have ce := (h.2.2.2.1.2 a (by omega)).2 ta
  have cr := h.cr w ha ta
  show XP _ _ [_, _, _, _] _ _ _
  refine x_aload_n eX8_move_0 rfl ?_
  refine s_getR (k := 37) eX8_move_1 fX8_28 rfl (by decide) (by decide) rfl ?_
  refine x_iload_n eX8_move_4 rfl ?_
  refine s_callV1 (As := [_]) eX8_move_5 kX8_144 ⟨by decide, by decide⟩ rfl (by decide) (by decide) rfl rfl (Nat.le_of_ble_eq_true rfl) (Nat.le_of_ble_eq_true rfl) (sp_X3_has (h.tab w) (nI a)) (fun S_5 h_5 => ?_)
  have h_5 := h_5.symm
  subst h_5
  refine x_if_eqT eX8_move_8 (fun c_8 => ?_) (fun c_8 => ?_)
  · exact absurd ya c_8
  · refine x_aload_n eX8_move_11 rfl ?_
    refine s_getR (k := 32) eX8_move_12 fX8_12 rfl (by decide) (by decide) rfl ?_
    refine x_iload_n eX8_move_15 rfl ?_
    refine s_callV1 (As := [_]) eX8_move_16 kX8_88 ⟨by decide, by decide⟩ rfl (by decide) (by decide) rfl rfl (Nat.le_of_ble_eq_true rfl) (Nat.le_of_ble_eq_true rfl) (sp_X2_has _ h.1.1 n200 (nI c)) (fun S_16 h_16 => ?_)
    have h_16 := h_16.symm
    subst h_16
    refine x_if_neT eX8_move_19 (fun c_19 => ?_) (fun c_19 => ?_)
    · refine x_aload_n eX8_move_25 rfl ?_
      refine s_getR (k := 37) eX8_move_26 fX8_28 rfl (by decide) (by decide) rfl ?_
      refine s_getR (k := 38) eX8_move_29 fX8_145 rfl (by decide) (by decide) rfl ?_
      refine x_iload_n eX8_move_32 rfl ?_
      refine s_raldR eX8_move_33 (by first | exact Or.inl rfl | exact Or.inr rfl) (by decide) rfl (show _ < 60 by omega) (rf_parcels a) ?_
      refine x_astore (lv' := [_, _, _, _, _]) eX8_move_34 (by decide) rfl ?_
      refine x_iload_n eX8_move_36 rfl ?_
      refine x_if_ltN eX8_move_37 (by omega) ?_
      refine x_iload_n eX8_move_40 rfl ?_
      refine x_aload eX8_move_41 rfl ?_
      refine s_getR (k := (45 + 2 * a)) eX8_move_43 fX8_157 (kd_parcel (by omega)) (show _ < 365 by omega) (by decide) (rf_parcel (by omega)) ?_
      refine s_geti eX8_move_46 fX8_115 (kd_ring (by omega)) (show _ < 365 by omega) (by decide) ?_
      rw [cr.1.2.2.1]
      refine x_icmp_ltN eX8_move_49 (by omega) (by omega) (fun c_49 => ?_) (fun c_49 => ?_)
      · refine x_aload eX8_move_55 rfl ?_
        refine s_getR (k := (45 + 2 * a)) eX8_move_57 fX8_157 (kd_parcel (by omega)) (show _ < 365 by omega) (by decide) (rf_parcel (by omega)) ?_
        refine x_iload_n eX8_move_60 rfl ?_
        refine s_callV1 (As := [_]) eX8_move_61 kX8_160 ⟨by decide, by decide⟩ (kd_ring (by omega)) (by decide) (show _ < 365 by omega) rfl rfl (Nat.le_of_ble_eq_true rfl) (Nat.le_of_ble_eq_true rfl) (sp_X4_around _ cr.1 cr.2.1 (by omega)) (fun S_61 h_61 => ?_)
        have h_61 := h_61.symm
        subst h_61
        rw [Nat.mod_eq_of_lt hi]
        refine x_istore (lv' := [_, _, _, _, _, _]) eX8_move_64 (by decide) rfl ?_
        refine x_aload_n eX8_move_66 rfl ?_
        refine s_getR (k := 171) eX8_move_67 fX8_53 rfl (by decide) (by decide) rfl ?_
        refine x_aload eX8_move_70 rfl ?_
        refine s_getR (k := (45 + 2 * a)) eX8_move_72 fX8_157 (kd_parcel (by omega)) (show _ < 365 by omega) (by decide) (rf_parcel (by omega)) ?_
        refine s_callV0 (As := [_]) eX8_move_75 kX8_196 ⟨by decide, by decide⟩ rfl (by decide) (by decide) rfl rfl (Nat.le_of_ble_eq_true rfl) (Nat.le_of_ble_eq_true rfl) (sp_X4_copy S (r := 63) (t := a) (by decide) (by omega) (by omega)) (fun S_75 h_75 => ?_)
        have q0 : crg S_75 63 (xSz X a) (xRg X a) := by rw [h_75]; exact rcp_crg cr.1 (by decide)
        have x0 : Fx [31, 36, 171, 173] [172, 174] [364] [] S S_75 := by rw [h_75]; exact (rcp_fx (ls := [364]) (ds := []) S 63 a).mono (by simp) (by simp) (by simp) (by simp)
        refine x_aload_n eX8_move_78 rfl ?_
        refine s_getR (k := 171) eX8_move_79 fX8_53 rfl (by decide) (by decide) rfl ?_
        refine s_getR (k := 172) eX8_move_82 fX8_200 rfl (by decide) (by decide) rfl ?_
        refine x_iload_n eX8_move_85 rfl ?_
        refine x_iload_n eX8_move_86 rfl ?_
        refine s_iast eX8_move_87 rfl (by decide) rfl (show _ < 24 by omega) ?_
        have q1 : crg (setI S_75 172 (upd (S_75.2.1 172) i (nI c))) 63 (xSz X a) (mvR X a i c) := by
          refine ⟨by decide, q0.2.1, q0.2.2.1, fun j hj => ?_⟩
          show (setI S_75 172 (upd (S_75.2.1 172) i (nI c))).2.1 172 j = _ ∧ _
          rw [setI_at]
          unfold mvR
          by_cases z : j = i
          · subst z; rw [upd_at, if_pos rfl]; exact ⟨rfl, by omega⟩
          · rw [upd_ne _ _ z, if_neg z]; exact q0.2.2.2 j hj
        have x1 := x0.tr (Fx.sI (p := 172) (g := upd (S_75.2.1 172) i (nI c)) (by simp))
        have e31 : ∀ f, (setI S_75 172 (upd (S_75.2.1 172) i (nI c))).1 31 f = S.1 31 f := fun f => by show S_75.1 31 f = _; rw [h_75, (rcp_fx (ls := []) (ds := []) S 63 a).1 31 (by simp)]
        have g0 : RC (setI S_75 172 (upd (S_75.2.1 172) i (nI c))) X := RC_scr h x1 (e31 9) (e31 10) ((e31 8).trans h.2.2.1.1)
        clear h_75
        refine x_aload_n eX8_move_88 rfl ?_
        refine x_aload_n eX8_move_89 rfl ?_
        refine s_getR (k := 171) eX8_move_90 fX8_53 rfl (by decide) (by decide) rfl ?_
        refine x_aload eX8_move_93 rfl ?_
        refine s_geti eX8_move_95 fX8_149 (kd_parcel (by omega)) (show _ < 365 by omega) (by decide) ?_
        rw [show (setI S_75 172 (upd (S_75.2.1 172) i (nI c))).1 (175 + a) 2 = nI (xLy X a) from ((g0.2.2.2.1.2 a (by omega)).2 ta).1]
        refine x_iload_n eX8_move_98 rfl ?_
        refine s_callV1 (As := [_, _, _]) eX8_move_99 kX8_132 ⟨by decide, by decide⟩ rfl (by decide) (by decide) rfl rfl (Nat.le_of_ble_eq_true rfl) (Nat.le_of_ble_eq_true rfl) (sp_X8_faultIn w g0 q1 (Or.inr rfl) (mvR_lt w ta hc) (nI (xLy X a)) (nI a)) (fun S_99 h_99 => ?_)
        obtain ⟨x2, ef, e8, es⟩ := h_99
        have x2 : Fx [31, 36, 171, 173] [172, 174] [364] [] S S_99 := x1.tr (x2.mono (by simp) (by simp) (by simp) (by simp))
        have g := RC_scr h x2 ((ef 9 (by decide)).trans (e31 9)) ((ef 10 (by decide)).trans (e31 10)) e8
        have fr1 := x2.frC (by simp) (by simp) (by simp)
        refine x_istore (lv' := [_, _, _, _, _, _, _]) eX8_move_102 (by decide) rfl ?_
        refine x_iload eX8_move_104 rfl ?_
        refine x_if_eq eX8_move_106 (fun c_106 => ?_) (fun c_106 => ?_)
        · exact absurd c_106 hf
        · refine x_iload eX8_move_109 rfl ?_
          exact s_iret eX8_move_111 rfl rfl ⟨rfl, g, fr1⟩
      · omega
    · exact absurd ⟨c, hc, rfl⟩ c_19
theorem c_move_yes {S : xS} {X : LM} (w : wf X) (h : RC S X) {a i c : Nat} (ha : a < xNp X) (ta : xTh X a = true) (hi : i < xSz X a) (hc : c < xNc X) (hf : (xFi X (xSz X a) (mvR X a i c) (nI (xLy X a)) (nI a)).1 = 0) : Sp mX8_move [.ref 31, .int (nI a), .int (nI i), .int (nI c)] S (fun r S' => r = some (.int (nI (xRg X a i))) ∧ RC S' (uT X (xNp X) (setRg (xTb X) a (xSz X a) (xSt X (xSz X a) (mvR X a i c)))) ∧ frC S S') := by
  have n60 : xNp X ≤ 60 := w.2.2.2.2.1.1
  have n200 := w.1
  have n12 : xSz X a ≤ 12 := (wf_good w ta).2.1
  have ya : hasP (xNp X) (tTh (xTb X)) (nI a) := ⟨a, ha, rfl, ta⟩
  have ce := (h.2.2.2.1.2 a (by omega)).2 ta
  have cr := h.cr w ha ta
  have own := rg_own (xTb X) a (xSz X a) (xSt X (xSz X a) (mvR X a i c))
  show XP _ _ [_, _, _, _] _ _ _
  refine x_aload_n eX8_move_0 rfl ?_
  refine s_getR (k := 37) eX8_move_1 fX8_28 rfl (by decide) (by decide) rfl ?_
  refine x_iload_n eX8_move_4 rfl ?_
  refine s_callV1 (As := [_]) eX8_move_5 kX8_144 ⟨by decide, by decide⟩ rfl (by decide) (by decide) rfl rfl (Nat.le_of_ble_eq_true rfl) (Nat.le_of_ble_eq_true rfl) (sp_X3_has (h.tab w) (nI a)) (fun S_5 h_5 => ?_)
  have h_5 := h_5.symm
  subst h_5
  refine x_if_eqT eX8_move_8 (fun c_8 => ?_) (fun c_8 => ?_)
  · exact absurd ya c_8
  · refine x_aload_n eX8_move_11 rfl ?_
    refine s_getR (k := 32) eX8_move_12 fX8_12 rfl (by decide) (by decide) rfl ?_
    refine x_iload_n eX8_move_15 rfl ?_
    refine s_callV1 (As := [_]) eX8_move_16 kX8_88 ⟨by decide, by decide⟩ rfl (by decide) (by decide) rfl rfl (Nat.le_of_ble_eq_true rfl) (Nat.le_of_ble_eq_true rfl) (sp_X2_has _ h.1.1 n200 (nI c)) (fun S_16 h_16 => ?_)
    have h_16 := h_16.symm
    subst h_16
    refine x_if_neT eX8_move_19 (fun c_19 => ?_) (fun c_19 => ?_)
    · refine x_aload_n eX8_move_25 rfl ?_
      refine s_getR (k := 37) eX8_move_26 fX8_28 rfl (by decide) (by decide) rfl ?_
      refine s_getR (k := 38) eX8_move_29 fX8_145 rfl (by decide) (by decide) rfl ?_
      refine x_iload_n eX8_move_32 rfl ?_
      refine s_raldR eX8_move_33 (by first | exact Or.inl rfl | exact Or.inr rfl) (by decide) rfl (show _ < 60 by omega) (rf_parcels a) ?_
      refine x_astore (lv' := [_, _, _, _, _]) eX8_move_34 (by decide) rfl ?_
      refine x_iload_n eX8_move_36 rfl ?_
      refine x_if_ltN eX8_move_37 (by omega) ?_
      refine x_iload_n eX8_move_40 rfl ?_
      refine x_aload eX8_move_41 rfl ?_
      refine s_getR (k := (45 + 2 * a)) eX8_move_43 fX8_157 (kd_parcel (by omega)) (show _ < 365 by omega) (by decide) (rf_parcel (by omega)) ?_
      refine s_geti eX8_move_46 fX8_115 (kd_ring (by omega)) (show _ < 365 by omega) (by decide) ?_
      rw [cr.1.2.2.1]
      refine x_icmp_ltN eX8_move_49 (by omega) (by omega) (fun c_49 => ?_) (fun c_49 => ?_)
      · refine x_aload eX8_move_55 rfl ?_
        refine s_getR (k := (45 + 2 * a)) eX8_move_57 fX8_157 (kd_parcel (by omega)) (show _ < 365 by omega) (by decide) (rf_parcel (by omega)) ?_
        refine x_iload_n eX8_move_60 rfl ?_
        refine s_callV1 (As := [_]) eX8_move_61 kX8_160 ⟨by decide, by decide⟩ (kd_ring (by omega)) (by decide) (show _ < 365 by omega) rfl rfl (Nat.le_of_ble_eq_true rfl) (Nat.le_of_ble_eq_true rfl) (sp_X4_around _ cr.1 cr.2.1 (by omega)) (fun S_61 h_61 => ?_)
        have h_61 := h_61.symm
        subst h_61
        rw [Nat.mod_eq_of_lt hi]
        refine x_istore (lv' := [_, _, _, _, _, _]) eX8_move_64 (by decide) rfl ?_
        refine x_aload_n eX8_move_66 rfl ?_
        refine s_getR (k := 171) eX8_move_67 fX8_53 rfl (by decide) (by decide) rfl ?_
        refine x_aload eX8_move_70 rfl ?_
        refine s_getR (k := (45 + 2 * a)) eX8_move_72 fX8_157 (kd_parcel (by omega)) (show _ < 365 by omega) (by decide) (rf_parcel (by omega)) ?_
        refine s_callV0 (As := [_]) eX8_move_75 kX8_196 ⟨by decide, by decide⟩ rfl (by decide) (by decide) rfl rfl (Nat.le_of_ble_eq_true rfl) (Nat.le_of_ble_eq_true rfl) (sp_X4_copy S (r := 63) (t := a) (by decide) (by omega) (by omega)) (fun S_75 h_75 => ?_)
        have q0 : crg S_75 63 (xSz X a) (xRg X a) := by rw [h_75]; exact rcp_crg cr.1 (by decide)
        have x0 : Fx [31, 36, 171, 173] [172, 174] [364] [] S S_75 := by rw [h_75]; exact (rcp_fx (ls := [364]) (ds := []) S 63 a).mono (by simp) (by simp) (by simp) (by simp)
        refine x_aload_n eX8_move_78 rfl ?_
        refine s_getR (k := 171) eX8_move_79 fX8_53 rfl (by decide) (by decide) rfl ?_
        refine s_getR (k := 172) eX8_move_82 fX8_200 rfl (by decide) (by decide) rfl ?_
        refine x_iload_n eX8_move_85 rfl ?_
        refine x_iload_n eX8_move_86 rfl ?_
        refine s_iast eX8_move_87 rfl (by decide) rfl (show _ < 24 by omega) ?_
        have q1 : crg (setI S_75 172 (upd (S_75.2.1 172) i (nI c))) 63 (xSz X a) (mvR X a i c) := by
          refine ⟨by decide, q0.2.1, q0.2.2.1, fun j hj => ?_⟩
          show (setI S_75 172 (upd (S_75.2.1 172) i (nI c))).2.1 172 j = _ ∧ _
          rw [setI_at]
          unfold mvR
          by_cases z : j = i
          · subst z; rw [upd_at, if_pos rfl]; exact ⟨rfl, by omega⟩
          · rw [upd_ne _ _ z, if_neg z]; exact q0.2.2.2 j hj
        have x1 := x0.tr (Fx.sI (p := 172) (g := upd (S_75.2.1 172) i (nI c)) (by simp))
        have e31 : ∀ f, (setI S_75 172 (upd (S_75.2.1 172) i (nI c))).1 31 f = S.1 31 f := fun f => by show S_75.1 31 f = _; rw [h_75, (rcp_fx (ls := []) (ds := []) S 63 a).1 31 (by simp)]
        have g0 : RC (setI S_75 172 (upd (S_75.2.1 172) i (nI c))) X := RC_scr h x1 (e31 9) (e31 10) ((e31 8).trans h.2.2.1.1)
        clear h_75
        refine x_aload_n eX8_move_88 rfl ?_
        refine x_aload_n eX8_move_89 rfl ?_
        refine s_getR (k := 171) eX8_move_90 fX8_53 rfl (by decide) (by decide) rfl ?_
        refine x_aload eX8_move_93 rfl ?_
        refine s_geti eX8_move_95 fX8_149 (kd_parcel (by omega)) (show _ < 365 by omega) (by decide) ?_
        rw [show (setI S_75 172 (upd (S_75.2.1 172) i (nI c))).1 (175 + a) 2 = nI (xLy X a) from ((g0.2.2.2.1.2 a (by omega)).2 ta).1]
        refine x_iload_n eX8_move_98 rfl ?_
        refine s_callV1 (As := [_, _, _]) eX8_move_99 kX8_132 ⟨by decide, by decide⟩ rfl (by decide) (by decide) rfl rfl (Nat.le_of_ble_eq_true rfl) (Nat.le_of_ble_eq_true rfl) (sp_X8_faultIn w g0 q1 (Or.inr rfl) (mvR_lt w ta hc) (nI (xLy X a)) (nI a)) (fun S_99 h_99 => ?_)
        obtain ⟨x2, ef, e8, es⟩ := h_99
        have x2 : Fx [31, 36, 171, 173] [172, 174] [364] [] S S_99 := x1.tr (x2.mono (by simp) (by simp) (by simp) (by simp))
        have g := RC_scr h x2 ((ef 9 (by decide)).trans (e31 9)) ((ef 10 (by decide)).trans (e31 10)) e8
        have fr1 := x2.frC (by simp) (by simp) (by simp)
        refine x_istore (lv' := [_, _, _, _, _, _, _]) eX8_move_102 (by decide) rfl ?_
        refine x_iload eX8_move_104 rfl ?_
        refine x_if_eq eX8_move_106 (fun c_106 => ?_) (fun c_106 => ?_)
        · refine x_aload_n eX8_move_112 rfl ?_
          refine s_getR (k := 37) eX8_move_113 fX8_28 rfl (by decide) (by decide) rfl ?_
          refine x_iload_n eX8_move_116 rfl ?_
          refine x_iconst (v := -1) eX8_move_117 (by decide) ?_
          have g1 : RC S_99 X := by
            rw [FI_wh hf] at g; exact g
          refine s_callV0 (As := [_, _]) eX8_move_118 kX8_137 ⟨by decide, by decide⟩ rfl (by decide) (by decide) rfl rfl (Nat.le_of_ble_eq_true rfl) (Nat.le_of_ble_eq_true rfl) (sp_kpost g1 (by omega) _ (Or.inl rfl)) (fun S_118 h_118 => ?_)
          have k1 := h_118
          have s64 : crg S_118 64 (xSz X a) (xSt X (xSz X a) (mvR X a i c)) := (es hf).fx k1.1 (by simp) (by simp)
          refine x_aload eX8_move_121 rfl ?_
          refine s_getR (k := (45 + 2 * a)) eX8_move_123 fX8_157 (kd_parcel (by omega)) (show _ < 365 by omega) (by decide) (rf_parcel (by omega)) ?_
          refine x_aload_n eX8_move_126 rfl ?_
          refine s_getR (k := 173) eX8_move_127 fX8_56 rfl (by decide) (by decide) rfl ?_
          refine s_callV0 (As := [_]) eX8_move_130 kX8_196 ⟨by decide, by decide⟩ (kd_ring (by omega)) (by decide) (show _ < 365 by omega) rfl rfl (Nat.le_of_ble_eq_true rfl) (Nat.le_of_ble_eq_true rfl) (sp_X4_copy S_118 (r := a) (t := 64) (by omega) (by decide) (by omega)) (fun S_130 h_130 => ?_)
          subst h_130
          refine x_iload eX8_move_133 rfl ?_
          have x3 : Fx [37, 36, 175 + a, 45 + 2 * a, 175 + a, 45 + 2 * a, 171, 173] [46 + 2 * a, 46 + 2 * a, 172, 174] [364] [] S_118 (rcp S_118 a 64) := (rcp_fx (ls := [364]) (ds := []) S_118 a 64).mono (by simp) (by simp) (by simp) (by simp)
          have r37 : (rcp S_118 a 64).1 37 = S_118.1 37 := (rcp_fx (ls := []) (ds := []) S_118 a 64).1 37 (by simp; omega)
          have ra : (rcp S_118 a 64).1 (175 + a) = S_99.1 (175 + a) := ((rcp_fx (ls := []) (ds := []) S_118 a 64).1 (175 + a) (by simp; omega)).trans (k1.1.1 _ (by simp; omega))
          have ca := g1.2.2.2.1.2 a (by omega)
          have ec : cent (rcp S_118 a 64) a (setRg (xTb X) a (xSz X a) (xSt X (xSz X a) (mvR X a i c))) a := ⟨by rw [ra]; exact ca.1, fun _ => ⟨by rw [ra]; exact (ca.2 ta).1, by rw [ra]; exact (ca.2 ta).2.1, by rw [own.1, own.2]; exact rcp_crg s64 (by omega)⟩⟩
          refine s_iret eX8_move_135 rfl rfl ⟨rfl, RC_mut g1 (p := a) (q := a) (by omega) (by omega) (Or.inl ⟨rfl, rfl⟩) k1 x3 (fun f _ => by rw [r37]) (by rw [r37, k1.2.2.2.2.1]; exact g1.2.2.2.1.1) (fun e e1 _ => rg_ag e1) ec ec, (fr1.tr (k1.1.frC (by simp) (by simp) (by simp))).tr (x3.frC (by simp; omega) (by simp; omega) (by simp))⟩
        · exact absurd hf c_106
      · omega
    · exact absurd ⟨c, hc, rfl⟩ c_19
