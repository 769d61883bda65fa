/-! ===== split, the class's side ===== -/
theorem two_in {i j : Int32} {n : Nat} (hn : n < 2 ^ 31) (h0 : ¬ i < 0) (h1 : ¬ j ≤ i) (h2 : j < nI n) : ∃ a b, a < b ∧ b < n ∧ i = nI a ∧ j = nI b := by
  obtain ⟨a, ha, rfl⟩ := nI_of h0
  have h3 : ¬ j < 0 := fun z => h1 (Int32.le_of_lt (Int32.lt_of_lt_of_le z (nI_pos' ha)))
  obtain ⟨b, hb, rfl⟩ := nI_of h3
  refine ⟨a, b, ?_, (nI_ltI hb hn).mp h2, rfl, rfl⟩
  have : ¬ b ≤ a := fun z => h1 ((nI_leI hb ha).mpr z)
  omega
/-- a cut, as both sides tell it -/
def cutX (X : LM) (a i j : Nat) : Prop := ¬ (j = i + 1 ∨ (i = 0 ∧ j = xSz X a - 1)) ∧ (∀ k, k < xSz X a → comP (vr (dbl (PX X)) (xRg X a) (xSz X a) i) (vr (dbl (PX X)) (xRg X a) (xSz X a) j) (vr (dbl (PX X)) (xRg X a) (xSz X a) k) (vr (dbl (PX X)) (xRg X a) (xSz X a) (k + 1)) = if xRg X a (k % xSz X a) = xRg X a (i % xSz X a) ∨ xRg X a (k % xSz X a) = xRg X a (j % xSz X a) ∨ xRg X a ((k + 1) % xSz X a) = xRg X a (i % xSz X a) ∨ xRg X a ((k + 1) % xSz X a) = xRg X a (j % xSz X a) then 2 else 0) ∧ lie (vr (dbl (PX X)) (xRg X a) (xSz X a)) (xSz X a) (((vr (dbl (PX X)) (xRg X a) (xSz X a) i).1 + (vr (dbl (PX X)) (xRg X a) (xSz X a) j).1) / 2, ((vr (dbl (PX X)) (xRg X a) (xSz X a) i).2 + (vr (dbl (PX X)) (xRg X a) (xSz X a) j).2) / 2) = 1
theorem vrd_X {X : LM} (w : wf X) {a : Nat} (ta : xTh X a = true) (T : Pt) : vr (dbl (PT (PX X) T)) (xRg X a) (xSz X a) = vr (dbl (PX X)) (xRg X a) (xSz X a) := vr_PTd (good_c w ta).1 (fun i hi => by have := (good_c w ta).2 i hi; have := w.1; omega)
theorem cut_X {X : LM} (w : wf X) {a i j : Nat} (ta : xTh X a = true) (hij : i < j) (hjn : j < xSz X a) (T : Pt) : ((∀ k, k < xSz X a → metP (PT (PX X) T (xRg X a i)) (PT (PX X) T (xRg X a j)) (vr (PT (PX X) T) (xRg X a) (xSz X a) k) (vr (PT (PX X) T) (xRg X a) (xSz X a) (k + 1)) = if xRg X a (k % xSz X a) = xRg X a i ∨ xRg X a (k % xSz X a) = xRg X a j ∨ xRg X a ((k + 1) % xSz X a) = xRg X a i ∨ xRg X a ((k + 1) % xSz X a) = xRg X a j then 2 else 0) ∧ opnT (vr (PT (PX X) T) (xRg X a) (xSz X a) (i + xSz X a - 1)) (vr (PT (PX X) T) (xRg X a) (xSz X a) i) (vr (PT (PX X) T) (xRg X a) (xSz X a) (i + 1)) (PT (PX X) T (xRg X a j))) ↔ cutX X a i j := by
  have h := cut_same (good_PT (T := T) w.1 (wf_good w ta)) (PT_inj w T) hij hjn
  have e := vrd_X w ta T
  unfold xSz xRg at e
  rw [e] at h
  exact h
def pc1 (X : LM) (a i : Nat) : Nat → Nat := fun k => xRg X a ((i + k) % xSz X a)
theorem cut_pieces {X : LM} (w : wf X) {a i j : Nat} (ta : xTh X a = true) (hij : i < j) (hjn : j < xSz X a) (h : cutX X a i j) : soundS (vr (PX X) (pc1 X a i) (j - i + 1)) (j - i + 1) ∧ soundS (vr (PX X) (pc1 X a j) (xSz X a - j + i + 1)) (xSz X a - j + i + 1) := by
  have g := wf_good w ta
  have m := (cut_same g (PX_inj w) hij hjn).mpr h
  exact piece_sound g hij hjn h.1 ((cutC_of g (PX_inj w) (Nat.lt_trans hij hjn) hjn (by omega)).mp m.1)
theorem pc1_lt {X : LM} (w : wf X) {a i : Nat} (ta : xTh X a = true) (k : Nat) : pc1 X a i k < xNc X := (good_c w ta).2 _ (Nat.mod_lt _ (good_c w ta).1)
theorem ctab_fx {S S1 : xS} {fs is ls ds : List Nat} {np : Nat} {th : Nat → Bool} {ly : Nat → Nat} {ow : Nat → Int32} {sz : Nat → Nat} {rg : Nat → Nat → Nat} (h : ctab S np th ly ow sz rg) (hx : Fx fs is ls ds S S1) (a : 37 ∉ fs) (b : ∀ q, q < 60 → 175 + q ∉ fs ∧ 45 + 2 * q ∉ fs ∧ 46 + 2 * q ∉ is) : ctab S1 np th ly ow sz rg := by
  refine ⟨by rw [hx.1 37 a]; exact h.1, h.2.1, fun q hq => ?_⟩
  have n60 := h.2.1
  have c := b q (by omega)
  have m := h.2.2 q hq
  refine ⟨by rw [hx.1 _ c.1]; exact m.1, fun t => ?_⟩
  have d := m.2 t
  rw [hx.1 _ c.1]
  exact ⟨d.1, d.2.1, d.2.2.fx hx c.2.1 c.2.2⟩
theorem crg_z {S : xS} {r q s m : Nat} {f d : Nat → Nat} (h : crg S r (0 + q) (fun i => if i < 0 then f i else d ((s + (i - 0)) % m))) : crg S r q (fun k => d ((s + k) % m)) := by
  rw [Nat.zero_add] at h
  exact ⟨h.1, h.2.1, h.2.2.1, fun i hi => h.2.2.2 i hi⟩

theorem wf_split {X : LM} (w : wf X) {a i j : Nat} (ha : a < xNp X) (ta : xTh X a = true) (hij : i < j) (hjn : j < xSz X a) (hc : cutX X a i j) (h60 : xNp X < 60) (o : Int32) : wf (uT X (xNp X + 1) (setRg (addT (xTb X) (xNp X) (xLy X a) o (j - i + 1) (xSt X (j - i + 1) (pc1 X a i))) a (xSz X a - j + i + 1) (xSt X (xSz X a - j + i + 1) (pc1 X a j)))) := by
  have n12 : xSz X a ≤ 12 := (wf_good w ta).2.1
  have ps := cut_pieces w ta hij hjn hc
  have g1 : good (xNc X) (PX X) (j - i + 1) (xSt X (j - i + 1) (pc1 X a i)) := stl_good ps.1 (by omega) (fun k _ => pc1_lt w ta k)
  have g2 : good (xNc X) (PX X) (xSz X a - j + i + 1) (xSt X (xSz X a - j + i + 1) (pc1 X a j)) := stl_good ps.2 (by omega) (fun k _ => pc1_lt w ta k)
  have w1 := wf_add w h60 (w.2.2.2.2.1.2.1 a ta).1 (o := o) g1
  exact wf_uT w (by omega) (by omega) (tab_setRg w1.2.2.2.2.1.2.1 g2) (fun q hq => w1.2.2.2.2.1.2.2 q hq)
theorem c_split_yes {S : xS} {X : LM} (w : wf X) (h : RC S X) {a i j : Nat} (ha : a < xNp X) (ta : xTh X a = true) (hij : i < j) (hjn : j < xSz X a) (hc : cutX X a i j) (h60 : xNp X < 60) (o : Int32) : Sp mX8_split [.ref 31, .int (nI a), .int (nI i), .int (nI j), .int o] S (fun r S' => r = some (.int (nI (xNp X))) ∧ RC S' (uT X (xNp X + 1) (setRg (addT (xTb X) (xNp X) (xLy X a) o (j - i + 1) (xSt X (j - i + 1) (pc1 X a i))) a (xSz X a - j + i + 1) (xSt X (xSz X a - j + i + 1) (pc1 X a j)))) ∧ frC S S') := by
  have n200 := w.1
  have n12 : xSz X a ≤ 12 := (wf_good w ta).2.1
  have ya : hasP (xNp X) (tTh (xTb X)) (nI a) := ⟨a, ha, rfl, ta⟩
  have ps := cut_pieces w ta hij hjn hc
  have cr := h.cr w ha ta
  obtain ⟨T, hT⟩ := h.pts w
  have v1 : vr (PT (PX X) T) (pc1 X a i) (j - i + 1) = vr (PX X) (pc1 X a i) (j - i + 1) := vr_PT (by omega) (fun k _ => by have := pc1_lt w ta (i := i) k; omega)
  have v2 : vr (PT (PX X) T) (pc1 X a j) (xSz X a - j + i + 1) = vr (PX X) (pc1 X a j) (xSz X a - j + i + 1) := vr_PT (by omega) (fun k _ => by have := pc1_lt w ta (i := j) k; omega)
  show XP _ _ [_, _, _, _, _] _ _ _
  refine x_aload_n eX8_split_0 rfl ?_
  refine s_getR (k := 37) eX8_split_1 fX8_28 rfl (by decide) (by decide) rfl ?_
  refine x_iload_n eX8_split_4 rfl ?_
  refine s_callV1 (As := [_]) eX8_split_5 kX8_144 ⟨by decide, by decide⟩ rfl (by decide) (by decide) rfl rfl (Nat.le_of_ble_eq_true rfl) (Nat.le_of_ble_eq_true rfl) (sp_X3_has (h.tab w) (nI a)) (fun S_5 h_5 => ?_)
  have h_5 := h_5.symm
  subst h_5
  refine x_if_neT eX8_split_8 (fun c_8 => ?_) (fun c_8 => ?_)
  · refine x_aload_n eX8_split_14 rfl ?_
    refine s_getR (k := 37) eX8_split_15 fX8_28 rfl (by decide) (by decide) rfl ?_
    refine s_getR (k := 38) eX8_split_18 fX8_145 rfl (by decide) (by decide) rfl ?_
    refine x_iload_n eX8_split_21 rfl ?_
    refine s_raldR eX8_split_22 (by first | exact Or.inl rfl | exact Or.inr rfl) (by decide) rfl (show _ < 60 by omega) (rf_parcels a) ?_
    refine x_astore (lv' := [_, _, _, _, _, _]) eX8_split_23 (by decide) rfl ?_
    refine x_iload_n eX8_split_25 rfl ?_
    refine x_if_ltN eX8_split_26 (by omega) ?_
    refine x_iload_n eX8_split_29 rfl ?_
    refine x_iload_n eX8_split_30 rfl ?_
    refine x_icmp_geN eX8_split_31 (by omega) (by omega) (fun c_31 => ?_) (fun c_31 => ?_)
    · omega
    · refine x_iload_n eX8_split_34 rfl ?_
      refine x_aload eX8_split_35 rfl ?_
      refine s_getR (k := (45 + 2 * a)) eX8_split_37 fX8_157 (kd_parcel (by omega)) (show _ < 365 by omega) (by decide) (rf_parcel (by omega)) ?_
      refine s_geti eX8_split_40 fX8_115 (kd_ring (by omega)) (show _ < 365 by omega) (by decide) ?_
      rw [cr.1.2.2.1]
      refine x_icmp_ltN eX8_split_43 (by omega) (by omega) (fun c_43 => ?_) (fun c_43 => ?_)
      · refine x_aload_n eX8_split_49 rfl ?_
        refine s_getR (k := 36) eX8_split_50 fX8_21 rfl (by decide) (by decide) rfl ?_
        refine x_aload eX8_split_53 rfl ?_
        refine s_getR (k := (45 + 2 * a)) eX8_split_55 fX8_157 (kd_parcel (by omega)) (show _ < 365 by omega) (by decide) (rf_parcel (by omega)) ?_
        refine x_iload_n eX8_split_58 rfl ?_
        refine x_iload_n eX8_split_59 rfl ?_
        refine s_callV1 (As := [_, _, _]) eX8_split_60 kX8_171 ⟨by decide, by decide⟩ rfl (by decide) (by decide) rfl rfl (Nat.le_of_ble_eq_true rfl) (Nat.le_of_ble_eq_true rfl) (sp_X5_isCut _ hT cr (by omega) hjn) (fun S_60 h_60 => ?_)
        have g := RC_L h h_60
        have fr1 := h_60.frC (by simp)
        have hT := hT.m h_60
        refine x_if_neT eX8_split_63 (fun c_63 => ?_) (fun c_63 => ?_)
        · refine x_aload_n eX8_split_70 rfl ?_
          refine s_getR (k := 37) eX8_split_71 fX8_28 rfl (by decide) (by decide) rfl ?_
          refine s_callV1 (As := []) eX8_split_74 kX8_128 ⟨by decide, by decide⟩ rfl (by decide) (by decide) rfl rfl (Nat.le_of_ble_eq_true rfl) (Nat.le_of_ble_eq_true rfl) (sp_X3_hasRoom (g.tab w)) (fun S_74 h_74 => ?_)
          have h_74 := h_74.symm
          subst h_74
          refine x_if_neT eX8_split_77 (fun c_77 => ?_) (fun c_77 => ?_)
          · refine x_aload_n eX8_split_83 rfl ?_
            refine s_getR (k := 37) eX8_split_84 fX8_28 rfl (by decide) (by decide) rfl ?_
            refine s_geti eX8_split_87 fX8_136 rfl (by decide) (by decide) ?_
            rw [show S_60.1 37 6 = nI (xNp X) from g.2.2.2.1.1]
            refine x_istore (lv' := [_, _, _, _, _, _, _]) eX8_split_90 (by decide) rfl ?_
            refine x_aload_n eX8_split_92 rfl ?_
            refine s_getR (k := 37) eX8_split_93 fX8_28 rfl (by decide) (by decide) rfl ?_
            refine x_iload_n eX8_split_96 rfl ?_
            refine x_iload eX8_split_97 rfl ?_
            refine s_callV0 (As := [_, _]) eX8_split_99 kX8_137 ⟨by decide, by decide⟩ rfl (by decide) (by decide) rfl rfl (Nat.le_of_ble_eq_true rfl) (Nat.le_of_ble_eq_true rfl) (sp_kpost g (by omega) _ (Or.inr ⟨xNp X, h60, rfl⟩)) (fun S_99 h_99 => ?_)
            have k1 := h_99
            have ct := ctab_k w g k1
            have hT1 : cps S_99 (xNc X) (PT (PX X) T) := hT.fx k1.1 (by simp) (by simp)
            refine x_aload_n eX8_split_102 rfl ?_
            refine s_getR (k := 171) eX8_split_103 fX8_53 rfl (by decide) (by decide) rfl ?_
            refine s_callV0 (As := []) eX8_split_106 kX8_118 ⟨by decide, by decide⟩ rfl (by decide) (by decide) rfl rfl (Nat.le_of_ble_eq_true rfl) (Nat.le_of_ble_eq_true rfl) (sp_X4_empty _ (r := 63) (by decide)) (fun S_106 h_106 => ?_)
            subst h_106
            refine x_aload_n eX8_split_109 rfl ?_
            refine s_getR (k := 171) eX8_split_110 fX8_53 rfl (by decide) (by decide) rfl ?_
            refine x_aload eX8_split_113 rfl ?_
            have xa : Fx [171, 173] [172, 174] [364] [] S_99 (setF S_99 (45 + 2 * 63) (upd (S_99.1 (45 + 2 * 63)) 1 (nI 0))) := Fx.sF (by simp)
            have em : crg (setF S_99 (45 + 2 * 63) (upd (S_99.1 (45 + 2 * 63)) 1 (nI 0))) 63 0 (fun _ => 0) := emp_crg (by decide)
            generalize setF S_99 (45 + 2 * 63) (upd (S_99.1 (45 + 2 * 63)) 1 (nI 0)) = Sa at *
            have cta := ctab_fx ct xa (by simp) (fun q hq => ⟨by simp; omega, by simp; omega, by simp; omega⟩)
            have cra : crg Sa a (xSz X a) (xRg X a) := ((cta.2.2 a ha).2 ta).2.2
            refine s_getR (k := (45 + 2 * a)) eX8_split_115 fX8_157 (kd_parcel (by omega)) (show _ < 365 by omega) (by decide) (rf_parcel (by omega)) ?_
            refine x_iload_n eX8_split_118 rfl ?_
            refine x_iload_n eX8_split_119 rfl ?_
            refine x_iload_n eX8_split_120 rfl ?_
            first | refine x_isubN eX8_split_121 (by omega) ?_ | refine x_isub eX8_split_121 ?_
            refine x_iconst (v := nI 1) eX8_split_122 (by decide) ?_
            first | refine x_iaddN eX8_split_123 ?_ | refine x_iadd eX8_split_123 ?_
            refine s_callV0 (As := [_, _, _]) eX8_split_124 kX8_175 ⟨by decide, by decide⟩ rfl (by decide) (by decide) rfl rfl (Nat.le_of_ble_eq_true rfl) (Nat.le_of_ble_eq_true rfl) (sp_X4_pushRun Sa em ⟨cra, cr.2.1⟩ (by omega) (by omega) (by omega)) (fun S_124 h_124 => ?_)
            obtain ⟨xb, rb⟩ := h_124
            have rb : crg S_124 63 (j - i + 1) (pc1 X a i) := crg_z rb
            have xb := xa.tr (xb.mono (by simp) (by simp) (by simp) (by simp))
            refine x_aload_n eX8_split_127 rfl ?_
            refine s_getR (k := 36) eX8_split_128 fX8_21 rfl (by decide) (by decide) rfl ?_
            refine x_aload_n eX8_split_131 rfl ?_
            refine s_getR (k := 171) eX8_split_132 fX8_53 rfl (by decide) (by decide) rfl ?_
            refine x_aload_n eX8_split_135 rfl ?_
            refine s_getR (k := 173) eX8_split_136 fX8_56 rfl (by decide) (by decide) rfl ?_
            refine s_callV0 (As := [_, _]) eX8_split_139 kX8_179 ⟨by decide, by decide⟩ rfl (by decide) (by decide) rfl rfl (Nat.le_of_ble_eq_true rfl) (Nat.le_of_ble_eq_true rfl) (sp_X5_settle S_124 (t := 64) (hT1.fx xb (by simp) (by simp)) (show CR S_124 (xNc X) 63 (j - i + 1) (pc1 X a i) from ⟨rb, by omega, fun k _ => pc1_lt w ta k⟩) (by decide) (by decide)) (fun S_139 h_139 => ?_)
            obtain ⟨xc, rc⟩ := h_139
            rw [v1] at rc
            have xc := xb.tr (xc.mono (by simp) (by simp) (by simp) (by simp))
            have ctc := ctab_fx ct xc (by simp) (fun q hq => ⟨by simp; omega, by simp; omega, by simp; omega⟩)
            refine x_aload_n eX8_split_142 rfl ?_
            refine s_getR (k := 37) eX8_split_143 fX8_28 rfl (by decide) (by decide) rfl ?_
            refine x_aload eX8_split_146 rfl ?_
            refine s_geti eX8_split_148 fX8_149 (kd_parcel (by omega)) (show _ < 365 by omega) (by decide) ?_
            rw [show S_139.1 (175 + a) 2 = nI (xLy X a) from ((ctc.2.2 a ha).2 ta).1]
            refine x_iload eX8_split_151 rfl ?_
            refine x_aload_n eX8_split_153 rfl ?_
            refine s_getR (k := 173) eX8_split_154 fX8_56 rfl (by decide) (by decide) rfl ?_
            refine s_callV0 (As := [_, _, _]) eX8_split_157 kX8_141 ⟨by decide, by decide⟩ rfl (by decide) (by decide) rfl rfl (Nat.le_of_ble_eq_true rfl) (Nat.le_of_ble_eq_true rfl) (sp_X3_make ctc h60 rc (by omega) (nI (xLy X a)) o) (fun S_157 h_157 => ?_)
            obtain ⟨y, y6, yf, y1, y2, y3, yc⟩ := h_157
            have xd : Fx [37, 36, 175 + a, 45 + 2 * a, 175 + xNp X, 45 + 2 * xNp X, 171, 173] [46 + 2 * a, 46 + 2 * xNp X, 172, 174] [364] [] S_99 S_157 := (xc.mono (by simp) (by simp) (by simp) (by simp)).tr (y.mono (by simp) (by simp) (by simp) (by simp))
            refine x_aload_n eX8_split_160 rfl ?_
            refine s_getR (k := 171) eX8_split_161 fX8_53 rfl (by decide) (by decide) rfl ?_
            refine s_callV0 (As := []) eX8_split_164 kX8_118 ⟨by decide, by decide⟩ rfl (by decide) (by decide) rfl rfl (Nat.le_of_ble_eq_true rfl) (Nat.le_of_ble_eq_true rfl) (sp_X4_empty _ (r := 63) (by decide)) (fun S_164 h_164 => ?_)
            subst h_164
            refine x_aload_n eX8_split_167 rfl ?_
            refine s_getR (k := 171) eX8_split_168 fX8_53 rfl (by decide) (by decide) rfl ?_
            refine x_aload eX8_split_171 rfl ?_
            have xe : Fx [171, 45 + 2 * a] [172, 46 + 2 * a] [364] [] S_157 (setF S_157 (45 + 2 * 63) (upd (S_157.1 (45 + 2 * 63)) 1 (nI 0))) := Fx.sF (by simp)
            have em2 : crg (setF S_157 (45 + 2 * 63) (upd (S_157.1 (45 + 2 * 63)) 1 (nI 0))) 63 0 (fun _ => 0) := emp_crg (by decide)
            have cre : crg (setF S_157 (45 + 2 * 63) (upd (S_157.1 (45 + 2 * 63)) 1 (nI 0))) a (xSz X a) (xRg X a) := (((ctc.2.2 a ha).2 ta).2.2.fx y (by simp; omega) (by simp; omega)).fx (Fx.sF (fs := [171]) (is := []) (ls := []) (ds := []) (by simp)) (by simp; omega) (by simp)
            generalize setF S_157 (45 + 2 * 63) (upd (S_157.1 (45 + 2 * 63)) 1 (nI 0)) = Se at *
            refine s_getR (k := (45 + 2 * a)) eX8_split_173 fX8_157 (kd_parcel (by omega)) (show _ < 365 by omega) (by decide) (rf_parcel (by omega)) ?_
            refine x_iload_n eX8_split_176 rfl ?_
            refine x_aload eX8_split_177 rfl ?_
            refine s_getR (k := (45 + 2 * a)) eX8_split_179 fX8_157 (kd_parcel (by omega)) (show _ < 365 by omega) (by decide) (rf_parcel (by omega)) ?_
            refine s_geti eX8_split_182 fX8_115 (kd_ring (by omega)) (show _ < 365 by omega) (by decide) ?_
            rw [cre.2.2.1]
            refine x_iload_n eX8_split_185 rfl ?_
            first | refine x_isubN eX8_split_186 (by omega) ?_ | refine x_isub eX8_split_186 ?_
            refine x_iload_n eX8_split_187 rfl ?_
            first | refine x_iaddN eX8_split_188 ?_ | refine x_iadd eX8_split_188 ?_
            refine x_iconst (v := nI 1) eX8_split_189 (by decide) ?_
            first | refine x_iaddN eX8_split_190 ?_ | refine x_iadd eX8_split_190 ?_
            refine s_callV0 (As := [_, _, _]) eX8_split_191 kX8_175 ⟨by decide, by decide⟩ rfl (by decide) (by decide) rfl rfl (Nat.le_of_ble_eq_true rfl) (Nat.le_of_ble_eq_true rfl) (sp_X4_pushRun Se em2 ⟨cre, cr.2.1⟩ (by omega) (by omega) (by omega)) (fun S_191 h_191 => ?_)
            obtain ⟨xf, rf⟩ := h_191
            have rf : crg S_191 63 (xSz X a - j + i + 1) (pc1 X a j) := crg_z rf
            have xf := xe.tr (xf.mono (by simp) (by simp) (by simp) (by simp))
            refine x_aload_n eX8_split_194 rfl ?_
            refine s_getR (k := 36) eX8_split_195 fX8_21 rfl (by decide) (by decide) rfl ?_
            refine x_aload_n eX8_split_198 rfl ?_
            refine s_getR (k := 171) eX8_split_199 fX8_53 rfl (by decide) (by decide) rfl ?_
            refine x_aload eX8_split_202 rfl ?_
            refine s_getR (k := (45 + 2 * a)) eX8_split_204 fX8_157 (kd_parcel (by omega)) (show _ < 365 by omega) (by decide) (rf_parcel (by omega)) ?_
            refine s_callV0 (As := [_, _]) eX8_split_207 kX8_179 ⟨by decide, by decide⟩ rfl (by decide) (by decide) rfl rfl (Nat.le_of_ble_eq_true rfl) (Nat.le_of_ble_eq_true rfl) (sp_X5_settle S_191 (t := a) ((hT1.fx xd (by simp) (by simp)).fx xf (by simp) (by simp)) (show CR S_191 (xNc X) 63 (xSz X a - j + i + 1) (pc1 X a j) from ⟨rf, by omega, fun k _ => pc1_lt w ta k⟩) (by omega) (by omega)) (fun S_207 h_207 => ?_)
            obtain ⟨xg, rg⟩ := h_207
            rw [v2] at rg
            have xg := xf.tr (xg.mono (by simp) (by simp) (by simp) (by simp))
            have x2 : Fx [37, 36, 175 + a, 45 + 2 * a, 175 + xNp X, 45 + 2 * xNp X, 171, 173] [46 + 2 * a, 46 + 2 * xNp X, 172, 174] [364] [] S_99 S_207 := xd.tr (xg.mono (by simp) (by simp) (by simp) (by simp))
            refine x_iload eX8_split_210 rfl ?_
            have own2 := rg_own (addT (xTb X) (xNp X) (xLy X a) o (j - i + 1) (xSt X (j - i + 1) (pc1 X a i))) a (xSz X a - j + i + 1) (xSt X (xSz X a - j + i + 1) (pc1 X a j))
            have own1 := add_own (xTb X) (xNp X) (xLy X a) o (j - i + 1) (xSt X (j - i + 1) (pc1 X a i))
            have ag1 := add_ag (t := xTb X) (a := xNp X) (l := xLy X a) (o := o) (n := (j - i + 1)) (c := (xSt X (j - i + 1) (pc1 X a i))) (e := a) (by omega)
            have ag2 := rg_ag (t := (addT (xTb X) (xNp X) (xLy X a) o (j - i + 1) (xSt X (j - i + 1) (pc1 X a i)))) (a := a) (n := (xSz X a - j + i + 1)) (c := (xSt X (xSz X a - j + i + 1) (pc1 X a j))) (e := xNp X) (by omega)
            have ea : S_207.1 (175 + a) = S_139.1 (175 + a) := by rw [xg.1 _ (by simp; omega), y.1 _ (by simp; omega)]
            have en : S_207.1 (175 + xNp X) = S_157.1 (175 + xNp X) := xg.1 _ (by simp; omega)
            have cca := ctc.2.2 a ha
            have tt : tTh (setRg (addT (xTb X) (xNp X) (xLy X a) o (j - i + 1) (xSt X (j - i + 1) (pc1 X a i))) a (xSz X a - j + i + 1) (xSt X (xSz X a - j + i + 1) (pc1 X a j))) a = tTh (xTb X) a := ag1.1
            have tn : tTh (setRg (addT (xTb X) (xNp X) (xLy X a) o (j - i + 1) (xSt X (j - i + 1) (pc1 X a i))) a (xSz X a - j + i + 1) (xSt X (xSz X a - j + i + 1) (pc1 X a j))) (xNp X) = true := own1.1
            have ep : cent S_207 a (setRg (addT (xTb X) (xNp X) (xLy X a) o (j - i + 1) (xSt X (j - i + 1) (pc1 X a i))) a (xSz X a - j + i + 1) (xSt X (xSz X a - j + i + 1) (pc1 X a j))) a := ⟨by rw [ea, tt]; exact cca.1, fun _ => ⟨by rw [ea, show tLy (setRg (addT (xTb X) (xNp X) (xLy X a) o (j - i + 1) (xSt X (j - i + 1) (pc1 X a i))) a (xSz X a - j + i + 1) (xSt X (xSz X a - j + i + 1) (pc1 X a j))) a = xLy X a from ag1.2.1]; exact (cca.2 ta).1, by rw [ea, show tOw (setRg (addT (xTb X) (xNp X) (xLy X a) o (j - i + 1) (xSt X (j - i + 1) (pc1 X a i))) a (xSz X a - j + i + 1) (xSt X (xSz X a - j + i + 1) (pc1 X a j))) a = tOw (xTb X) a from ag1.2.2.1]; exact (cca.2 ta).2.1, by rw [own2.1, own2.2]; exact rg⟩⟩
            have eq : cent S_207 (xNp X) (setRg (addT (xTb X) (xNp X) (xLy X a) o (j - i + 1) (xSt X (j - i + 1) (pc1 X a i))) a (xSz X a - j + i + 1) (xSt X (xSz X a - j + i + 1) (pc1 X a j))) (xNp X) := ⟨by rw [en, tn, y1]; rfl, fun _ => ⟨by rw [en, y2, show tLy (setRg (addT (xTb X) (xNp X) (xLy X a) o (j - i + 1) (xSt X (j - i + 1) (pc1 X a i))) a (xSz X a - j + i + 1) (xSt X (xSz X a - j + i + 1) (pc1 X a j))) (xNp X) = xLy X a from own1.2.1], by rw [en, y3, show tOw (setRg (addT (xTb X) (xNp X) (xLy X a) o (j - i + 1) (xSt X (j - i + 1) (pc1 X a i))) a (xSz X a - j + i + 1) (xSt X (xSz X a - j + i + 1) (pc1 X a j))) (xNp X) = o from own1.2.2.1], by rw [ag2.2.2.2.1, ag2.2.2.2.2, own1.2.2.2.1, own1.2.2.2.2]; exact yc.fx xg (by simp; omega) (by simp; omega)⟩⟩
            have ag : ∀ e, e ≠ a → e ≠ xNp X → tAg (xTb X) (setRg (addT (xTb X) (xNp X) (xLy X a) o (j - i + 1) (xSt X (j - i + 1) (pc1 X a i))) a (xSz X a - j + i + 1) (xSt X (xSz X a - j + i + 1) (pc1 X a j))) e := fun e e1 e2 => by
              have z1 := add_ag (t := xTb X) (a := xNp X) (l := xLy X a) (o := o) (n := (j - i + 1)) (c := (xSt X (j - i + 1) (pc1 X a i))) e2
              have z2 := rg_ag (t := (addT (xTb X) (xNp X) (xLy X a) o (j - i + 1) (xSt X (j - i + 1) (pc1 X a i)))) (n := (xSz X a - j + i + 1)) (c := (xSt X (xSz X a - j + i + 1) (pc1 X a j))) e1
              exact ⟨z2.1.trans z1.1, z2.2.1.trans z1.2.1, z2.2.2.1.trans z1.2.2.1, z2.2.2.2.1.trans z1.2.2.2.1, z2.2.2.2.2.trans z1.2.2.2.2⟩
            refine s_iret eX8_split_212 rfl rfl ⟨rfl, RC_mut g (p := a) (q := xNp X) (by omega) h60 (Or.inr ⟨rfl, by omega⟩) k1 x2 (fun f hf => ?_) ?_ ag ep eq, (fr1.tr (k1.1.frC (by simp) (by simp) (by simp))).tr (x2.frC (by simp; omega) (by simp; omega) (by simp))⟩
            · rw [xg.1 37 (by simp; omega), yf f hf, xc.1 37 (by simp)]
            · rw [xg.1 37 (by simp; omega)]; exact y6
          · exact absurd h60 c_77
        · exact absurd ((cut_X w ta hij hjn T).mpr hc) c_63
      · omega
  · exact absurd ya c_8
