/-! ===== faultIn ===== -/
noncomputable def xFt (X : LM) (n : Nat) (c : Nat → Nat) : Int32 × Int32 := ft comP (vr (dbl (PX X)) c n) n c
def xSt (X : LM) (n : Nat) (c : Nat → Nat) : Nat → Nat := stl (vr (PX X) c n) n c
/-- parcel q lies over the settled ring -/
def xOv (X : LM) (n : Nat) (cs : Nat → Nat) (l b : Int32) (q : Nat) : Prop := nI q ≠ b ∧ xTh X q = true ∧ nI (xLy X q) = l ∧ ovP (vr (dbl (PX X)) cs n) n (vr (dbl (PX X)) (xRg X q) (xSz X q)) (xSz X q)
noncomputable def xFi (X : LM) (n : Nat) (c : Nat → Nat) (l b : Int32) : Int32 × Int32 := if (xFt X n c).1 ≠ 0 then xFt X n c else match fst1 (xOv X n (xSt X n c) l b) (xNp X) with
  | some q => (-204, nI q)
  | none => (0, xWh X)
theorem PT_inj {X : LM} (w : wf X) (T : Pt) : ∀ x y, x < xNc X → y < xNc X → PT (PX X) T x = PT (PX X) T y → x = y := fun x y hx hy e => by
  have := w.1
  rw [PT_lt _ _ (by omega), PT_lt _ _ (by omega)] at e
  exact PX_inj w x y hx hy e
theorem ft_PT {X : LM} (w : wf X) (T : Pt) {n : Nat} {c : Nat → Nat} (n0 : 0 < n ∨ n < 3) (hc : ∀ i, i < n → c i < xNc X) : ft metP (vr (PT (PX X) T) c n) n c = xFt X n c := by
  have n200 := w.1
  rw [ft_eq hc (PT_inj w T)]
  by_cases z : n < 3 ∨ 12 < n
  · unfold xFt ft; rw [if_pos z, if_pos z]
  · unfold xFt
    rw [vr_PTd (by omega) (fun i hi => by have := hc i hi; omega)]
theorem sound_X {X : LM} (w : wf X) {n : Nat} {c : Nat → Nat} (hc : ∀ i, i < n → c i < xNc X) (h : (xFt X n c).1 = 0) : soundS (vr (PX X) c n) n ∧ n ≤ 12 := ft_sound hc (PX_inj w) h
theorem st_good {X : LM} (w : wf X) {n : Nat} {c : Nat → Nat} (hc : ∀ i, i < n → c i < xNc X) (h : (xFt X n c).1 = 0) : good (xNc X) (PX X) n (xSt X n c) := by
  have s := sound_X w hc h
  exact stl_good s.1 s.2 hc

theorem sp_X8_faultIn {S : xS} {X : LM} (w : wf X) (h : RC S X) {r n : Nat} {c : Nat → Nat} (hr0 : crg S r n c) (hr64 : r = 62 ∨ r = 63) (hc : ∀ i, i < n → c i < xNc X) (l b : Int32) : Sp mX8_faultIn [.ref 31, .ref (45 + 2 * r), .int l, .int b] S (fun x S' => x = some (.int (xFi X n c l b).1) ∧ Fx [31, 36, 173] [174] [364] [] S S' ∧ (∀ f, f ≠ 8 → S'.1 31 f = S.1 31 f) ∧ S'.1 31 8 = (xFi X n c l b).2 ∧ ((xFi X n c l b).1 = 0 → crg S' 64 n (xSt X n c))) := by
  have n60 : xNp X ≤ 60 := w.2.2.2.2.1.1
  have n200 := w.1
  have hr := hr0.1
  have n24 := hr0.2.1
  obtain ⟨T, hT⟩ := h.pts w
  have t0 : ctab S (xNp X) (xTh X) (xLy X) (tOw (xTb X)) (xSz X) (xRg X) := h.tab w
  have eft := ft_PT w T (n := n) (c := c) (by omega) hc
  by_cases f0 : (xFt X n c).1 = 0
  · have sg := st_good w hc f0
    have n3 := sg.1
    have loop : ∀ μ j, j + μ = (xNp X) → ∀ S1, (Fx [36, 173] [174] [364] [] S S1 ∧ crg S1 64 n (xSt X n c) ∧ ∀ q, q < j → ¬ xOv X n (xSt X n c) l b q) → XP mX8_faultIn 44 [(5, .int (nI j)), (0, .ref 31), (2, .int l), (3, .int b)] [] (xwS S1) (sQ (fun x S' => x = some (.int (xFi X n c l b).1) ∧ Fx [31, 36, 173] [174] [364] [] S S' ∧ (∀ f, f ≠ 8 → S'.1 31 f = S.1 31 f) ∧ S'.1 31 8 = (xFi X n c l b).2 ∧ ((xFi X n c l b).1 = 0 → crg S' 64 n (xSt X n c)))) := by
      intro μ
      induction μ with
      | zero =>
        intro j hk S1 h1
        obtain ⟨hx, hs, hno⟩ := h1
        have t : ctab S1 (xNp X) (xTh X) (xLy X) (tOw (xTb X)) (xSz X) (xRg X) := ⟨by rw [hx.1 37 (by simp)]; exact t0.1, t0.2.1, fun q hq => by have a := t0.2.2 q hq; exact ⟨by rw [hx.1 _ (by simp; omega)]; exact a.1, fun z => by have d := a.2 z; rw [hx.1 _ (by simp; omega)]; exact ⟨d.1, d.2.1, d.2.2.fx hx (by simp; omega) (by simp; omega)⟩⟩⟩
        have hp := hT.fx hx (by simp) (by simp)
        have e31 : S1.1 31 = S.1 31 := hx.1 31 (by simp)
        have gs : CR S1 (xNc X) 64 n (xSt X n c) := ⟨hs, by have := sg.1; omega, sg.2.2.1⟩
        refine x_iload eX8_faultIn_44 rfl ?_
        refine x_aload_n eX8_faultIn_46 rfl ?_
        refine s_getR (k := 37) eX8_faultIn_47 fX8_28 rfl (by decide) (by decide) rfl ?_
        refine s_geti eX8_faultIn_50 fX8_136 rfl (by decide) (by decide) ?_
        rw [t.1]
        refine x_icmp_geN eX8_faultIn_53 (by omega) (by omega) (fun c_53 => ?_) (fun c_53 => ?_)
        · refine x_iconst (v := nI 0) eX8_faultIn_170 (by decide) ?_
          have en := fst1_none (R := xOv X n (xSt X n c) l b) (n := xNp X) (fun q hq => hno q (by omega))
          have ef : xFi X n c l b = (0, xWh X) := by unfold xFi; rw [if_neg (fun z => z f0)]; simp only [en]
          refine s_iret eX8_faultIn_171 rfl rfl ⟨by rw [ef] <;> rfl, hx.mono (by simp) (by simp) (by simp) (by simp), fun f _ => by rw [e31], by rw [ef, e31]; exact h.2.2.1.1, fun _ => hs⟩
        · omega
      | succ μ ih =>
        intro j hk S1 h1
        obtain ⟨hx, hs, hno⟩ := h1
        have t : ctab S1 (xNp X) (xTh X) (xLy X) (tOw (xTb X)) (xSz X) (xRg X) := ⟨by rw [hx.1 37 (by simp)]; exact t0.1, t0.2.1, fun q hq => by have a := t0.2.2 q hq; exact ⟨by rw [hx.1 _ (by simp; omega)]; exact a.1, fun z => by have d := a.2 z; rw [hx.1 _ (by simp; omega)]; exact ⟨d.1, d.2.1, d.2.2.fx hx (by simp; omega) (by simp; omega)⟩⟩⟩
        have hp := hT.fx hx (by simp) (by simp)
        have e31 : S1.1 31 = S.1 31 := hx.1 31 (by simp)
        have gs : CR S1 (xNc X) 64 n (xSt X n c) := ⟨hs, by have := sg.1; omega, sg.2.2.1⟩
        refine x_iload eX8_faultIn_44 rfl ?_
        refine x_aload_n eX8_faultIn_46 rfl ?_
        refine s_getR (k := 37) eX8_faultIn_47 fX8_28 rfl (by decide) (by decide) rfl ?_
        refine s_geti eX8_faultIn_50 fX8_136 rfl (by decide) (by decide) ?_
        rw [t.1]
        refine x_icmp_geN eX8_faultIn_53 (by omega) (by omega) (fun c_53 => ?_) (fun c_53 => ?_)
        · omega
        · refine x_iload eX8_faultIn_56 rfl ?_
          refine x_iload_n eX8_faultIn_58 rfl ?_
          refine x_icmp_eq eX8_faultIn_59 (fun c_59 => ?_) (fun c_59 => ?_)
          · refine x_iinc (lv' := [_, _, _, _]) eX8_faultIn_164 rfl (by first | exact nI_inc _ | exact rfl) (by decide) rfl ?_
            refine x_goto eX8_faultIn_167 ?_
            refine x_pick [0, 1, 2, 3] rfl ?_
            refine ih (j + 1) (by omega) _ ⟨hx, (by first | exact hs | exact gs.1), fun q hq z => ?_⟩
            by_cases e : q = j
            · subst e
              first
                | exact z.1 c_59
                | exact c_72 ⟨by omega, z.2.1, z.2.2.1⟩
                | exact c_103 (os.mpr z.2.2.2).1
                | (rcases (os.mpr z.2.2.2).2 with y | y | y; exact c_119 y; exact c_135 y; exact c_151 y)
            · exact hno q (by omega) z
          · refine x_aload_n eX8_faultIn_62 rfl ?_
            refine s_getR (k := 37) eX8_faultIn_63 fX8_28 rfl (by decide) (by decide) rfl ?_
            refine x_iload eX8_faultIn_66 rfl ?_
            refine x_iload_n eX8_faultIn_68 rfl ?_
            refine s_callV1 (As := [_, _]) eX8_faultIn_69 kX8_208 ⟨by decide, by decide⟩ rfl (by decide) (by decide) rfl rfl (Nat.le_of_ble_eq_true rfl) (Nat.le_of_ble_eq_true rfl) (sp_X3_isOf t (by omega) _) (fun S_69 h_69 => ?_)
            have h_69 := h_69.symm
            subst h_69
            refine x_if_eqT eX8_faultIn_72 (fun c_72 => ?_) (fun c_72 => ?_)
            · refine x_iinc (lv' := [_, _, _, _]) eX8_faultIn_164 rfl (by first | exact nI_inc _ | exact rfl) (by decide) rfl ?_
              refine x_goto eX8_faultIn_167 ?_
              refine x_pick [0, 1, 2, 3] rfl ?_
              refine ih (j + 1) (by omega) _ ⟨hx, (by first | exact hs | exact gs.1), fun q hq z => ?_⟩
              by_cases e : q = j
              · subst e
                first
                  | exact z.1 c_59
                  | exact c_72 ⟨by omega, z.2.1, z.2.2.1⟩
                  | exact c_103 (os.mpr z.2.2.2).1
                  | (rcases (os.mpr z.2.2.2).2 with y | y | y; exact c_119 y; exact c_135 y; exact c_151 y)
              · exact hno q (by omega) z
            · refine x_aload_n eX8_faultIn_75 rfl ?_
              refine s_getR (k := 37) eX8_faultIn_76 fX8_28 rfl (by decide) (by decide) rfl ?_
              refine s_getR (k := 38) eX8_faultIn_79 fX8_145 rfl (by decide) (by decide) rfl ?_
              refine x_iload eX8_faultIn_82 rfl ?_
              refine s_raldR eX8_faultIn_84 (by first | exact Or.inl rfl | exact Or.inr rfl) (by decide) rfl (show _ < 60 by omega) (rf_parcels j) ?_
              refine s_getR (k := (45 + 2 * j)) eX8_faultIn_85 fX8_157 (kd_parcel (by omega)) (show _ < 365 by omega) (by decide) (rf_parcel (by omega)) ?_
              refine x_astore (lv' := [_, _, _, _, _]) eX8_faultIn_88 (by decide) rfl ?_
              have g : CR S1 (xNc X) j (xSz X j) (xRg X j) := ⟨((t.2.2 j c_72.1).2 c_72.2.1).2.2, good_c w c_72.2.1⟩
              have gq : good (xNc X) (PT (PX X) T) (xSz X j) (xRg X j) := good_PT n200 (wf_good w c_72.2.1)
              have os := over_same (good_PT (T := T) n200 sg) gq (PT_inj w T)
              have ev : ovP (vr (dbl (PT (PX X) T)) (xSt X n c) n) n (vr (dbl (PT (PX X) T)) (xRg X j) (xSz X j)) (xSz X j) = ovP (vr (dbl (PX X)) (xSt X n c) n) n (vr (dbl (PX X)) (xRg X j) (xSz X j)) (xSz X j) := by rw [vr_PTd (by have := sg.1; omega) (fun i hi => by have := sg.2.2.1 i hi; omega), vr_PTd (good_c w c_72.2.1).1 (fun i hi => by have := (good_c w c_72.2.1).2 i hi; omega)]
              rw [ev] at os
              refine x_aload_n eX8_faultIn_90 rfl ?_
              refine s_getR (k := 36) eX8_faultIn_91 fX8_21 rfl (by decide) (by decide) rfl ?_
              refine x_aload_n eX8_faultIn_94 rfl ?_
              refine s_getR (k := 173) eX8_faultIn_95 fX8_56 rfl (by decide) (by decide) rfl ?_
              refine x_aload eX8_faultIn_98 rfl ?_
              refine s_callV1 (As := [_, _]) eX8_faultIn_100 kX8_282 ⟨by decide, by decide⟩ rfl (by decide) (by decide) rfl rfl (Nat.le_of_ble_eq_true rfl) (Nat.le_of_ble_eq_true rfl) (sp_X5_framesMeet _ hp (RC.rns w T) gs g) (fun S_100 h_100 => ?_)
              have h_100 := h_100.symm
              subst h_100
              refine x_if_eqT eX8_faultIn_103 (fun c_103 => ?_) (fun c_103 => ?_)
              · refine x_iinc (lv' := [_, _, _, _, _]) eX8_faultIn_164 rfl (by first | exact nI_inc _ | exact rfl) (by decide) rfl ?_
                refine x_goto eX8_faultIn_167 ?_
                refine x_pick [0, 2, 3, 4] rfl ?_
                refine ih (j + 1) (by omega) _ ⟨hx, (by first | exact hs | exact gs.1), fun q hq z => ?_⟩
                by_cases e : q = j
                · subst e
                  first
                    | exact z.1 c_59
                    | exact c_72 ⟨by omega, z.2.1, z.2.2.1⟩
                    | exact c_103 (os.mpr z.2.2.2).1
                    | (rcases (os.mpr z.2.2.2).2 with y | y | y; exact c_119 y; exact c_135 y; exact c_151 y)
                · exact hno q (by omega) z
              · refine x_aload_n eX8_faultIn_106 rfl ?_
                refine s_getR (k := 36) eX8_faultIn_107 fX8_21 rfl (by decide) (by decide) rfl ?_
                refine x_aload_n eX8_faultIn_110 rfl ?_
                refine s_getR (k := 173) eX8_faultIn_111 fX8_56 rfl (by decide) (by decide) rfl ?_
                refine x_aload eX8_faultIn_114 rfl ?_
                refine s_callV1 (As := [_, _]) eX8_faultIn_116 kX8_286 ⟨by decide, by decide⟩ rfl (by decide) (by decide) rfl rfl (Nat.le_of_ble_eq_true rfl) (Nat.le_of_ble_eq_true rfl) (sp_X5_reachesInto _ hp gs g n200) (fun S_116 h_116 => ?_)
                have hx := hx.tr (h_116.fx (by simp))
                have hp := hp.m h_116
                have g := g.m h_116
                have gs := gs.m h_116
                refine x_if_neT eX8_faultIn_119 (fun c_119 => ?_) (fun c_119 => ?_)
                · refine x_aload_n eX8_faultIn_154 rfl ?_
                  refine x_iload eX8_faultIn_155 rfl ?_
                  refine s_puti eX8_faultIn_157 fX8_59 wX8_8 rfl (by decide) (by decide) ?_
                  refine x_sipush (v := -204) eX8_faultIn_160 (by decide) ?_
                  have ov : ovP (vr (dbl (PX X)) (xSt X n c) n) n (vr (dbl (PX X)) (xRg X j) (xSz X j)) (xSz X j) := by
                    refine os.mp ⟨c_103, ?_⟩
                    first
                      | exact Or.inl c_119
                      | exact Or.inr (Or.inl c_135)
                      | exact Or.inr (Or.inr c_151)
                  have es := fst1_some (R := xOv X n (xSt X n c) l b) (n := xNp X) (k := j) (by omega) ⟨c_59, c_72.2.1, c_72.2.2, ov⟩ hno
                  have ef : xFi X n c l b = (-204, nI j) := by unfold xFi; rw [if_neg (fun z => z f0)]; simp only [es]
                  have e31 := hx.1 31 (by simp)
                  refine s_iret eX8_faultIn_163 rfl rfl ⟨by rw [ef] <;> rfl, (hx.mono (by simp) (by simp) (by simp) (by simp)).tr (Fx.sF (by simp)), fun f hf => by rw [setF_at, upd_ne _ _ hf, e31], by rw [ef, setF_at, upd_at], fun z => ?_⟩
                  rw [ef] at z; exact absurd z (ne0c _ _ (by decide))
                · refine x_aload_n eX8_faultIn_122 rfl ?_
                  refine s_getR (k := 36) eX8_faultIn_123 fX8_21 rfl (by decide) (by decide) rfl ?_
                  refine x_aload eX8_faultIn_126 rfl ?_
                  refine x_aload_n eX8_faultIn_128 rfl ?_
                  refine s_getR (k := 173) eX8_faultIn_129 fX8_56 rfl (by decide) (by decide) rfl ?_
                  refine s_callV1 (As := [_, _]) eX8_faultIn_132 kX8_286 ⟨by decide, by decide⟩ rfl (by decide) (by decide) rfl rfl (Nat.le_of_ble_eq_true rfl) (Nat.le_of_ble_eq_true rfl) (sp_X5_reachesInto _ hp g gs n200) (fun S_132 h_132 => ?_)
                  have hx := hx.tr (h_132.fx (by simp))
                  have hp := hp.m h_132
                  have g := g.m h_132
                  have gs := gs.m h_132
                  refine x_if_neT eX8_faultIn_135 (fun c_135 => ?_) (fun c_135 => ?_)
                  · refine x_aload_n eX8_faultIn_154 rfl ?_
                    refine x_iload eX8_faultIn_155 rfl ?_
                    refine s_puti eX8_faultIn_157 fX8_59 wX8_8 rfl (by decide) (by decide) ?_
                    refine x_sipush (v := -204) eX8_faultIn_160 (by decide) ?_
                    have ov : ovP (vr (dbl (PX X)) (xSt X n c) n) n (vr (dbl (PX X)) (xRg X j) (xSz X j)) (xSz X j) := by
                      refine os.mp ⟨c_103, ?_⟩
                      first
                        | exact Or.inl c_119
                        | exact Or.inr (Or.inl c_135)
                        | exact Or.inr (Or.inr c_151)
                    have es := fst1_some (R := xOv X n (xSt X n c) l b) (n := xNp X) (k := j) (by omega) ⟨c_59, c_72.2.1, c_72.2.2, ov⟩ hno
                    have ef : xFi X n c l b = (-204, nI j) := by unfold xFi; rw [if_neg (fun z => z f0)]; simp only [es]
                    have e31 := hx.1 31 (by simp)
                    refine s_iret eX8_faultIn_163 rfl rfl ⟨by rw [ef] <;> rfl, (hx.mono (by simp) (by simp) (by simp) (by simp)).tr (Fx.sF (by simp)), fun f hf => by rw [setF_at, upd_ne _ _ hf, e31], by rw [ef, setF_at, upd_at], fun z => ?_⟩
                    rw [ef] at z; exact absurd z (ne0c _ _ (by decide))
                  · refine x_aload_n eX8_faultIn_138 rfl ?_
                    refine s_getR (k := 36) eX8_faultIn_139 fX8_21 rfl (by decide) (by decide) rfl ?_
                    refine x_aload_n eX8_faultIn_142 rfl ?_
                    refine s_getR (k := 173) eX8_faultIn_143 fX8_56 rfl (by decide) (by decide) rfl ?_
                    refine x_aload eX8_faultIn_146 rfl ?_
                    refine s_callV1 (As := [_, _]) eX8_faultIn_148 kX8_289 ⟨by decide, by decide⟩ rfl (by decide) (by decide) rfl rfl (Nat.le_of_ble_eq_true rfl) (Nat.le_of_ble_eq_true rfl) (sp_X5_haveLikeLand _ hp gs g) (fun S_148 h_148 => ?_)
                    have hx := hx.tr (h_148.fx (by simp))
                    have hp := hp.m h_148
                    have g := g.m h_148
                    have gs := gs.m h_148
                    refine x_if_eqT eX8_faultIn_151 (fun c_151 => ?_) (fun c_151 => ?_)
                    · refine x_iinc (lv' := [_, _, _, _, _]) eX8_faultIn_164 rfl (by first | exact nI_inc _ | exact rfl) (by decide) rfl ?_
                      refine x_goto eX8_faultIn_167 ?_
                      refine x_pick [0, 2, 3, 4] rfl ?_
                      refine ih (j + 1) (by omega) _ ⟨hx, (by first | exact hs | exact gs.1), fun q hq z => ?_⟩
                      by_cases e : q = j
                      · subst e
                        first
                          | exact z.1 c_59
                          | exact c_72 ⟨by omega, z.2.1, z.2.2.1⟩
                          | exact c_103 (os.mpr z.2.2.2).1
                          | (rcases (os.mpr z.2.2.2).2 with y | y | y; exact c_119 y; exact c_135 y; exact c_151 y)
                      · exact hno q (by omega) z
                    · refine x_aload_n eX8_faultIn_154 rfl ?_
                      refine x_iload eX8_faultIn_155 rfl ?_
                      refine s_puti eX8_faultIn_157 fX8_59 wX8_8 rfl (by decide) (by decide) ?_
                      refine x_sipush (v := -204) eX8_faultIn_160 (by decide) ?_
                      have ov : ovP (vr (dbl (PX X)) (xSt X n c) n) n (vr (dbl (PX X)) (xRg X j) (xSz X j)) (xSz X j) := by
                        refine os.mp ⟨c_103, ?_⟩
                        first
                          | exact Or.inl c_119
                          | exact Or.inr (Or.inl c_135)
                          | exact Or.inr (Or.inr c_151)
                      have es := fst1_some (R := xOv X n (xSt X n c) l b) (n := xNp X) (k := j) (by omega) ⟨c_59, c_72.2.1, c_72.2.2, ov⟩ hno
                      have ef : xFi X n c l b = (-204, nI j) := by unfold xFi; rw [if_neg (fun z => z f0)]; simp only [es]
                      have e31 := hx.1 31 (by simp)
                      refine s_iret eX8_faultIn_163 rfl rfl ⟨by rw [ef] <;> rfl, (hx.mono (by simp) (by simp) (by simp) (by simp)).tr (Fx.sF (by simp)), fun f hf => by rw [setF_at, upd_ne _ _ hf, e31], by rw [ef, setF_at, upd_at], fun z => ?_⟩
                      rw [ef] at z; exact absurd z (ne0c _ _ (by decide))
    show XP _ _ [_, _, _, _] _ _ _
    refine x_aload_n eX8_faultIn_0 rfl ?_
    refine s_getR (k := 36) eX8_faultIn_1 fX8_21 rfl (by decide) (by decide) rfl ?_
    refine x_aload_n eX8_faultIn_4 rfl ?_
    refine s_callV1 (As := [_]) eX8_faultIn_5 kX8_190 ⟨by decide, by decide⟩ rfl (by decide) (by decide) rfl rfl (Nat.le_of_ble_eq_true rfl) (Nat.le_of_ble_eq_true rfl) (sp_X5_faultOf _ hT hr0 hc) (fun S_5 h_5 => ?_)
    rw [eft]
    obtain ⟨x1, -⟩ := h_5
    refine x_istore (lv' := [_, _, _, _, _]) eX8_faultIn_8 (by decide) rfl ?_
    refine x_iload eX8_faultIn_10 rfl ?_
    refine x_if_eq eX8_faultIn_12 (fun c_12 => ?_) (fun c_12 => ?_)
    · refine x_aload_n eX8_faultIn_29 rfl ?_
      refine s_getR (k := 36) eX8_faultIn_30 fX8_21 rfl (by decide) (by decide) rfl ?_
      refine x_aload_n eX8_faultIn_33 rfl ?_
      refine x_aload_n eX8_faultIn_34 rfl ?_
      refine s_getR (k := 173) eX8_faultIn_35 fX8_56 rfl (by decide) (by decide) rfl ?_
      refine s_callV0 (As := [_, _]) eX8_faultIn_38 kX8_179 ⟨by decide, by decide⟩ rfl (by decide) (by decide) rfl rfl (Nat.le_of_ble_eq_true rfl) (Nat.le_of_ble_eq_true rfl) (sp_X5_settle _ (t := 64) (hT.fx x1 (by simp) (by simp)) (show CR S_5 (xNc X) r n c from ⟨hr0.fx x1 (by simp; omega) (by simp), by omega, hc⟩) (by decide) (by omega)) (fun S_38 h_38 => ?_)
      obtain ⟨x2, s2⟩ := h_38
      rw [vr_PT (by omega) (fun i hi => by have := hc i hi; omega)] at s2
      refine x_iconst (v := nI 0) eX8_faultIn_41 (by decide) ?_
      refine x_istore (lv' := [_, _, _, _, _, _]) eX8_faultIn_42 (by decide) rfl ?_
      refine x_pick [0, 2, 4, 5] rfl ?_
      exact loop (xNp X) 0 (by omega) _ ⟨(x1.mono (by simp) (by simp) (by simp) (by simp)).tr (x2.mono (by simp) (by simp) (by simp) (by simp)), s2, fun q hq => by omega⟩
    · exact absurd f0 c_12
  · have ef : xFi X n c l b = xFt X n c := by unfold xFi; rw [if_pos f0]
    show XP _ _ [_, _, _, _] _ _ _
    refine x_aload_n eX8_faultIn_0 rfl ?_
    refine s_getR (k := 36) eX8_faultIn_1 fX8_21 rfl (by decide) (by decide) rfl ?_
    refine x_aload_n eX8_faultIn_4 rfl ?_
    refine s_callV1 (As := [_]) eX8_faultIn_5 kX8_190 ⟨by decide, by decide⟩ rfl (by decide) (by decide) rfl rfl (Nat.le_of_ble_eq_true rfl) (Nat.le_of_ble_eq_true rfl) (sp_X5_faultOf _ hT hr0 hc) (fun S_5 h_5 => ?_)
    rw [eft] at h_5 ⊢
    obtain ⟨x1, e1⟩ := h_5
    refine x_istore (lv' := [_, _, _, _, _]) eX8_faultIn_8 (by decide) rfl ?_
    refine x_iload eX8_faultIn_10 rfl ?_
    refine x_if_eq eX8_faultIn_12 (fun c_12 => ?_) (fun c_12 => ?_)
    · exact absurd c_12 f0
    · refine x_aload_n eX8_faultIn_15 rfl ?_
      refine x_aload_n eX8_faultIn_16 rfl ?_
      refine s_getR (k := 36) eX8_faultIn_17 fX8_21 rfl (by decide) (by decide) rfl ?_
      refine s_geti eX8_faultIn_20 fX8_193 rfl (by decide) (by decide) ?_
      rw [e1 f0]
      refine s_puti eX8_faultIn_23 fX8_59 wX8_8 rfl (by decide) (by decide) ?_
      refine x_iload eX8_faultIn_26 rfl ?_
      exact s_iret eX8_faultIn_28 rfl rfl ⟨by rw [ef], (x1.mono (by simp) (by simp) (by simp) (by simp)).tr (Fx.sF (by simp)), fun f hf => by rw [setF_at, upd_ne _ _ hf, x1.1 31 (by simp)], by rw [ef, setF_at, upd_at], fun z => absurd (by rw [ef] at z; exact z) f0⟩
