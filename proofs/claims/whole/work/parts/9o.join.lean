/-! ===== join, the class's side ===== -/
/-- the joined ring -/
def jnR (c : Nat → Nat) (n : Nat) (d : Nat → Nat) (m s i y : Nat) : Nat → Nat := fun k => if k < n - s + 1 then c ((i + s + k) % n) else d ((y + s + 1 + (k - (n - s + 1))) % m)
noncomputable def shN (X : LM) (a b : Nat) : Nat := cnt (shE (xRg X a) (xSz X a) (xRg X b) (xSz X b)) (xSz X a)
def stX (X : LM) (a b : Nat) : Nat → Prop := stE (xRg X a) (xSz X a) (xRg X b) (xSz X b)
noncomputable def jnX (X : LM) (a b i y : Nat) : Nat → Nat := jnR (xRg X a) (xSz X a) (xRg X b) (xSz X b) (shN X a b) i y
noncomputable def jnN (X : LM) (a b : Nat) : Nat := xSz X a - shN X a b + 1 + (xSz X b - shN X a b - 1)
theorem jn_lt {X : LM} (w : wf X) {a b : Nat} (ta : xTh X a = true) (tb : xTh X b = true) (i y k : Nat) : jnX X a b i y k < xNc X := by
  unfold jnX jnR
  split
  · exact (good_c w ta).2 _ (Nat.mod_lt _ (good_c w ta).1)
  · exact (good_c w tb).2 _ (Nat.mod_lt _ (good_c w tb).1)
/-- there is one run of shared edges -/
theorem jn_facts {X : LM} (w : wf X) {a b : Nat} (ta : xTh X a = true) (tb : xTh X b = true) {i : Nat} (u : uniq (stX X a b) (xSz X a) i) : 0 < shN X a b ∧ shN X a b < xSz X a ∧ shN X a b < xSz X b ∧ ∃ y, uniq (stX X b a) (xSz X b) y ∧ ∀ k, k < xSz X b → rev (xRg X a) (xSz X a) (xRg X b) (xSz X b) i k → (y + shN X a b) % xSz X b = (k + 1) % xSz X b := by
  have ga := wf_good w ta
  have gb := wf_good w tb
  exact join_comb (by have : 3 ≤ xSz X a := ga.1; omega) (by have : 3 ≤ xSz X b := gb.1; omega) ga.2.2.2.1 gb.2.2.2.1 u
noncomputable def jnT (X : LM) (a b i y : Nat) : TB := setTh (setRg (xTb X) a (jnN X a b) (xSt X (jnN X a b) (jnX X a b i y))) b false
theorem wf_join {X : LM} (w : wf X) {a b i y : Nat} (ta : xTh X a = true) (tb : xTh X b = true) (hf : (xFt X (jnN X a b) (jnX X a b i y)).1 = 0) : wf (uT X (xNp X) (jnT X a b i y)) := by
  have g := st_good w (fun k _ => jn_lt w ta tb i y k) hf
  have t1 := tab_setRg (a := a) w.2.2.2.2.1.2.1 g
  have old : ∀ q, tTh (jnT X a b i y) q = true → tTh (xTb X) q = true := fun q hq => by
    have hq : (if q = b then false else tTh (xTb X) q) = true := hq
    by_cases e : q = b
    · rw [if_pos e] at hq; exact absurd hq (by decide)
    · rw [if_neg e] at hq; exact hq
  exact wf_uT w w.2.2.2.2.1.1 (Nat.le_refl _) (fun q hq => t1 q (old q hq)) (fun q hq => w.2.2.2.2.1.2.2 q (old q hq))

theorem c_join_apart {S : xS} {X : LM} (w : wf X) (h : RC S X) {a b : Nat} (ha : a < xNp X) (ta : xTh X a = true) (hb : b < xNp X) (tb : xTh X b = true) (hab : a ≠ b) (hl : xLy X a = xLy X b) (hu : ¬ cnt (stX X a b) (xSz X a) = 1) : Sp mX8_join [.ref 31, .int (nI a), .int (nI b)] S (fun r S' => r = some (.int (-205)) ∧ RC S' X ∧ frC S S') := by
  have n60 : xNp X ≤ 60 := w.2.2.2.2.1.1
  have n200 := w.1
  have na : xSz X a ≤ 12 := (wf_good w ta).2.1
  have nb : xSz X b ≤ 12 := (wf_good w tb).2.1
  have ya : hasP (xNp X) (tTh (xTb X)) (nI a) := ⟨a, ha, rfl, ta⟩
  have yb : hasP (xNp X) (tTh (xTb X)) (nI b) := ⟨b, hb, rfl, tb⟩
  have ca := h.cr w ha ta
  have cb := h.cr w hb tb
  have la : S.1 (175 + a) 2 = nI (xLy X a) := ((h.2.2.2.1.2 a (by omega)).2 ta).1
  have lb : S.1 (175 + b) 2 = nI (xLy X b) := ((h.2.2.2.1.2 b (by omega)).2 tb).1
  have l4 : xLy X a < 4 := (w.2.2.2.2.1.2.1 a ta).1
  have e1 : oneI (stE (xRg X a) (xSz X a) (xRg X b) (xSz X b)) (xSz X a) = -1 := one_none hu
  show XP _ _ [_, _, _] _ _ _
  refine x_aload_n eX8_join_0 rfl ?_
  refine s_getR (k := 37) eX8_join_1 fX8_28 rfl (by decide) (by decide) rfl ?_
  refine x_iload_n eX8_join_4 rfl ?_
  refine s_callV1 (As := [_]) eX8_join_5 kX8_144 ⟨by decide, by decide⟩ rfl (by decide) (by decide) rfl rfl (Nat.le_of_ble_eq_true rfl) (Nat.le_of_ble_eq_true rfl) (sp_X3_has (h.tab w) (nI a)) (fun S_5 h_5 => ?_)
  have h_5 := h_5.symm
  subst h_5
  refine x_if_eqT eX8_join_8 (fun c_8 => ?_) (fun c_8 => ?_)
  · exact absurd ya c_8
  · refine x_aload_n eX8_join_11 rfl ?_
    refine s_getR (k := 37) eX8_join_12 fX8_28 rfl (by decide) (by decide) rfl ?_
    refine x_iload_n eX8_join_15 rfl ?_
    refine s_callV1 (As := [_]) eX8_join_16 kX8_144 ⟨by decide, by decide⟩ rfl (by decide) (by decide) rfl rfl (Nat.le_of_ble_eq_true rfl) (Nat.le_of_ble_eq_true rfl) (sp_X3_has (h.tab w) (nI b)) (fun S_16 h_16 => ?_)
    have h_16 := h_16.symm
    subst h_16
    refine x_if_neT eX8_join_19 (fun c_19 => ?_) (fun c_19 => ?_)
    · refine x_iload_n eX8_join_25 rfl ?_
      refine x_iload_n eX8_join_26 rfl ?_
      refine x_icmp_eqN eX8_join_27 (by omega) (by omega) (fun c_27 => ?_) (fun c_27 => ?_)
      · omega
      · refine x_aload_n eX8_join_30 rfl ?_
        refine s_getR (k := 37) eX8_join_31 fX8_28 rfl (by decide) (by decide) rfl ?_
        refine s_getR (k := 38) eX8_join_34 fX8_145 rfl (by decide) (by decide) rfl ?_
        refine x_iload_n eX8_join_37 rfl ?_
        refine s_raldR eX8_join_38 (by first | exact Or.inl rfl | exact Or.inr rfl) (by decide) rfl (show _ < 60 by omega) (rf_parcels a) ?_
        refine s_geti eX8_join_39 fX8_149 (kd_parcel (by omega)) (show _ < 365 by omega) (by decide) ?_
        rw [la]
        refine x_aload_n eX8_join_42 rfl ?_
        refine s_getR (k := 37) eX8_join_43 fX8_28 rfl (by decide) (by decide) rfl ?_
        refine s_getR (k := 38) eX8_join_46 fX8_145 rfl (by decide) (by decide) rfl ?_
        refine x_iload_n eX8_join_49 rfl ?_
        refine s_raldR eX8_join_50 (by first | exact Or.inl rfl | exact Or.inr rfl) (by decide) rfl (show _ < 60 by omega) (rf_parcels b) ?_
        refine s_geti eX8_join_51 fX8_149 (kd_parcel (by omega)) (show _ < 365 by omega) (by decide) ?_
        rw [lb]
        refine x_icmp_eqN eX8_join_54 (by omega) (by omega) (fun c_54 => ?_) (fun c_54 => ?_)
        · refine x_aload_n eX8_join_60 rfl ?_
          refine s_getR (k := 37) eX8_join_61 fX8_28 rfl (by decide) (by decide) rfl ?_
          refine s_getR (k := 38) eX8_join_64 fX8_145 rfl (by decide) (by decide) rfl ?_
          refine x_iload_n eX8_join_67 rfl ?_
          refine s_raldR eX8_join_68 (by first | exact Or.inl rfl | exact Or.inr rfl) (by decide) rfl (show _ < 60 by omega) (rf_parcels a) ?_
          refine s_getR (k := (45 + 2 * a)) eX8_join_69 fX8_157 (kd_parcel (by omega)) (show _ < 365 by omega) (by decide) (rf_parcel (by omega)) ?_
          refine x_astore_n (lv' := [_, _, _, _]) eX8_join_72 (by decide) rfl ?_
          refine x_aload_n eX8_join_73 rfl ?_
          refine s_getR (k := 37) eX8_join_74 fX8_28 rfl (by decide) (by decide) rfl ?_
          refine s_getR (k := 38) eX8_join_77 fX8_145 rfl (by decide) (by decide) rfl ?_
          refine x_iload_n eX8_join_80 rfl ?_
          refine s_raldR eX8_join_81 (by first | exact Or.inl rfl | exact Or.inr rfl) (by decide) rfl (show _ < 60 by omega) (rf_parcels b) ?_
          refine s_getR (k := (45 + 2 * b)) eX8_join_82 fX8_157 (kd_parcel (by omega)) (show _ < 365 by omega) (by decide) (rf_parcel (by omega)) ?_
          refine x_astore (lv' := [_, _, _, _, _]) eX8_join_85 (by decide) rfl ?_
          refine x_aload_n eX8_join_87 rfl ?_
          refine x_aload eX8_join_88 rfl ?_
          refine s_callV1 (As := [_]) eX8_join_90 kX8_183 ⟨by decide, by decide⟩ (kd_ring (by omega)) (by decide) (show _ < 365 by omega) rfl rfl (Nat.le_of_ble_eq_true rfl) (Nat.le_of_ble_eq_true rfl) (sp_X4_startOfShared _ ca.1 ca.2.1 cb.1 cb.2.1) (fun S_90 h_90 => ?_)
          have h_90 := h_90.symm
          subst h_90
          refine x_istore (lv' := [_, _, _, _, _, _]) eX8_join_93 (by decide) rfl ?_
          refine x_aload eX8_join_95 rfl ?_
          refine x_aload_n eX8_join_97 rfl ?_
          refine s_callV1 (As := [_]) eX8_join_98 kX8_183 ⟨by decide, by decide⟩ (kd_ring (by omega)) (by decide) (show _ < 365 by omega) rfl rfl (Nat.le_of_ble_eq_true rfl) (Nat.le_of_ble_eq_true rfl) (sp_X4_startOfShared _ cb.1 cb.2.1 ca.1 ca.2.1) (fun S_98 h_98 => ?_)
          have h_98 := h_98.symm
          subst h_98
          refine x_istore (lv' := [_, _, _, _, _, _, _]) eX8_join_101 (by decide) rfl ?_
          refine x_iload eX8_join_103 rfl ?_
          refine x_iconst (v := -1) eX8_join_105 (by decide) ?_
          refine x_icmp_eq eX8_join_106 (fun c_106 => ?_) (fun c_106 => ?_)
          · refine x_sipush (v := -205) eX8_join_115 (by decide) ?_
            exact s_iret eX8_join_118 rfl rfl ⟨rfl, h, frC.rf _⟩
          · exact absurd e1 c_106
        · omega
    · exact absurd yb c_19
theorem c_join_no {S : xS} {X : LM} (w : wf X) (h : RC S X) {a b : Nat} (ha : a < xNp X) (ta : xTh X a = true) (hb : b < xNp X) (tb : xTh X b = true) (hab : a ≠ b) (hl : xLy X a = xLy X b) {i y : Nat} (u : uniq (stX X a b) (xSz X a) i) (uy : uniq (stX X b a) (xSz X b) y) (hf : (xFt X (jnN X a b) (jnX X a b i y)).1 ≠ 0) : Sp mX8_join [.ref 31, .int (nI a), .int (nI b)] S (fun r S' => r = some (.int (xFt X (jnN X a b) (jnX X a b i y)).1) ∧ RC S' (uS X (xFt X (jnN X a b) (jnX X a b i y)).2 (xSu X) (xEd X)) ∧ frC S S') := by
  have n60 : xNp X ≤ 60 := w.2.2.2.2.1.1
  have n200 := w.1
  have na : xSz X a ≤ 12 := (wf_good w ta).2.1
  have nb : xSz X b ≤ 12 := (wf_good w tb).2.1
  have ya : hasP (xNp X) (tTh (xTb X)) (nI a) := ⟨a, ha, rfl, ta⟩
  have yb : hasP (xNp X) (tTh (xTb X)) (nI b) := ⟨b, hb, rfl, tb⟩
  have ca := h.cr w ha ta
  have cb := h.cr w hb tb
  have la : S.1 (175 + a) 2 = nI (xLy X a) := ((h.2.2.2.1.2 a (by omega)).2 ta).1
  have lb : S.1 (175 + b) 2 = nI (xLy X b) := ((h.2.2.2.1.2 b (by omega)).2 tb).1
  have l4 : xLy X a < 4 := (w.2.2.2.2.1.2.1 a ta).1
  obtain ⟨s0, sa, sb, -⟩ := jn_facts w ta tb u
  have hia := u.1
  have hyb := uy.1
  have e1 : oneI (stE (xRg X a) (xSz X a) (xRg X b) (xSz X b)) (xSz X a) = nI i := one_uniq u
  have e2 : oneI (stE (xRg X b) (xSz X b) (xRg X a) (xSz X a)) (xSz X b) = nI y := one_uniq uy
  have jl := fun (k : Nat) (_ : k < jnN X a b) => jn_lt w ta tb i y k
  have nl : jnN X a b ≤ 24 := by unfold jnN; omega
  obtain ⟨T, hT⟩ := h.pts w
  have eft := ft_PT w T (n := jnN X a b) (c := jnX X a b i y) (by omega) jl
  show XP _ _ [_, _, _] _ _ _
  refine x_aload_n eX8_join_0 rfl ?_
  refine s_getR (k := 37) eX8_join_1 fX8_28 rfl (by decide) (by decide) rfl ?_
  refine x_iload_n eX8_join_4 rfl ?_
  refine s_callV1 (As := [_]) eX8_join_5 kX8_144 ⟨by decide, by decide⟩ rfl (by decide) (by decide) rfl rfl (Nat.le_of_ble_eq_true rfl) (Nat.le_of_ble_eq_true rfl) (sp_X3_has (h.tab w) (nI a)) (fun S_5 h_5 => ?_)
  have h_5 := h_5.symm
  subst h_5
  refine x_if_eqT eX8_join_8 (fun c_8 => ?_) (fun c_8 => ?_)
  · exact absurd ya c_8
  · refine x_aload_n eX8_join_11 rfl ?_
    refine s_getR (k := 37) eX8_join_12 fX8_28 rfl (by decide) (by decide) rfl ?_
    refine x_iload_n eX8_join_15 rfl ?_
    refine s_callV1 (As := [_]) eX8_join_16 kX8_144 ⟨by decide, by decide⟩ rfl (by decide) (by decide) rfl rfl (Nat.le_of_ble_eq_true rfl) (Nat.le_of_ble_eq_true rfl) (sp_X3_has (h.tab w) (nI b)) (fun S_16 h_16 => ?_)
    have h_16 := h_16.symm
    subst h_16
    refine x_if_neT eX8_join_19 (fun c_19 => ?_) (fun c_19 => ?_)
    · refine x_iload_n eX8_join_25 rfl ?_
      refine x_iload_n eX8_join_26 rfl ?_
      refine x_icmp_eqN eX8_join_27 (by omega) (by omega) (fun c_27 => ?_) (fun c_27 => ?_)
      · omega
      · refine x_aload_n eX8_join_30 rfl ?_
        refine s_getR (k := 37) eX8_join_31 fX8_28 rfl (by decide) (by decide) rfl ?_
        refine s_getR (k := 38) eX8_join_34 fX8_145 rfl (by decide) (by decide) rfl ?_
        refine x_iload_n eX8_join_37 rfl ?_
        refine s_raldR eX8_join_38 (by first | exact Or.inl rfl | exact Or.inr rfl) (by decide) rfl (show _ < 60 by omega) (rf_parcels a) ?_
        refine s_geti eX8_join_39 fX8_149 (kd_parcel (by omega)) (show _ < 365 by omega) (by decide) ?_
        rw [la]
        refine x_aload_n eX8_join_42 rfl ?_
        refine s_getR (k := 37) eX8_join_43 fX8_28 rfl (by decide) (by decide) rfl ?_
        refine s_getR (k := 38) eX8_join_46 fX8_145 rfl (by decide) (by decide) rfl ?_
        refine x_iload_n eX8_join_49 rfl ?_
        refine s_raldR eX8_join_50 (by first | exact Or.inl rfl | exact Or.inr rfl) (by decide) rfl (show _ < 60 by omega) (rf_parcels b) ?_
        refine s_geti eX8_join_51 fX8_149 (kd_parcel (by omega)) (show _ < 365 by omega) (by decide) ?_
        rw [lb]
        refine x_icmp_eqN eX8_join_54 (by omega) (by omega) (fun c_54 => ?_) (fun c_54 => ?_)
        · refine x_aload_n eX8_join_60 rfl ?_
          refine s_getR (k := 37) eX8_join_61 fX8_28 rfl (by decide) (by decide) rfl ?_
          refine s_getR (k := 38) eX8_join_64 fX8_145 rfl (by decide) (by decide) rfl ?_
          refine x_iload_n eX8_join_67 rfl ?_
          refine s_raldR eX8_join_68 (by first | exact Or.inl rfl | exact Or.inr rfl) (by decide) rfl (show _ < 60 by omega) (rf_parcels a) ?_
          refine s_getR (k := (45 + 2 * a)) eX8_join_69 fX8_157 (kd_parcel (by omega)) (show _ < 365 by omega) (by decide) (rf_parcel (by omega)) ?_
          refine x_astore_n (lv' := [_, _, _, _]) eX8_join_72 (by decide) rfl ?_
          refine x_aload_n eX8_join_73 rfl ?_
          refine s_getR (k := 37) eX8_join_74 fX8_28 rfl (by decide) (by decide) rfl ?_
          refine s_getR (k := 38) eX8_join_77 fX8_145 rfl (by decide) (by decide) rfl ?_
          refine x_iload_n eX8_join_80 rfl ?_
          refine s_raldR eX8_join_81 (by first | exact Or.inl rfl | exact Or.inr rfl) (by decide) rfl (show _ < 60 by omega) (rf_parcels b) ?_
          refine s_getR (k := (45 + 2 * b)) eX8_join_82 fX8_157 (kd_parcel (by omega)) (show _ < 365 by omega) (by decide) (rf_parcel (by omega)) ?_
          refine x_astore (lv' := [_, _, _, _, _]) eX8_join_85 (by decide) rfl ?_
          refine x_aload_n eX8_join_87 rfl ?_
          refine x_aload eX8_join_88 rfl ?_
          refine s_callV1 (As := [_]) eX8_join_90 kX8_183 ⟨by decide, by decide⟩ (kd_ring (by omega)) (by decide) (show _ < 365 by omega) rfl rfl (Nat.le_of_ble_eq_true rfl) (Nat.le_of_ble_eq_true rfl) (sp_X4_startOfShared _ ca.1 ca.2.1 cb.1 cb.2.1) (fun S_90 h_90 => ?_)
          have h_90 := h_90.symm
          subst h_90
          rw [e1]
          refine x_istore (lv' := [_, _, _, _, _, _]) eX8_join_93 (by decide) rfl ?_
          refine x_aload eX8_join_95 rfl ?_
          refine x_aload_n eX8_join_97 rfl ?_
          refine s_callV1 (As := [_]) eX8_join_98 kX8_183 ⟨by decide, by decide⟩ (kd_ring (by omega)) (by decide) (show _ < 365 by omega) rfl rfl (Nat.le_of_ble_eq_true rfl) (Nat.le_of_ble_eq_true rfl) (sp_X4_startOfShared _ cb.1 cb.2.1 ca.1 ca.2.1) (fun S_98 h_98 => ?_)
          have h_98 := h_98.symm
          subst h_98
          rw [e2]
          refine x_istore (lv' := [_, _, _, _, _, _, _]) eX8_join_101 (by decide) rfl ?_
          refine x_iload eX8_join_103 rfl ?_
          refine x_iconst (v := -1) eX8_join_105 (by decide) ?_
          refine x_icmp_eq eX8_join_106 (fun c_106 => ?_) (fun c_106 => ?_)
          · exact absurd c_106 (nI_ne_m1 (by omega))
          · refine x_iload eX8_join_109 rfl ?_
            refine x_iconst (v := -1) eX8_join_111 (by decide) ?_
            refine x_icmp_ne eX8_join_112 (fun c_112 => ?_) (fun c_112 => ?_)
            · refine x_aload_n eX8_join_119 rfl ?_
              refine x_aload eX8_join_120 rfl ?_
              refine s_callV1 (As := [_]) eX8_join_122 kX8_187 ⟨by decide, by decide⟩ (kd_ring (by omega)) (by decide) (show _ < 365 by omega) rfl rfl (Nat.le_of_ble_eq_true rfl) (Nat.le_of_ble_eq_true rfl) (sp_X4_sharedWith _ ca.1 ca.2.1 cb.1 cb.2.1) (fun S_122 h_122 => ?_)
              have h_122 := h_122.symm
              subst h_122
              rw [show cnt (shE (xRg X a) (xSz X a) (xRg X b) (xSz X b)) (xSz X a) = shN X a b from rfl]
              refine x_istore (lv' := [_, _, _, _, _, _, _, _]) eX8_join_125 (by decide) rfl ?_
              refine x_aload_n eX8_join_127 rfl ?_
              refine s_getR (k := 171) eX8_join_128 fX8_53 rfl (by decide) (by decide) rfl ?_
              refine s_callV0 (As := []) eX8_join_131 kX8_118 ⟨by decide, by decide⟩ rfl (by decide) (by decide) rfl rfl (Nat.le_of_ble_eq_true rfl) (Nat.le_of_ble_eq_true rfl) (sp_X4_empty _ (r := 63) (by decide)) (fun S_131 h_131 => ?_)
              subst h_131
              refine x_aload_n eX8_join_134 rfl ?_
              refine s_getR (k := 171) eX8_join_135 fX8_53 rfl (by decide) (by decide) rfl ?_
              have xa : Fx [31, 36, 171, 173] [172, 174] [364] [] S (setF S (45 + 2 * 63) (upd (S.1 (45 + 2 * 63)) 1 (nI 0))) := Fx.sF (by simp)
              have f31 : (setF S (45 + 2 * 63) (upd (S.1 (45 + 2 * 63)) 1 (nI 0))).1 31 = S.1 31 := setF_ne _ _ (by decide)
              have em : crg (setF S (45 + 2 * 63) (upd (S.1 (45 + 2 * 63)) 1 (nI 0))) 63 0 (fun _ => 0) := emp_crg (by decide)
              generalize setF S (45 + 2 * 63) (upd (S.1 (45 + 2 * 63)) 1 (nI 0)) = Sa at *
              have caa := ca.1.fx xa (by simp; omega) (by simp; omega)
              refine x_aload_n eX8_join_138 rfl ?_
              refine x_iload eX8_join_139 rfl ?_
              refine x_iload eX8_join_141 rfl ?_
              first | refine x_iaddN eX8_join_143 ?_ | refine x_iadd eX8_join_143 ?_
              refine x_aload_n eX8_join_144 rfl ?_
              refine s_geti eX8_join_145 fX8_115 (kd_ring (by omega)) (show _ < 365 by omega) (by decide) ?_
              rw [caa.2.2.1]
              refine x_iload eX8_join_148 rfl ?_
              first | refine x_isubN eX8_join_150 (by omega) ?_ | refine x_isub eX8_join_150 ?_
              refine x_iconst (v := nI 1) eX8_join_151 (by decide) ?_
              first | refine x_iaddN eX8_join_152 ?_ | refine x_iadd eX8_join_152 ?_
              refine s_callV0 (As := [_, _, _]) eX8_join_153 kX8_175 ⟨by decide, by decide⟩ rfl (by decide) (by decide) rfl rfl (Nat.le_of_ble_eq_true rfl) (Nat.le_of_ble_eq_true rfl) (sp_X4_pushRun Sa em ⟨caa, ca.2.1⟩ (by omega) (by omega) (by omega)) (fun S_153 h_153 => ?_)
              obtain ⟨xb, rb⟩ := h_153
              have rb := crg_z rb
              have f31 : S_153.1 31 = S.1 31 := (xb.1 31 (by simp)).trans f31
              have xb := xa.tr (xb.mono (by simp) (by simp) (by simp) (by simp))
              have cbb := cb.1.fx xb (by simp; omega) (by simp; omega)
              refine x_aload_n eX8_join_156 rfl ?_
              refine s_getR (k := 171) eX8_join_157 fX8_53 rfl (by decide) (by decide) rfl ?_
              refine x_aload eX8_join_160 rfl ?_
              refine x_iload eX8_join_162 rfl ?_
              refine x_iload eX8_join_164 rfl ?_
              first | refine x_iaddN eX8_join_166 ?_ | refine x_iadd eX8_join_166 ?_
              refine x_iconst (v := nI 1) eX8_join_167 (by decide) ?_
              first | refine x_iaddN eX8_join_168 ?_ | refine x_iadd eX8_join_168 ?_
              refine x_aload eX8_join_169 rfl ?_
              refine s_geti eX8_join_171 fX8_115 (kd_ring (by omega)) (show _ < 365 by omega) (by decide) ?_
              rw [cbb.2.2.1]
              refine x_iload eX8_join_174 rfl ?_
              first | refine x_isubN eX8_join_176 (by omega) ?_ | refine x_isub eX8_join_176 ?_
              refine x_iconst (v := nI 1) eX8_join_177 (by decide) ?_
              first | refine x_isubN eX8_join_178 (by omega) ?_ | refine x_isub eX8_join_178 ?_
              refine s_callV0 (As := [_, _, _]) eX8_join_179 kX8_175 ⟨by decide, by decide⟩ rfl (by decide) (by decide) rfl rfl (Nat.le_of_ble_eq_true rfl) (Nat.le_of_ble_eq_true rfl) (sp_X4_pushRun S_153 rb ⟨cbb, cb.2.1⟩ (by omega) (by omega) (by omega)) (fun S_179 h_179 => ?_)
              obtain ⟨xc, rc⟩ := h_179
              have rc : crg S_179 63 (jnN X a b) (jnX X a b i y) := rc
              have f31 : S_179.1 31 = S.1 31 := (xc.1 31 (by simp)).trans f31
              have xc := xb.tr (xc.mono (by simp) (by simp) (by simp) (by simp))
              refine x_aload_n eX8_join_182 rfl ?_
              refine s_getR (k := 36) eX8_join_183 fX8_21 rfl (by decide) (by decide) rfl ?_
              refine x_aload_n eX8_join_186 rfl ?_
              refine s_getR (k := 171) eX8_join_187 fX8_53 rfl (by decide) (by decide) rfl ?_
              refine s_callV1 (As := [_]) eX8_join_190 kX8_190 ⟨by decide, by decide⟩ rfl (by decide) (by decide) rfl rfl (Nat.le_of_ble_eq_true rfl) (Nat.le_of_ble_eq_true rfl) (sp_X5_faultOf _ (hT.fx xc (by simp) (by simp)) rc jl) (fun S_190 h_190 => ?_)
              rw [eft] at h_190 ⊢
              obtain ⟨xd, ed⟩ := h_190
              have f31 : S_190.1 31 = S.1 31 := (xd.1 31 (by simp)).trans f31
              have rd := rc.fx xd (by simp) (by simp)
              have xd := xc.tr (xd.mono (by simp) (by simp) (by simp) (by simp))
              refine x_istore (lv' := [_, _, _, _, _, _, _, _, _]) eX8_join_193 (by decide) rfl ?_
              refine x_iload eX8_join_195 rfl ?_
              refine x_if_eq eX8_join_197 (fun c_197 => ?_) (fun c_197 => ?_)
              · exact absurd c_197 hf
              · refine x_aload_n eX8_join_200 rfl ?_
                refine x_aload_n eX8_join_201 rfl ?_
                refine s_getR (k := 36) eX8_join_202 fX8_21 rfl (by decide) (by decide) rfl ?_
                refine s_geti eX8_join_205 fX8_193 rfl (by decide) (by decide) ?_
                rw [ed hf]
                refine s_puti eX8_join_208 fX8_59 wX8_8 rfl (by decide) (by decide) ?_
                refine x_iload eX8_join_211 rfl ?_
                have xe := xd.tr (Fx.sF (p := 31) (g := upd (S_190.1 31) 8 (xFt X (jnN X a b) (jnX X a b i y)).2) (by simp))
                exact s_iret eX8_join_213 rfl rfl ⟨rfl, RC_scr h xe (by rw [setF_at, upd_ne _ _ (by decide), f31]) (by rw [setF_at, upd_ne _ _ (by decide), f31]) (by rw [setF_at, upd_at]), xe.frC (by simp) (by simp) (by simp)⟩
            · exact absurd c_112 (nI_ne_m1 (by omega))
        · omega
    · exact absurd yb c_19
theorem c_join_yes {S : xS} {X : LM} (w : wf X) (h : RC S X) {a b : Nat} (ha : a < xNp X) (ta : xTh X a = true) (hb : b < xNp X) (tb : xTh X b = true) (hab : a ≠ b) (hl : xLy X a = xLy X b) {i y : Nat} (u : uniq (stX X a b) (xSz X a) i) (uy : uniq (stX X b a) (xSz X b) y) (hf : (xFt X (jnN X a b) (jnX X a b i y)).1 = 0) : Sp mX8_join [.ref 31, .int (nI a), .int (nI b)] S (fun r S' => r = some (.int (nI (jnN X a b))) ∧ RC S' (uT X (xNp X) (jnT X a b i y)) ∧ frC S S') := by
  have n60 : xNp X ≤ 60 := w.2.2.2.2.1.1
  have n200 := w.1
  have na : xSz X a ≤ 12 := (wf_good w ta).2.1
  have nb : xSz X b ≤ 12 := (wf_good w tb).2.1
  have ya : hasP (xNp X) (tTh (xTb X)) (nI a) := ⟨a, ha, rfl, ta⟩
  have yb : hasP (xNp X) (tTh (xTb X)) (nI b) := ⟨b, hb, rfl, tb⟩
  have ca := h.cr w ha ta
  have cb := h.cr w hb tb
  have la : S.1 (175 + a) 2 = nI (xLy X a) := ((h.2.2.2.1.2 a (by omega)).2 ta).1
  have lb : S.1 (175 + b) 2 = nI (xLy X b) := ((h.2.2.2.1.2 b (by omega)).2 tb).1
  have l4 : xLy X a < 4 := (w.2.2.2.2.1.2.1 a ta).1
  obtain ⟨s0, sa, sb, -⟩ := jn_facts w ta tb u
  have hia := u.1
  have hyb := uy.1
  have e1 : oneI (stE (xRg X a) (xSz X a) (xRg X b) (xSz X b)) (xSz X a) = nI i := one_uniq u
  have e2 : oneI (stE (xRg X b) (xSz X b) (xRg X a) (xSz X a)) (xSz X b) = nI y := one_uniq uy
  have jl := fun (k : Nat) (_ : k < jnN X a b) => jn_lt w ta tb i y k
  have nl : jnN X a b ≤ 24 := by unfold jnN; omega
  obtain ⟨T, hT⟩ := h.pts w
  have eft := ft_PT w T (n := jnN X a b) (c := jnX X a b i y) (by omega) jl
  have sg := st_good w jl hf
  have v1 : vr (PT (PX X) T) (jnX X a b i y) (jnN X a b) = vr (PX X) (jnX X a b i y) (jnN X a b) := vr_PT (by have := sg.1; omega) (fun k hk => by have := jl k hk; omega)
  show XP _ _ [_, _, _] _ _ _
  refine x_aload_n eX8_join_0 rfl ?_
  refine s_getR (k := 37) eX8_join_1 fX8_28 rfl (by decide) (by decide) rfl ?_
  refine x_iload_n eX8_join_4 rfl ?_
  refine s_callV1 (As := [_]) eX8_join_5 kX8_144 ⟨by decide, by decide⟩ rfl (by decide) (by decide) rfl rfl (Nat.le_of_ble_eq_true rfl) (Nat.le_of_ble_eq_true rfl) (sp_X3_has (h.tab w) (nI a)) (fun S_5 h_5 => ?_)
  have h_5 := h_5.symm
  subst h_5
  refine x_if_eqT eX8_join_8 (fun c_8 => ?_) (fun c_8 => ?_)
  · exact absurd ya c_8
  · refine x_aload_n eX8_join_11 rfl ?_
    refine s_getR (k := 37) eX8_join_12 fX8_28 rfl (by decide) (by decide) rfl ?_
    refine x_iload_n eX8_join_15 rfl ?_
    refine s_callV1 (As := [_]) eX8_join_16 kX8_144 ⟨by decide, by decide⟩ rfl (by decide) (by decide) rfl rfl (Nat.le_of_ble_eq_true rfl) (Nat.le_of_ble_eq_true rfl) (sp_X3_has (h.tab w) (nI b)) (fun S_16 h_16 => ?_)
    have h_16 := h_16.symm
    subst h_16
    refine x_if_neT eX8_join_19 (fun c_19 => ?_) (fun c_19 => ?_)
    · refine x_iload_n eX8_join_25 rfl ?_
      refine x_iload_n eX8_join_26 rfl ?_
      refine x_icmp_eqN eX8_join_27 (by omega) (by omega) (fun c_27 => ?_) (fun c_27 => ?_)
      · omega
      · refine x_aload_n eX8_join_30 rfl ?_
        refine s_getR (k := 37) eX8_join_31 fX8_28 rfl (by decide) (by decide) rfl ?_
        refine s_getR (k := 38) eX8_join_34 fX8_145 rfl (by decide) (by decide) rfl ?_
        refine x_iload_n eX8_join_37 rfl ?_
        refine s_raldR eX8_join_38 (by first | exact Or.inl rfl | exact Or.inr rfl) (by decide) rfl (show _ < 60 by omega) (rf_parcels a) ?_
        refine s_geti eX8_join_39 fX8_149 (kd_parcel (by omega)) (show _ < 365 by omega) (by decide) ?_
        rw [la]
        refine x_aload_n eX8_join_42 rfl ?_
        refine s_getR (k := 37) eX8_join_43 fX8_28 rfl (by decide) (by decide) rfl ?_
        refine s_getR (k := 38) eX8_join_46 fX8_145 rfl (by decide) (by decide) rfl ?_
        refine x_iload_n eX8_join_49 rfl ?_
        refine s_raldR eX8_join_50 (by first | exact Or.inl rfl | exact Or.inr rfl) (by decide) rfl (show _ < 60 by omega) (rf_parcels b) ?_
        refine s_geti eX8_join_51 fX8_149 (kd_parcel (by omega)) (show _ < 365 by omega) (by decide) ?_
        rw [lb]
        refine x_icmp_eqN eX8_join_54 (by omega) (by omega) (fun c_54 => ?_) (fun c_54 => ?_)
        · refine x_aload_n eX8_join_60 rfl ?_
          refine s_getR (k := 37) eX8_join_61 fX8_28 rfl (by decide) (by decide) rfl ?_
          refine s_getR (k := 38) eX8_join_64 fX8_145 rfl (by decide) (by decide) rfl ?_
          refine x_iload_n eX8_join_67 rfl ?_
          refine s_raldR eX8_join_68 (by first | exact Or.inl rfl | exact Or.inr rfl) (by decide) rfl (show _ < 60 by omega) (rf_parcels a) ?_
          refine s_getR (k := (45 + 2 * a)) eX8_join_69 fX8_157 (kd_parcel (by omega)) (show _ < 365 by omega) (by decide) (rf_parcel (by omega)) ?_
          refine x_astore_n (lv' := [_, _, _, _]) eX8_join_72 (by decide) rfl ?_
          refine x_aload_n eX8_join_73 rfl ?_
          refine s_getR (k := 37) eX8_join_74 fX8_28 rfl (by decide) (by decide) rfl ?_
          refine s_getR (k := 38) eX8_join_77 fX8_145 rfl (by decide) (by decide) rfl ?_
          refine x_iload_n eX8_join_80 rfl ?_
          refine s_raldR eX8_join_81 (by first | exact Or.inl rfl | exact Or.inr rfl) (by decide) rfl (show _ < 60 by omega) (rf_parcels b) ?_
          refine s_getR (k := (45 + 2 * b)) eX8_join_82 fX8_157 (kd_parcel (by omega)) (show _ < 365 by omega) (by decide) (rf_parcel (by omega)) ?_
          refine x_astore (lv' := [_, _, _, _, _]) eX8_join_85 (by decide) rfl ?_
          refine x_aload_n eX8_join_87 rfl ?_
          refine x_aload eX8_join_88 rfl ?_
          refine s_callV1 (As := [_]) eX8_join_90 kX8_183 ⟨by decide, by decide⟩ (kd_ring (by omega)) (by decide) (show _ < 365 by omega) rfl rfl (Nat.le_of_ble_eq_true rfl) (Nat.le_of_ble_eq_true rfl) (sp_X4_startOfShared _ ca.1 ca.2.1 cb.1 cb.2.1) (fun S_90 h_90 => ?_)
          have h_90 := h_90.symm
          subst h_90
          rw [e1]
          refine x_istore (lv' := [_, _, _, _, _, _]) eX8_join_93 (by decide) rfl ?_
          refine x_aload eX8_join_95 rfl ?_
          refine x_aload_n eX8_join_97 rfl ?_
          refine s_callV1 (As := [_]) eX8_join_98 kX8_183 ⟨by decide, by decide⟩ (kd_ring (by omega)) (by decide) (show _ < 365 by omega) rfl rfl (Nat.le_of_ble_eq_true rfl) (Nat.le_of_ble_eq_true rfl) (sp_X4_startOfShared _ cb.1 cb.2.1 ca.1 ca.2.1) (fun S_98 h_98 => ?_)
          have h_98 := h_98.symm
          subst h_98
          rw [e2]
          refine x_istore (lv' := [_, _, _, _, _, _, _]) eX8_join_101 (by decide) rfl ?_
          refine x_iload eX8_join_103 rfl ?_
          refine x_iconst (v := -1) eX8_join_105 (by decide) ?_
          refine x_icmp_eq eX8_join_106 (fun c_106 => ?_) (fun c_106 => ?_)
          · exact absurd c_106 (nI_ne_m1 (by omega))
          · refine x_iload eX8_join_109 rfl ?_
            refine x_iconst (v := -1) eX8_join_111 (by decide) ?_
            refine x_icmp_ne eX8_join_112 (fun c_112 => ?_) (fun c_112 => ?_)
            · refine x_aload_n eX8_join_119 rfl ?_
              refine x_aload eX8_join_120 rfl ?_
              refine s_callV1 (As := [_]) eX8_join_122 kX8_187 ⟨by decide, by decide⟩ (kd_ring (by omega)) (by decide) (show _ < 365 by omega) rfl rfl (Nat.le_of_ble_eq_true rfl) (Nat.le_of_ble_eq_true rfl) (sp_X4_sharedWith _ ca.1 ca.2.1 cb.1 cb.2.1) (fun S_122 h_122 => ?_)
              have h_122 := h_122.symm
              subst h_122
              rw [show cnt (shE (xRg X a) (xSz X a) (xRg X b) (xSz X b)) (xSz X a) = shN X a b from rfl]
              refine x_istore (lv' := [_, _, _, _, _, _, _, _]) eX8_join_125 (by decide) rfl ?_
              refine x_aload_n eX8_join_127 rfl ?_
              refine s_getR (k := 171) eX8_join_128 fX8_53 rfl (by decide) (by decide) rfl ?_
              refine s_callV0 (As := []) eX8_join_131 kX8_118 ⟨by decide, by decide⟩ rfl (by decide) (by decide) rfl rfl (Nat.le_of_ble_eq_true rfl) (Nat.le_of_ble_eq_true rfl) (sp_X4_empty _ (r := 63) (by decide)) (fun S_131 h_131 => ?_)
              subst h_131
              refine x_aload_n eX8_join_134 rfl ?_
              refine s_getR (k := 171) eX8_join_135 fX8_53 rfl (by decide) (by decide) rfl ?_
              have xa : Fx [31, 36, 171, 173] [172, 174] [364] [] S (setF S (45 + 2 * 63) (upd (S.1 (45 + 2 * 63)) 1 (nI 0))) := Fx.sF (by simp)
              have f31 : (setF S (45 + 2 * 63) (upd (S.1 (45 + 2 * 63)) 1 (nI 0))).1 31 = S.1 31 := setF_ne _ _ (by decide)
              have em : crg (setF S (45 + 2 * 63) (upd (S.1 (45 + 2 * 63)) 1 (nI 0))) 63 0 (fun _ => 0) := emp_crg (by decide)
              generalize setF S (45 + 2 * 63) (upd (S.1 (45 + 2 * 63)) 1 (nI 0)) = Sa at *
              have caa := ca.1.fx xa (by simp; omega) (by simp; omega)
              refine x_aload_n eX8_join_138 rfl ?_
              refine x_iload eX8_join_139 rfl ?_
              refine x_iload eX8_join_141 rfl ?_
              first | refine x_iaddN eX8_join_143 ?_ | refine x_iadd eX8_join_143 ?_
              refine x_aload_n eX8_join_144 rfl ?_
              refine s_geti eX8_join_145 fX8_115 (kd_ring (by omega)) (show _ < 365 by omega) (by decide) ?_
              rw [caa.2.2.1]
              refine x_iload eX8_join_148 rfl ?_
              first | refine x_isubN eX8_join_150 (by omega) ?_ | refine x_isub eX8_join_150 ?_
              refine x_iconst (v := nI 1) eX8_join_151 (by decide) ?_
              first | refine x_iaddN eX8_join_152 ?_ | refine x_iadd eX8_join_152 ?_
              refine s_callV0 (As := [_, _, _]) eX8_join_153 kX8_175 ⟨by decide, by decide⟩ rfl (by decide) (by decide) rfl rfl (Nat.le_of_ble_eq_true rfl) (Nat.le_of_ble_eq_true rfl) (sp_X4_pushRun Sa em ⟨caa, ca.2.1⟩ (by omega) (by omega) (by omega)) (fun S_153 h_153 => ?_)
              obtain ⟨xb, rb⟩ := h_153
              have rb := crg_z rb
              have f31 : S_153.1 31 = S.1 31 := (xb.1 31 (by simp)).trans f31
              have xb := xa.tr (xb.mono (by simp) (by simp) (by simp) (by simp))
              have cbb := cb.1.fx xb (by simp; omega) (by simp; omega)
              refine x_aload_n eX8_join_156 rfl ?_
              refine s_getR (k := 171) eX8_join_157 fX8_53 rfl (by decide) (by decide) rfl ?_
              refine x_aload eX8_join_160 rfl ?_
              refine x_iload eX8_join_162 rfl ?_
              refine x_iload eX8_join_164 rfl ?_
              first | refine x_iaddN eX8_join_166 ?_ | refine x_iadd eX8_join_166 ?_
              refine x_iconst (v := nI 1) eX8_join_167 (by decide) ?_
              first | refine x_iaddN eX8_join_168 ?_ | refine x_iadd eX8_join_168 ?_
              refine x_aload eX8_join_169 rfl ?_
              refine s_geti eX8_join_171 fX8_115 (kd_ring (by omega)) (show _ < 365 by omega) (by decide) ?_
              rw [cbb.2.2.1]
              refine x_iload eX8_join_174 rfl ?_
              first | refine x_isubN eX8_join_176 (by omega) ?_ | refine x_isub eX8_join_176 ?_
              refine x_iconst (v := nI 1) eX8_join_177 (by decide) ?_
              first | refine x_isubN eX8_join_178 (by omega) ?_ | refine x_isub eX8_join_178 ?_
              refine s_callV0 (As := [_, _, _]) eX8_join_179 kX8_175 ⟨by decide, by decide⟩ rfl (by decide) (by decide) rfl rfl (Nat.le_of_ble_eq_true rfl) (Nat.le_of_ble_eq_true rfl) (sp_X4_pushRun S_153 rb ⟨cbb, cb.2.1⟩ (by omega) (by omega) (by omega)) (fun S_179 h_179 => ?_)
              obtain ⟨xc, rc⟩ := h_179
              have rc : crg S_179 63 (jnN X a b) (jnX X a b i y) := rc
              have f31 : S_179.1 31 = S.1 31 := (xc.1 31 (by simp)).trans f31
              have xc := xb.tr (xc.mono (by simp) (by simp) (by simp) (by simp))
              refine x_aload_n eX8_join_182 rfl ?_
              refine s_getR (k := 36) eX8_join_183 fX8_21 rfl (by decide) (by decide) rfl ?_
              refine x_aload_n eX8_join_186 rfl ?_
              refine s_getR (k := 171) eX8_join_187 fX8_53 rfl (by decide) (by decide) rfl ?_
              refine s_callV1 (As := [_]) eX8_join_190 kX8_190 ⟨by decide, by decide⟩ rfl (by decide) (by decide) rfl rfl (Nat.le_of_ble_eq_true rfl) (Nat.le_of_ble_eq_true rfl) (sp_X5_faultOf _ (hT.fx xc (by simp) (by simp)) rc jl) (fun S_190 h_190 => ?_)
              rw [eft] at h_190 ⊢
              obtain ⟨xd, ed⟩ := h_190
              have f31 : S_190.1 31 = S.1 31 := (xd.1 31 (by simp)).trans f31
              have rd := rc.fx xd (by simp) (by simp)
              have xd := xc.tr (xd.mono (by simp) (by simp) (by simp) (by simp))
              refine x_istore (lv' := [_, _, _, _, _, _, _, _, _]) eX8_join_193 (by decide) rfl ?_
              refine x_iload eX8_join_195 rfl ?_
              refine x_if_eq eX8_join_197 (fun c_197 => ?_) (fun c_197 => ?_)
              · refine x_aload_n eX8_join_214 rfl ?_
                refine s_getR (k := 37) eX8_join_215 fX8_28 rfl (by decide) (by decide) rfl ?_
                refine x_iload_n eX8_join_218 rfl ?_
                refine x_iload_n eX8_join_219 rfl ?_
                have g1 : RC S_190 X := RC_scr h xd (by rw [f31]) (by rw [f31]) (by rw [f31]; exact h.2.2.1.1)
                refine s_callV0 (As := [_, _]) eX8_join_220 kX8_137 ⟨by decide, by decide⟩ rfl (by decide) (by decide) rfl rfl (Nat.le_of_ble_eq_true rfl) (Nat.le_of_ble_eq_true rfl) (sp_kpost g1 (by omega) _ (Or.inr ⟨b, by omega, rfl⟩)) (fun S_220 h_220 => ?_)
                have k1 := h_220
                have re := rd.fx k1.1 (by simp) (by simp)
                have hTe : cps S_220 (xNc X) (PT (PX X) T) := (hT.fx xd (by simp) (by simp)).fx k1.1 (by simp) (by simp)
                refine x_aload_n eX8_join_223 rfl ?_
                refine s_getR (k := 36) eX8_join_224 fX8_21 rfl (by decide) (by decide) rfl ?_
                refine x_aload_n eX8_join_227 rfl ?_
                refine s_getR (k := 171) eX8_join_228 fX8_53 rfl (by decide) (by decide) rfl ?_
                refine x_aload_n eX8_join_231 rfl ?_
                refine s_callV0 (As := [_, _]) eX8_join_232 kX8_179 ⟨by decide, by decide⟩ rfl (by decide) (by decide) rfl rfl (Nat.le_of_ble_eq_true rfl) (Nat.le_of_ble_eq_true rfl) (sp_X5_settle S_220 (t := a) hTe (show CR S_220 (xNc X) 63 (jnN X a b) (jnX X a b i y) from ⟨re, by have := sg.1; omega, jl⟩) (by omega) (by omega)) (fun S_232 h_232 => ?_)
                obtain ⟨xf, rf⟩ := h_232
                rw [v1] at rf
                refine x_aload_n eX8_join_235 rfl ?_
                refine s_getR (k := 37) eX8_join_236 fX8_28 rfl (by decide) (by decide) rfl ?_
                refine s_getR (k := 38) eX8_join_239 fX8_145 rfl (by decide) (by decide) rfl ?_
                refine x_iload_n eX8_join_242 rfl ?_
                refine s_raldR eX8_join_243 (by first | exact Or.inl rfl | exact Or.inr rfl) (by decide) rfl (show _ < 60 by omega) (rf_parcels b) ?_
                refine x_iconst (v := nI 0) eX8_join_244 (by decide) ?_
                refine s_putz eX8_join_245 fX8_164 wX1_1 (kd_parcel (by omega)) (show _ < 365 by omega) (by decide) (by first | exact Or.inl rfl | exact Or.inr rfl | exact bI_01 _) ?_
                refine x_aload_n eX8_join_248 rfl ?_
                refine s_geti eX8_join_249 fX8_115 (kd_ring (by omega)) (show _ < 365 by omega) (by decide) ?_
                rw [show (setF S_232 (175 + b) (upd (S_232.1 (175 + b)) 1 (nI 0))).1 (45 + 2 * a) 1 = nI (jnN X a b) by rw [setF_ne _ _ (by omega)]; exact rf.2.2.1]
                have x2 : Fx [37, 36, 175 + a, 45 + 2 * a, 175 + b, 45 + 2 * b, 171, 173] [46 + 2 * a, 46 + 2 * b, 172, 174] [364] [] S_220 (setF S_232 (175 + b) (upd (S_232.1 (175 + b)) 1 (nI 0))) := (xf.mono (by simp) (by simp) (by simp) (by simp)).tr (Fx.sF (by simp))
                have e37 : (setF S_232 (175 + b) (upd (S_232.1 (175 + b)) 1 (nI 0))).1 37 = S_220.1 37 := by rw [setF_ne _ _ (by omega), xf.1 37 (by simp; omega)]
                have ea : (setF S_232 (175 + b) (upd (S_232.1 (175 + b)) 1 (nI 0))).1 (175 + a) = S_190.1 (175 + a) := by rw [setF_ne _ _ (by omega), xf.1 _ (by simp; omega), k1.1.1 _ (by simp; omega)]
                have own := rg_own (xTb X) a (jnN X a b) (xSt X (jnN X a b) (jnX X a b i y))
                have ag := th_ag (t := setRg (xTb X) a (jnN X a b) (xSt X (jnN X a b) (jnX X a b i y))) (a := b) (b := false) (e := a) hab
                have cca := g1.2.2.2.1.2 a (by omega)
                have ep : cent (setF S_232 (175 + b) (upd (S_232.1 (175 + b)) 1 (nI 0))) a (jnT X a b i y) a := ⟨by rw [ea, show tTh (jnT X a b i y) a = tTh (xTb X) a from ag.1]; exact cca.1, fun _ => ⟨by rw [ea]; exact (cca.2 ta).1, by rw [ea]; exact (cca.2 ta).2.1, by rw [show tSz (jnT X a b i y) a = jnN X a b from own.1, show tRg (jnT X a b i y) a = (xSt X (jnN X a b) (jnX X a b i y)) from own.2]; exact rf.fx (Fx.sF (fs := [175 + b]) (is := []) (ls := []) (ds := []) (by simp)) (by simp; omega) (by simp)⟩⟩
                have eb : tTh (jnT X a b i y) b = false := if_pos rfl
                have eq : cent (setF S_232 (175 + b) (upd (S_232.1 (175 + b)) 1 (nI 0))) b (jnT X a b i y) b := ⟨by rw [eb, setF_at, upd_at]; rfl, fun z => by rw [eb] at z; exact absurd z (by decide)⟩
                have agx : ∀ e, e ≠ a → e ≠ b → tAg (xTb X) (jnT X a b i y) e := fun e q1 q2 => by
                  have z1 := rg_ag (t := xTb X) (n := jnN X a b) (c := (xSt X (jnN X a b) (jnX X a b i y))) q1
                  have z2 := th_ag (t := setRg (xTb X) a (jnN X a b) (xSt X (jnN X a b) (jnX X a b i y))) (b := false) q2
                  exact ⟨z2.1.trans z1.1, z2.2.1.trans z1.2.1, z2.2.2.1.trans z1.2.2.1, z2.2.2.2.1.trans z1.2.2.2.1, z2.2.2.2.2.trans z1.2.2.2.2⟩
                exact s_iret eX8_join_252 rfl rfl ⟨rfl, RC_mut g1 (p := a) (q := b) (by omega) (by omega) (Or.inr ⟨rfl, fun z => hab z.symm⟩) k1 x2 (fun f _ => by rw [e37]) (by rw [e37, k1.2.2.2.2.1]; exact g1.2.2.2.1.1) agx ep eq, ((xd.frC (by simp) (by simp) (by simp)).tr (k1.1.frC (by simp) (by simp) (by simp))).tr (x2.frC (by simp; omega) (by simp; omega) (by simp))⟩
              · exact absurd hf c_197
            · exact absurd c_112 (nI_ne_m1 (by omega))
        · omega
    · exact absurd yb c_19
