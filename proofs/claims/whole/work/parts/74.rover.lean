/-! ===== the reference's lieOver, isInside, borders ===== -/
def MP (nc : Nat) (P P0 : Nat → Pt) : Prop := nc ≤ 200 ∧ (∀ x, x < nc → P x = scP 2 (P0 x)) ∧ ∀ x y, x < nc → y < nc → P x = P y → x = y
def RGd (nc : Nat) (P : Nat → Pt) (n : Nat) (c : Nat → Nat) : Prop := (∀ i, i < n → c i < nc) ∧ (∀ i j, i < n → j < n → c i = c j → i = j) ∧ soundS (vr P c n) n ∧ lefty (vr P c n)
theorem RGd.lt {nc : Nat} {P : Nat → Pt} {n : Nat} {c : Nat → Nat} (h : RGd nc P n c) (k : Nat) : c (k % n) < nc := h.1 _ (Nat.mod_lt _ (by have := h.2.2.1.1; omega))
theorem RGd.adj {nc : Nat} {P : Nat → Pt} {n : Nat} {c : Nat → Nat} (h : RGd nc P n c) (k : Nat) : c (k % n) ≠ c ((k + 1) % n) := fun e => by
  have n3 := h.2.2.1.1
  have e2 := h.2.1 _ _ (Nat.mod_lt _ (by omega)) (Nat.mod_lt _ (by omega)) e
  exact next_ne h.2.2.1 k (by show P (c (k % n)) = P (c ((k + 1) % n)); rw [e2])
def ovP (v : Nat → Pt) (n : Nat) (w : Nat → Pt) (m : Nat) : Prop := (∃ i, i < n ∧ goesP w m (v i) (v (i + 1))) ∨ (∀ i, i < n → alongP w m (v i) (v (i + 1))) ∨ ∃ j, j < m ∧ goesP v n (w j) (w (j + 1))

theorem sp_X9_lieOver (S : xS) {nc p q n m : Nat} {c d : Nat → Nat} {P P0 : Nat → Pt} (hp : mps S nc P) (hmp : MP nc P P0) (h : mpr S p n c) (g : mpr S q m d) (hr : RGd nc P n c) (hq : RGd nc P m d) : Sp mX9_lieOver [.ref 0, .int (nI p), .int (nI q)] S (fun r S' => r = some (.int (tI (ovP (vr P c n) n (vr P d m) m))) ∧ Gx S S') := by
  have p60 := h.1
  have q60 := g.1
  have n12 := h.2.2.1
  have m12 := g.2.2.1
  have loop2 : ∀ μ k, k + μ = m → ∀ S1, (Gx S S1 ∧ (∀ j, j < k → ¬ goesP (vr P c n) n (vr P d m j) (vr P d m (j + 1))) ∧ (∀ j, j < n → ¬ goesP (vr P d m) m (vr P c n j) (vr P c n (j + 1))) ∧ ∃ j, j < n ∧ ¬ alongP (vr P d m) m (vr P c n j) (vr P c n (j + 1))) → XP mX9_lieOver 78 [(4, .int (nI k)), (0, .ref 0), (1, .int (nI p)), (2, .int (nI q))] [] (xwS S1) (sQ (fun r S' => r = some (.int (tI (ovP (vr P c n) n (vr P d m) m))) ∧ Gx S S')) := by
    intro μ
    induction μ with
    | zero =>
      intro k hk S1 h1
      obtain ⟨hg, hno, hA, hB⟩ := h1
      refine x_iload eX9_lieOver_78 rfl ?_
      refine x_aload_n eX9_lieOver_80 rfl ?_
      refine s_getR (k := 15) eX9_lieOver_81 fX9_58 rfl (by decide) (by decide) rfl ?_
      refine x_iload_n eX9_lieOver_84 rfl ?_
      refine s_iald eX9_lieOver_85 rfl (by decide) rfl (show _ < 60 by omega) ?_
      rw [(g.gx hg).2.2.2.1]
      refine x_icmp_geN eX9_lieOver_86 (by omega) (by omega) (fun c_86 => ?_) (fun c_86 => ?_)
      · refine x_iconst (v := nI 0) eX9_lieOver_125 (by decide) ?_
        exact s_iret eX9_lieOver_126 rfl (by first | rfl | exact bI_nar _ | exact tI_nar _) ⟨tI_fs (fun z => by rcases z with ⟨j, hj, z⟩ | z | ⟨j, hj, z⟩; exact hA j hj z; exact hB.elim (fun j hj => hj.2 (z j hj.1)); exact hno j (by omega) z), hg⟩
      · omega
    | succ μ ih =>
      intro k hk S1 h1
      obtain ⟨hg, hno, hA, hB⟩ := h1
      refine x_iload eX9_lieOver_78 rfl ?_
      refine x_aload_n eX9_lieOver_80 rfl ?_
      refine s_getR (k := 15) eX9_lieOver_81 fX9_58 rfl (by decide) (by decide) rfl ?_
      refine x_iload_n eX9_lieOver_84 rfl ?_
      refine s_iald eX9_lieOver_85 rfl (by decide) rfl (show _ < 60 by omega) ?_
      rw [(g.gx hg).2.2.2.1]
      refine x_icmp_geN eX9_lieOver_86 (by omega) (by omega) (fun c_86 => ?_) (fun c_86 => ?_)
      · omega
      · refine x_aload_n eX9_lieOver_89 rfl ?_
        refine x_aload_n eX9_lieOver_90 rfl ?_
        refine x_iload_n eX9_lieOver_91 rfl ?_
        refine x_iload eX9_lieOver_92 rfl ?_
        refine s_callV1 (As := [_, _]) eX9_lieOver_94 kX9_241 ⟨by decide, by decide⟩ rfl (by decide) (by decide) rfl rfl (Nat.le_of_ble_eq_true rfl) (Nat.le_of_ble_eq_true rfl) (sp_X9_of _ (g.gx hg) (by omega)) (fun S_94 h_94 => ?_)
        have h_94 := h_94.symm
        subst h_94
        refine x_aload_n eX9_lieOver_97 rfl ?_
        refine x_iload_n eX9_lieOver_98 rfl ?_
        refine x_iload eX9_lieOver_99 rfl ?_
        refine x_iconst (v := nI 1) eX9_lieOver_101 (by decide) ?_
        first | refine x_iaddN eX9_lieOver_102 ?_ | refine x_iadd eX9_lieOver_102 ?_
        refine s_callV1 (As := [_, _]) eX9_lieOver_103 kX9_241 ⟨by decide, by decide⟩ rfl (by decide) (by decide) rfl rfl (Nat.le_of_ble_eq_true rfl) (Nat.le_of_ble_eq_true rfl) (sp_X9_of _ (g.gx hg) (by omega)) (fun S_103 h_103 => ?_)
        have h_103 := h_103.symm
        subst h_103
        refine x_iload_n eX9_lieOver_106 rfl ?_
        refine s_callV0 (As := [_, _, _]) eX9_lieOver_107 kX9_260 ⟨by decide, by decide⟩ rfl (by decide) (by decide) rfl rfl (Nat.le_of_ble_eq_true rfl) (Nat.le_of_ble_eq_true rfl) (sp_X9_passes _ (hp.gx hmp.1 hg) hmp.1 (h.gx hg) hr.1 hmp.2.1 hmp.2.2 hr.2.1 hr.2.2.1 hr.2.2.2 (hq.lt k) (hq.lt (k + 1)) (hq.adj k)) (fun S_107 h_107 => ?_)
        obtain ⟨g1, e29, e30⟩ := h_107
        have hg := hg.tr g1
        refine x_aload_n eX9_lieOver_110 rfl ?_
        refine s_geti eX9_lieOver_111 fX9_244 rfl (by decide) (by decide) ?_
        rw [e29]
        refine x_if_eqT eX9_lieOver_114 (fun c_114 => ?_) (fun c_114 => ?_)
        · refine x_iinc (lv' := [_, _, _, _]) eX9_lieOver_119 rfl (by first | exact nI_inc _ | exact rfl) (by decide) rfl ?_
          refine x_goto eX9_lieOver_122 ?_
          refine x_pick [0, 1, 2, 3] rfl ?_
          refine ih (k + 1) (by omega) _ ⟨hg, fun j hj z => ?_, hA, hB⟩
          by_cases e : j = k
          · subst e; exact c_114 z
          · exact hno j (by omega) z
        · refine x_iconst (v := nI 1) eX9_lieOver_117 (by decide) ?_
          exact s_iret eX9_lieOver_118 rfl (by first | rfl | exact bI_nar _ | exact tI_nar _) ⟨tI_ts (Or.inr (Or.inr ⟨k, by omega, c_114⟩)), hg⟩
  have loop : ∀ μ k, k + μ = n → ∀ x : Int32, ∀ S1, (Gx S S1 ∧ (∀ j, j < k → ¬ goesP (vr P d m) m (vr P c n j) (vr P c n (j + 1))) ∧ x = tI (∃ j, j < k ∧ ¬ alongP (vr P d m) m (vr P c n j) (vr P c n (j + 1)))) → XP mX9_lieOver 5 [(4, .int (nI k)), (3, .int x), (0, .ref 0), (1, .int (nI p)), (2, .int (nI q))] [] (xwS S1) (sQ (fun r S' => r = some (.int (tI (ovP (vr P c n) n (vr P d m) m))) ∧ Gx S S')) := by
    intro μ
    induction μ with
    | zero =>
      intro k hk x S1 h1
      obtain ⟨hg, hno, rfl⟩ := h1
      refine x_iload eX9_lieOver_5 rfl ?_
      refine x_aload_n eX9_lieOver_7 rfl ?_
      refine s_getR (k := 15) eX9_lieOver_8 fX9_58 rfl (by decide) (by decide) rfl ?_
      refine x_iload_n eX9_lieOver_11 rfl ?_
      refine s_iald eX9_lieOver_12 rfl (by decide) rfl (show _ < 60 by omega) ?_
      rw [(h.gx hg).2.2.2.1]
      refine x_icmp_geN eX9_lieOver_13 (by omega) (by omega) (fun c_13 => ?_) (fun c_13 => ?_)
      · refine x_iload_n eX9_lieOver_69 rfl ?_
        refine x_if_neT eX9_lieOver_70 (fun c_70 => ?_) (fun c_70 => ?_)
        · refine x_iconst (v := nI 0) eX9_lieOver_75 (by decide) ?_
          refine x_istore (lv' := [_, _, _, _, _]) eX9_lieOver_76 (by decide) rfl ?_
          refine x_pick [0, 2, 3, 4] rfl ?_
          exact loop2 m 0 (by omega) _ ⟨hg, fun j hj => by omega, fun j hj => hno j (by omega), c_70.elim (fun j hj => ⟨j, by omega, hj.2⟩)⟩
        · refine x_iconst (v := nI 1) eX9_lieOver_73 (by decide) ?_
          exact s_iret eX9_lieOver_74 rfl (by first | rfl | exact bI_nar _ | exact tI_nar _) ⟨tI_ts (Or.inr (Or.inl (fun i hi => Classical.byContradiction fun z => c_70 ⟨i, by omega, z⟩))), hg⟩
      · omega
    | succ μ ih =>
      intro k hk x S1 h1
      obtain ⟨hg, hno, rfl⟩ := h1
      refine x_iload eX9_lieOver_5 rfl ?_
      refine x_aload_n eX9_lieOver_7 rfl ?_
      refine s_getR (k := 15) eX9_lieOver_8 fX9_58 rfl (by decide) (by decide) rfl ?_
      refine x_iload_n eX9_lieOver_11 rfl ?_
      refine s_iald eX9_lieOver_12 rfl (by decide) rfl (show _ < 60 by omega) ?_
      rw [(h.gx hg).2.2.2.1]
      refine x_icmp_geN eX9_lieOver_13 (by omega) (by omega) (fun c_13 => ?_) (fun c_13 => ?_)
      · omega
      · refine x_aload_n eX9_lieOver_16 rfl ?_
        refine x_aload_n eX9_lieOver_17 rfl ?_
        refine x_iload_n eX9_lieOver_18 rfl ?_
        refine x_iload eX9_lieOver_19 rfl ?_
        refine s_callV1 (As := [_, _]) eX9_lieOver_21 kX9_241 ⟨by decide, by decide⟩ rfl (by decide) (by decide) rfl rfl (Nat.le_of_ble_eq_true rfl) (Nat.le_of_ble_eq_true rfl) (sp_X9_of _ (h.gx hg) (by omega)) (fun S_21 h_21 => ?_)
        have h_21 := h_21.symm
        subst h_21
        refine x_aload_n eX9_lieOver_24 rfl ?_
        refine x_iload_n eX9_lieOver_25 rfl ?_
        refine x_iload eX9_lieOver_26 rfl ?_
        refine x_iconst (v := nI 1) eX9_lieOver_28 (by decide) ?_
        first | refine x_iaddN eX9_lieOver_29 ?_ | refine x_iadd eX9_lieOver_29 ?_
        refine s_callV1 (As := [_, _]) eX9_lieOver_30 kX9_241 ⟨by decide, by decide⟩ rfl (by decide) (by decide) rfl rfl (Nat.le_of_ble_eq_true rfl) (Nat.le_of_ble_eq_true rfl) (sp_X9_of _ (h.gx hg) (by omega)) (fun S_30 h_30 => ?_)
        have h_30 := h_30.symm
        subst h_30
        refine x_iload_n eX9_lieOver_33 rfl ?_
        refine s_callV0 (As := [_, _, _]) eX9_lieOver_34 kX9_260 ⟨by decide, by decide⟩ rfl (by decide) (by decide) rfl rfl (Nat.le_of_ble_eq_true rfl) (Nat.le_of_ble_eq_true rfl) (sp_X9_passes _ (hp.gx hmp.1 hg) hmp.1 (g.gx hg) hq.1 hmp.2.1 hmp.2.2 hq.2.1 hq.2.2.1 hq.2.2.2 (hr.lt k) (hr.lt (k + 1)) (hr.adj k)) (fun S_34 h_34 => ?_)
        obtain ⟨g1, e29, e30⟩ := h_34
        have hg := hg.tr g1
        refine x_aload_n eX9_lieOver_37 rfl ?_
        refine s_geti eX9_lieOver_38 fX9_244 rfl (by decide) (by decide) ?_
        rw [e29]
        refine x_if_eqT eX9_lieOver_41 (fun c_41 => ?_) (fun c_41 => ?_)
        · refine x_iload_n eX9_lieOver_46 rfl ?_
          refine x_if_neT eX9_lieOver_47 (fun c_47 => ?_) (fun c_47 => ?_)
          · refine x_iconst (v := nI 1) eX9_lieOver_57 (by decide) ?_
            refine x_goto eX9_lieOver_58 ?_
            refine x_istore_n (lv' := [_, _, _, _, _]) eX9_lieOver_62 (by decide) rfl ?_
            refine x_iinc (lv' := [_, _, _, _, _]) eX9_lieOver_63 rfl (by first | exact nI_inc _ | exact rfl) (by decide) rfl ?_
            refine x_goto eX9_lieOver_66 ?_
            refine x_pick [0, 1, 2, 3, 4] rfl ?_
            refine ih (k + 1) (by omega) _ _ ⟨hg, fun j hj z => ?_, ?_⟩
            · by_cases e : j = k
              · subst e; exact c_41 z
              · exact hno j (by omega) z
            · first
              | (refine (tI_t ?_).symm; obtain ⟨j, hj, e⟩ := c_47; exact ⟨j, by omega, e⟩)
              | (refine (tI_t ?_).symm; exact ⟨k, by omega, c_54⟩)
              | exact (tI_f (ex_last c_47 c_54)).symm
          · refine x_aload_n eX9_lieOver_50 rfl ?_
            refine s_geti eX9_lieOver_51 fX9_247 rfl (by decide) (by decide) ?_
            rw [e30 c_41]
            refine x_if_eqT eX9_lieOver_54 (fun c_54 => ?_) (fun c_54 => ?_)
            · refine x_iconst (v := nI 0) eX9_lieOver_61 (by decide) ?_
              refine x_istore_n (lv' := [_, _, _, _, _]) eX9_lieOver_62 (by decide) rfl ?_
              refine x_iinc (lv' := [_, _, _, _, _]) eX9_lieOver_63 rfl (by first | exact nI_inc _ | exact rfl) (by decide) rfl ?_
              refine x_goto eX9_lieOver_66 ?_
              refine x_pick [0, 1, 2, 3, 4] rfl ?_
              refine ih (k + 1) (by omega) _ _ ⟨hg, fun j hj z => ?_, ?_⟩
              · by_cases e : j = k
                · subst e; exact c_41 z
                · exact hno j (by omega) z
              · first
                | (refine (tI_t ?_).symm; obtain ⟨j, hj, e⟩ := c_47; exact ⟨j, by omega, e⟩)
                | (refine (tI_t ?_).symm; exact ⟨k, by omega, c_54⟩)
                | exact (tI_f (ex_last c_47 c_54)).symm
            · refine x_iconst (v := nI 1) eX9_lieOver_57 (by decide) ?_
              refine x_goto eX9_lieOver_58 ?_
              refine x_istore_n (lv' := [_, _, _, _, _]) eX9_lieOver_62 (by decide) rfl ?_
              refine x_iinc (lv' := [_, _, _, _, _]) eX9_lieOver_63 rfl (by first | exact nI_inc _ | exact rfl) (by decide) rfl ?_
              refine x_goto eX9_lieOver_66 ?_
              refine x_pick [0, 1, 2, 3, 4] rfl ?_
              refine ih (k + 1) (by omega) _ _ ⟨hg, fun j hj z => ?_, ?_⟩
              · by_cases e : j = k
                · subst e; exact c_41 z
                · exact hno j (by omega) z
              · first
                | (refine (tI_t ?_).symm; obtain ⟨j, hj, e⟩ := c_47; exact ⟨j, by omega, e⟩)
                | (refine (tI_t ?_).symm; exact ⟨k, by omega, c_54⟩)
                | exact (tI_f (ex_last c_47 c_54)).symm
        · refine x_iconst (v := nI 1) eX9_lieOver_44 (by decide) ?_
          exact s_iret eX9_lieOver_45 rfl (by first | rfl | exact bI_nar _ | exact tI_nar _) ⟨tI_ts (Or.inl ⟨k, by omega, c_41⟩), hg⟩
  show XP _ _ [_, _, _] _ _ _
  refine x_iconst (v := nI 0) eX9_lieOver_0 (by decide) ?_
  refine x_istore_n (lv' := [_, _, _, _]) eX9_lieOver_1 (by decide) rfl ?_
  refine x_iconst (v := nI 0) eX9_lieOver_2 (by decide) ?_
  refine x_istore (lv' := [_, _, _, _, _]) eX9_lieOver_3 (by decide) rfl ?_
  refine x_pick [0, 1, 2, 3, 4] rfl ?_
  exact loop n 0 (by omega) _ _ ⟨Gx.rf _, fun j hj => by omega, (tI_f (fun ⟨j, hj, _⟩ => by omega)).symm⟩
theorem sp_X9_isInside (S : xS) {nc p n i j : Nat} {c : Nat → Nat} {P P0 : Nat → Pt} (hp : mps S nc P) (hmp : MP nc P P0) (h : mpr S p n c) (hr : RGd nc P n c) (hi : i < 1000) (hj : j < 1000) (hij : c (i % n) ≠ c (j % n)) : Sp mX9_isInside [.ref 0, .int (nI p), .int (nI i), .int (nI j)] S (fun r S' => r = some (.int (tI ((∀ k, k < n → (comP (vr P c n i) (vr P c n j) (vr P c n k) (vr P c n (k + 1)) = if (c (k % n) = c (i % n) ∨ c (k % n) = c (j % n) ∨ c ((k + 1) % n) = c (i % n) ∨ c ((k + 1) % n) = c (j % n)) then 2 else 0)) ∧ lie (vr P c n) n (((vr P c n i).1 + (vr P c n j).1) / 2, ((vr P c n i).2 + (vr P c n j).2) / 2) = 1))) ∧ Gx S S') := by
  have p60 := h.1
  have n12 := h.2.2.1
  have li := h.lt i
  have lj := h.lt j
  have loop : ∀ μ k, k + μ = n → ∀ S1, (Gx S S1 ∧ ∀ l, l < k → (comP (vr P c n i) (vr P c n j) (vr P c n l) (vr P c n (l + 1)) = if (c (l % n) = c (i % n) ∨ c (l % n) = c (j % n) ∨ c ((l + 1) % n) = c (i % n) ∨ c ((l + 1) % n) = c (j % n)) then 2 else 0)) → XP mX9_isInside 19 [(6, .int (nI k)), (5, .int (nI (c (j % n)))), (4, .int (nI (c (i % n)))), (0, .ref 0), (1, .int (nI p)), (2, .int (nI i)), (3, .int (nI j))] [] (xwS S1) (sQ (fun r S' => r = some (.int (tI ((∀ k, k < n → (comP (vr P c n i) (vr P c n j) (vr P c n k) (vr P c n (k + 1)) = if (c (k % n) = c (i % n) ∨ c (k % n) = c (j % n) ∨ c ((k + 1) % n) = c (i % n) ∨ c ((k + 1) % n) = c (j % n)) then 2 else 0)) ∧ lie (vr P c n) n (((vr P c n i).1 + (vr P c n j).1) / 2, ((vr P c n i).2 + (vr P c n j).2) / 2) = 1))) ∧ Gx S S')) := by
    intro μ
    induction μ with
    | zero =>
      intro k hk S1 h1
      obtain ⟨hg, hno⟩ := h1
      have hp0 := hp.gx hmp.1 hg
      have h0 := h.gx hg
      have lk := h.lt k
      have lk1 := h.lt (k + 1)
      refine x_iload eX9_isInside_19 rfl ?_
      refine x_aload_n eX9_isInside_21 rfl ?_
      refine s_getR (k := 15) eX9_isInside_22 fX9_58 rfl (by decide) (by decide) rfl ?_
      refine x_iload_n eX9_isInside_25 rfl ?_
      refine s_iald eX9_isInside_26 rfl (by decide) rfl (show _ < 60 by omega) ?_
      rw [h0.2.2.2.1]
      refine x_icmp_geN eX9_isInside_27 (by omega) (by omega) (fun c_27 => ?_) (fun c_27 => ?_)
      · refine x_aload_n eX9_isInside_118 rfl ?_
        refine x_iload eX9_isInside_119 rfl ?_
        refine x_iload eX9_isInside_121 rfl ?_
        refine s_callV0 (As := [_, _]) eX9_isInside_123 kX9_253 ⟨by decide, by decide⟩ rfl (by decide) (by decide) rfl rfl (Nat.le_of_ble_eq_true rfl) (Nat.le_of_ble_eq_true rfl) (sp_X9_middle _ (hp0 _ (Or.inl (hr.lt i))) (hp0 _ (Or.inl (hr.lt j))) (by omega) (by omega)) (fun S_123 h_123 => ?_)
        obtain ⟨g1, pm, -, -⟩ := h_123
        have hg1 := hg.tr g1
        refine x_aload_n eX9_isInside_126 rfl ?_
        refine x_iload_n eX9_isInside_127 rfl ?_
        refine x_sipush (v := nI 201) eX9_isInside_128 (by decide) ?_
        refine s_callV1 (As := [_, _]) eX9_isInside_131 kX9_257 ⟨by decide, by decide⟩ rfl (by decide) (by decide) rfl rfl (Nat.le_of_ble_eq_true rfl) (Nat.le_of_ble_eq_true rfl) (sp_X9_lies _ (hp.gx hmp.1 hg1) (h.gx hg1) hr.1 pm) (fun S_131 h_131 => ?_)
        obtain ⟨ox, -⟩ := h_131
        have hg2 := hg1.tr ox.gx
        have ek : k = n := by omega
        subst ek
        refine x_iconst (v := nI 1) eX9_isInside_134 (by decide) ?_
        refine x_icmp_ne eX9_isInside_135 (fun c_135 => ?_) (fun c_135 => ?_)
        · refine x_iconst (v := nI 0) eX9_isInside_142 (by decide) ?_
          first
            | exact s_iret eX9_isInside_143 rfl rfl ⟨tI_ts ⟨hno, c_135⟩, hg2⟩
            | exact s_iret eX9_isInside_143 rfl rfl ⟨tI_fs (fun z => c_135 z.2), hg2⟩
        · refine x_iconst (v := nI 1) eX9_isInside_138 (by decide) ?_
          refine x_goto eX9_isInside_139 ?_
          first
            | exact s_iret eX9_isInside_143 rfl rfl ⟨tI_ts ⟨hno, c_135⟩, hg2⟩
            | exact s_iret eX9_isInside_143 rfl rfl ⟨tI_fs (fun z => c_135 z.2), hg2⟩
      · omega
    | succ μ ih =>
      intro k hk S1 h1
      obtain ⟨hg, hno⟩ := h1
      have hp0 := hp.gx hmp.1 hg
      have h0 := h.gx hg
      have lk := h.lt k
      have lk1 := h.lt (k + 1)
      refine x_iload eX9_isInside_19 rfl ?_
      refine x_aload_n eX9_isInside_21 rfl ?_
      refine s_getR (k := 15) eX9_isInside_22 fX9_58 rfl (by decide) (by decide) rfl ?_
      refine x_iload_n eX9_isInside_25 rfl ?_
      refine s_iald eX9_isInside_26 rfl (by decide) rfl (show _ < 60 by omega) ?_
      rw [h0.2.2.2.1]
      refine x_icmp_geN eX9_isInside_27 (by omega) (by omega) (fun c_27 => ?_) (fun c_27 => ?_)
      · omega
      · refine x_aload_n eX9_isInside_30 rfl ?_
        refine x_iload_n eX9_isInside_31 rfl ?_
        refine x_iload eX9_isInside_32 rfl ?_
        refine s_callV1 (As := [_, _]) eX9_isInside_34 kX9_241 ⟨by decide, by decide⟩ rfl (by decide) (by decide) rfl rfl (Nat.le_of_ble_eq_true rfl) (Nat.le_of_ble_eq_true rfl) (sp_X9_of _ h0 (by omega)) (fun S_34 h_34 => ?_)
        have h_34 := h_34.symm
        subst h_34
        refine x_istore (lv' := [_, _, _, _, _, _, _, _]) eX9_isInside_37 (by decide) rfl ?_
        refine x_aload_n eX9_isInside_39 rfl ?_
        refine x_iload_n eX9_isInside_40 rfl ?_
        refine x_iload eX9_isInside_41 rfl ?_
        refine x_iconst (v := nI 1) eX9_isInside_43 (by decide) ?_
        first | refine x_iaddN eX9_isInside_44 ?_ | refine x_iadd eX9_isInside_44 ?_
        refine s_callV1 (As := [_, _]) eX9_isInside_45 kX9_241 ⟨by decide, by decide⟩ rfl (by decide) (by decide) rfl rfl (Nat.le_of_ble_eq_true rfl) (Nat.le_of_ble_eq_true rfl) (sp_X9_of _ h0 (by omega)) (fun S_45 h_45 => ?_)
        have h_45 := h_45.symm
        subst h_45
        refine x_istore (lv' := [_, _, _, _, _, _, _, _, _]) eX9_isInside_48 (by decide) rfl ?_
        refine x_iload eX9_isInside_50 rfl ?_
        refine x_iload eX9_isInside_52 rfl ?_
        refine x_icmp_eqN eX9_isInside_54 (by omega) (by omega) (fun c_54 => ?_) (fun c_54 => ?_)
        · refine x_iconst (v := nI 1) eX9_isInside_78 (by decide) ?_
          refine x_goto eX9_isInside_79 ?_
          refine x_istore (lv' := [_, _, _, _, _, _, _, _, _, _]) eX9_isInside_83 (by decide) rfl ?_
          refine x_aload_n eX9_isInside_85 rfl ?_
          refine x_iload eX9_isInside_86 rfl ?_
          refine x_iload eX9_isInside_88 rfl ?_
          refine x_iload eX9_isInside_90 rfl ?_
          refine x_iload eX9_isInside_92 rfl ?_
          refine s_callV1 (As := [_, _, _, _]) eX9_isInside_94 kX9_204 ⟨by decide, by decide⟩ rfl (by decide) (by decide) rfl rfl (Nat.le_of_ble_eq_true rfl) (Nat.le_of_ble_eq_true rfl) (sp_X9_common _ (hp0 _ (Or.inl (hr.lt i))) (hp0 _ (Or.inl (hr.lt j))) (hp0 _ (Or.inl (hr.lt k))) (hp0 _ (Or.inl (hr.lt (k + 1)))) hij (hr.adj k)) (fun S_94 h_94 => ?_)
          have hg := hg.tr h_94.gx
          refine x_iload eX9_isInside_97 rfl ?_
          refine x_if_eqN eX9_isInside_99 (by omega) (fun c_99 => ?_) (fun c_99 => ?_)
          · refine x_iconst (v := nI 0) eX9_isInside_106 (by decide) ?_
            refine x_icmp_eq eX9_isInside_107 (fun c_107 => ?_) (fun c_107 => ?_)
            · refine x_iinc (lv' := [_, _, _, _, _, _, _, _, _, _]) eX9_isInside_112 rfl (by first | exact nI_inc _ | exact rfl) (by decide) rfl ?_
              refine x_goto eX9_isInside_115 ?_
              refine x_pick [0, 4, 5, 6, 7, 8, 9] rfl ?_
              refine ih (k + 1) (by omega) _ ⟨hg, fun l hl => ?_⟩
              by_cases e : l < k
              · exact hno l e
              obtain rfl : l = k := by omega
              first
                | (rw [if_pos (by omega)]; exact c_107)
                | (rw [if_neg (by omega)]; exact c_107)
                | omega
            · refine x_iconst (v := nI 0) eX9_isInside_110 (by decide) ?_
              refine s_iret eX9_isInside_111 rfl rfl ⟨tI_fs (fun z => ?_), hg⟩
              have z := z.1 k (by omega)
              first
                | (rw [if_pos (by omega)] at z; exact c_107 z)
                | (rw [if_neg (by omega)] at z; exact c_107 z)
                | omega
          · refine x_iconst (v := nI 2) eX9_isInside_102 (by decide) ?_
            refine x_goto eX9_isInside_103 ?_
            refine x_icmp_eq eX9_isInside_107 (fun c_107 => ?_) (fun c_107 => ?_)
            · refine x_iinc (lv' := [_, _, _, _, _, _, _, _, _, _]) eX9_isInside_112 rfl (by first | exact nI_inc _ | exact rfl) (by decide) rfl ?_
              refine x_goto eX9_isInside_115 ?_
              refine x_pick [0, 4, 5, 6, 7, 8, 9] rfl ?_
              refine ih (k + 1) (by omega) _ ⟨hg, fun l hl => ?_⟩
              by_cases e : l < k
              · exact hno l e
              obtain rfl : l = k := by omega
              first
                | (rw [if_pos (by omega)]; exact c_107)
                | (rw [if_neg (by omega)]; exact c_107)
                | omega
            · refine x_iconst (v := nI 0) eX9_isInside_110 (by decide) ?_
              refine s_iret eX9_isInside_111 rfl rfl ⟨tI_fs (fun z => ?_), hg⟩
              have z := z.1 k (by omega)
              first
                | (rw [if_pos (by omega)] at z; exact c_107 z)
                | (rw [if_neg (by omega)] at z; exact c_107 z)
                | omega
        · refine x_iload eX9_isInside_57 rfl ?_
          refine x_iload eX9_isInside_59 rfl ?_
          refine x_icmp_eqN eX9_isInside_61 (by omega) (by omega) (fun c_61 => ?_) (fun c_61 => ?_)
          · refine x_iconst (v := nI 1) eX9_isInside_78 (by decide) ?_
            refine x_goto eX9_isInside_79 ?_
            refine x_istore (lv' := [_, _, _, _, _, _, _, _, _, _]) eX9_isInside_83 (by decide) rfl ?_
            refine x_aload_n eX9_isInside_85 rfl ?_
            refine x_iload eX9_isInside_86 rfl ?_
            refine x_iload eX9_isInside_88 rfl ?_
            refine x_iload eX9_isInside_90 rfl ?_
            refine x_iload eX9_isInside_92 rfl ?_
            refine s_callV1 (As := [_, _, _, _]) eX9_isInside_94 kX9_204 ⟨by decide, by decide⟩ rfl (by decide) (by decide) rfl rfl (Nat.le_of_ble_eq_true rfl) (Nat.le_of_ble_eq_true rfl) (sp_X9_common _ (hp0 _ (Or.inl (hr.lt i))) (hp0 _ (Or.inl (hr.lt j))) (hp0 _ (Or.inl (hr.lt k))) (hp0 _ (Or.inl (hr.lt (k + 1)))) hij (hr.adj k)) (fun S_94 h_94 => ?_)
            have hg := hg.tr h_94.gx
            refine x_iload eX9_isInside_97 rfl ?_
            refine x_if_eqN eX9_isInside_99 (by omega) (fun c_99 => ?_) (fun c_99 => ?_)
            · refine x_iconst (v := nI 0) eX9_isInside_106 (by decide) ?_
              refine x_icmp_eq eX9_isInside_107 (fun c_107 => ?_) (fun c_107 => ?_)
              · refine x_iinc (lv' := [_, _, _, _, _, _, _, _, _, _]) eX9_isInside_112 rfl (by first | exact nI_inc _ | exact rfl) (by decide) rfl ?_
                refine x_goto eX9_isInside_115 ?_
                refine x_pick [0, 4, 5, 6, 7, 8, 9] rfl ?_
                refine ih (k + 1) (by omega) _ ⟨hg, fun l hl => ?_⟩
                by_cases e : l < k
                · exact hno l e
                obtain rfl : l = k := by omega
                first
                  | (rw [if_pos (by omega)]; exact c_107)
                  | (rw [if_neg (by omega)]; exact c_107)
                  | omega
              · refine x_iconst (v := nI 0) eX9_isInside_110 (by decide) ?_
                refine s_iret eX9_isInside_111 rfl rfl ⟨tI_fs (fun z => ?_), hg⟩
                have z := z.1 k (by omega)
                first
                  | (rw [if_pos (by omega)] at z; exact c_107 z)
                  | (rw [if_neg (by omega)] at z; exact c_107 z)
                  | omega
            · refine x_iconst (v := nI 2) eX9_isInside_102 (by decide) ?_
              refine x_goto eX9_isInside_103 ?_
              refine x_icmp_eq eX9_isInside_107 (fun c_107 => ?_) (fun c_107 => ?_)
              · refine x_iinc (lv' := [_, _, _, _, _, _, _, _, _, _]) eX9_isInside_112 rfl (by first | exact nI_inc _ | exact rfl) (by decide) rfl ?_
                refine x_goto eX9_isInside_115 ?_
                refine x_pick [0, 4, 5, 6, 7, 8, 9] rfl ?_
                refine ih (k + 1) (by omega) _ ⟨hg, fun l hl => ?_⟩
                by_cases e : l < k
                · exact hno l e
                obtain rfl : l = k := by omega
                first
                  | (rw [if_pos (by omega)]; exact c_107)
                  | (rw [if_neg (by omega)]; exact c_107)
                  | omega
              · refine x_iconst (v := nI 0) eX9_isInside_110 (by decide) ?_
                refine s_iret eX9_isInside_111 rfl rfl ⟨tI_fs (fun z => ?_), hg⟩
                have z := z.1 k (by omega)
                first
                  | (rw [if_pos (by omega)] at z; exact c_107 z)
                  | (rw [if_neg (by omega)] at z; exact c_107 z)
                  | omega
          · refine x_iload eX9_isInside_64 rfl ?_
            refine x_iload eX9_isInside_66 rfl ?_
            refine x_icmp_eqN eX9_isInside_68 (by omega) (by omega) (fun c_68 => ?_) (fun c_68 => ?_)
            · refine x_iconst (v := nI 1) eX9_isInside_78 (by decide) ?_
              refine x_goto eX9_isInside_79 ?_
              refine x_istore (lv' := [_, _, _, _, _, _, _, _, _, _]) eX9_isInside_83 (by decide) rfl ?_
              refine x_aload_n eX9_isInside_85 rfl ?_
              refine x_iload eX9_isInside_86 rfl ?_
              refine x_iload eX9_isInside_88 rfl ?_
              refine x_iload eX9_isInside_90 rfl ?_
              refine x_iload eX9_isInside_92 rfl ?_
              refine s_callV1 (As := [_, _, _, _]) eX9_isInside_94 kX9_204 ⟨by decide, by decide⟩ rfl (by decide) (by decide) rfl rfl (Nat.le_of_ble_eq_true rfl) (Nat.le_of_ble_eq_true rfl) (sp_X9_common _ (hp0 _ (Or.inl (hr.lt i))) (hp0 _ (Or.inl (hr.lt j))) (hp0 _ (Or.inl (hr.lt k))) (hp0 _ (Or.inl (hr.lt (k + 1)))) hij (hr.adj k)) (fun S_94 h_94 => ?_)
              have hg := hg.tr h_94.gx
              refine x_iload eX9_isInside_97 rfl ?_
              refine x_if_eqN eX9_isInside_99 (by omega) (fun c_99 => ?_) (fun c_99 => ?_)
              · refine x_iconst (v := nI 0) eX9_isInside_106 (by decide) ?_
                refine x_icmp_eq eX9_isInside_107 (fun c_107 => ?_) (fun c_107 => ?_)
                · refine x_iinc (lv' := [_, _, _, _, _, _, _, _, _, _]) eX9_isInside_112 rfl (by first | exact nI_inc _ | exact rfl) (by decide) rfl ?_
                  refine x_goto eX9_isInside_115 ?_
                  refine x_pick [0, 4, 5, 6, 7, 8, 9] rfl ?_
                  refine ih (k + 1) (by omega) _ ⟨hg, fun l hl => ?_⟩
                  by_cases e : l < k
                  · exact hno l e
                  obtain rfl : l = k := by omega
                  first
                    | (rw [if_pos (by omega)]; exact c_107)
                    | (rw [if_neg (by omega)]; exact c_107)
                    | omega
                · refine x_iconst (v := nI 0) eX9_isInside_110 (by decide) ?_
                  refine s_iret eX9_isInside_111 rfl rfl ⟨tI_fs (fun z => ?_), hg⟩
                  have z := z.1 k (by omega)
                  first
                    | (rw [if_pos (by omega)] at z; exact c_107 z)
                    | (rw [if_neg (by omega)] at z; exact c_107 z)
                    | omega
              · refine x_iconst (v := nI 2) eX9_isInside_102 (by decide) ?_
                refine x_goto eX9_isInside_103 ?_
                refine x_icmp_eq eX9_isInside_107 (fun c_107 => ?_) (fun c_107 => ?_)
                · refine x_iinc (lv' := [_, _, _, _, _, _, _, _, _, _]) eX9_isInside_112 rfl (by first | exact nI_inc _ | exact rfl) (by decide) rfl ?_
                  refine x_goto eX9_isInside_115 ?_
                  refine x_pick [0, 4, 5, 6, 7, 8, 9] rfl ?_
                  refine ih (k + 1) (by omega) _ ⟨hg, fun l hl => ?_⟩
                  by_cases e : l < k
                  · exact hno l e
                  obtain rfl : l = k := by omega
                  first
                    | (rw [if_pos (by omega)]; exact c_107)
                    | (rw [if_neg (by omega)]; exact c_107)
                    | omega
                · refine x_iconst (v := nI 0) eX9_isInside_110 (by decide) ?_
                  refine s_iret eX9_isInside_111 rfl rfl ⟨tI_fs (fun z => ?_), hg⟩
                  have z := z.1 k (by omega)
                  first
                    | (rw [if_pos (by omega)] at z; exact c_107 z)
                    | (rw [if_neg (by omega)] at z; exact c_107 z)
                    | omega
            · refine x_iload eX9_isInside_71 rfl ?_
              refine x_iload eX9_isInside_73 rfl ?_
              refine x_icmp_neN eX9_isInside_75 (by omega) (by omega) (fun c_75 => ?_) (fun c_75 => ?_)
              · refine x_iconst (v := nI 0) eX9_isInside_82 (by decide) ?_
                refine x_istore (lv' := [_, _, _, _, _, _, _, _, _, _]) eX9_isInside_83 (by decide) rfl ?_
                refine x_aload_n eX9_isInside_85 rfl ?_
                refine x_iload eX9_isInside_86 rfl ?_
                refine x_iload eX9_isInside_88 rfl ?_
                refine x_iload eX9_isInside_90 rfl ?_
                refine x_iload eX9_isInside_92 rfl ?_
                refine s_callV1 (As := [_, _, _, _]) eX9_isInside_94 kX9_204 ⟨by decide, by decide⟩ rfl (by decide) (by decide) rfl rfl (Nat.le_of_ble_eq_true rfl) (Nat.le_of_ble_eq_true rfl) (sp_X9_common _ (hp0 _ (Or.inl (hr.lt i))) (hp0 _ (Or.inl (hr.lt j))) (hp0 _ (Or.inl (hr.lt k))) (hp0 _ (Or.inl (hr.lt (k + 1)))) hij (hr.adj k)) (fun S_94 h_94 => ?_)
                have hg := hg.tr h_94.gx
                refine x_iload eX9_isInside_97 rfl ?_
                refine x_if_eqN eX9_isInside_99 (by omega) (fun c_99 => ?_) (fun c_99 => ?_)
                · refine x_iconst (v := nI 0) eX9_isInside_106 (by decide) ?_
                  refine x_icmp_eq eX9_isInside_107 (fun c_107 => ?_) (fun c_107 => ?_)
                  · refine x_iinc (lv' := [_, _, _, _, _, _, _, _, _, _]) eX9_isInside_112 rfl (by first | exact nI_inc _ | exact rfl) (by decide) rfl ?_
                    refine x_goto eX9_isInside_115 ?_
                    refine x_pick [0, 4, 5, 6, 7, 8, 9] rfl ?_
                    refine ih (k + 1) (by omega) _ ⟨hg, fun l hl => ?_⟩
                    by_cases e : l < k
                    · exact hno l e
                    obtain rfl : l = k := by omega
                    first
                      | (rw [if_pos (by omega)]; exact c_107)
                      | (rw [if_neg (by omega)]; exact c_107)
                      | omega
                  · refine x_iconst (v := nI 0) eX9_isInside_110 (by decide) ?_
                    refine s_iret eX9_isInside_111 rfl rfl ⟨tI_fs (fun z => ?_), hg⟩
                    have z := z.1 k (by omega)
                    first
                      | (rw [if_pos (by omega)] at z; exact c_107 z)
                      | (rw [if_neg (by omega)] at z; exact c_107 z)
                      | omega
                · refine x_iconst (v := nI 2) eX9_isInside_102 (by decide) ?_
                  refine x_goto eX9_isInside_103 ?_
                  refine x_icmp_eq eX9_isInside_107 (fun c_107 => ?_) (fun c_107 => ?_)
                  · refine x_iinc (lv' := [_, _, _, _, _, _, _, _, _, _]) eX9_isInside_112 rfl (by first | exact nI_inc _ | exact rfl) (by decide) rfl ?_
                    refine x_goto eX9_isInside_115 ?_
                    refine x_pick [0, 4, 5, 6, 7, 8, 9] rfl ?_
                    refine ih (k + 1) (by omega) _ ⟨hg, fun l hl => ?_⟩
                    by_cases e : l < k
                    · exact hno l e
                    obtain rfl : l = k := by omega
                    first
                      | (rw [if_pos (by omega)]; exact c_107)
                      | (rw [if_neg (by omega)]; exact c_107)
                      | omega
                  · refine x_iconst (v := nI 0) eX9_isInside_110 (by decide) ?_
                    refine s_iret eX9_isInside_111 rfl rfl ⟨tI_fs (fun z => ?_), hg⟩
                    have z := z.1 k (by omega)
                    first
                      | (rw [if_pos (by omega)] at z; exact c_107 z)
                      | (rw [if_neg (by omega)] at z; exact c_107 z)
                      | omega
              · refine x_iconst (v := nI 1) eX9_isInside_78 (by decide) ?_
                refine x_goto eX9_isInside_79 ?_
                refine x_istore (lv' := [_, _, _, _, _, _, _, _, _, _]) eX9_isInside_83 (by decide) rfl ?_
                refine x_aload_n eX9_isInside_85 rfl ?_
                refine x_iload eX9_isInside_86 rfl ?_
                refine x_iload eX9_isInside_88 rfl ?_
                refine x_iload eX9_isInside_90 rfl ?_
                refine x_iload eX9_isInside_92 rfl ?_
                refine s_callV1 (As := [_, _, _, _]) eX9_isInside_94 kX9_204 ⟨by decide, by decide⟩ rfl (by decide) (by decide) rfl rfl (Nat.le_of_ble_eq_true rfl) (Nat.le_of_ble_eq_true rfl) (sp_X9_common _ (hp0 _ (Or.inl (hr.lt i))) (hp0 _ (Or.inl (hr.lt j))) (hp0 _ (Or.inl (hr.lt k))) (hp0 _ (Or.inl (hr.lt (k + 1)))) hij (hr.adj k)) (fun S_94 h_94 => ?_)
                have hg := hg.tr h_94.gx
                refine x_iload eX9_isInside_97 rfl ?_
                refine x_if_eqN eX9_isInside_99 (by omega) (fun c_99 => ?_) (fun c_99 => ?_)
                · refine x_iconst (v := nI 0) eX9_isInside_106 (by decide) ?_
                  refine x_icmp_eq eX9_isInside_107 (fun c_107 => ?_) (fun c_107 => ?_)
                  · refine x_iinc (lv' := [_, _, _, _, _, _, _, _, _, _]) eX9_isInside_112 rfl (by first | exact nI_inc _ | exact rfl) (by decide) rfl ?_
                    refine x_goto eX9_isInside_115 ?_
                    refine x_pick [0, 4, 5, 6, 7, 8, 9] rfl ?_
                    refine ih (k + 1) (by omega) _ ⟨hg, fun l hl => ?_⟩
                    by_cases e : l < k
                    · exact hno l e
                    obtain rfl : l = k := by omega
                    first
                      | (rw [if_pos (by omega)]; exact c_107)
                      | (rw [if_neg (by omega)]; exact c_107)
                      | omega
                  · refine x_iconst (v := nI 0) eX9_isInside_110 (by decide) ?_
                    refine s_iret eX9_isInside_111 rfl rfl ⟨tI_fs (fun z => ?_), hg⟩
                    have z := z.1 k (by omega)
                    first
                      | (rw [if_pos (by omega)] at z; exact c_107 z)
                      | (rw [if_neg (by omega)] at z; exact c_107 z)
                      | omega
                · refine x_iconst (v := nI 2) eX9_isInside_102 (by decide) ?_
                  refine x_goto eX9_isInside_103 ?_
                  refine x_icmp_eq eX9_isInside_107 (fun c_107 => ?_) (fun c_107 => ?_)
                  · refine x_iinc (lv' := [_, _, _, _, _, _, _, _, _, _]) eX9_isInside_112 rfl (by first | exact nI_inc _ | exact rfl) (by decide) rfl ?_
                    refine x_goto eX9_isInside_115 ?_
                    refine x_pick [0, 4, 5, 6, 7, 8, 9] rfl ?_
                    refine ih (k + 1) (by omega) _ ⟨hg, fun l hl => ?_⟩
                    by_cases e : l < k
                    · exact hno l e
                    obtain rfl : l = k := by omega
                    first
                      | (rw [if_pos (by omega)]; exact c_107)
                      | (rw [if_neg (by omega)]; exact c_107)
                      | omega
                  · refine x_iconst (v := nI 0) eX9_isInside_110 (by decide) ?_
                    refine s_iret eX9_isInside_111 rfl rfl ⟨tI_fs (fun z => ?_), hg⟩
                    have z := z.1 k (by omega)
                    first
                      | (rw [if_pos (by omega)] at z; exact c_107 z)
                      | (rw [if_neg (by omega)] at z; exact c_107 z)
                      | omega
  show XP _ _ [_, _, _, _] _ _ _
  refine x_aload_n eX9_isInside_0 rfl ?_
  refine x_iload_n eX9_isInside_1 rfl ?_
  refine x_iload_n eX9_isInside_2 rfl ?_
  refine s_callV1 (As := [_, _]) eX9_isInside_3 kX9_241 ⟨by decide, by decide⟩ rfl (by decide) (by decide) rfl rfl (Nat.le_of_ble_eq_true rfl) (Nat.le_of_ble_eq_true rfl) (sp_X9_of _ h (by omega)) (fun S_3 h_3 => ?_)
  have h_3 := h_3.symm
  subst h_3
  refine x_istore (lv' := [_, _, _, _, _]) eX9_isInside_6 (by decide) rfl ?_
  refine x_aload_n eX9_isInside_8 rfl ?_
  refine x_iload_n eX9_isInside_9 rfl ?_
  refine x_iload_n eX9_isInside_10 rfl ?_
  refine s_callV1 (As := [_, _]) eX9_isInside_11 kX9_241 ⟨by decide, by decide⟩ rfl (by decide) (by decide) rfl rfl (Nat.le_of_ble_eq_true rfl) (Nat.le_of_ble_eq_true rfl) (sp_X9_of _ h (by omega)) (fun S_11 h_11 => ?_)
  have h_11 := h_11.symm
  subst h_11
  refine x_istore (lv' := [_, _, _, _, _, _]) eX9_isInside_14 (by decide) rfl ?_
  refine x_iconst (v := nI 0) eX9_isInside_16 (by decide) ?_
  refine x_istore (lv' := [_, _, _, _, _, _, _]) eX9_isInside_17 (by decide) rfl ?_
  refine x_pick [0, 1, 2, 3, 4, 5, 6] rfl ?_
  exact loop n 0 (by omega) _ ⟨Gx.rf _, fun l hl => by omega⟩
theorem sp_X9_borders (S : xS) {nc p q n m : Nat} {c d : Nat → Nat} {P : Nat → Pt} (hp : mps S nc P) (hnc : nc ≤ 200) (h : mpr S p n c) (g : mpr S q m d) (hr : RGd nc P n c) (hq : RGd nc P m d) : Sp mX9_borders [.ref 0, .int (nI p), .int (nI q)] S (fun x S' => x = some (.int (nI (sumN (fun a => cnt (fun j => comP (vr P c n a) (vr P c n (a + 1)) (vr P d m j) (vr P d m (j + 1)) = 3) m) n))) ∧ Lx [5, 6, 7] S S') := by
  have p60 := h.1
  have q60 := g.1
  have n12 := h.2.2.1
  have m12 := g.2.2.1
  have loop : ∀ μ a, a + μ = n → ∀ S1, Lx [5, 6, 7] S S1 → XP mX9_borders 5 [(4, .int (nI a)), (3, .int (nI (sumN (fun a => cnt (fun j => comP (vr P c n a) (vr P c n (a + 1)) (vr P d m j) (vr P d m (j + 1)) = 3) m) a))), (0, .ref 0), (1, .int (nI p)), (2, .int (nI q))] [] (xwS S1) (sQ (fun x S' => x = some (.int (nI (sumN (fun a => cnt (fun j => comP (vr P c n a) (vr P c n (a + 1)) (vr P d m j) (vr P d m (j + 1)) = 3) m) n))) ∧ Lx [5, 6, 7] S S')) := by
    intro μ
    induction μ with
    | zero =>
      intro a hk S1 h1
      have hx := h1
      have h0 := h.gx hx.gx
      refine x_iload eX9_borders_5 rfl ?_
      refine x_aload_n eX9_borders_7 rfl ?_
      refine s_getR (k := 15) eX9_borders_8 fX9_58 rfl (by decide) (by decide) rfl ?_
      refine x_iload_n eX9_borders_11 rfl ?_
      refine s_iald eX9_borders_12 rfl (by decide) rfl (show _ < 60 by omega) ?_
      rw [h0.2.2.2.1]
      refine x_icmp_geN eX9_borders_13 (by omega) (by omega) (fun c_13 => ?_) (fun c_13 => ?_)
      · refine x_iload_n eX9_borders_90 rfl ?_
        have ea : a = n := by omega
        exact s_iret eX9_borders_91 rfl rfl ⟨by rw [ea], hx⟩
      · omega
    | succ μ ih =>
      intro a hk S1 h1
      have hx := h1
      have h0 := h.gx hx.gx
      have oh := ih
      have inner : ∀ μ b, b + μ = m → ∀ S2, Lx [5, 6, 7] S S2 → XP mX9_borders 19 [(5, .int (nI b)), (4, .int (nI a)), (3, .int (nI (sumN (fun a => cnt (fun j => comP (vr P c n a) (vr P c n (a + 1)) (vr P d m j) (vr P d m (j + 1)) = 3) m) a + cnt (fun j => comP (vr P c n a) (vr P c n (a + 1)) (vr P d m j) (vr P d m (j + 1)) = 3) b))), (0, .ref 0), (1, .int (nI p)), (2, .int (nI q))] [] (xwS S2) (sQ (fun x S' => x = some (.int (nI (sumN (fun a => cnt (fun j => comP (vr P c n a) (vr P c n (a + 1)) (vr P d m j) (vr P d m (j + 1)) = 3) m) n))) ∧ Lx [5, 6, 7] S S')) := by
        intro μ
        induction μ with
        | zero =>
          intro b hk S2 h1
          have hx := h1
          have h0 := h.gx hx.gx
          have g0 := g.gx hx.gx
          have hp0 := hp.gx hnc hx.gx
          refine x_iload eX9_borders_19 rfl ?_
          refine x_aload_n eX9_borders_21 rfl ?_
          refine s_getR (k := 15) eX9_borders_22 fX9_58 rfl (by decide) (by decide) rfl ?_
          refine x_iload_n eX9_borders_25 rfl ?_
          refine s_iald eX9_borders_26 rfl (by decide) rfl (show _ < 60 by omega) ?_
          rw [g0.2.2.2.1]
          refine x_icmp_geN eX9_borders_27 (by omega) (by omega) (fun c_27 => ?_) (fun c_27 => ?_)
          · refine x_iinc (lv' := [_, _, _, _, _, _]) eX9_borders_84 rfl (by first | exact nI_inc _ | exact rfl) (by decide) rfl ?_
            refine x_goto eX9_borders_87 ?_
            refine x_pick [0, 2, 3, 4, 5] rfl ?_
            have eb : b = m := by omega
            subst eb
            exact oh (a + 1) (by omega) _ hx
          · omega
        | succ μ ih =>
          intro b hk S2 h1
          have hx := h1
          have h0 := h.gx hx.gx
          have g0 := g.gx hx.gx
          have hp0 := hp.gx hnc hx.gx
          refine x_iload eX9_borders_19 rfl ?_
          refine x_aload_n eX9_borders_21 rfl ?_
          refine s_getR (k := 15) eX9_borders_22 fX9_58 rfl (by decide) (by decide) rfl ?_
          refine x_iload_n eX9_borders_25 rfl ?_
          refine s_iald eX9_borders_26 rfl (by decide) rfl (show _ < 60 by omega) ?_
          rw [g0.2.2.2.1]
          refine x_icmp_geN eX9_borders_27 (by omega) (by omega) (fun c_27 => ?_) (fun c_27 => ?_)
          · omega
          · refine x_iload_n eX9_borders_30 rfl ?_
            refine x_aload_n eX9_borders_31 rfl ?_
            refine x_aload_n eX9_borders_32 rfl ?_
            refine x_iload_n eX9_borders_33 rfl ?_
            refine x_iload eX9_borders_34 rfl ?_
            refine s_callV1 (As := [_, _]) eX9_borders_36 kX9_241 ⟨by decide, by decide⟩ rfl (by decide) (by decide) rfl rfl (Nat.le_of_ble_eq_true rfl) (Nat.le_of_ble_eq_true rfl) (sp_X9_of _ h0 (by omega)) (fun S_36 h_36 => ?_)
            have h_36 := h_36.symm
            subst h_36
            refine x_aload_n eX9_borders_39 rfl ?_
            refine x_iload_n eX9_borders_40 rfl ?_
            refine x_iload eX9_borders_41 rfl ?_
            refine x_iconst (v := nI 1) eX9_borders_43 (by decide) ?_
            first | refine x_iaddN eX9_borders_44 ?_ | refine x_iadd eX9_borders_44 ?_
            refine s_callV1 (As := [_, _]) eX9_borders_45 kX9_241 ⟨by decide, by decide⟩ rfl (by decide) (by decide) rfl rfl (Nat.le_of_ble_eq_true rfl) (Nat.le_of_ble_eq_true rfl) (sp_X9_of _ h0 (by omega)) (fun S_45 h_45 => ?_)
            have h_45 := h_45.symm
            subst h_45
            refine x_aload_n eX9_borders_48 rfl ?_
            refine x_iload_n eX9_borders_49 rfl ?_
            refine x_iload eX9_borders_50 rfl ?_
            refine s_callV1 (As := [_, _]) eX9_borders_52 kX9_241 ⟨by decide, by decide⟩ rfl (by decide) (by decide) rfl rfl (Nat.le_of_ble_eq_true rfl) (Nat.le_of_ble_eq_true rfl) (sp_X9_of _ g0 (by omega)) (fun S_52 h_52 => ?_)
            have h_52 := h_52.symm
            subst h_52
            refine x_aload_n eX9_borders_55 rfl ?_
            refine x_iload_n eX9_borders_56 rfl ?_
            refine x_iload eX9_borders_57 rfl ?_
            refine x_iconst (v := nI 1) eX9_borders_59 (by decide) ?_
            first | refine x_iaddN eX9_borders_60 ?_ | refine x_iadd eX9_borders_60 ?_
            refine s_callV1 (As := [_, _]) eX9_borders_61 kX9_241 ⟨by decide, by decide⟩ rfl (by decide) (by decide) rfl rfl (Nat.le_of_ble_eq_true rfl) (Nat.le_of_ble_eq_true rfl) (sp_X9_of _ g0 (by omega)) (fun S_61 h_61 => ?_)
            have h_61 := h_61.symm
            subst h_61
            refine s_callV1 (As := [_, _, _, _]) eX9_borders_64 kX9_204 ⟨by decide, by decide⟩ rfl (by decide) (by decide) rfl rfl (Nat.le_of_ble_eq_true rfl) (Nat.le_of_ble_eq_true rfl) (sp_X9_common _ (hp0 _ (Or.inl (hr.lt a))) (hp0 _ (Or.inl (hr.lt (a + 1)))) (hp0 _ (Or.inl (hq.lt b))) (hp0 _ (Or.inl (hq.lt (b + 1)))) (hr.adj a) (hq.adj b)) (fun S_64 h_64 => ?_)
            have hx := hx.tr h_64
            refine x_iconst (v := nI 3) eX9_borders_67 (by decide) ?_
            refine x_icmp_ne eX9_borders_68 (fun c_68 => ?_) (fun c_68 => ?_)
            · refine x_iconst (v := nI 0) eX9_borders_75 (by decide) ?_
              first | refine x_iaddN eX9_borders_76 ?_ | refine x_iadd eX9_borders_76 ?_
              refine x_istore_n (lv' := [_, _, _, _, _, _]) eX9_borders_77 (by decide) rfl ?_
              refine x_iinc (lv' := [_, _, _, _, _, _]) eX9_borders_78 rfl (by first | exact nI_inc _ | exact rfl) (by decide) rfl ?_
              refine x_goto eX9_borders_81 ?_
              refine x_pick [0, 2, 1, 3, 4, 5] rfl ?_
              have := ih (b + 1) (by omega) _ hx
              first
                | (rw [cnt_t c_68] at this; exact this)
                | (rw [cnt_f c_68] at this; exact this)
            · refine x_iconst (v := nI 1) eX9_borders_71 (by decide) ?_
              refine x_goto eX9_borders_72 ?_
              first | refine x_iaddN eX9_borders_76 ?_ | refine x_iadd eX9_borders_76 ?_
              refine x_istore_n (lv' := [_, _, _, _, _, _]) eX9_borders_77 (by decide) rfl ?_
              refine x_iinc (lv' := [_, _, _, _, _, _]) eX9_borders_78 rfl (by first | exact nI_inc _ | exact rfl) (by decide) rfl ?_
              refine x_goto eX9_borders_81 ?_
              refine x_pick [0, 2, 1, 3, 4, 5] rfl ?_
              have := ih (b + 1) (by omega) _ hx
              first
                | (rw [cnt_t c_68] at this; exact this)
                | (rw [cnt_f c_68] at this; exact this)
      refine x_iload eX9_borders_5 rfl ?_
      refine x_aload_n eX9_borders_7 rfl ?_
      refine s_getR (k := 15) eX9_borders_8 fX9_58 rfl (by decide) (by decide) rfl ?_
      refine x_iload_n eX9_borders_11 rfl ?_
      refine s_iald eX9_borders_12 rfl (by decide) rfl (show _ < 60 by omega) ?_
      rw [h0.2.2.2.1]
      refine x_icmp_geN eX9_borders_13 (by omega) (by omega) (fun c_13 => ?_) (fun c_13 => ?_)
      · omega
      · refine x_iconst (v := nI 0) eX9_borders_16 (by decide) ?_
        refine x_istore (lv' := [_, _, _, _, _, _]) eX9_borders_17 (by decide) rfl ?_
        refine x_pick [0, 1, 2, 3, 4, 5] rfl ?_
        exact inner m 0 (by omega) _ hx
  show XP _ _ [_, _, _] _ _ _
  refine x_iconst (v := nI 0) eX9_borders_0 (by decide) ?_
  refine x_istore_n (lv' := [_, _, _, _]) eX9_borders_1 (by decide) rfl ?_
  refine x_iconst (v := nI 0) eX9_borders_2 (by decide) ?_
  refine x_istore (lv' := [_, _, _, _, _]) eX9_borders_3 (by decide) rfl ?_
  refine x_pick [0, 1, 2, 3, 4] rfl ?_
  exact loop n 0 (by omega) _ (Lx.rf _ _)
