/-! ===== the class's Shapes ===== -/
/-- the ring's corners as points, on and on -/
def vr (P : Nat → Pt) (c : Nat → Nat) (n : Nat) : Nat → Pt := fun k => P (c (k % n))
def CR (S : xS) (nc r n : Nat) (c : Nat → Nat) : Prop := crg S r n c ∧ 0 < n ∧ ∀ i, i < n → c i < nc
theorem CR.m {ps : List Nat} {S S' : xS} {nc r n : Nat} {c : Nat → Nat} (h : CR S nc r n c) (hx : Lx ps S S') : CR S' nc r n c := ⟨h.1.mv hx, h.2⟩
theorem CR.pt {S : xS} {nc r n : Nat} {c : Nat → Nat} {P : Nat → Pt} (h : CR S nc r n c) (hp : cps S nc P) (k : Nat) : cpt S (c (k % n)) (vr P c n k) := hp _ (Or.inl (h.2.2 _ (Nat.mod_lt _ h.2.1)))
theorem CR.lt {S : xS} {nc r n : Nat} {c : Nat → Nat} (h : CR S nc r n c) (k : Nat) : c (k % n) < 201 := (h.1.2.2.2 _ (Nat.mod_lt _ h.2.1)).2
def opnT (u a b t : Pt) : Prop := if 0 < orP u a b then 0 < orP u a t ∧ 0 < orP a b t else 0 < orP u a t ∨ 0 < orP a b t
theorem opnT_iff (u a b t : Pt) : opnT u a b t ↔ opn u a b (dl a t) := by
  unfold opnT opn
  rw [cr_dl, ← or_cr2 a b t]

theorem sp_X5_common (S : xS) {nc r n t m i j : Nat} {c d : Nat → Nat} {P : Nat → Pt} (hp : cps S nc P) (h : CR S nc r n c) (g : CR S nc t m d) (hi : i < 2 ^ 30) (hj : j < 2 ^ 30) : Sp mX5_common [.ref 36, .ref (45 + 2 * r), .int (nI i), .ref (45 + 2 * t), .int (nI j)] S (fun x S' => x = some (.int (metP (vr P c n i) (vr P c n (i + 1)) (vr P d m j) (vr P d m (j + 1)))) ∧ Lx [364] S S') := by
  have hr := h.1.1
  have ht := g.1.1
  show XP _ _ [_, _, _, _, _] _ _ _
  refine x_aload_n eX5_common_0 rfl ?_
  refine s_getR (k := 32) eX5_common_1 fX5_15 rfl (by decide) (by decide) rfl ?_
  refine x_aload_n eX5_common_4 rfl ?_
  refine x_iload_n eX5_common_5 rfl ?_
  refine s_callV1 (As := [_]) eX5_common_6 kX5_35 ⟨by decide, by decide⟩ (kd_ring h.1.1) (by decide) (show _ < 365 by omega) rfl rfl (Nat.le_of_ble_eq_true rfl) (Nat.le_of_ble_eq_true rfl) (sp_X4_around _ h.1 h.2.1 (by omega)) (fun S_6 h_6 => ?_)
  subst h_6
  refine x_aload_n eX5_common_9 rfl ?_
  refine x_iload_n eX5_common_10 rfl ?_
  refine x_iconst (v := nI 1) eX5_common_11 (by decide) ?_
  first | refine x_iaddN eX5_common_12 ?_ | refine x_iadd eX5_common_12 ?_
  refine s_callV1 (As := [_]) eX5_common_13 kX5_35 ⟨by decide, by decide⟩ (kd_ring h.1.1) (by decide) (show _ < 365 by omega) rfl rfl (Nat.le_of_ble_eq_true rfl) (Nat.le_of_ble_eq_true rfl) (sp_X4_around _ h.1 h.2.1 (by omega)) (fun S_13 h_13 => ?_)
  subst h_13
  refine x_aload_n eX5_common_16 rfl ?_
  refine x_iload eX5_common_17 rfl ?_
  refine s_callV1 (As := [_]) eX5_common_19 kX5_35 ⟨by decide, by decide⟩ (kd_ring g.1.1) (by decide) (show _ < 365 by omega) rfl rfl (Nat.le_of_ble_eq_true rfl) (Nat.le_of_ble_eq_true rfl) (sp_X4_around _ g.1 g.2.1 (by omega)) (fun S_19 h_19 => ?_)
  subst h_19
  refine x_aload_n eX5_common_22 rfl ?_
  refine x_iload eX5_common_23 rfl ?_
  refine x_iconst (v := nI 1) eX5_common_25 (by decide) ?_
  first | refine x_iaddN eX5_common_26 ?_ | refine x_iadd eX5_common_26 ?_
  refine s_callV1 (As := [_]) eX5_common_27 kX5_35 ⟨by decide, by decide⟩ (kd_ring g.1.1) (by decide) (show _ < 365 by omega) rfl rfl (Nat.le_of_ble_eq_true rfl) (Nat.le_of_ble_eq_true rfl) (sp_X4_around _ g.1 g.2.1 (by omega)) (fun S_27 h_27 => ?_)
  subst h_27
  refine s_callV1 (As := [_, _, _, _]) eX5_common_30 kX5_39 ⟨by decide, by decide⟩ rfl (by decide) (by decide) rfl rfl (Nat.le_of_ble_eq_true rfl) (Nat.le_of_ble_eq_true rfl) (sp_X2_meeting _ (h.pt hp i) (h.pt hp (i + 1)) (g.pt hp j) (g.pt hp (j + 1))) (fun S_30 h_30 => ?_)
  exact s_iret eX5_common_33 rfl rfl ⟨rfl, h_30⟩
theorem sp_X5_opensTo (S : xS) {nc r n i t : Nat} {c : Nat → Nat} {P : Nat → Pt} (hp : cps S nc P) (h : CR S nc r n c) (hi : i < 2 ^ 30) (ht : t < nc ∨ t = 200) : Sp mX5_opensTo [.ref 36, .ref (45 + 2 * r), .int (nI i), .int (nI t)] S (fun x S' => x = some (.int (tI (opnT (vr P c n (i + n - 1)) (vr P c n i) (vr P c n (i + 1)) (P t)))) ∧ Lx [364] S S') := by
  have hr := h.1.1
  show XP _ _ [_, _, _, _] _ _ _
  refine x_aload_n eX5_opensTo_0 rfl ?_
  refine x_iload_n eX5_opensTo_1 rfl ?_
  refine x_iconst (v := nI 1) eX5_opensTo_2 (by decide) ?_
  refine x_isub eX5_opensTo_3 ?_
  refine s_callV1 (As := [_]) eX5_opensTo_4 kX5_35 ⟨by decide, by decide⟩ (kd_ring h.1.1) (by decide) (show _ < 365 by omega) rfl rfl (Nat.le_of_ble_eq_true rfl) (Nat.le_of_ble_eq_true rfl) (sp_X4_aroundP _ h.1 h.2.1 hi) (fun S_4 h_4 => ?_)
  subst h_4
  refine x_istore (lv' := [_, _, _, _, _]) eX5_opensTo_7 (by decide) rfl ?_
  refine x_aload_n eX5_opensTo_9 rfl ?_
  refine x_iload_n eX5_opensTo_10 rfl ?_
  refine s_callV1 (As := [_]) eX5_opensTo_11 kX5_35 ⟨by decide, by decide⟩ (kd_ring h.1.1) (by decide) (show _ < 365 by omega) rfl rfl (Nat.le_of_ble_eq_true rfl) (Nat.le_of_ble_eq_true rfl) (sp_X4_around _ h.1 h.2.1 (by omega)) (fun S_11 h_11 => ?_)
  subst h_11
  refine x_istore (lv' := [_, _, _, _, _, _]) eX5_opensTo_14 (by decide) rfl ?_
  refine x_aload_n eX5_opensTo_16 rfl ?_
  refine x_iload_n eX5_opensTo_17 rfl ?_
  refine x_iconst (v := nI 1) eX5_opensTo_18 (by decide) ?_
  first | refine x_iaddN eX5_opensTo_19 ?_ | refine x_iadd eX5_opensTo_19 ?_
  refine s_callV1 (As := [_]) eX5_opensTo_20 kX5_35 ⟨by decide, by decide⟩ (kd_ring h.1.1) (by decide) (show _ < 365 by omega) rfl rfl (Nat.le_of_ble_eq_true rfl) (Nat.le_of_ble_eq_true rfl) (sp_X4_around _ h.1 h.2.1 (by omega)) (fun S_20 h_20 => ?_)
  subst h_20
  refine x_istore (lv' := [_, _, _, _, _, _, _]) eX5_opensTo_23 (by decide) rfl ?_
  refine x_aload_n eX5_opensTo_25 rfl ?_
  refine s_getR (k := 32) eX5_opensTo_26 fX5_15 rfl (by decide) (by decide) rfl ?_
  refine x_iload eX5_opensTo_29 rfl ?_
  refine x_iload eX5_opensTo_31 rfl ?_
  refine x_iload_n eX5_opensTo_33 rfl ?_
  refine s_callV1 (As := [_, _, _]) eX5_opensTo_34 kX5_49 ⟨by decide, by decide⟩ rfl (by decide) (by decide) rfl rfl (Nat.le_of_ble_eq_true rfl) (Nat.le_of_ble_eq_true rfl) (sp_X2_turn _ (h.pt hp (i + n - 1)) (h.pt hp i) (hp t ht)) (fun S_34 h_34 => ?_)
  have hp1 := hp.m h_34
  have g1 := h.m h_34
  refine x_if_leS eX5_opensTo_37 (fun c_37 => ?_) (fun c_37 => ?_)
  · refine x_iconst (v := nI 0) eX5_opensTo_44 (by decide) ?_
    refine x_istore (lv' := [_, _, _, _, _, _, _, _]) eX5_opensTo_45 (by decide) rfl ?_
    refine x_aload_n eX5_opensTo_47 rfl ?_
    refine s_getR (k := 32) eX5_opensTo_48 fX5_15 rfl (by decide) (by decide) rfl ?_
    refine x_iload eX5_opensTo_51 rfl ?_
    refine x_iload eX5_opensTo_53 rfl ?_
    refine x_iload_n eX5_opensTo_55 rfl ?_
    refine s_callV1 (As := [_, _, _]) eX5_opensTo_56 kX5_49 ⟨by decide, by decide⟩ rfl (by decide) (by decide) rfl rfl (Nat.le_of_ble_eq_true rfl) (Nat.le_of_ble_eq_true rfl) (sp_X2_turn S_34 (g1.pt hp1 i) (g1.pt hp1 (i + 1)) (hp1 t ht)) (fun S_56 h_56 => ?_)
    have hp2 := hp1.m h_56
    have g2 := g1.m h_56
    refine x_if_leS eX5_opensTo_59 (fun c_59 => ?_) (fun c_59 => ?_)
    · refine x_iconst (v := nI 0) eX5_opensTo_66 (by decide) ?_
      refine x_istore (lv' := [_, _, _, _, _, _, _, _, _]) eX5_opensTo_67 (by decide) rfl ?_
      refine x_aload_n eX5_opensTo_69 rfl ?_
      refine s_getR (k := 32) eX5_opensTo_70 fX5_15 rfl (by decide) (by decide) rfl ?_
      refine x_iload eX5_opensTo_73 rfl ?_
      refine x_iload eX5_opensTo_75 rfl ?_
      refine x_iload eX5_opensTo_77 rfl ?_
      refine s_callV1 (As := [_, _, _]) eX5_opensTo_79 kX5_49 ⟨by decide, by decide⟩ rfl (by decide) (by decide) rfl rfl (Nat.le_of_ble_eq_true rfl) (Nat.le_of_ble_eq_true rfl) (sp_X2_turn S_56 (g2.pt hp2 (i + n - 1)) (g2.pt hp2 i) (g2.pt hp2 (i + 1))) (fun S_79 h_79 => ?_)
      have hx := (h_34.tr h_56).tr h_79
      refine x_if_leS eX5_opensTo_82 (fun c_82 => ?_) (fun c_82 => ?_)
      · refine x_iload eX5_opensTo_103 rfl ?_
        refine x_if_neN eX5_opensTo_105 (by omega) (fun c_105 => ?_) (fun c_105 => ?_)
        · refine x_iconst (v := nI 1) eX5_opensTo_113 (by decide) ?_
          refine x_goto eX5_opensTo_114 ?_
          first
            | exact s_iret eX5_opensTo_118 rfl rfl ⟨tI_ts (by unfold opnT; first | (rw [if_pos c_82]; omega) | (rw [if_neg (by omega)]; omega)), hx⟩
            | exact s_iret eX5_opensTo_118 rfl rfl ⟨tI_fs (by unfold opnT; first | (rw [if_pos c_82]; omega) | (rw [if_neg (by omega)]; omega)), hx⟩
        · refine x_iload eX5_opensTo_108 rfl ?_
          refine x_if_eqN eX5_opensTo_110 (by omega) (fun c_110 => ?_) (fun c_110 => ?_)
          · refine x_iconst (v := nI 0) eX5_opensTo_117 (by decide) ?_
            first
              | exact s_iret eX5_opensTo_118 rfl rfl ⟨tI_ts (by unfold opnT; first | (rw [if_pos c_82]; omega) | (rw [if_neg (by omega)]; omega)), hx⟩
              | exact s_iret eX5_opensTo_118 rfl rfl ⟨tI_fs (by unfold opnT; first | (rw [if_pos c_82]; omega) | (rw [if_neg (by omega)]; omega)), hx⟩
          · refine x_iconst (v := nI 1) eX5_opensTo_113 (by decide) ?_
            refine x_goto eX5_opensTo_114 ?_
            first
              | exact s_iret eX5_opensTo_118 rfl rfl ⟨tI_ts (by unfold opnT; first | (rw [if_pos c_82]; omega) | (rw [if_neg (by omega)]; omega)), hx⟩
              | exact s_iret eX5_opensTo_118 rfl rfl ⟨tI_fs (by unfold opnT; first | (rw [if_pos c_82]; omega) | (rw [if_neg (by omega)]; omega)), hx⟩
      · refine x_iload eX5_opensTo_85 rfl ?_
        refine x_if_eqN eX5_opensTo_87 (by omega) (fun c_87 => ?_) (fun c_87 => ?_)
        · refine x_iconst (v := nI 0) eX5_opensTo_99 (by decide) ?_
          refine x_goto eX5_opensTo_100 ?_
          first
            | exact s_iret eX5_opensTo_118 rfl rfl ⟨tI_ts (by unfold opnT; first | (rw [if_pos c_82]; omega) | (rw [if_neg (by omega)]; omega)), hx⟩
            | exact s_iret eX5_opensTo_118 rfl rfl ⟨tI_fs (by unfold opnT; first | (rw [if_pos c_82]; omega) | (rw [if_neg (by omega)]; omega)), hx⟩
        · refine x_iload eX5_opensTo_90 rfl ?_
          refine x_if_eqN eX5_opensTo_92 (by omega) (fun c_92 => ?_) (fun c_92 => ?_)
          · refine x_iconst (v := nI 0) eX5_opensTo_99 (by decide) ?_
            refine x_goto eX5_opensTo_100 ?_
            first
              | exact s_iret eX5_opensTo_118 rfl rfl ⟨tI_ts (by unfold opnT; first | (rw [if_pos c_82]; omega) | (rw [if_neg (by omega)]; omega)), hx⟩
              | exact s_iret eX5_opensTo_118 rfl rfl ⟨tI_fs (by unfold opnT; first | (rw [if_pos c_82]; omega) | (rw [if_neg (by omega)]; omega)), hx⟩
          · refine x_iconst (v := nI 1) eX5_opensTo_95 (by decide) ?_
            refine x_goto eX5_opensTo_96 ?_
            first
              | exact s_iret eX5_opensTo_118 rfl rfl ⟨tI_ts (by unfold opnT; first | (rw [if_pos c_82]; omega) | (rw [if_neg (by omega)]; omega)), hx⟩
              | exact s_iret eX5_opensTo_118 rfl rfl ⟨tI_fs (by unfold opnT; first | (rw [if_pos c_82]; omega) | (rw [if_neg (by omega)]; omega)), hx⟩
    · refine x_iconst (v := nI 1) eX5_opensTo_62 (by decide) ?_
      refine x_goto eX5_opensTo_63 ?_
      refine x_istore (lv' := [_, _, _, _, _, _, _, _, _]) eX5_opensTo_67 (by decide) rfl ?_
      refine x_aload_n eX5_opensTo_69 rfl ?_
      refine s_getR (k := 32) eX5_opensTo_70 fX5_15 rfl (by decide) (by decide) rfl ?_
      refine x_iload eX5_opensTo_73 rfl ?_
      refine x_iload eX5_opensTo_75 rfl ?_
      refine x_iload eX5_opensTo_77 rfl ?_
      refine s_callV1 (As := [_, _, _]) eX5_opensTo_79 kX5_49 ⟨by decide, by decide⟩ rfl (by decide) (by decide) rfl rfl (Nat.le_of_ble_eq_true rfl) (Nat.le_of_ble_eq_true rfl) (sp_X2_turn S_56 (g2.pt hp2 (i + n - 1)) (g2.pt hp2 i) (g2.pt hp2 (i + 1))) (fun S_79 h_79 => ?_)
      have hx := (h_34.tr h_56).tr h_79
      refine x_if_leS eX5_opensTo_82 (fun c_82 => ?_) (fun c_82 => ?_)
      · refine x_iload eX5_opensTo_103 rfl ?_
        refine x_if_neN eX5_opensTo_105 (by omega) (fun c_105 => ?_) (fun c_105 => ?_)
        · refine x_iconst (v := nI 1) eX5_opensTo_113 (by decide) ?_
          refine x_goto eX5_opensTo_114 ?_
          first
            | exact s_iret eX5_opensTo_118 rfl rfl ⟨tI_ts (by unfold opnT; first | (rw [if_pos c_82]; omega) | (rw [if_neg (by omega)]; omega)), hx⟩
            | exact s_iret eX5_opensTo_118 rfl rfl ⟨tI_fs (by unfold opnT; first | (rw [if_pos c_82]; omega) | (rw [if_neg (by omega)]; omega)), hx⟩
        · refine x_iload eX5_opensTo_108 rfl ?_
          refine x_if_eqN eX5_opensTo_110 (by omega) (fun c_110 => ?_) (fun c_110 => ?_)
          · refine x_iconst (v := nI 0) eX5_opensTo_117 (by decide) ?_
            first
              | exact s_iret eX5_opensTo_118 rfl rfl ⟨tI_ts (by unfold opnT; first | (rw [if_pos c_82]; omega) | (rw [if_neg (by omega)]; omega)), hx⟩
              | exact s_iret eX5_opensTo_118 rfl rfl ⟨tI_fs (by unfold opnT; first | (rw [if_pos c_82]; omega) | (rw [if_neg (by omega)]; omega)), hx⟩
          · refine x_iconst (v := nI 1) eX5_opensTo_113 (by decide) ?_
            refine x_goto eX5_opensTo_114 ?_
            first
              | exact s_iret eX5_opensTo_118 rfl rfl ⟨tI_ts (by unfold opnT; first | (rw [if_pos c_82]; omega) | (rw [if_neg (by omega)]; omega)), hx⟩
              | exact s_iret eX5_opensTo_118 rfl rfl ⟨tI_fs (by unfold opnT; first | (rw [if_pos c_82]; omega) | (rw [if_neg (by omega)]; omega)), hx⟩
      · refine x_iload eX5_opensTo_85 rfl ?_
        refine x_if_eqN eX5_opensTo_87 (by omega) (fun c_87 => ?_) (fun c_87 => ?_)
        · refine x_iconst (v := nI 0) eX5_opensTo_99 (by decide) ?_
          refine x_goto eX5_opensTo_100 ?_
          first
            | exact s_iret eX5_opensTo_118 rfl rfl ⟨tI_ts (by unfold opnT; first | (rw [if_pos c_82]; omega) | (rw [if_neg (by omega)]; omega)), hx⟩
            | exact s_iret eX5_opensTo_118 rfl rfl ⟨tI_fs (by unfold opnT; first | (rw [if_pos c_82]; omega) | (rw [if_neg (by omega)]; omega)), hx⟩
        · refine x_iload eX5_opensTo_90 rfl ?_
          refine x_if_eqN eX5_opensTo_92 (by omega) (fun c_92 => ?_) (fun c_92 => ?_)
          · refine x_iconst (v := nI 0) eX5_opensTo_99 (by decide) ?_
            refine x_goto eX5_opensTo_100 ?_
            first
              | exact s_iret eX5_opensTo_118 rfl rfl ⟨tI_ts (by unfold opnT; first | (rw [if_pos c_82]; omega) | (rw [if_neg (by omega)]; omega)), hx⟩
              | exact s_iret eX5_opensTo_118 rfl rfl ⟨tI_fs (by unfold opnT; first | (rw [if_pos c_82]; omega) | (rw [if_neg (by omega)]; omega)), hx⟩
          · refine x_iconst (v := nI 1) eX5_opensTo_95 (by decide) ?_
            refine x_goto eX5_opensTo_96 ?_
            first
              | exact s_iret eX5_opensTo_118 rfl rfl ⟨tI_ts (by unfold opnT; first | (rw [if_pos c_82]; omega) | (rw [if_neg (by omega)]; omega)), hx⟩
              | exact s_iret eX5_opensTo_118 rfl rfl ⟨tI_fs (by unfold opnT; first | (rw [if_pos c_82]; omega) | (rw [if_neg (by omega)]; omega)), hx⟩
  · refine x_iconst (v := nI 1) eX5_opensTo_40 (by decide) ?_
    refine x_goto eX5_opensTo_41 ?_
    refine x_istore (lv' := [_, _, _, _, _, _, _, _]) eX5_opensTo_45 (by decide) rfl ?_
    refine x_aload_n eX5_opensTo_47 rfl ?_
    refine s_getR (k := 32) eX5_opensTo_48 fX5_15 rfl (by decide) (by decide) rfl ?_
    refine x_iload eX5_opensTo_51 rfl ?_
    refine x_iload eX5_opensTo_53 rfl ?_
    refine x_iload_n eX5_opensTo_55 rfl ?_
    refine s_callV1 (As := [_, _, _]) eX5_opensTo_56 kX5_49 ⟨by decide, by decide⟩ rfl (by decide) (by decide) rfl rfl (Nat.le_of_ble_eq_true rfl) (Nat.le_of_ble_eq_true rfl) (sp_X2_turn S_34 (g1.pt hp1 i) (g1.pt hp1 (i + 1)) (hp1 t ht)) (fun S_56 h_56 => ?_)
    have hp2 := hp1.m h_56
    have g2 := g1.m h_56
    refine x_if_leS eX5_opensTo_59 (fun c_59 => ?_) (fun c_59 => ?_)
    · refine x_iconst (v := nI 0) eX5_opensTo_66 (by decide) ?_
      refine x_istore (lv' := [_, _, _, _, _, _, _, _, _]) eX5_opensTo_67 (by decide) rfl ?_
      refine x_aload_n eX5_opensTo_69 rfl ?_
      refine s_getR (k := 32) eX5_opensTo_70 fX5_15 rfl (by decide) (by decide) rfl ?_
      refine x_iload eX5_opensTo_73 rfl ?_
      refine x_iload eX5_opensTo_75 rfl ?_
      refine x_iload eX5_opensTo_77 rfl ?_
      refine s_callV1 (As := [_, _, _]) eX5_opensTo_79 kX5_49 ⟨by decide, by decide⟩ rfl (by decide) (by decide) rfl rfl (Nat.le_of_ble_eq_true rfl) (Nat.le_of_ble_eq_true rfl) (sp_X2_turn S_56 (g2.pt hp2 (i + n - 1)) (g2.pt hp2 i) (g2.pt hp2 (i + 1))) (fun S_79 h_79 => ?_)
      have hx := (h_34.tr h_56).tr h_79
      refine x_if_leS eX5_opensTo_82 (fun c_82 => ?_) (fun c_82 => ?_)
      · refine x_iload eX5_opensTo_103 rfl ?_
        refine x_if_neN eX5_opensTo_105 (by omega) (fun c_105 => ?_) (fun c_105 => ?_)
        · refine x_iconst (v := nI 1) eX5_opensTo_113 (by decide) ?_
          refine x_goto eX5_opensTo_114 ?_
          first
            | exact s_iret eX5_opensTo_118 rfl rfl ⟨tI_ts (by unfold opnT; first | (rw [if_pos c_82]; omega) | (rw [if_neg (by omega)]; omega)), hx⟩
            | exact s_iret eX5_opensTo_118 rfl rfl ⟨tI_fs (by unfold opnT; first | (rw [if_pos c_82]; omega) | (rw [if_neg (by omega)]; omega)), hx⟩
        · refine x_iload eX5_opensTo_108 rfl ?_
          refine x_if_eqN eX5_opensTo_110 (by omega) (fun c_110 => ?_) (fun c_110 => ?_)
          · refine x_iconst (v := nI 0) eX5_opensTo_117 (by decide) ?_
            first
              | exact s_iret eX5_opensTo_118 rfl rfl ⟨tI_ts (by unfold opnT; first | (rw [if_pos c_82]; omega) | (rw [if_neg (by omega)]; omega)), hx⟩
              | exact s_iret eX5_opensTo_118 rfl rfl ⟨tI_fs (by unfold opnT; first | (rw [if_pos c_82]; omega) | (rw [if_neg (by omega)]; omega)), hx⟩
          · refine x_iconst (v := nI 1) eX5_opensTo_113 (by decide) ?_
            refine x_goto eX5_opensTo_114 ?_
            first
              | exact s_iret eX5_opensTo_118 rfl rfl ⟨tI_ts (by unfold opnT; first | (rw [if_pos c_82]; omega) | (rw [if_neg (by omega)]; omega)), hx⟩
              | exact s_iret eX5_opensTo_118 rfl rfl ⟨tI_fs (by unfold opnT; first | (rw [if_pos c_82]; omega) | (rw [if_neg (by omega)]; omega)), hx⟩
      · refine x_iload eX5_opensTo_85 rfl ?_
        refine x_if_eqN eX5_opensTo_87 (by omega) (fun c_87 => ?_) (fun c_87 => ?_)
        · refine x_iconst (v := nI 0) eX5_opensTo_99 (by decide) ?_
          refine x_goto eX5_opensTo_100 ?_
          first
            | exact s_iret eX5_opensTo_118 rfl rfl ⟨tI_ts (by unfold opnT; first | (rw [if_pos c_82]; omega) | (rw [if_neg (by omega)]; omega)), hx⟩
            | exact s_iret eX5_opensTo_118 rfl rfl ⟨tI_fs (by unfold opnT; first | (rw [if_pos c_82]; omega) | (rw [if_neg (by omega)]; omega)), hx⟩
        · refine x_iload eX5_opensTo_90 rfl ?_
          refine x_if_eqN eX5_opensTo_92 (by omega) (fun c_92 => ?_) (fun c_92 => ?_)
          · refine x_iconst (v := nI 0) eX5_opensTo_99 (by decide) ?_
            refine x_goto eX5_opensTo_100 ?_
            first
              | exact s_iret eX5_opensTo_118 rfl rfl ⟨tI_ts (by unfold opnT; first | (rw [if_pos c_82]; omega) | (rw [if_neg (by omega)]; omega)), hx⟩
              | exact s_iret eX5_opensTo_118 rfl rfl ⟨tI_fs (by unfold opnT; first | (rw [if_pos c_82]; omega) | (rw [if_neg (by omega)]; omega)), hx⟩
          · refine x_iconst (v := nI 1) eX5_opensTo_95 (by decide) ?_
            refine x_goto eX5_opensTo_96 ?_
            first
              | exact s_iret eX5_opensTo_118 rfl rfl ⟨tI_ts (by unfold opnT; first | (rw [if_pos c_82]; omega) | (rw [if_neg (by omega)]; omega)), hx⟩
              | exact s_iret eX5_opensTo_118 rfl rfl ⟨tI_fs (by unfold opnT; first | (rw [if_pos c_82]; omega) | (rw [if_neg (by omega)]; omega)), hx⟩
    · refine x_iconst (v := nI 1) eX5_opensTo_62 (by decide) ?_
      refine x_goto eX5_opensTo_63 ?_
      refine x_istore (lv' := [_, _, _, _, _, _, _, _, _]) eX5_opensTo_67 (by decide) rfl ?_
      refine x_aload_n eX5_opensTo_69 rfl ?_
      refine s_getR (k := 32) eX5_opensTo_70 fX5_15 rfl (by decide) (by decide) rfl ?_
      refine x_iload eX5_opensTo_73 rfl ?_
      refine x_iload eX5_opensTo_75 rfl ?_
      refine x_iload eX5_opensTo_77 rfl ?_
      refine s_callV1 (As := [_, _, _]) eX5_opensTo_79 kX5_49 ⟨by decide, by decide⟩ rfl (by decide) (by decide) rfl rfl (Nat.le_of_ble_eq_true rfl) (Nat.le_of_ble_eq_true rfl) (sp_X2_turn S_56 (g2.pt hp2 (i + n - 1)) (g2.pt hp2 i) (g2.pt hp2 (i + 1))) (fun S_79 h_79 => ?_)
      have hx := (h_34.tr h_56).tr h_79
      refine x_if_leS eX5_opensTo_82 (fun c_82 => ?_) (fun c_82 => ?_)
      · refine x_iload eX5_opensTo_103 rfl ?_
        refine x_if_neN eX5_opensTo_105 (by omega) (fun c_105 => ?_) (fun c_105 => ?_)
        · refine x_iconst (v := nI 1) eX5_opensTo_113 (by decide) ?_
          refine x_goto eX5_opensTo_114 ?_
          first
            | exact s_iret eX5_opensTo_118 rfl rfl ⟨tI_ts (by unfold opnT; first | (rw [if_pos c_82]; omega) | (rw [if_neg (by omega)]; omega)), hx⟩
            | exact s_iret eX5_opensTo_118 rfl rfl ⟨tI_fs (by unfold opnT; first | (rw [if_pos c_82]; omega) | (rw [if_neg (by omega)]; omega)), hx⟩
        · refine x_iload eX5_opensTo_108 rfl ?_
          refine x_if_eqN eX5_opensTo_110 (by omega) (fun c_110 => ?_) (fun c_110 => ?_)
          · refine x_iconst (v := nI 0) eX5_opensTo_117 (by decide) ?_
            first
              | exact s_iret eX5_opensTo_118 rfl rfl ⟨tI_ts (by unfold opnT; first | (rw [if_pos c_82]; omega) | (rw [if_neg (by omega)]; omega)), hx⟩
              | exact s_iret eX5_opensTo_118 rfl rfl ⟨tI_fs (by unfold opnT; first | (rw [if_pos c_82]; omega) | (rw [if_neg (by omega)]; omega)), hx⟩
          · refine x_iconst (v := nI 1) eX5_opensTo_113 (by decide) ?_
            refine x_goto eX5_opensTo_114 ?_
            first
              | exact s_iret eX5_opensTo_118 rfl rfl ⟨tI_ts (by unfold opnT; first | (rw [if_pos c_82]; omega) | (rw [if_neg (by omega)]; omega)), hx⟩
              | exact s_iret eX5_opensTo_118 rfl rfl ⟨tI_fs (by unfold opnT; first | (rw [if_pos c_82]; omega) | (rw [if_neg (by omega)]; omega)), hx⟩
      · refine x_iload eX5_opensTo_85 rfl ?_
        refine x_if_eqN eX5_opensTo_87 (by omega) (fun c_87 => ?_) (fun c_87 => ?_)
        · refine x_iconst (v := nI 0) eX5_opensTo_99 (by decide) ?_
          refine x_goto eX5_opensTo_100 ?_
          first
            | exact s_iret eX5_opensTo_118 rfl rfl ⟨tI_ts (by unfold opnT; first | (rw [if_pos c_82]; omega) | (rw [if_neg (by omega)]; omega)), hx⟩
            | exact s_iret eX5_opensTo_118 rfl rfl ⟨tI_fs (by unfold opnT; first | (rw [if_pos c_82]; omega) | (rw [if_neg (by omega)]; omega)), hx⟩
        · refine x_iload eX5_opensTo_90 rfl ?_
          refine x_if_eqN eX5_opensTo_92 (by omega) (fun c_92 => ?_) (fun c_92 => ?_)
          · refine x_iconst (v := nI 0) eX5_opensTo_99 (by decide) ?_
            refine x_goto eX5_opensTo_100 ?_
            first
              | exact s_iret eX5_opensTo_118 rfl rfl ⟨tI_ts (by unfold opnT; first | (rw [if_pos c_82]; omega) | (rw [if_neg (by omega)]; omega)), hx⟩
              | exact s_iret eX5_opensTo_118 rfl rfl ⟨tI_fs (by unfold opnT; first | (rw [if_pos c_82]; omega) | (rw [if_neg (by omega)]; omega)), hx⟩
          · refine x_iconst (v := nI 1) eX5_opensTo_95 (by decide) ?_
            refine x_goto eX5_opensTo_96 ?_
            first
              | exact s_iret eX5_opensTo_118 rfl rfl ⟨tI_ts (by unfold opnT; first | (rw [if_pos c_82]; omega) | (rw [if_neg (by omega)]; omega)), hx⟩
              | exact s_iret eX5_opensTo_118 rfl rfl ⟨tI_fs (by unfold opnT; first | (rw [if_pos c_82]; omega) | (rw [if_neg (by omega)]; omega)), hx⟩
/-- what startsInto answers -/
def sttP (v : Nat → Pt) (n : Nat) (d : Nat → Nat) (spot : Int32) (f : Nat) (T : Pt) : Prop := spot = -2 ∨ ∃ k, k < n ∧ spot = nI k ∧ ((f = d k ∧ opnT (v (k + n - 1)) (v k) (v (k + 1)) T) ∨ (f ≠ d k ∧ f = d ((k + 1) % n) ∧ opnT (v (k + n)) (v (k + 1)) (v (k + 2)) T) ∨ (f ≠ d k ∧ f ≠ d ((k + 1) % n) ∧ 0 < orP (v k) (v (k + 1)) T))
theorem stt_k {v : Nat → Pt} {n : Nat} {d : Nat → Nat} {k f : Nat} {T : Pt} (hk : k < n) (hn : n < 25) : sttP v n d (nI k) f T ↔ ((f = d k ∧ opnT (v (k + n - 1)) (v k) (v (k + 1)) T) ∨ (f ≠ d k ∧ f = d ((k + 1) % n) ∧ opnT (v (k + n)) (v (k + 1)) (v (k + 2)) T) ∨ (f ≠ d k ∧ f ≠ d ((k + 1) % n) ∧ 0 < orP (v k) (v (k + 1)) T)) := by
  constructor
  · rintro (e | ⟨j, hj, e, h⟩)
    · exact absurd e (by have : ∀ k, k < 25 → nI k ≠ -2 := by decide +kernel
                         exact this k (by omega))
    · obtain rfl : k = j := (nI_eq (by omega) (by omega)).mp e
      exact h
  · intro h; exact Or.inr ⟨k, hk, rfl, h⟩
theorem stt_m3 {v : Nat → Pt} {n : Nat} {d : Nat → Nat} {f : Nat} {T : Pt} (hn : n < 25) : ¬ sttP v n d (-3) f T := by
  rintro (e | ⟨j, hj, e, h⟩)
  · exact absurd e (by decide)
  · have : ∀ k, k < 25 → -3 ≠ nI k := by decide +kernel
    exact this j (by omega) e

theorem sp_X5_startsInto (S : xS) {nc r n f t : Nat} {c : Nat → Nat} {P : Nat → Pt} {spot : Int32} (hp : cps S nc P) (h : CR S nc r n c) (hs : spot = -2 ∨ spot = -3 ∨ ∃ k, k < n ∧ spot = nI k) (hf : f < 201) (ht : t < nc ∨ t = 200) : Sp mX5_startsInto [.ref 36, .ref (45 + 2 * r), .int spot, .int (nI f), .int (nI t)] S (fun x S' => x = some (.int (tI (sttP (vr P c n) n c spot f (P t)))) ∧ Lx [364] S S') := by
  have hr := h.1.1
  have hn := h.1.2.1
  show XP _ _ [_, _, _, _, _] _ _ _
  rcases hs with rfl | rfl | ⟨k, hk, rfl⟩
  · refine x_iload_n eX5_startsInto_0 rfl ?_
    refine x_bipush (v := -2) eX5_startsInto_1 (by decide) ?_
    refine x_icmp_eq eX5_startsInto_3 (fun c_3 => ?_) (fun c_3 => ?_)
    · refine x_iload_n eX5_startsInto_12 rfl ?_
      refine x_bipush (v := -2) eX5_startsInto_13 (by decide) ?_
      refine x_icmp_ne eX5_startsInto_15 (fun c_15 => ?_) (fun c_15 => ?_)
      · exact absurd rfl c_15
      · refine x_iconst (v := nI 1) eX5_startsInto_18 (by decide) ?_
        refine x_goto eX5_startsInto_19 ?_
        exact s_iret eX5_startsInto_23 rfl (by first | rfl | exact bI_nar _ | exact tI_nar _) ⟨tI_ts (Or.inl rfl), Lx.rf _ _⟩
    · exact absurd rfl c_3
  · refine x_iload_n eX5_startsInto_0 rfl ?_
    refine x_bipush (v := -2) eX5_startsInto_1 (by decide) ?_
    refine x_icmp_eq eX5_startsInto_3 (fun c_3 => ?_) (fun c_3 => ?_)
    · exact absurd c_3 (by decide)
    · refine x_iload_n eX5_startsInto_6 rfl ?_
      refine x_bipush (v := -3) eX5_startsInto_7 (by decide) ?_
      refine x_icmp_ne eX5_startsInto_9 (fun c_9 => ?_) (fun c_9 => ?_)
      · exact absurd rfl c_9
      · refine x_iload_n eX5_startsInto_12 rfl ?_
        refine x_bipush (v := -2) eX5_startsInto_13 (by decide) ?_
        refine x_icmp_ne eX5_startsInto_15 (fun c_15 => ?_) (fun c_15 => ?_)
        · refine x_iconst (v := nI 0) eX5_startsInto_22 (by decide) ?_
          exact s_iret eX5_startsInto_23 rfl (by first | rfl | exact bI_nar _ | exact tI_nar _) ⟨tI_fs (stt_m3 (by omega)), Lx.rf _ _⟩
        · exact absurd c_15 (by decide)
  · have n2 : nI k ≠ -2 := (by decide +kernel : ∀ k, k < 25 → nI k ≠ -2) k (by omega)
    have n3 : nI k ≠ -3 := (by decide +kernel : ∀ k, k < 25 → nI k ≠ -3) k (by omega)
    have lc := h.lt k
    have ld := h.lt (k + 1)
    have ek : k % n = k := Nat.mod_eq_of_lt hk
    rw [ek] at lc
    refine x_iload_n eX5_startsInto_0 rfl ?_
    refine x_bipush (v := -2) eX5_startsInto_1 (by decide) ?_
    refine x_icmp_eq eX5_startsInto_3 (fun c_3 => ?_) (fun c_3 => ?_)
    · exact absurd c_3 n2
    · refine x_iload_n eX5_startsInto_6 rfl ?_
      refine x_bipush (v := -3) eX5_startsInto_7 (by decide) ?_
      refine x_icmp_ne eX5_startsInto_9 (fun c_9 => ?_) (fun c_9 => ?_)
      · refine x_aload_n eX5_startsInto_24 rfl ?_
        refine x_iload_n eX5_startsInto_25 rfl ?_
        refine s_callV1 (As := [_]) eX5_startsInto_26 kX5_35 ⟨by decide, by decide⟩ (kd_ring h.1.1) (by decide) (show _ < 365 by omega) rfl rfl (Nat.le_of_ble_eq_true rfl) (Nat.le_of_ble_eq_true rfl) (sp_X4_around _ h.1 h.2.1 (k := k) (by omega)) (fun S_26 h_26 => ?_)
        subst h_26
        rw [ek]
        refine x_istore (lv' := [_, _, _, _, _, _]) eX5_startsInto_29 (by decide) rfl ?_
        refine x_aload_n eX5_startsInto_31 rfl ?_
        refine x_iload_n eX5_startsInto_32 rfl ?_
        refine x_iconst (v := nI 1) eX5_startsInto_33 (by decide) ?_
        first | refine x_iaddN eX5_startsInto_34 ?_ | refine x_iadd eX5_startsInto_34 ?_
        refine s_callV1 (As := [_]) eX5_startsInto_35 kX5_35 ⟨by decide, by decide⟩ (kd_ring h.1.1) (by decide) (show _ < 365 by omega) rfl rfl (Nat.le_of_ble_eq_true rfl) (Nat.le_of_ble_eq_true rfl) (sp_X4_around _ h.1 h.2.1 (by omega)) (fun S_35 h_35 => ?_)
        subst h_35
        refine x_istore (lv' := [_, _, _, _, _, _, _]) eX5_startsInto_38 (by decide) rfl ?_
        refine x_iload_n eX5_startsInto_40 rfl ?_
        refine x_iload eX5_startsInto_41 rfl ?_
        refine x_icmp_eqN eX5_startsInto_43 (by omega) (by omega) (fun c_43 => ?_) (fun c_43 => ?_)
        · refine x_aload_n eX5_startsInto_52 rfl ?_
          refine x_aload_n eX5_startsInto_53 rfl ?_
          refine x_iload_n eX5_startsInto_54 rfl ?_
          refine x_iload eX5_startsInto_55 rfl ?_
          refine x_icmp_neN eX5_startsInto_57 (by omega) (by omega) (fun c_57 => ?_) (fun c_57 => ?_)
          · refine x_iload_n eX5_startsInto_64 rfl ?_
            refine x_iconst (v := nI 1) eX5_startsInto_65 (by decide) ?_
            first | refine x_iaddN eX5_startsInto_66 ?_ | refine x_iadd eX5_startsInto_66 ?_
            refine x_iload eX5_startsInto_67 rfl ?_
            by_cases q : f = c k
            · refine s_callV1 (v := .int (tI (sttP (vr P c n) n c (nI k) f (P t)))) (T := fun S' => Lx [364] S_35 S') (As := [_, _, _]) eX5_startsInto_69 kX5_68 ⟨by decide, by decide⟩ rfl (by decide) (by decide) rfl rfl (Nat.le_of_ble_eq_true rfl) (Nat.le_of_ble_eq_true rfl) ?_ (fun S_69 h_69 => ?_)
              · first
                | (exfalso; omega)
                | (have e := sp_X5_opensTo _ hp h (i := k) (t := t) (by omega) ht
                   rw [tI_iff (stt_k hk (by omega)), tI_iff (show _ ↔ opnT (vr P c n (k + n - 1)) (vr P c n k) (vr P c n (k + 1)) (P t) from ⟨fun z => by rcases z with z | z | z; exact z.2; exact absurd q z.1; exact absurd q z.1, fun z => Or.inl ⟨q, z⟩⟩)]
                   exact e)
              · exact s_iret eX5_startsInto_72 rfl (tI_nar _) ⟨rfl, h_69⟩
            · refine s_callV1 (v := .int (tI (sttP (vr P c n) n c (nI k) f (P t)))) (T := fun S' => Lx [364] S_35 S') (As := [_, _, _]) eX5_startsInto_69 kX5_68 ⟨by decide, by decide⟩ rfl (by decide) (by decide) rfl rfl (Nat.le_of_ble_eq_true rfl) (Nat.le_of_ble_eq_true rfl) ?_ (fun S_69 h_69 => ?_)
              · first
                | (exfalso; omega)
                | (have e := sp_X5_opensTo _ hp h (i := k + 1) (t := t) (by omega) ht
                   rw [show k + 1 + n - 1 = k + n by omega] at e
                   rw [tI_iff (stt_k hk (by omega)), tI_iff (show _ ↔ opnT (vr P c n (k + n)) (vr P c n (k + 1)) (vr P c n (k + 2)) (P t) from ⟨fun z => by rcases z with z | z | z; exact absurd z.1 q; exact z.2.2; omega, fun z => Or.inr (Or.inl ⟨q, by omega, z⟩)⟩)]
                   exact e)
              · exact s_iret eX5_startsInto_72 rfl (tI_nar _) ⟨rfl, h_69⟩
          · refine x_iload_n eX5_startsInto_60 rfl ?_
            refine x_goto eX5_startsInto_61 ?_
            refine x_iload eX5_startsInto_67 rfl ?_
            by_cases q : f = c k
            · refine s_callV1 (v := .int (tI (sttP (vr P c n) n c (nI k) f (P t)))) (T := fun S' => Lx [364] S_35 S') (As := [_, _, _]) eX5_startsInto_69 kX5_68 ⟨by decide, by decide⟩ rfl (by decide) (by decide) rfl rfl (Nat.le_of_ble_eq_true rfl) (Nat.le_of_ble_eq_true rfl) ?_ (fun S_69 h_69 => ?_)
              · first
                | (exfalso; omega)
                | (have e := sp_X5_opensTo _ hp h (i := k) (t := t) (by omega) ht
                   rw [tI_iff (stt_k hk (by omega)), tI_iff (show _ ↔ opnT (vr P c n (k + n - 1)) (vr P c n k) (vr P c n (k + 1)) (P t) from ⟨fun z => by rcases z with z | z | z; exact z.2; exact absurd q z.1; exact absurd q z.1, fun z => Or.inl ⟨q, z⟩⟩)]
                   exact e)
              · exact s_iret eX5_startsInto_72 rfl (tI_nar _) ⟨rfl, h_69⟩
            · refine s_callV1 (v := .int (tI (sttP (vr P c n) n c (nI k) f (P t)))) (T := fun S' => Lx [364] S_35 S') (As := [_, _, _]) eX5_startsInto_69 kX5_68 ⟨by decide, by decide⟩ rfl (by decide) (by decide) rfl rfl (Nat.le_of_ble_eq_true rfl) (Nat.le_of_ble_eq_true rfl) ?_ (fun S_69 h_69 => ?_)
              · first
                | (exfalso; omega)
                | (have e := sp_X5_opensTo _ hp h (i := k + 1) (t := t) (by omega) ht
                   rw [show k + 1 + n - 1 = k + n by omega] at e
                   rw [tI_iff (stt_k hk (by omega)), tI_iff (show _ ↔ opnT (vr P c n (k + n)) (vr P c n (k + 1)) (vr P c n (k + 2)) (P t) from ⟨fun z => by rcases z with z | z | z; exact absurd z.1 q; exact z.2.2; omega, fun z => Or.inr (Or.inl ⟨q, by omega, z⟩)⟩)]
                   exact e)
              · exact s_iret eX5_startsInto_72 rfl (tI_nar _) ⟨rfl, h_69⟩
        · refine x_iload_n eX5_startsInto_46 rfl ?_
          refine x_iload eX5_startsInto_47 rfl ?_
          refine x_icmp_neN eX5_startsInto_49 (by omega) (by omega) (fun c_49 => ?_) (fun c_49 => ?_)
          · refine x_aload_n eX5_startsInto_73 rfl ?_
            refine s_getR (k := 32) eX5_startsInto_74 fX5_15 rfl (by decide) (by decide) rfl ?_
            refine x_iload eX5_startsInto_77 rfl ?_
            refine x_iload eX5_startsInto_79 rfl ?_
            refine x_iload eX5_startsInto_81 rfl ?_
            refine s_callV1 (As := [_, _, _]) eX5_startsInto_83 kX5_49 ⟨by decide, by decide⟩ rfl (by decide) (by decide) rfl rfl (Nat.le_of_ble_eq_true rfl) (Nat.le_of_ble_eq_true rfl) (sp_X2_turn _ (by have := h.pt hp k; rw [ek] at this; exact this) (h.pt hp (k + 1)) (hp t ht)) (fun S_83 h_83 => ?_)
            refine x_if_leS eX5_startsInto_86 (fun c_86 => ?_) (fun c_86 => ?_)
            · refine x_iconst (v := nI 0) eX5_startsInto_93 (by decide) ?_
              first
                | exact s_iret eX5_startsInto_94 rfl rfl ⟨tI_ts ((stt_k hk (by omega)).mpr (Or.inr (Or.inr ⟨by omega, by omega, c_86⟩))), h_83⟩
                | exact s_iret eX5_startsInto_94 rfl rfl ⟨tI_fs (fun z => by rcases (stt_k hk (by omega)).mp z with z | z | z; omega; omega; omega), h_83⟩
            · refine x_iconst (v := nI 1) eX5_startsInto_89 (by decide) ?_
              refine x_goto eX5_startsInto_90 ?_
              first
                | exact s_iret eX5_startsInto_94 rfl rfl ⟨tI_ts ((stt_k hk (by omega)).mpr (Or.inr (Or.inr ⟨by omega, by omega, c_86⟩))), h_83⟩
                | exact s_iret eX5_startsInto_94 rfl rfl ⟨tI_fs (fun z => by rcases (stt_k hk (by omega)).mp z with z | z | z; omega; omega; omega), h_83⟩
          · refine x_aload_n eX5_startsInto_52 rfl ?_
            refine x_aload_n eX5_startsInto_53 rfl ?_
            refine x_iload_n eX5_startsInto_54 rfl ?_
            refine x_iload eX5_startsInto_55 rfl ?_
            refine x_icmp_neN eX5_startsInto_57 (by omega) (by omega) (fun c_57 => ?_) (fun c_57 => ?_)
            · refine x_iload_n eX5_startsInto_64 rfl ?_
              refine x_iconst (v := nI 1) eX5_startsInto_65 (by decide) ?_
              first | refine x_iaddN eX5_startsInto_66 ?_ | refine x_iadd eX5_startsInto_66 ?_
              refine x_iload eX5_startsInto_67 rfl ?_
              by_cases q : f = c k
              · refine s_callV1 (v := .int (tI (sttP (vr P c n) n c (nI k) f (P t)))) (T := fun S' => Lx [364] S_35 S') (As := [_, _, _]) eX5_startsInto_69 kX5_68 ⟨by decide, by decide⟩ rfl (by decide) (by decide) rfl rfl (Nat.le_of_ble_eq_true rfl) (Nat.le_of_ble_eq_true rfl) ?_ (fun S_69 h_69 => ?_)
                · first
                  | (exfalso; omega)
                  | (have e := sp_X5_opensTo _ hp h (i := k) (t := t) (by omega) ht
                     rw [tI_iff (stt_k hk (by omega)), tI_iff (show _ ↔ opnT (vr P c n (k + n - 1)) (vr P c n k) (vr P c n (k + 1)) (P t) from ⟨fun z => by rcases z with z | z | z; exact z.2; exact absurd q z.1; exact absurd q z.1, fun z => Or.inl ⟨q, z⟩⟩)]
                     exact e)
                · exact s_iret eX5_startsInto_72 rfl (tI_nar _) ⟨rfl, h_69⟩
              · refine s_callV1 (v := .int (tI (sttP (vr P c n) n c (nI k) f (P t)))) (T := fun S' => Lx [364] S_35 S') (As := [_, _, _]) eX5_startsInto_69 kX5_68 ⟨by decide, by decide⟩ rfl (by decide) (by decide) rfl rfl (Nat.le_of_ble_eq_true rfl) (Nat.le_of_ble_eq_true rfl) ?_ (fun S_69 h_69 => ?_)
                · first
                  | (exfalso; omega)
                  | (have e := sp_X5_opensTo _ hp h (i := k + 1) (t := t) (by omega) ht
                     rw [show k + 1 + n - 1 = k + n by omega] at e
                     rw [tI_iff (stt_k hk (by omega)), tI_iff (show _ ↔ opnT (vr P c n (k + n)) (vr P c n (k + 1)) (vr P c n (k + 2)) (P t) from ⟨fun z => by rcases z with z | z | z; exact absurd z.1 q; exact z.2.2; omega, fun z => Or.inr (Or.inl ⟨q, by omega, z⟩)⟩)]
                     exact e)
                · exact s_iret eX5_startsInto_72 rfl (tI_nar _) ⟨rfl, h_69⟩
            · refine x_iload_n eX5_startsInto_60 rfl ?_
              refine x_goto eX5_startsInto_61 ?_
              refine x_iload eX5_startsInto_67 rfl ?_
              by_cases q : f = c k
              · refine s_callV1 (v := .int (tI (sttP (vr P c n) n c (nI k) f (P t)))) (T := fun S' => Lx [364] S_35 S') (As := [_, _, _]) eX5_startsInto_69 kX5_68 ⟨by decide, by decide⟩ rfl (by decide) (by decide) rfl rfl (Nat.le_of_ble_eq_true rfl) (Nat.le_of_ble_eq_true rfl) ?_ (fun S_69 h_69 => ?_)
                · first
                  | (exfalso; omega)
                  | (have e := sp_X5_opensTo _ hp h (i := k) (t := t) (by omega) ht
                     rw [tI_iff (stt_k hk (by omega)), tI_iff (show _ ↔ opnT (vr P c n (k + n - 1)) (vr P c n k) (vr P c n (k + 1)) (P t) from ⟨fun z => by rcases z with z | z | z; exact z.2; exact absurd q z.1; exact absurd q z.1, fun z => Or.inl ⟨q, z⟩⟩)]
                     exact e)
                · exact s_iret eX5_startsInto_72 rfl (tI_nar _) ⟨rfl, h_69⟩
              · refine s_callV1 (v := .int (tI (sttP (vr P c n) n c (nI k) f (P t)))) (T := fun S' => Lx [364] S_35 S') (As := [_, _, _]) eX5_startsInto_69 kX5_68 ⟨by decide, by decide⟩ rfl (by decide) (by decide) rfl rfl (Nat.le_of_ble_eq_true rfl) (Nat.le_of_ble_eq_true rfl) ?_ (fun S_69 h_69 => ?_)
                · first
                  | (exfalso; omega)
                  | (have e := sp_X5_opensTo _ hp h (i := k + 1) (t := t) (by omega) ht
                     rw [show k + 1 + n - 1 = k + n by omega] at e
                     rw [tI_iff (stt_k hk (by omega)), tI_iff (show _ ↔ opnT (vr P c n (k + n)) (vr P c n (k + 1)) (vr P c n (k + 2)) (P t) from ⟨fun z => by rcases z with z | z | z; exact absurd z.1 q; exact z.2.2; omega, fun z => Or.inr (Or.inl ⟨q, by omega, z⟩)⟩)]
                     exact e)
                · exact s_iret eX5_startsInto_72 rfl (tI_nar _) ⟨rfl, h_69⟩
      · exact absurd c_9 n3
