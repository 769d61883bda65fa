theorem ahP_lt (a b : Pt) : ahP a b < 0 ↔ ltP a b = true := by
  unfold ahP ltP
  rw [decide_eq_true_iff]
  by_cases h : sg (a.1 - b.1) = 0
  · rw [if_pos h, sg_lt0]
    have := (sg_eq0 _).mp h
    omega
  · rw [if_neg h, sg_lt0]
    have h2 : ¬ a.1 - b.1 = 0 := fun h3 => h ((sg_eq0 _).mpr h3)
    omega
theorem ahP_gt (a b : Pt) : 0 < ahP a b ↔ ltP b a = true := by
  unfold ahP ltP
  rw [decide_eq_true_iff]
  by_cases h : sg (a.1 - b.1) = 0
  · rw [if_pos h, sg_gt0]
    have := (sg_eq0 _).mp h
    omega
  · rw [if_neg h, sg_gt0]
    have h2 : ¬ a.1 - b.1 = 0 := fun h3 => h ((sg_eq0 _).mpr h3)
    omega
theorem ahP_eq (a b : Pt) : ahP a b = 0 ↔ a = b := by
  unfold ahP
  by_cases h : sg (a.1 - b.1) = 0
  · rw [if_pos h, sg_eq0]
    have := (sg_eq0 _).mp h
    constructor
    · intro h2; exact Prod.ext (by omega) (by omega)
    · intro h2; rw [h2]; omega
  · rw [if_neg h, sg_eq0]
    have h2 : ¬ a.1 - b.1 = 0 := fun h3 => h ((sg_eq0 _).mpr h3)
    constructor
    · intro h3; exact absurd h3 h2
    · intro h3; rw [h3] at h2; omega
theorem mnP_lt (a b : Pt) : mnP a b = if ltP a b = true then a else b := by unfold mnP; simp only [ahP_lt]
theorem mxP_lt (a b : Pt) : mxP a b = if ltP a b = true then b else a := by unfold mxP; simp only [ahP_lt]
theorem colF_lt (a b c d : Pt) : colF a b c d = if ltP (mnP a b) (mnP c d) = true then mnP c d else mnP a b := by unfold colF; simp only [ahP_lt]
theorem colL_lt (a b c d : Pt) : colL a b c d = if ltP (mxP a b) (mxP c d) = true then mxP a b else mxP c d := by unfold colL; simp only [ahP_lt]
theorem colP_lt (a b c d : Pt) : colP a b c d = if ltP (colF a b c d) (colL a b c d) = true then 3 else if ltP (colL a b c d) (colF a b c d) = true then 0 else 2 := by
  unfold colP
  simp only [ahP_lt]
  by_cases h : ltP (colF a b c d) (colL a b c d) = true
  · rw [if_pos h, if_pos h]
  · rw [if_neg h, if_neg h]
    by_cases h2 : ahP (colF a b c d) (colL a b c d) = 0
    · rw [if_pos h2, if_neg]
      rw [← ahP_gt, h2]; decide
    · rw [if_neg h2, if_pos]
      rw [← ahP_gt]
      rw [← ahP_lt] at h
      rw [Int32.lt_iff_toInt_lt, Int32.toInt_zero] at h ⊢
      have h3 : (ahP (colF a b c d) (colL a b c d)).toInt ≠ 0 := fun h4 => h2 (Int32.toInt_inj.mp h4)
      omega

theorem sp_X2_meetingInLine (S : xS) {a b c d : Nat} {A B C D : Pt} (ha : cpt S a A) (hb : cpt S b B) (hc : cpt S c C) (hd : cpt S d D) : Sp mX2_meetingInLine [.ref 32, .int (nI a), .int (nI b), .int (nI c), .int (nI d)] S (fun r S' => r = some (.int (colP A B C D)) ∧ S' = S) := by
  have j108 : ∀ f l, cpt S f (colF A B C D) → cpt S l (colL A B C D) → XP mX2_meetingInLine 108 [(10, .int (nI l)), (9, .int (nI f)), (0, .ref 32)] [] (xwS S) (sQ (fun r S' => r = some (.int (colP A B C D)) ∧ S' = S)) := by
    intro f l hf hl
    refine x_aload_n eX2_meetingInLine_108 rfl ?_
    refine x_iload eX2_meetingInLine_109 rfl ?_
    refine x_iload eX2_meetingInLine_111 rfl ?_
    refine s_callV1 (As := [_, _]) eX2_meetingInLine_113 kX2_93 ⟨by decide, by decide⟩ rfl (by decide) (by decide) rfl rfl (Nat.le_of_ble_eq_true rfl) (Nat.le_of_ble_eq_true rfl) (sp_X2_isAhead S hf hl) (fun S_113 h_113 => ?_)
    subst h_113
    refine x_if_eqB eX2_meetingInLine_116 (fun c_116 => ?_) (fun c_116 => ?_)
    · refine x_aload_n eX2_meetingInLine_121 rfl ?_
      refine x_iload eX2_meetingInLine_122 rfl ?_
      refine x_iload eX2_meetingInLine_124 rfl ?_
      refine s_callV1 (As := [_, _]) eX2_meetingInLine_126 kX2_93 ⟨by decide, by decide⟩ rfl (by decide) (by decide) rfl rfl (Nat.le_of_ble_eq_true rfl) (Nat.le_of_ble_eq_true rfl) (sp_X2_isAhead _ hl hf) (fun S_126 h_126 => ?_)
      subst h_126
      refine x_if_eqB eX2_meetingInLine_129 (fun c_129 => ?_) (fun c_129 => ?_)
      · refine x_iconst (v := nI 2) eX2_meetingInLine_136 (by decide) ?_
        refine s_iret eX2_meetingInLine_137 rfl rfl ⟨?_, rfl⟩
        rw [colP_lt, if_neg (by rw [c_116]; decide)]
        first
          | (rw [if_pos c_129]; rfl)
          | (rw [if_neg (by rw [c_129]; decide)]; rfl)
      · refine x_iconst (v := nI 0) eX2_meetingInLine_132 (by decide) ?_
        refine x_goto eX2_meetingInLine_133 ?_
        refine s_iret eX2_meetingInLine_137 rfl rfl ⟨?_, rfl⟩
        rw [colP_lt, if_neg (by rw [c_116]; decide)]
        first
          | (rw [if_pos c_129]; rfl)
          | (rw [if_neg (by rw [c_129]; decide)]; rfl)
    · refine x_iconst (v := nI 3) eX2_meetingInLine_119 (by decide) ?_
      refine s_iret eX2_meetingInLine_120 rfl rfl ⟨?_, rfl⟩
      rw [colP_lt, if_pos c_116]
      rfl
  have j68 : ∀ l h f t, cpt S l (mnP A B) → cpt S h (mxP A B) → cpt S f (mnP C D) → cpt S t (mxP C D) → XP mX2_meetingInLine 68 [(8, .int (nI t)), (7, .int (nI f)), (6, .int (nI h)), (5, .int (nI l)), (0, .ref 32)] [] (xwS S) (sQ (fun r S' => r = some (.int (colP A B C D)) ∧ S' = S)) := by
    intro l h f t hl hh hf ht
    have j88 : ∀ u, cpt S u (colF A B C D) → XP mX2_meetingInLine 88 [(9, .int (nI u)), (8, .int (nI t)), (7, .int (nI f)), (6, .int (nI h)), (5, .int (nI l)), (0, .ref 32)] [] (xwS S) (sQ (fun r S' => r = some (.int (colP A B C D)) ∧ S' = S)) := by
      intro u hu
      refine x_aload_n eX2_meetingInLine_88 rfl ?_
      refine x_iload eX2_meetingInLine_89 rfl ?_
      refine x_iload eX2_meetingInLine_91 rfl ?_
      refine s_callV1 (As := [_, _]) eX2_meetingInLine_93 kX2_93 ⟨by decide, by decide⟩ rfl (by decide) (by decide) rfl rfl (Nat.le_of_ble_eq_true rfl) (Nat.le_of_ble_eq_true rfl) (sp_X2_isAhead _ hh ht) (fun S_93 h_93 => ?_)
      subst h_93
      refine x_if_eqB eX2_meetingInLine_96 (fun c_96 => ?_) (fun c_96 => ?_)
      · refine x_iload eX2_meetingInLine_104 rfl ?_
        refine x_istore (lv' := [_, _, _, _, _, _, _]) eX2_meetingInLine_106 (by decide) rfl ?_
        refine x_pick [0, 1, 6] rfl ?_
        refine j108 _ _ hu ?_
        first | (rw [colL_lt, if_pos c_96]; exact hh) | (rw [colL_lt, if_neg (by rw [c_96]; decide)]; exact ht)
      · refine x_iload eX2_meetingInLine_99 rfl ?_
        refine x_goto eX2_meetingInLine_101 ?_
        refine x_istore (lv' := [_, _, _, _, _, _, _]) eX2_meetingInLine_106 (by decide) rfl ?_
        refine x_pick [0, 1, 6] rfl ?_
        refine j108 _ _ hu ?_
        first | (rw [colL_lt, if_pos c_96]; exact hh) | (rw [colL_lt, if_neg (by rw [c_96]; decide)]; exact ht)
    refine x_aload_n eX2_meetingInLine_68 rfl ?_
    refine x_iload eX2_meetingInLine_69 rfl ?_
    refine x_iload eX2_meetingInLine_71 rfl ?_
    refine s_callV1 (As := [_, _]) eX2_meetingInLine_73 kX2_93 ⟨by decide, by decide⟩ rfl (by decide) (by decide) rfl rfl (Nat.le_of_ble_eq_true rfl) (Nat.le_of_ble_eq_true rfl) (sp_X2_isAhead _ hl hf) (fun S_73 h_73 => ?_)
    subst h_73
    refine x_if_eqB eX2_meetingInLine_76 (fun c_76 => ?_) (fun c_76 => ?_)
    · refine x_iload eX2_meetingInLine_84 rfl ?_
      refine x_istore (lv' := [_, _, _, _, _, _]) eX2_meetingInLine_86 (by decide) rfl ?_
      refine x_pick [0, 1, 2, 3, 4, 5] rfl ?_
      refine j88 _ ?_
      first | (rw [colF_lt, if_pos c_76]; exact hf) | (rw [colF_lt, if_neg (by rw [c_76]; decide)]; exact hl)
    · refine x_iload eX2_meetingInLine_79 rfl ?_
      refine x_goto eX2_meetingInLine_81 ?_
      refine x_istore (lv' := [_, _, _, _, _, _]) eX2_meetingInLine_86 (by decide) rfl ?_
      refine x_pick [0, 1, 2, 3, 4, 5] rfl ?_
      refine j88 _ ?_
      first | (rw [colF_lt, if_pos c_76]; exact hf) | (rw [colF_lt, if_neg (by rw [c_76]; decide)]; exact hl)
  have j32 : ∀ l h, cpt S l (mnP A B) → cpt S h (mxP A B) → XP mX2_meetingInLine 32 [(6, .int (nI h)), (5, .int (nI l)), (0, .ref 32), (1, .int (nI a)), (2, .int (nI b)), (3, .int (nI c)), (4, .int (nI d))] [] (xwS S) (sQ (fun r S' => r = some (.int (colP A B C D)) ∧ S' = S)) := by
    intro l h hl hh
    refine x_aload_n eX2_meetingInLine_32 rfl ?_
    refine x_iload_n eX2_meetingInLine_33 rfl ?_
    refine x_iload eX2_meetingInLine_34 rfl ?_
    refine s_callV1 (As := [_, _]) eX2_meetingInLine_36 kX2_93 ⟨by decide, by decide⟩ rfl (by decide) (by decide) rfl rfl (Nat.le_of_ble_eq_true rfl) (Nat.le_of_ble_eq_true rfl) (sp_X2_isAhead _ hc hd) (fun S_36 h_36 => ?_)
    subst h_36
    refine x_if_eqB eX2_meetingInLine_39 (fun c_39 => ?_) (fun c_39 => ?_)
    · refine x_iload eX2_meetingInLine_46 rfl ?_
      refine x_istore (lv' := [_, _, _, _, _, _, _, _]) eX2_meetingInLine_48 (by decide) rfl ?_
      refine x_aload_n eX2_meetingInLine_50 rfl ?_
      refine x_iload_n eX2_meetingInLine_51 rfl ?_
      refine x_iload eX2_meetingInLine_52 rfl ?_
      refine s_callV1 (As := [_, _]) eX2_meetingInLine_54 kX2_93 ⟨by decide, by decide⟩ rfl (by decide) (by decide) rfl rfl (Nat.le_of_ble_eq_true rfl) (Nat.le_of_ble_eq_true rfl) (sp_X2_isAhead _ hc hd) (fun S_54 h_54 => ?_)
      subst h_54
      refine x_if_eqB eX2_meetingInLine_57 (fun c_57 => ?_) (fun c_57 => ?_)
      · refine x_iload_n eX2_meetingInLine_65 rfl ?_
        refine x_istore (lv' := [_, _, _, _, _, _, _, _, _]) eX2_meetingInLine_66 (by decide) rfl ?_
        refine x_pick [0, 1, 2, 3, 4] rfl ?_
        first
          | (rw [c_39] at c_57; exact absurd c_57 (by decide))
          | (refine j68 _ _ _ _ hl hh ?_ ?_ <;> first | (rw [mnP_lt, if_pos c_39]; exact hc) | (rw [mnP_lt, if_neg (by rw [c_39]; decide)]; exact hd) | (rw [mxP_lt, if_pos c_39]; exact hd) | (rw [mxP_lt, if_neg (by rw [c_39]; decide)]; exact hc))
      · refine x_iload eX2_meetingInLine_60 rfl ?_
        refine x_goto eX2_meetingInLine_62 ?_
        refine x_istore (lv' := [_, _, _, _, _, _, _, _, _]) eX2_meetingInLine_66 (by decide) rfl ?_
        refine x_pick [0, 1, 2, 3, 4] rfl ?_
        first
          | (rw [c_39] at c_57; exact absurd c_57 (by decide))
          | (refine j68 _ _ _ _ hl hh ?_ ?_ <;> first | (rw [mnP_lt, if_pos c_39]; exact hc) | (rw [mnP_lt, if_neg (by rw [c_39]; decide)]; exact hd) | (rw [mxP_lt, if_pos c_39]; exact hd) | (rw [mxP_lt, if_neg (by rw [c_39]; decide)]; exact hc))
    · refine x_iload_n eX2_meetingInLine_42 rfl ?_
      refine x_goto eX2_meetingInLine_43 ?_
      refine x_istore (lv' := [_, _, _, _, _, _, _, _]) eX2_meetingInLine_48 (by decide) rfl ?_
      refine x_aload_n eX2_meetingInLine_50 rfl ?_
      refine x_iload_n eX2_meetingInLine_51 rfl ?_
      refine x_iload eX2_meetingInLine_52 rfl ?_
      refine s_callV1 (As := [_, _]) eX2_meetingInLine_54 kX2_93 ⟨by decide, by decide⟩ rfl (by decide) (by decide) rfl rfl (Nat.le_of_ble_eq_true rfl) (Nat.le_of_ble_eq_true rfl) (sp_X2_isAhead _ hc hd) (fun S_54 h_54 => ?_)
      subst h_54
      refine x_if_eqB eX2_meetingInLine_57 (fun c_57 => ?_) (fun c_57 => ?_)
      · refine x_iload_n eX2_meetingInLine_65 rfl ?_
        refine x_istore (lv' := [_, _, _, _, _, _, _, _, _]) eX2_meetingInLine_66 (by decide) rfl ?_
        refine x_pick [0, 1, 2, 3, 4] rfl ?_
        first
          | (rw [c_39] at c_57; exact absurd c_57 (by decide))
          | (refine j68 _ _ _ _ hl hh ?_ ?_ <;> first | (rw [mnP_lt, if_pos c_39]; exact hc) | (rw [mnP_lt, if_neg (by rw [c_39]; decide)]; exact hd) | (rw [mxP_lt, if_pos c_39]; exact hd) | (rw [mxP_lt, if_neg (by rw [c_39]; decide)]; exact hc))
      · refine x_iload eX2_meetingInLine_60 rfl ?_
        refine x_goto eX2_meetingInLine_62 ?_
        refine x_istore (lv' := [_, _, _, _, _, _, _, _, _]) eX2_meetingInLine_66 (by decide) rfl ?_
        refine x_pick [0, 1, 2, 3, 4] rfl ?_
        first
          | (rw [c_39] at c_57; exact absurd c_57 (by decide))
          | (refine j68 _ _ _ _ hl hh ?_ ?_ <;> first | (rw [mnP_lt, if_pos c_39]; exact hc) | (rw [mnP_lt, if_neg (by rw [c_39]; decide)]; exact hd) | (rw [mxP_lt, if_pos c_39]; exact hd) | (rw [mxP_lt, if_neg (by rw [c_39]; decide)]; exact hc))
  show XP _ _ [_, _, _, _, _] _ _ _
  refine x_aload_n eX2_meetingInLine_0 rfl ?_
  refine x_iload_n eX2_meetingInLine_1 rfl ?_
  refine x_iload_n eX2_meetingInLine_2 rfl ?_
  refine s_callV1 (As := [_, _]) eX2_meetingInLine_3 kX2_93 ⟨by decide, by decide⟩ rfl (by decide) (by decide) rfl rfl (Nat.le_of_ble_eq_true rfl) (Nat.le_of_ble_eq_true rfl) (sp_X2_isAhead _ ha hb) (fun S_3 h_3 => ?_)
  subst h_3
  refine x_if_eqB eX2_meetingInLine_6 (fun c_6 => ?_) (fun c_6 => ?_)
  · refine x_iload_n eX2_meetingInLine_13 rfl ?_
    refine x_istore (lv' := [_, _, _, _, _, _]) eX2_meetingInLine_14 (by decide) rfl ?_
    refine x_aload_n eX2_meetingInLine_16 rfl ?_
    refine x_iload_n eX2_meetingInLine_17 rfl ?_
    refine x_iload_n eX2_meetingInLine_18 rfl ?_
    refine s_callV1 (As := [_, _]) eX2_meetingInLine_19 kX2_93 ⟨by decide, by decide⟩ rfl (by decide) (by decide) rfl rfl (Nat.le_of_ble_eq_true rfl) (Nat.le_of_ble_eq_true rfl) (sp_X2_isAhead _ ha hb) (fun S_19 h_19 => ?_)
    subst h_19
    refine x_if_eqB eX2_meetingInLine_22 (fun c_22 => ?_) (fun c_22 => ?_)
    · refine x_iload_n eX2_meetingInLine_29 rfl ?_
      refine x_istore (lv' := [_, _, _, _, _, _, _]) eX2_meetingInLine_30 (by decide) rfl ?_
      refine x_pick [0, 1, 2, 3, 4, 5, 6] rfl ?_
      first
        | (rw [c_6] at c_22; exact absurd c_22 (by decide))
        | (refine j32 _ _ ?_ ?_ <;> first | (rw [mnP_lt, if_pos c_6]; exact ha) | (rw [mnP_lt, if_neg (by rw [c_6]; decide)]; exact hb) | (rw [mxP_lt, if_pos c_6]; exact hb) | (rw [mxP_lt, if_neg (by rw [c_6]; decide)]; exact ha))
    · refine x_iload_n eX2_meetingInLine_25 rfl ?_
      refine x_goto eX2_meetingInLine_26 ?_
      refine x_istore (lv' := [_, _, _, _, _, _, _]) eX2_meetingInLine_30 (by decide) rfl ?_
      refine x_pick [0, 1, 2, 3, 4, 5, 6] rfl ?_
      first
        | (rw [c_6] at c_22; exact absurd c_22 (by decide))
        | (refine j32 _ _ ?_ ?_ <;> first | (rw [mnP_lt, if_pos c_6]; exact ha) | (rw [mnP_lt, if_neg (by rw [c_6]; decide)]; exact hb) | (rw [mxP_lt, if_pos c_6]; exact hb) | (rw [mxP_lt, if_neg (by rw [c_6]; decide)]; exact ha))
  · refine x_iload_n eX2_meetingInLine_9 rfl ?_
    refine x_goto eX2_meetingInLine_10 ?_
    refine x_istore (lv' := [_, _, _, _, _, _]) eX2_meetingInLine_14 (by decide) rfl ?_
    refine x_aload_n eX2_meetingInLine_16 rfl ?_
    refine x_iload_n eX2_meetingInLine_17 rfl ?_
    refine x_iload_n eX2_meetingInLine_18 rfl ?_
    refine s_callV1 (As := [_, _]) eX2_meetingInLine_19 kX2_93 ⟨by decide, by decide⟩ rfl (by decide) (by decide) rfl rfl (Nat.le_of_ble_eq_true rfl) (Nat.le_of_ble_eq_true rfl) (sp_X2_isAhead _ ha hb) (fun S_19 h_19 => ?_)
    subst h_19
    refine x_if_eqB eX2_meetingInLine_22 (fun c_22 => ?_) (fun c_22 => ?_)
    · refine x_iload_n eX2_meetingInLine_29 rfl ?_
      refine x_istore (lv' := [_, _, _, _, _, _, _]) eX2_meetingInLine_30 (by decide) rfl ?_
      refine x_pick [0, 1, 2, 3, 4, 5, 6] rfl ?_
      first
        | (rw [c_6] at c_22; exact absurd c_22 (by decide))
        | (refine j32 _ _ ?_ ?_ <;> first | (rw [mnP_lt, if_pos c_6]; exact ha) | (rw [mnP_lt, if_neg (by rw [c_6]; decide)]; exact hb) | (rw [mxP_lt, if_pos c_6]; exact hb) | (rw [mxP_lt, if_neg (by rw [c_6]; decide)]; exact ha))
    · refine x_iload_n eX2_meetingInLine_25 rfl ?_
      refine x_goto eX2_meetingInLine_26 ?_
      refine x_istore (lv' := [_, _, _, _, _, _, _]) eX2_meetingInLine_30 (by decide) rfl ?_
      refine x_pick [0, 1, 2, 3, 4, 5, 6] rfl ?_
      first
        | (rw [c_6] at c_22; exact absurd c_22 (by decide))
        | (refine j32 _ _ ?_ ?_ <;> first | (rw [mnP_lt, if_pos c_6]; exact ha) | (rw [mnP_lt, if_neg (by rw [c_6]; decide)]; exact hb) | (rw [mxP_lt, if_pos c_6]; exact hb) | (rw [mxP_lt, if_neg (by rw [c_6]; decide)]; exact ha))
/-- what two segments have in common: the class's way to tell it -/
def metP (a b c d : Pt) : Int32 := if spZ a.1 b.1 c.1 d.1 = false ∨ spZ a.2 b.2 c.2 d.2 = false then 0 else if sg (orP a b c) = 0 ∧ sg (orP a b d) = 0 then colP a b c d else if 0 < sg (orP a b c) * sg (orP a b d) then 0 else if 0 < sg (orP c d a) * sg (orP c d b) then 0 else if sg (orP a b c) * sg (orP a b d) < 0 ∧ sg (orP c d a) * sg (orP c d b) < 0 then 1 else 2
theorem sp_X2_meeting (S : xS) {a b c d : Nat} {A B C D : Pt} (ha : cpt S a A) (hb : cpt S b B) (hc : cpt S c C) (hd : cpt S d D) : Sp mX2_meeting [.ref 32, .int (nI a), .int (nI b), .int (nI c), .int (nI d)] S (fun r S' => r = some (.int (metP A B C D)) ∧ Lx [364] S S') := by
  have j105 : ∀ S1, Lx [364] S S1 → spZ A.1 B.1 C.1 D.1 = true → spZ A.2 B.2 C.2 D.2 = true → ¬ (sg (orP A B C) = 0 ∧ sg (orP A B D) = 0) → ¬ 0 < sg (orP A B C) * sg (orP A B D) → XP mX2_meeting 105 [(6, .int (sg (orP A B D))), (5, .int (sg (orP A B C))), (0, .ref 32), (1, .int (nI a)), (2, .int (nI b)), (3, .int (nI c)), (4, .int (nI d))] [] (xwS S1) (sQ (fun r S' => r = some (.int (metP A B C D)) ∧ Lx [364] S S')) := by
    intro S1 hx q1 q2 q3 q4
    have ha := ha.mv hx (by decide)
    have hb := hb.mv hx (by decide)
    have hc := hc.mv hx (by decide)
    have hd := hd.mv hx (by decide)
    have e0 : ¬ (spZ A.1 B.1 C.1 D.1 = false ∨ spZ A.2 B.2 C.2 D.2 = false) := by rw [q1, q2]; decide
    refine x_aload_n eX2_meeting_105 rfl ?_
    refine x_iload_n eX2_meeting_106 rfl ?_
    refine x_iload eX2_meeting_107 rfl ?_
    refine x_iload_n eX2_meeting_109 rfl ?_
    refine s_callV1 (As := [_, _, _]) eX2_meeting_110 kX2_86 ⟨by decide, by decide⟩ rfl (by decide) (by decide) rfl rfl (Nat.le_of_ble_eq_true rfl) (Nat.le_of_ble_eq_true rfl) (sp_X2_turn S1 hc hd ha) (fun S_110 h_110 => ?_)
    refine x_istore (lv' := [_, _, _, _, _, _, _, _]) eX2_meeting_113 (by decide) rfl ?_
    refine x_aload_n eX2_meeting_115 rfl ?_
    refine x_iload_n eX2_meeting_116 rfl ?_
    refine x_iload eX2_meeting_117 rfl ?_
    refine x_iload_n eX2_meeting_119 rfl ?_
    refine s_callV1 (As := [_, _, _]) eX2_meeting_120 kX2_86 ⟨by decide, by decide⟩ rfl (by decide) (by decide) rfl rfl (Nat.le_of_ble_eq_true rfl) (Nat.le_of_ble_eq_true rfl) (sp_X2_turn S_110 (hc.mv h_110 (by decide)) (hd.mv h_110 (by decide)) (hb.mv h_110 (by decide))) (fun S_120 h_120 => ?_)
    have hx2 := (hx.tr h_110).tr h_120
    refine x_istore (lv' := [_, _, _, _, _, _, _, _, _]) eX2_meeting_123 (by decide) rfl ?_
    refine x_iload eX2_meeting_125 rfl ?_
    refine x_iload eX2_meeting_127 rfl ?_
    refine x_imul eX2_meeting_129 ?_
    refine x_if_le eX2_meeting_130 (fun c_130 => ?_) (fun c_130 => ?_)
    · refine x_iload eX2_meeting_135 rfl ?_
      refine x_iload eX2_meeting_137 rfl ?_
      refine x_imul eX2_meeting_139 ?_
      refine x_if_ge eX2_meeting_140 (fun c_140 => ?_) (fun c_140 => ?_)
      · refine x_iconst (v := nI 2) eX2_meeting_155 (by decide) ?_
        refine s_iret eX2_meeting_156 rfl rfl ⟨?_, hx2⟩
        unfold metP
        rw [if_neg e0, if_neg q3, if_neg q4, if_neg (Int32.not_lt.mpr c_130)]
        first
          | (rw [if_pos ⟨Int32.not_le.mp c_140, Int32.not_le.mp c_148⟩]; rfl)
          | (rw [if_neg (fun h => absurd h.1 (Int32.not_lt.mpr c_140))]; rfl)
          | (rw [if_neg (fun h => absurd h.2 (Int32.not_lt.mpr c_148))]; rfl)
      · refine x_iload eX2_meeting_143 rfl ?_
        refine x_iload eX2_meeting_145 rfl ?_
        refine x_imul eX2_meeting_147 ?_
        refine x_if_ge eX2_meeting_148 (fun c_148 => ?_) (fun c_148 => ?_)
        · refine x_iconst (v := nI 2) eX2_meeting_155 (by decide) ?_
          refine s_iret eX2_meeting_156 rfl rfl ⟨?_, hx2⟩
          unfold metP
          rw [if_neg e0, if_neg q3, if_neg q4, if_neg (Int32.not_lt.mpr c_130)]
          first
            | (rw [if_pos ⟨Int32.not_le.mp c_140, Int32.not_le.mp c_148⟩]; rfl)
            | (rw [if_neg (fun h => absurd h.1 (Int32.not_lt.mpr c_140))]; rfl)
            | (rw [if_neg (fun h => absurd h.2 (Int32.not_lt.mpr c_148))]; rfl)
        · refine x_iconst (v := nI 1) eX2_meeting_151 (by decide) ?_
          refine x_goto eX2_meeting_152 ?_
          refine s_iret eX2_meeting_156 rfl rfl ⟨?_, hx2⟩
          unfold metP
          rw [if_neg e0, if_neg q3, if_neg q4, if_neg (Int32.not_lt.mpr c_130)]
          first
            | (rw [if_pos ⟨Int32.not_le.mp c_140, Int32.not_le.mp c_148⟩]; rfl)
            | (rw [if_neg (fun h => absurd h.1 (Int32.not_lt.mpr c_140))]; rfl)
            | (rw [if_neg (fun h => absurd h.2 (Int32.not_lt.mpr c_148))]; rfl)
    · refine x_iconst (v := nI 0) eX2_meeting_133 (by decide) ?_
      refine s_iret eX2_meeting_134 rfl rfl ⟨?_, hx2⟩
      unfold metP
      rw [if_neg e0, if_neg q3, if_neg q4, if_pos (Int32.not_le.mp c_130)]
      rfl
  show XP _ _ [_, _, _, _, _] _ _ _
  refine x_aload_n eX2_meeting_0 rfl ?_
  refine x_iload_n eX2_meeting_1 rfl ?_
  refine s_callV1 (As := [_]) eX2_meeting_2 kX2_55 ⟨by decide, by decide⟩ rfl (by decide) (by decide) rfl rfl (Nat.le_of_ble_eq_true rfl) (Nat.le_of_ble_eq_true rfl) (sp_X2_x _ ha.1) (fun S_2 h_2 => ?_)
  subst h_2
  refine x_aload_n eX2_meeting_5 rfl ?_
  refine x_iload_n eX2_meeting_6 rfl ?_
  refine s_callV1 (As := [_]) eX2_meeting_7 kX2_55 ⟨by decide, by decide⟩ rfl (by decide) (by decide) rfl rfl (Nat.le_of_ble_eq_true rfl) (Nat.le_of_ble_eq_true rfl) (sp_X2_x _ hb.1) (fun S_7 h_7 => ?_)
  subst h_7
  refine x_aload_n eX2_meeting_10 rfl ?_
  refine x_iload_n eX2_meeting_11 rfl ?_
  refine s_callV1 (As := [_]) eX2_meeting_12 kX2_55 ⟨by decide, by decide⟩ rfl (by decide) (by decide) rfl rfl (Nat.le_of_ble_eq_true rfl) (Nat.le_of_ble_eq_true rfl) (sp_X2_x _ hc.1) (fun S_12 h_12 => ?_)
  subst h_12
  refine x_aload_n eX2_meeting_15 rfl ?_
  refine x_iload eX2_meeting_16 rfl ?_
  refine s_callV1 (As := [_]) eX2_meeting_18 kX2_55 ⟨by decide, by decide⟩ rfl (by decide) (by decide) rfl rfl (Nat.le_of_ble_eq_true rfl) (Nat.le_of_ble_eq_true rfl) (sp_X2_x _ hd.1) (fun S_18 h_18 => ?_)
  subst h_18
  refine s_callS1 (As := [_, _, _, _]) eX2_meeting_21 kX2_82 ⟨by decide, by decide⟩ rfl rfl (Nat.le_of_ble_eq_true rfl) (Nat.le_of_ble_eq_true rfl) (sp_X2_spansMeet _ ha.2.1 hb.2.1 hc.2.1 hd.2.1) (fun S_21 h_21 => ?_)
  subst h_21
  refine x_if_eqB eX2_meeting_24 (fun c_24 => ?_) (fun c_24 => ?_)
  · refine x_iconst (v := nI 0) eX2_meeting_54 (by decide) ?_
    refine s_iret eX2_meeting_55 rfl rfl ⟨?_, Lx.rf _ _⟩
    unfold metP
    first
      | (rw [if_pos (Or.inl c_24)]; rfl)
      | (rw [if_pos (Or.inr c_51)]; rfl)
  · refine x_aload_n eX2_meeting_27 rfl ?_
    refine x_iload_n eX2_meeting_28 rfl ?_
    refine s_callV1 (As := [_]) eX2_meeting_29 kX2_59 ⟨by decide, by decide⟩ rfl (by decide) (by decide) rfl rfl (Nat.le_of_ble_eq_true rfl) (Nat.le_of_ble_eq_true rfl) (sp_X2_y _ ha.1) (fun S_29 h_29 => ?_)
    subst h_29
    refine x_aload_n eX2_meeting_32 rfl ?_
    refine x_iload_n eX2_meeting_33 rfl ?_
    refine s_callV1 (As := [_]) eX2_meeting_34 kX2_59 ⟨by decide, by decide⟩ rfl (by decide) (by decide) rfl rfl (Nat.le_of_ble_eq_true rfl) (Nat.le_of_ble_eq_true rfl) (sp_X2_y _ hb.1) (fun S_34 h_34 => ?_)
    subst h_34
    refine x_aload_n eX2_meeting_37 rfl ?_
    refine x_iload_n eX2_meeting_38 rfl ?_
    refine s_callV1 (As := [_]) eX2_meeting_39 kX2_59 ⟨by decide, by decide⟩ rfl (by decide) (by decide) rfl rfl (Nat.le_of_ble_eq_true rfl) (Nat.le_of_ble_eq_true rfl) (sp_X2_y _ hc.1) (fun S_39 h_39 => ?_)
    subst h_39
    refine x_aload_n eX2_meeting_42 rfl ?_
    refine x_iload eX2_meeting_43 rfl ?_
    refine s_callV1 (As := [_]) eX2_meeting_45 kX2_59 ⟨by decide, by decide⟩ rfl (by decide) (by decide) rfl rfl (Nat.le_of_ble_eq_true rfl) (Nat.le_of_ble_eq_true rfl) (sp_X2_y _ hd.1) (fun S_45 h_45 => ?_)
    subst h_45
    refine s_callS1 (As := [_, _, _, _]) eX2_meeting_48 kX2_82 ⟨by decide, by decide⟩ rfl rfl (Nat.le_of_ble_eq_true rfl) (Nat.le_of_ble_eq_true rfl) (sp_X2_spansMeet _ ha.2.2.1 hb.2.2.1 hc.2.2.1 hd.2.2.1) (fun S_48 h_48 => ?_)
    subst h_48
    refine x_if_neB eX2_meeting_51 (fun c_51 => ?_) (fun c_51 => ?_)
    · refine x_aload_n eX2_meeting_56 rfl ?_
      refine x_iload_n eX2_meeting_57 rfl ?_
      refine x_iload_n eX2_meeting_58 rfl ?_
      refine x_iload_n eX2_meeting_59 rfl ?_
      refine s_callV1 (As := [_, _, _]) eX2_meeting_60 kX2_86 ⟨by decide, by decide⟩ rfl (by decide) (by decide) rfl rfl (Nat.le_of_ble_eq_true rfl) (Nat.le_of_ble_eq_true rfl) (sp_X2_turn _ ha hb hc) (fun S_60 h_60 => ?_)
      refine x_istore (lv' := [_, _, _, _, _, _]) eX2_meeting_63 (by decide) rfl ?_
      refine x_aload_n eX2_meeting_65 rfl ?_
      refine x_iload_n eX2_meeting_66 rfl ?_
      refine x_iload_n eX2_meeting_67 rfl ?_
      refine x_iload eX2_meeting_68 rfl ?_
      refine s_callV1 (As := [_, _, _]) eX2_meeting_70 kX2_86 ⟨by decide, by decide⟩ rfl (by decide) (by decide) rfl rfl (Nat.le_of_ble_eq_true rfl) (Nat.le_of_ble_eq_true rfl) (sp_X2_turn S_60 (ha.mv h_60 (by decide)) (hb.mv h_60 (by decide)) (hd.mv h_60 (by decide))) (fun S_70 h_70 => ?_)
      have hx := h_60.tr h_70
      have e0 : ¬ (spZ A.1 B.1 C.1 D.1 = false ∨ spZ A.2 B.2 C.2 D.2 = false) := by rw [c_24, c_51]; decide
      refine x_istore (lv' := [_, _, _, _, _, _, _]) eX2_meeting_73 (by decide) rfl ?_
      refine x_iload eX2_meeting_75 rfl ?_
      refine x_if_ne eX2_meeting_77 (fun c_77 => ?_) (fun c_77 => ?_)
      · have q3 : ¬ (sg (orP A B C) = 0 ∧ sg (orP A B D) = 0) := by
          intro h
          first
            | exact c_77 h.1
            | exact c_82 h.2
        refine x_iload eX2_meeting_95 rfl ?_
        refine x_iload eX2_meeting_97 rfl ?_
        refine x_imul eX2_meeting_99 ?_
        refine x_if_le eX2_meeting_100 (fun c_100 => ?_) (fun c_100 => ?_)
        · exact j105 _ hx c_24 c_51 q3 (Int32.not_lt.mpr c_100)
        · refine x_iconst (v := nI 0) eX2_meeting_103 (by decide) ?_
          refine s_iret eX2_meeting_104 rfl rfl ⟨?_, hx⟩
          unfold metP
          rw [if_neg e0, if_neg q3, if_pos (Int32.not_le.mp c_100)]
          rfl
      · refine x_iload eX2_meeting_80 rfl ?_
        refine x_if_ne eX2_meeting_82 (fun c_82 => ?_) (fun c_82 => ?_)
        · have q3 : ¬ (sg (orP A B C) = 0 ∧ sg (orP A B D) = 0) := by
            intro h
            first
              | exact c_77 h.1
              | exact c_82 h.2
          refine x_iload eX2_meeting_95 rfl ?_
          refine x_iload eX2_meeting_97 rfl ?_
          refine x_imul eX2_meeting_99 ?_
          refine x_if_le eX2_meeting_100 (fun c_100 => ?_) (fun c_100 => ?_)
          · exact j105 _ hx c_24 c_51 q3 (Int32.not_lt.mpr c_100)
          · refine x_iconst (v := nI 0) eX2_meeting_103 (by decide) ?_
            refine s_iret eX2_meeting_104 rfl rfl ⟨?_, hx⟩
            unfold metP
            rw [if_neg e0, if_neg q3, if_pos (Int32.not_le.mp c_100)]
            rfl
        · refine x_aload_n eX2_meeting_85 rfl ?_
          refine x_iload_n eX2_meeting_86 rfl ?_
          refine x_iload_n eX2_meeting_87 rfl ?_
          refine x_iload_n eX2_meeting_88 rfl ?_
          refine x_iload eX2_meeting_89 rfl ?_
          refine s_callV1 (As := [_, _, _, _]) eX2_meeting_91 kX2_89 ⟨by decide, by decide⟩ rfl (by decide) (by decide) rfl rfl (Nat.le_of_ble_eq_true rfl) (Nat.le_of_ble_eq_true rfl) (sp_X2_meetingInLine S_70 (ha.mv hx (by decide)) (hb.mv hx (by decide)) (hc.mv hx (by decide)) (hd.mv hx (by decide))) (fun S_91 h_91 => ?_)
          subst h_91
          refine s_iret eX2_meeting_94 rfl rfl ⟨?_, hx⟩
          unfold metP
          rw [if_neg e0, if_pos ⟨c_77, c_82⟩]
    · refine x_iconst (v := nI 0) eX2_meeting_54 (by decide) ?_
      refine s_iret eX2_meeting_55 rfl rfl ⟨?_, Lx.rf _ _⟩
      unfold metP
      first
        | (rw [if_pos (Or.inl c_24)]; rfl)
        | (rw [if_pos (Or.inr c_51)]; rfl)
/-- the class's way to tell whether v lies on the segment a b -/
def onQ (v a b : Pt) : Bool := spZ v.1 v.1 a.1 b.1 && spZ v.2 v.2 a.2 b.2 && decide (sg (orP a b v) = 0)
theorem sp_X2_isOn (S : xS) {v a b : Nat} {V A B : Pt} (hv : cpt S v V) (ha : cpt S a A) (hb : cpt S b B) : Sp mX2_isOn [.ref 32, .int (nI v), .int (nI a), .int (nI b)] S (fun r S' => r = some (.int (bI (onQ V A B))) ∧ Lx [364] S S') := by
  show XP _ _ [_, _, _, _] _ _ _
  refine x_aload_n eX2_isOn_0 rfl ?_
  refine x_iload_n eX2_isOn_1 rfl ?_
  refine s_callV1 (As := [_]) eX2_isOn_2 kX2_55 ⟨by decide, by decide⟩ rfl (by decide) (by decide) rfl rfl (Nat.le_of_ble_eq_true rfl) (Nat.le_of_ble_eq_true rfl) (sp_X2_x _ hv.1) (fun S_2 h_2 => ?_)
  subst h_2
  refine x_aload_n eX2_isOn_5 rfl ?_
  refine x_iload_n eX2_isOn_6 rfl ?_
  refine s_callV1 (As := [_]) eX2_isOn_7 kX2_55 ⟨by decide, by decide⟩ rfl (by decide) (by decide) rfl rfl (Nat.le_of_ble_eq_true rfl) (Nat.le_of_ble_eq_true rfl) (sp_X2_x _ hv.1) (fun S_7 h_7 => ?_)
  subst h_7
  refine x_aload_n eX2_isOn_10 rfl ?_
  refine x_iload_n eX2_isOn_11 rfl ?_
  refine s_callV1 (As := [_]) eX2_isOn_12 kX2_55 ⟨by decide, by decide⟩ rfl (by decide) (by decide) rfl rfl (Nat.le_of_ble_eq_true rfl) (Nat.le_of_ble_eq_true rfl) (sp_X2_x _ ha.1) (fun S_12 h_12 => ?_)
  subst h_12
  refine x_aload_n eX2_isOn_15 rfl ?_
  refine x_iload_n eX2_isOn_16 rfl ?_
  refine s_callV1 (As := [_]) eX2_isOn_17 kX2_55 ⟨by decide, by decide⟩ rfl (by decide) (by decide) rfl rfl (Nat.le_of_ble_eq_true rfl) (Nat.le_of_ble_eq_true rfl) (sp_X2_x _ hb.1) (fun S_17 h_17 => ?_)
  subst h_17
  refine s_callS1 (As := [_, _, _, _]) eX2_isOn_20 kX2_82 ⟨by decide, by decide⟩ rfl rfl (Nat.le_of_ble_eq_true rfl) (Nat.le_of_ble_eq_true rfl) (sp_X2_spansMeet _ hv.2.1 hv.2.1 ha.2.1 hb.2.1) (fun S_20 h_20 => ?_)
  subst h_20
  refine x_if_eqB eX2_isOn_23 (fun c_23 => ?_) (fun c_23 => ?_)
  · refine x_iconst (v := nI 0) eX2_isOn_66 (by decide) ?_
    first
      | (refine s_iret eX2_isOn_67 rfl rfl ⟨?_, h_56⟩; unfold onQ; rw [c_23, c_49]; first | (rw [decide_eq_false c_59]; rfl) | (rw [decide_eq_true c_59]; rfl))
      | (refine s_iret eX2_isOn_67 rfl rfl ⟨?_, Lx.rf _ _⟩; unfold onQ; first | (rw [c_23, c_49]; rfl) | (rw [c_23]; rfl))
  · refine x_aload_n eX2_isOn_26 rfl ?_
    refine x_iload_n eX2_isOn_27 rfl ?_
    refine s_callV1 (As := [_]) eX2_isOn_28 kX2_59 ⟨by decide, by decide⟩ rfl (by decide) (by decide) rfl rfl (Nat.le_of_ble_eq_true rfl) (Nat.le_of_ble_eq_true rfl) (sp_X2_y _ hv.1) (fun S_28 h_28 => ?_)
    subst h_28
    refine x_aload_n eX2_isOn_31 rfl ?_
    refine x_iload_n eX2_isOn_32 rfl ?_
    refine s_callV1 (As := [_]) eX2_isOn_33 kX2_59 ⟨by decide, by decide⟩ rfl (by decide) (by decide) rfl rfl (Nat.le_of_ble_eq_true rfl) (Nat.le_of_ble_eq_true rfl) (sp_X2_y _ hv.1) (fun S_33 h_33 => ?_)
    subst h_33
    refine x_aload_n eX2_isOn_36 rfl ?_
    refine x_iload_n eX2_isOn_37 rfl ?_
    refine s_callV1 (As := [_]) eX2_isOn_38 kX2_59 ⟨by decide, by decide⟩ rfl (by decide) (by decide) rfl rfl (Nat.le_of_ble_eq_true rfl) (Nat.le_of_ble_eq_true rfl) (sp_X2_y _ ha.1) (fun S_38 h_38 => ?_)
    subst h_38
    refine x_aload_n eX2_isOn_41 rfl ?_
    refine x_iload_n eX2_isOn_42 rfl ?_
    refine s_callV1 (As := [_]) eX2_isOn_43 kX2_59 ⟨by decide, by decide⟩ rfl (by decide) (by decide) rfl rfl (Nat.le_of_ble_eq_true rfl) (Nat.le_of_ble_eq_true rfl) (sp_X2_y _ hb.1) (fun S_43 h_43 => ?_)
    subst h_43
    refine s_callS1 (As := [_, _, _, _]) eX2_isOn_46 kX2_82 ⟨by decide, by decide⟩ rfl rfl (Nat.le_of_ble_eq_true rfl) (Nat.le_of_ble_eq_true rfl) (sp_X2_spansMeet _ hv.2.2.1 hv.2.2.1 ha.2.2.1 hb.2.2.1) (fun S_46 h_46 => ?_)
    subst h_46
    refine x_if_eqB eX2_isOn_49 (fun c_49 => ?_) (fun c_49 => ?_)
    · refine x_iconst (v := nI 0) eX2_isOn_66 (by decide) ?_
      first
        | (refine s_iret eX2_isOn_67 rfl rfl ⟨?_, h_56⟩; unfold onQ; rw [c_23, c_49]; first | (rw [decide_eq_false c_59]; rfl) | (rw [decide_eq_true c_59]; rfl))
        | (refine s_iret eX2_isOn_67 rfl rfl ⟨?_, Lx.rf _ _⟩; unfold onQ; first | (rw [c_23, c_49]; rfl) | (rw [c_23]; rfl))
    · refine x_aload_n eX2_isOn_52 rfl ?_
      refine x_iload_n eX2_isOn_53 rfl ?_
      refine x_iload_n eX2_isOn_54 rfl ?_
      refine x_iload_n eX2_isOn_55 rfl ?_
      refine s_callV1 (As := [_, _, _]) eX2_isOn_56 kX2_86 ⟨by decide, by decide⟩ rfl (by decide) (by decide) rfl rfl (Nat.le_of_ble_eq_true rfl) (Nat.le_of_ble_eq_true rfl) (sp_X2_turn _ ha hb hv) (fun S_56 h_56 => ?_)
      refine x_if_ne eX2_isOn_59 (fun c_59 => ?_) (fun c_59 => ?_)
      · refine x_iconst (v := nI 0) eX2_isOn_66 (by decide) ?_
        first
          | (refine s_iret eX2_isOn_67 rfl rfl ⟨?_, h_56⟩; unfold onQ; rw [c_23, c_49]; first | (rw [decide_eq_false c_59]; rfl) | (rw [decide_eq_true c_59]; rfl))
          | (refine s_iret eX2_isOn_67 rfl rfl ⟨?_, Lx.rf _ _⟩; unfold onQ; first | (rw [c_23, c_49]; rfl) | (rw [c_23]; rfl))
      · refine x_iconst (v := nI 1) eX2_isOn_62 (by decide) ?_
        refine x_goto eX2_isOn_63 ?_
        first
          | (refine s_iret eX2_isOn_67 rfl rfl ⟨?_, h_56⟩; unfold onQ; rw [c_23, c_49]; first | (rw [decide_eq_false c_59]; rfl) | (rw [decide_eq_true c_59]; rfl))
          | (refine s_iret eX2_isOn_67 rfl rfl ⟨?_, Lx.rf _ _⟩; unfold onQ; first | (rw [c_23, c_49]; rfl) | (rw [c_23]; rfl))
