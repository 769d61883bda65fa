def mnP (a b : Pt) : Pt := if ahP a b < 0 then a else b
def mxP (a b : Pt) : Pt := if ahP a b < 0 then b else a
def colF (a b c d : Pt) : Pt := if ahP (mnP a b) (mnP c d) < 0 then mnP c d else mnP a b
def colL (a b c d : Pt) : Pt := if ahP (mxP a b) (mxP c d) < 0 then mxP a b else mxP c d
def colP (a b c d : Pt) : Int32 := if ahP (colF a b c d) (colL a b c d) < 0 then 3 else if ahP (colF a b c d) (colL a b c d) = 0 then 2 else 0
def tchP (a b c d : Pt) : Bool := onP a b c || onP a b d || onP c d a || onP c d b
/-- what two segments have in common: the reference's way to tell it -/
def comP (a b c d : Pt) : Int32 := if sg (orP a b c) = 0 ∧ sg (orP a b d) = 0 then colP a b c d else if sg (orP a b c) * sg (orP a b d) < 0 ∧ sg (orP c d a) * sg (orP c d b) < 0 then 1 else if tchP a b c d = true then 2 else 0
theorem x_keep0 {M : xM} {pc : Nat} {lv : List (Nat × Value)} {st : List Value} {w : xW} {Q : Option Value → xW → Prop} {v : Value} (h : xget lv 0 = some v) (k : XP M pc [(0, v)] st w Q) : XP M pc lv st w Q := by
  obtain ⟨j, hj⟩ := List.getElem?_of_mem (xget_mem h)
  exact x_pick [j] (by unfold lv_pick; simp [hj]) k
theorem sp_X9_common (S : xS) {a b c d : Nat} {A B C D : Pt} (ha : pt S a A) (hb : pt S b B) (hc : pt S c C) (hd : pt S d D) (hab : a ≠ b) (hcd : c ≠ d) : Sp mX9_common [.ref 0, .int (nI a), .int (nI b), .int (nI c), .int (nI d)] S (fun r S' => r = some (.int (comP A B C D)) ∧ Lx [5, 6, 7] S S') := by
  have la := ha.2.2.2.2
  have lb := hb.2.2.2.2
  have lc := hc.2.2.2.2
  have ld := hd.2.2.2.2
  have j130 : ∀ S1, Lx [5, 6, 7] S S1 → (sg (orP A B C) = 0 ∧ sg (orP A B D) = 0) → ∀ f l, pt S1 f (colF A B C D) → pt S1 l (colL A B C D) → XP mX9_common 130 [(12, .int (nI l)), (11, .int (nI f)), (0, .ref 0)] [] (xwS S1) (sQ (fun r S' => r = some (.int (comP A B C D)) ∧ Lx [5, 6, 7] S S')) := by
    intro S1 hx h0 f l hf hl
    refine x_aload_n eX9_common_130 rfl ?_
    refine x_iload eX9_common_131 rfl ?_
    refine x_iload eX9_common_133 rfl ?_
    refine s_callV1 (As := [_, _]) eX9_common_135 kX9_158 ⟨by decide, by decide⟩ rfl (by decide) (by decide) rfl rfl (Nat.le_of_ble_eq_true rfl) (Nat.le_of_ble_eq_true rfl) (sp_X9_ahead S1 hf hl) (fun S_135 h_135 => ?_)
    subst h_135
    refine x_istore (lv' := [_, _, _, _]) eX9_common_138 (by decide) rfl ?_
    refine x_iload eX9_common_140 rfl ?_
    refine x_if_ge eX9_common_142 (fun c_142 => ?_) (fun c_142 => ?_)
    · refine x_iload eX9_common_149 rfl ?_
      refine x_if_ne eX9_common_151 (fun c_151 => ?_) (fun c_151 => ?_)
      · refine x_iconst (v := nI 0) eX9_common_158 (by decide) ?_
        refine s_iret eX9_common_159 rfl rfl ⟨?_, hx⟩
        unfold comP colP
        rw [if_pos h0]
        first
          | (rw [if_neg (Int32.not_lt.mpr c_142), if_neg c_151]; rfl)
          | (rw [if_neg (Int32.not_lt.mpr c_142), if_pos c_151]; rfl)
          | (rw [if_pos (Int32.not_le.mp c_142)]; rfl)
      · refine x_iconst (v := nI 2) eX9_common_154 (by decide) ?_
        refine x_goto eX9_common_155 ?_
        refine s_iret eX9_common_159 rfl rfl ⟨?_, hx⟩
        unfold comP colP
        rw [if_pos h0]
        first
          | (rw [if_neg (Int32.not_lt.mpr c_142), if_neg c_151]; rfl)
          | (rw [if_neg (Int32.not_lt.mpr c_142), if_pos c_151]; rfl)
          | (rw [if_pos (Int32.not_le.mp c_142)]; rfl)
    · refine x_iconst (v := nI 3) eX9_common_145 (by decide) ?_
      refine x_goto eX9_common_146 ?_
      refine s_iret eX9_common_159 rfl rfl ⟨?_, hx⟩
      unfold comP colP
      rw [if_pos h0]
      first
        | (rw [if_neg (Int32.not_lt.mpr c_142), if_neg c_151]; rfl)
        | (rw [if_neg (Int32.not_lt.mpr c_142), if_pos c_151]; rfl)
        | (rw [if_pos (Int32.not_le.mp c_142)]; rfl)
  have j90 : ∀ S1, Lx [5, 6, 7] S S1 → (sg (orP A B C) = 0 ∧ sg (orP A B D) = 0) → ∀ l h f t, pt S1 l (mnP A B) → pt S1 h (mxP A B) → pt S1 f (mnP C D) → pt S1 t (mxP C D) → XP mX9_common 90 [(10, .int (nI t)), (9, .int (nI f)), (8, .int (nI h)), (7, .int (nI l)), (0, .ref 0)] [] (xwS S1) (sQ (fun r S' => r = some (.int (comP A B C D)) ∧ Lx [5, 6, 7] S S')) := by
    intro S1 hx h0 l h f t hl hh hf ht
    have j110 : ∀ u, pt S1 u (colF A B C D) → XP mX9_common 110 [(11, .int (nI u)), (10, .int (nI t)), (9, .int (nI f)), (8, .int (nI h)), (7, .int (nI l)), (0, .ref 0)] [] (xwS S1) (sQ (fun r S' => r = some (.int (comP A B C D)) ∧ Lx [5, 6, 7] S S')) := by
      intro u hu
      refine x_aload_n eX9_common_110 rfl ?_
      refine x_iload eX9_common_111 rfl ?_
      refine x_iload eX9_common_113 rfl ?_
      refine s_callV1 (As := [_, _]) eX9_common_115 kX9_158 ⟨by decide, by decide⟩ rfl (by decide) (by decide) rfl rfl (Nat.le_of_ble_eq_true rfl) (Nat.le_of_ble_eq_true rfl) (sp_X9_ahead S1 hh ht) (fun S_115 h_115 => ?_)
      subst h_115
      refine x_if_ge eX9_common_118 (fun c_118 => ?_) (fun c_118 => ?_)
      · refine x_iload eX9_common_126 rfl ?_
        refine x_istore (lv' := [_, _, _, _, _, _, _]) eX9_common_128 (by decide) rfl ?_
        refine x_pick [0, 1, 6] rfl ?_
        refine j130 _ hx h0 _ _ hu ?_
        unfold colL
        first
          | (rw [if_neg (Int32.not_lt.mpr c_118)]; exact ht)
          | (rw [if_pos (Int32.not_le.mp c_118)]; exact hh)
      · refine x_iload eX9_common_121 rfl ?_
        refine x_goto eX9_common_123 ?_
        refine x_istore (lv' := [_, _, _, _, _, _, _]) eX9_common_128 (by decide) rfl ?_
        refine x_pick [0, 1, 6] rfl ?_
        refine j130 _ hx h0 _ _ hu ?_
        unfold colL
        first
          | (rw [if_neg (Int32.not_lt.mpr c_118)]; exact ht)
          | (rw [if_pos (Int32.not_le.mp c_118)]; exact hh)
    refine x_aload_n eX9_common_90 rfl ?_
    refine x_iload eX9_common_91 rfl ?_
    refine x_iload eX9_common_93 rfl ?_
    refine s_callV1 (As := [_, _]) eX9_common_95 kX9_158 ⟨by decide, by decide⟩ rfl (by decide) (by decide) rfl rfl (Nat.le_of_ble_eq_true rfl) (Nat.le_of_ble_eq_true rfl) (sp_X9_ahead S1 hl hf) (fun S_95 h_95 => ?_)
    subst h_95
    refine x_if_ge eX9_common_98 (fun c_98 => ?_) (fun c_98 => ?_)
    · refine x_iload eX9_common_106 rfl ?_
      refine x_istore (lv' := [_, _, _, _, _, _]) eX9_common_108 (by decide) rfl ?_
      refine x_pick [0, 1, 2, 3, 4, 5] rfl ?_
      refine j110 _ ?_
      unfold colF
      first
        | (rw [if_neg (Int32.not_lt.mpr c_98)]; exact hl)
        | (rw [if_pos (Int32.not_le.mp c_98)]; exact hf)
    · refine x_iload eX9_common_101 rfl ?_
      refine x_goto eX9_common_103 ?_
      refine x_istore (lv' := [_, _, _, _, _, _]) eX9_common_108 (by decide) rfl ?_
      refine x_pick [0, 1, 2, 3, 4, 5] rfl ?_
      refine j110 _ ?_
      unfold colF
      first
        | (rw [if_neg (Int32.not_lt.mpr c_98)]; exact hl)
        | (rw [if_pos (Int32.not_le.mp c_98)]; exact hf)
  have j58 : ∀ S1, Lx [5, 6, 7] S S1 → (sg (orP A B C) = 0 ∧ sg (orP A B D) = 0) → ∀ l h, pt S1 l (mnP A B) → pt S1 h (mxP A B) → XP mX9_common 58 [(8, .int (nI h)), (7, .int (nI l)), (0, .ref 0), (1, .int (nI a)), (2, .int (nI b)), (3, .int (nI c)), (4, .int (nI d))] [] (xwS S1) (sQ (fun r S' => r = some (.int (comP A B C D)) ∧ Lx [5, 6, 7] S S')) := by
    intro S1 hx h0 l h hl hh
    have hc := hc.mv hx (by decide) (by decide)
    have hd := hd.mv hx (by decide) (by decide)
    refine x_aload_n eX9_common_58 rfl ?_
    refine x_iload_n eX9_common_59 rfl ?_
    refine x_iload eX9_common_60 rfl ?_
    refine s_callV1 (As := [_, _]) eX9_common_62 kX9_158 ⟨by decide, by decide⟩ rfl (by decide) (by decide) rfl rfl (Nat.le_of_ble_eq_true rfl) (Nat.le_of_ble_eq_true rfl) (sp_X9_ahead S1 hc hd) (fun S_62 h_62 => ?_)
    subst h_62
    refine x_if_ge eX9_common_65 (fun c_65 => ?_) (fun c_65 => ?_)
    · refine x_iload eX9_common_72 rfl ?_
      refine x_istore (lv' := [_, _, _, _, _, _, _, _]) eX9_common_74 (by decide) rfl ?_
      refine x_iload eX9_common_76 rfl ?_
      refine x_iload_n eX9_common_78 rfl ?_
      refine x_icmp_neN eX9_common_79 (by omega) (by omega) (fun c_79 => ?_) (fun c_79 => ?_)
      · refine x_iload_n eX9_common_87 rfl ?_
        refine x_istore (lv' := [_, _, _, _, _, _, _, _, _]) eX9_common_88 (by decide) rfl ?_
        refine x_pick [0, 1, 2, 3, 4] rfl ?_
        first
          | exact absurd c_79 (Ne.symm hcd)
          | exact absurd rfl c_79
          | (refine j90 _ hx h0 _ _ _ _ hl hh ?_ ?_ <;> first | (unfold mnP; rw [if_neg (Int32.not_lt.mpr c_65)]; exact hd) | (unfold mnP; rw [if_pos (Int32.not_le.mp c_65)]; exact hc) | (unfold mxP; rw [if_neg (Int32.not_lt.mpr c_65)]; exact hc) | (unfold mxP; rw [if_pos (Int32.not_le.mp c_65)]; exact hd))
      · refine x_iload eX9_common_82 rfl ?_
        refine x_goto eX9_common_84 ?_
        refine x_istore (lv' := [_, _, _, _, _, _, _, _, _]) eX9_common_88 (by decide) rfl ?_
        refine x_pick [0, 1, 2, 3, 4] rfl ?_
        first
          | exact absurd c_79 (Ne.symm hcd)
          | exact absurd rfl c_79
          | (refine j90 _ hx h0 _ _ _ _ hl hh ?_ ?_ <;> first | (unfold mnP; rw [if_neg (Int32.not_lt.mpr c_65)]; exact hd) | (unfold mnP; rw [if_pos (Int32.not_le.mp c_65)]; exact hc) | (unfold mxP; rw [if_neg (Int32.not_lt.mpr c_65)]; exact hc) | (unfold mxP; rw [if_pos (Int32.not_le.mp c_65)]; exact hd))
    · refine x_iload_n eX9_common_68 rfl ?_
      refine x_goto eX9_common_69 ?_
      refine x_istore (lv' := [_, _, _, _, _, _, _, _]) eX9_common_74 (by decide) rfl ?_
      refine x_iload eX9_common_76 rfl ?_
      refine x_iload_n eX9_common_78 rfl ?_
      refine x_icmp_neN eX9_common_79 (by omega) (by omega) (fun c_79 => ?_) (fun c_79 => ?_)
      · refine x_iload_n eX9_common_87 rfl ?_
        refine x_istore (lv' := [_, _, _, _, _, _, _, _, _]) eX9_common_88 (by decide) rfl ?_
        refine x_pick [0, 1, 2, 3, 4] rfl ?_
        first
          | exact absurd c_79 (Ne.symm hcd)
          | exact absurd rfl c_79
          | (refine j90 _ hx h0 _ _ _ _ hl hh ?_ ?_ <;> first | (unfold mnP; rw [if_neg (Int32.not_lt.mpr c_65)]; exact hd) | (unfold mnP; rw [if_pos (Int32.not_le.mp c_65)]; exact hc) | (unfold mxP; rw [if_neg (Int32.not_lt.mpr c_65)]; exact hc) | (unfold mxP; rw [if_pos (Int32.not_le.mp c_65)]; exact hd))
      · refine x_iload eX9_common_82 rfl ?_
        refine x_goto eX9_common_84 ?_
        refine x_istore (lv' := [_, _, _, _, _, _, _, _, _]) eX9_common_88 (by decide) rfl ?_
        refine x_pick [0, 1, 2, 3, 4] rfl ?_
        first
          | exact absurd c_79 (Ne.symm hcd)
          | exact absurd rfl c_79
          | (refine j90 _ hx h0 _ _ _ _ hl hh ?_ ?_ <;> first | (unfold mnP; rw [if_neg (Int32.not_lt.mpr c_65)]; exact hd) | (unfold mnP; rw [if_pos (Int32.not_le.mp c_65)]; exact hc) | (unfold mxP; rw [if_neg (Int32.not_lt.mpr c_65)]; exact hc) | (unfold mxP; rw [if_pos (Int32.not_le.mp c_65)]; exact hd))
  have j29 : ∀ S1, Lx [5, 6, 7] S S1 → (sg (orP A B C) = 0 ∧ sg (orP A B D) = 0) → XP mX9_common 29 [(0, .ref 0), (1, .int (nI a)), (2, .int (nI b)), (3, .int (nI c)), (4, .int (nI d))] [] (xwS S1) (sQ (fun r S' => r = some (.int (comP A B C D)) ∧ Lx [5, 6, 7] S S')) := by
    intro S1 hx h0
    have ha := ha.mv hx (by decide) (by decide)
    have hb := hb.mv hx (by decide) (by decide)
    refine x_aload_n eX9_common_29 rfl ?_
    refine x_iload_n eX9_common_30 rfl ?_
    refine x_iload_n eX9_common_31 rfl ?_
    refine s_callV1 (As := [_, _]) eX9_common_32 kX9_158 ⟨by decide, by decide⟩ rfl (by decide) (by decide) rfl rfl (Nat.le_of_ble_eq_true rfl) (Nat.le_of_ble_eq_true rfl) (sp_X9_ahead S1 ha hb) (fun S_32 h_32 => ?_)
    subst h_32
    refine x_if_ge eX9_common_35 (fun c_35 => ?_) (fun c_35 => ?_)
    · refine x_iload_n eX9_common_42 rfl ?_
      refine x_istore (lv' := [_, _, _, _, _, _]) eX9_common_43 (by decide) rfl ?_
      refine x_iload eX9_common_45 rfl ?_
      refine x_iload_n eX9_common_47 rfl ?_
      refine x_icmp_neN eX9_common_48 (by omega) (by omega) (fun c_48 => ?_) (fun c_48 => ?_)
      · refine x_iload_n eX9_common_55 rfl ?_
        refine x_istore (lv' := [_, _, _, _, _, _, _]) eX9_common_56 (by decide) rfl ?_
        refine x_pick [0, 1, 2, 3, 4, 5, 6] rfl ?_
        first
          | exact absurd c_48 (Ne.symm hab)
          | exact absurd rfl c_48
          | (refine j58 _ hx h0 _ _ ?_ ?_ <;> first | (unfold mnP; rw [if_neg (Int32.not_lt.mpr c_35)]; exact hb) | (unfold mnP; rw [if_pos (Int32.not_le.mp c_35)]; exact ha) | (unfold mxP; rw [if_neg (Int32.not_lt.mpr c_35)]; exact ha) | (unfold mxP; rw [if_pos (Int32.not_le.mp c_35)]; exact hb))
      · refine x_iload_n eX9_common_51 rfl ?_
        refine x_goto eX9_common_52 ?_
        refine x_istore (lv' := [_, _, _, _, _, _, _]) eX9_common_56 (by decide) rfl ?_
        refine x_pick [0, 1, 2, 3, 4, 5, 6] rfl ?_
        first
          | exact absurd c_48 (Ne.symm hab)
          | exact absurd rfl c_48
          | (refine j58 _ hx h0 _ _ ?_ ?_ <;> first | (unfold mnP; rw [if_neg (Int32.not_lt.mpr c_35)]; exact hb) | (unfold mnP; rw [if_pos (Int32.not_le.mp c_35)]; exact ha) | (unfold mxP; rw [if_neg (Int32.not_lt.mpr c_35)]; exact ha) | (unfold mxP; rw [if_pos (Int32.not_le.mp c_35)]; exact hb))
    · refine x_iload_n eX9_common_38 rfl ?_
      refine x_goto eX9_common_39 ?_
      refine x_istore (lv' := [_, _, _, _, _, _]) eX9_common_43 (by decide) rfl ?_
      refine x_iload eX9_common_45 rfl ?_
      refine x_iload_n eX9_common_47 rfl ?_
      refine x_icmp_neN eX9_common_48 (by omega) (by omega) (fun c_48 => ?_) (fun c_48 => ?_)
      · refine x_iload_n eX9_common_55 rfl ?_
        refine x_istore (lv' := [_, _, _, _, _, _, _]) eX9_common_56 (by decide) rfl ?_
        refine x_pick [0, 1, 2, 3, 4, 5, 6] rfl ?_
        first
          | exact absurd c_48 (Ne.symm hab)
          | exact absurd rfl c_48
          | (refine j58 _ hx h0 _ _ ?_ ?_ <;> first | (unfold mnP; rw [if_neg (Int32.not_lt.mpr c_35)]; exact hb) | (unfold mnP; rw [if_pos (Int32.not_le.mp c_35)]; exact ha) | (unfold mxP; rw [if_neg (Int32.not_lt.mpr c_35)]; exact ha) | (unfold mxP; rw [if_pos (Int32.not_le.mp c_35)]; exact hb))
      · refine x_iload_n eX9_common_51 rfl ?_
        refine x_goto eX9_common_52 ?_
        refine x_istore (lv' := [_, _, _, _, _, _, _]) eX9_common_56 (by decide) rfl ?_
        refine x_pick [0, 1, 2, 3, 4, 5, 6] rfl ?_
        first
          | exact absurd c_48 (Ne.symm hab)
          | exact absurd rfl c_48
          | (refine j58 _ hx h0 _ _ ?_ ?_ <;> first | (unfold mnP; rw [if_neg (Int32.not_lt.mpr c_35)]; exact hb) | (unfold mnP; rw [if_pos (Int32.not_le.mp c_35)]; exact ha) | (unfold mxP; rw [if_neg (Int32.not_lt.mpr c_35)]; exact ha) | (unfold mxP; rw [if_pos (Int32.not_le.mp c_35)]; exact hb))
  have j266 : ∀ S1, Lx [5, 6, 7] S S1 → ¬ (sg (orP A B C) = 0 ∧ sg (orP A B D) = 0) → ¬ (sg (orP A B C) * sg (orP A B D) < 0 ∧ sg (orP C D A) * sg (orP C D B) < 0) → ∀ v, v = bI (tchP A B C D) → XP mX9_common 266 [(0, .ref 0)] [.int v] (xwS S1) (sQ (fun r S' => r = some (.int (comP A B C D)) ∧ Lx [5, 6, 7] S S')) := by
    intro S1 hx h0 h1 v hv
    subst hv
    refine x_istore (lv' := [_, _]) eX9_common_266 (by decide) rfl ?_
    refine x_iload eX9_common_268 rfl ?_
    refine x_if_eqB eX9_common_270 (fun c_270 => ?_) (fun c_270 => ?_)
    · refine x_iconst (v := nI 0) eX9_common_277 (by decide) ?_
      refine s_iret eX9_common_278 rfl rfl ⟨?_, hx⟩
      unfold comP
      rw [if_neg h0, if_neg h1]
      first
        | (rw [if_pos c_270]; rfl)
        | (rw [c_270]; rfl)
    · refine x_iconst (v := nI 2) eX9_common_273 (by decide) ?_
      refine x_goto eX9_common_274 ?_
      refine s_iret eX9_common_278 rfl rfl ⟨?_, hx⟩
      unfold comP
      rw [if_neg h0, if_neg h1]
      first
        | (rw [if_pos c_270]; rfl)
        | (rw [c_270]; rfl)
  have j198 : ∀ S1, Lx [5, 6, 7] S S1 → ¬ (sg (orP A B C) = 0 ∧ sg (orP A B D) = 0) → ¬ (sg (orP A B C) * sg (orP A B D) < 0 ∧ sg (orP C D A) * sg (orP C D B) < 0) → XP mX9_common 198 [(8, .int (sg (orP C D B))), (7, .int (sg (orP C D A))), (6, .int (sg (orP A B D))), (5, .int (sg (orP A B C))), (0, .ref 0), (1, .int (nI a)), (2, .int (nI b)), (3, .int (nI c)), (4, .int (nI d))] [] (xwS S1) (sQ (fun r S' => r = some (.int (comP A B C D)) ∧ Lx [5, 6, 7] S S')) := by
    intro S1 hx h0 h1
    have ha := ha.mv hx (by decide) (by decide)
    have hb := hb.mv hx (by decide) (by decide)
    have hc := hc.mv hx (by decide) (by decide)
    have hd := hd.mv hx (by decide) (by decide)
    have j265 : tchP A B C D = false → ∀ lv, xget lv 0 = some (.ref 0) → XP mX9_common 265 lv [] (xwS S1) (sQ (fun r S' => r = some (.int (comP A B C D)) ∧ Lx [5, 6, 7] S S')) := by
      intro ht lv g0
      refine x_iconst (v := nI 0) eX9_common_265 (by decide) ?_
      exact x_keep0 g0 (j266 S1 hx h0 h1 _ (by rw [ht]; rfl))
    have j261 : tchP A B C D = true → ∀ lv, xget lv 0 = some (.ref 0) → XP mX9_common 261 lv [] (xwS S1) (sQ (fun r S' => r = some (.int (comP A B C D)) ∧ Lx [5, 6, 7] S S')) := by
      intro ht lv g0
      refine x_iconst (v := nI 1) eX9_common_261 (by decide) ?_
      refine x_goto eX9_common_262 ?_
      exact x_keep0 g0 (j266 S1 hx h0 h1 _ (by rw [ht]; rfl))
    have j245 : onP A B C = false → onP A B D = false → onP C D A = false → XP mX9_common 245 [(8, .int (sg (orP C D B))), (7, .int (sg (orP C D A))), (6, .int (sg (orP A B D))), (5, .int (sg (orP A B C))), (0, .ref 0), (1, .int (nI a)), (2, .int (nI b)), (3, .int (nI c)), (4, .int (nI d))] [] (xwS S1) (sQ (fun r S' => r = some (.int (comP A B C D)) ∧ Lx [5, 6, 7] S S')) := by
      intro q1 q2 q3
      refine x_iload eX9_common_245 rfl ?_
      refine x_if_ne eX9_common_247 (fun c_247 => ?_) (fun c_247 => ?_)
      · refine j265 ?_ _ rfl
        unfold tchP
        rw [q1, q2, q3]
        unfold onP
        first
          | (rw [decide_eq_false c_247]; rfl)
          | (rw [c_258]; simp)
      · refine x_aload_n eX9_common_250 rfl ?_
        refine x_iload_n eX9_common_251 rfl ?_
        refine x_iload eX9_common_252 rfl ?_
        refine x_iload_n eX9_common_254 rfl ?_
        refine s_callV1 (As := [_, _, _]) eX9_common_255 kX9_166 ⟨by decide, by decide⟩ rfl (by decide) (by decide) rfl rfl (Nat.le_of_ble_eq_true rfl) (Nat.le_of_ble_eq_true rfl) (sp_X9_isBetween S1 hc hd hb) (fun S_255 h_255 => ?_)
        subst h_255
        refine x_if_eqB eX9_common_258 (fun c_258 => ?_) (fun c_258 => ?_)
        · refine j265 ?_ _ rfl
          unfold tchP
          rw [q1, q2, q3]
          unfold onP
          first
            | (rw [decide_eq_false c_247]; rfl)
            | (rw [c_258]; simp)
        · refine j261 ?_ _ rfl
          unfold tchP onP
          rw [decide_eq_true c_247, c_258]
          simp
    have j229 : onP A B C = false → onP A B D = false → XP mX9_common 229 [(8, .int (sg (orP C D B))), (7, .int (sg (orP C D A))), (6, .int (sg (orP A B D))), (5, .int (sg (orP A B C))), (0, .ref 0), (1, .int (nI a)), (2, .int (nI b)), (3, .int (nI c)), (4, .int (nI d))] [] (xwS S1) (sQ (fun r S' => r = some (.int (comP A B C D)) ∧ Lx [5, 6, 7] S S')) := by
      intro q1 q2
      refine x_iload eX9_common_229 rfl ?_
      refine x_if_ne eX9_common_231 (fun c_231 => ?_) (fun c_231 => ?_)
      · refine j245 q1 q2 ?_
        unfold onP
        first
          | (rw [decide_eq_false c_231]; rfl)
          | (rw [c_242]; simp)
      · refine x_aload_n eX9_common_234 rfl ?_
        refine x_iload_n eX9_common_235 rfl ?_
        refine x_iload eX9_common_236 rfl ?_
        refine x_iload_n eX9_common_238 rfl ?_
        refine s_callV1 (As := [_, _, _]) eX9_common_239 kX9_166 ⟨by decide, by decide⟩ rfl (by decide) (by decide) rfl rfl (Nat.le_of_ble_eq_true rfl) (Nat.le_of_ble_eq_true rfl) (sp_X9_isBetween S1 hc hd ha) (fun S_239 h_239 => ?_)
        subst h_239
        refine x_if_neB eX9_common_242 (fun c_242 => ?_) (fun c_242 => ?_)
        · refine j261 ?_ _ rfl
          unfold tchP
          have q3 : onP C D A = true := by unfold onP; rw [decide_eq_true c_231, c_242]; rfl
          rw [q3]
          simp
        · refine j245 q1 q2 ?_
          unfold onP
          first
            | (rw [decide_eq_false c_231]; rfl)
            | (rw [c_242]; simp)
    have j213 : onP A B C = false → XP mX9_common 213 [(8, .int (sg (orP C D B))), (7, .int (sg (orP C D A))), (6, .int (sg (orP A B D))), (5, .int (sg (orP A B C))), (0, .ref 0), (1, .int (nI a)), (2, .int (nI b)), (3, .int (nI c)), (4, .int (nI d))] [] (xwS S1) (sQ (fun r S' => r = some (.int (comP A B C D)) ∧ Lx [5, 6, 7] S S')) := by
      intro q1
      refine x_iload eX9_common_213 rfl ?_
      refine x_if_ne eX9_common_215 (fun c_215 => ?_) (fun c_215 => ?_)
      · refine j229 q1 ?_
        unfold onP
        first
          | (rw [decide_eq_false c_215]; rfl)
          | (rw [c_226]; simp)
      · refine x_aload_n eX9_common_218 rfl ?_
        refine x_iload_n eX9_common_219 rfl ?_
        refine x_iload_n eX9_common_220 rfl ?_
        refine x_iload eX9_common_221 rfl ?_
        refine s_callV1 (As := [_, _, _]) eX9_common_223 kX9_166 ⟨by decide, by decide⟩ rfl (by decide) (by decide) rfl rfl (Nat.le_of_ble_eq_true rfl) (Nat.le_of_ble_eq_true rfl) (sp_X9_isBetween S1 ha hb hd) (fun S_223 h_223 => ?_)
        subst h_223
        refine x_if_neB eX9_common_226 (fun c_226 => ?_) (fun c_226 => ?_)
        · refine j261 ?_ _ rfl
          unfold tchP
          have q3 : onP A B D = true := by unfold onP; rw [decide_eq_true c_215, c_226]; rfl
          rw [q3]
          simp
        · refine j229 q1 ?_
          unfold onP
          first
            | (rw [decide_eq_false c_215]; rfl)
            | (rw [c_226]; simp)
    refine x_iload eX9_common_198 rfl ?_
    refine x_if_ne eX9_common_200 (fun c_200 => ?_) (fun c_200 => ?_)
    · refine j213 ?_
      unfold onP
      first
        | (rw [decide_eq_false c_200]; rfl)
        | (rw [c_210]; simp)
    · refine x_aload_n eX9_common_203 rfl ?_
      refine x_iload_n eX9_common_204 rfl ?_
      refine x_iload_n eX9_common_205 rfl ?_
      refine x_iload_n eX9_common_206 rfl ?_
      refine s_callV1 (As := [_, _, _]) eX9_common_207 kX9_166 ⟨by decide, by decide⟩ rfl (by decide) (by decide) rfl rfl (Nat.le_of_ble_eq_true rfl) (Nat.le_of_ble_eq_true rfl) (sp_X9_isBetween S1 ha hb hc) (fun S_207 h_207 => ?_)
      subst h_207
      refine x_if_neB eX9_common_210 (fun c_210 => ?_) (fun c_210 => ?_)
      · refine j261 ?_ _ rfl
        unfold tchP
        have q3 : onP A B C = true := by unfold onP; rw [decide_eq_true c_200, c_210]; rfl
        rw [q3]
        simp
      · refine j213 ?_
        unfold onP
        first
          | (rw [decide_eq_false c_200]; rfl)
          | (rw [c_210]; simp)
  have j160 : ∀ S1, Lx [5, 6, 7] S S1 → ¬ (sg (orP A B C) = 0 ∧ sg (orP A B D) = 0) → XP mX9_common 160 [(6, .int (sg (orP A B D))), (5, .int (sg (orP A B C))), (0, .ref 0), (1, .int (nI a)), (2, .int (nI b)), (3, .int (nI c)), (4, .int (nI d))] [] (xwS S1) (sQ (fun r S' => r = some (.int (comP A B C D)) ∧ Lx [5, 6, 7] S S')) := by
    intro S1 hx h0
    have ha := ha.mv hx (by decide) (by decide)
    have hb := hb.mv hx (by decide) (by decide)
    have hc := hc.mv hx (by decide) (by decide)
    have hd := hd.mv hx (by decide) (by decide)
    refine x_aload_n eX9_common_160 rfl ?_
    refine x_iload_n eX9_common_161 rfl ?_
    refine x_iload eX9_common_162 rfl ?_
    refine x_iload_n eX9_common_164 rfl ?_
    refine s_callV1 (As := [_, _, _]) eX9_common_165 kX9_162 ⟨by decide, by decide⟩ rfl (by decide) (by decide) rfl rfl (Nat.le_of_ble_eq_true rfl) (Nat.le_of_ble_eq_true rfl) (sp_X9_turn S1 hc hd ha) (fun S_165 h_165 => ?_)
    refine x_istore (lv' := [_, _, _, _, _, _, _, _]) eX9_common_168 (by decide) rfl ?_
    refine x_aload_n eX9_common_170 rfl ?_
    refine x_iload_n eX9_common_171 rfl ?_
    refine x_iload eX9_common_172 rfl ?_
    refine x_iload_n eX9_common_174 rfl ?_
    refine s_callV1 (As := [_, _, _]) eX9_common_175 kX9_162 ⟨by decide, by decide⟩ rfl (by decide) (by decide) rfl rfl (Nat.le_of_ble_eq_true rfl) (Nat.le_of_ble_eq_true rfl) (sp_X9_turn S_165 (hc.mv h_165 (by decide) (by decide)) (hd.mv h_165 (by decide) (by decide)) (hb.mv h_165 (by decide) (by decide))) (fun S_175 h_175 => ?_)
    have hx2 := (hx.tr h_165).tr h_175
    refine x_istore (lv' := [_, _, _, _, _, _, _, _, _]) eX9_common_178 (by decide) rfl ?_
    refine x_iload eX9_common_180 rfl ?_
    refine x_iload eX9_common_182 rfl ?_
    refine x_imul eX9_common_184 ?_
    refine x_if_ge eX9_common_185 (fun c_185 => ?_) (fun c_185 => ?_)
    · refine j198 _ hx2 h0 (fun h => ?_)
      first
        | exact absurd h.1 (Int32.not_lt.mpr c_185)
        | exact absurd h.2 (Int32.not_lt.mpr c_193)
    · refine x_iload eX9_common_188 rfl ?_
      refine x_iload eX9_common_190 rfl ?_
      refine x_imul eX9_common_192 ?_
      refine x_if_ge eX9_common_193 (fun c_193 => ?_) (fun c_193 => ?_)
      · refine j198 _ hx2 h0 (fun h => ?_)
        first
          | exact absurd h.1 (Int32.not_lt.mpr c_185)
          | exact absurd h.2 (Int32.not_lt.mpr c_193)
      · refine x_iconst (v := nI 1) eX9_common_196 (by decide) ?_
        refine s_iret eX9_common_197 rfl rfl ⟨?_, hx2⟩
        unfold comP
        rw [if_neg h0, if_pos ⟨Int32.not_le.mp c_185, Int32.not_le.mp c_193⟩]
        rfl
  show XP _ _ [_, _, _, _, _] _ _ _
  refine x_aload_n eX9_common_0 rfl ?_
  refine x_iload_n eX9_common_1 rfl ?_
  refine x_iload_n eX9_common_2 rfl ?_
  refine x_iload_n eX9_common_3 rfl ?_
  refine s_callV1 (As := [_, _, _]) eX9_common_4 kX9_162 ⟨by decide, by decide⟩ rfl (by decide) (by decide) rfl rfl (Nat.le_of_ble_eq_true rfl) (Nat.le_of_ble_eq_true rfl) (sp_X9_turn S ha hb hc) (fun S_4 h_4 => ?_)
  refine x_istore (lv' := [_, _, _, _, _, _]) eX9_common_7 (by decide) rfl ?_
  refine x_aload_n eX9_common_9 rfl ?_
  refine x_iload_n eX9_common_10 rfl ?_
  refine x_iload_n eX9_common_11 rfl ?_
  refine x_iload eX9_common_12 rfl ?_
  refine s_callV1 (As := [_, _, _]) eX9_common_14 kX9_162 ⟨by decide, by decide⟩ rfl (by decide) (by decide) rfl rfl (Nat.le_of_ble_eq_true rfl) (Nat.le_of_ble_eq_true rfl) (sp_X9_turn S_4 (ha.mv h_4 (by decide) (by decide)) (hb.mv h_4 (by decide) (by decide)) (hd.mv h_4 (by decide) (by decide))) (fun S_14 h_14 => ?_)
  have hx := h_4.tr h_14
  refine x_istore (lv' := [_, _, _, _, _, _, _]) eX9_common_17 (by decide) rfl ?_
  refine x_iload eX9_common_19 rfl ?_
  refine x_if_ne eX9_common_21 (fun c_21 => ?_) (fun c_21 => ?_)
  · refine j160 _ hx (fun h => ?_)
    first
      | exact c_21 h.1
      | exact c_26 h.2
  · refine x_iload eX9_common_24 rfl ?_
    refine x_if_ne eX9_common_26 (fun c_26 => ?_) (fun c_26 => ?_)
    · refine j160 _ hx (fun h => ?_)
      first
        | exact c_21 h.1
        | exact c_26 h.2
    · refine x_pick [2, 3, 4, 5, 6] rfl ?_
      exact j29 _ hx ⟨c_21, c_26⟩

