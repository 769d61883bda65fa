/-! ===== which of two corners is nearer ===== -/
theorem cpt_limbs {S : xS} {s : Nat} {A : Pt} (h : cpt S s A) : ∃ l : Nat → Nat → Int, ∀ ax, ax < 2 → (∀ k, k < 4 → S.2.2.1 35 ((2 * s + ax) * 4 + k) = lI (l ax k) ∧ -(2 ^ 26) < l ax k ∧ l ax k < 2 ^ 26) ∧ hv (2 ^ 26) (l ax) 0 4 = co ax A := by
  obtain ⟨-, -, -, -, -, f, g, p, v, w⟩ := h
  refine ⟨fun ax => if ax = 0 then f else g, fun ax hax => ?_⟩
  rcases (show ax = 0 ∨ ax = 1 by omega) with rfl | rfl
  · refine ⟨fun k hk => ?_, v⟩
    have := (p k hk).1
    rw [show (2 * s + 0) * 4 + k = 8 * s + k by omega]; exact this
  · refine ⟨fun k hk => ?_, w⟩
    have := (p k hk).2
    rw [show (2 * s + 1) * 4 + k = 8 * s + 4 + k by omega]; exact this
def ds (A T : Pt) : Int := (A.1 - T.1) * (A.1 - T.1) + (A.2 - T.2) * (A.2 - T.2)
/-- the difference of the squares, axis by axis -/
def dAx (C D T : Pt) (a : Nat) : Int := sumZ (fun ax => (co ax C - co ax T) * (co ax C - co ax T) - (co ax D - co ax T) * (co ax D - co ax T)) a
theorem dAx_2 (C D T : Pt) : dAx C D T 2 = ds C T - ds D T := by
  show 0 + _ + _ = _
  unfold co ds
  simp only [if_true]
  rw [if_neg (by decide), if_neg (by decide), if_neg (by decide)]
  grind
theorem mul27 {a b : Int} (ha : -(2 ^ 27) ≤ a ∧ a ≤ 2 ^ 27) (hb : -(2 ^ 27) ≤ b ∧ b ≤ 2 ^ 27) : -(2 ^ 54) ≤ a * b ∧ a * b ≤ 2 ^ 54 := mulB ha hb

theorem sp_X2_isNearer (S : xS) {c d : Nat} {C D T : Pt} (hc : cpt S c C) (hd : cpt S d D) (ht : cpt S 200 T) : Sp mX2_isNearer [.ref 32, .int (nI c), .int (nI d)] S (fun x S' => x = some (.int (tI (ds C T < ds D T))) ∧ Lx [364] S S') := by
  have l1 := hc.1
  have l2 := hd.1
  obtain ⟨lc, pc⟩ := cpt_limbs hc
  obtain ⟨ld, pd⟩ := cpt_limbs hd
  obtain ⟨lt, pt2⟩ := cpt_limbs ht
  have loop : ∀ μ a, a + μ = 2 → ∀ S1, (Lx [364] S S1 ∧ ∃ F : Nat → Int, (∀ k2, k2 < 8 → S1.2.2.1 364 k2 = lI (F k2)) ∧ hv (2 ^ 26) F 0 8 = dAx C D T a ∧ ∀ k2, k2 < 8 → -(((16 * a : Nat) : Int) * 2 ^ 55) ≤ F k2 ∧ F k2 ≤ ((16 * a : Nat) : Int) * 2 ^ 55) → XP mX2_isNearer 9 [(3, .int (nI a)), (0, .ref 32), (1, .int (nI c)), (2, .int (nI d))] [] (xwS S1) (sQ (fun x S' => x = some (.int (tI (ds C T < ds D T))) ∧ Lx [364] S S')) := by
    intro μ
    induction μ with
    | zero =>
      intro a hk S1 h1
      obtain ⟨hx, F, hF, hh, hb⟩ := h1
      refine x_iload_n eX2_isNearer_9 rfl ?_
      refine x_iconst (v := nI 2) eX2_isNearer_10 (by decide) ?_
      refine x_icmp_geN eX2_isNearer_11 (by omega) (by omega) (fun c_11 => ?_) (fun c_11 => ?_)
      · refine x_aload_n eX2_isNearer_188 rfl ?_
        refine s_getR (k := 363) eX2_isNearer_189 fX2_25 rfl (by decide) (by decide) rfl ?_
        refine s_callV1 (As := []) eX2_isNearer_192 kX2_78 ⟨by decide, by decide⟩ rfl (by decide) (by decide) rfl rfl (Nat.le_of_ble_eq_true rfl) (Nat.le_of_ble_eq_true rfl) (sp_X7_sign (v := 63) (by decide) S1 F hF (fun k hk => by have := hb k hk; omega)) (fun S_192 h_192 => ?_)
        have h_192 := h_192.symm
        subst h_192
        rw [hh, show a = 2 by omega, dAx_2]
        refine x_if_geS eX2_isNearer_195 (fun c_195 => ?_) (fun c_195 => ?_)
        · refine x_iconst (v := nI 0) eX2_isNearer_202 (by decide) ?_
          first
            | exact s_iret eX2_isNearer_203 rfl rfl ⟨tI_ts (by omega), hx⟩
            | exact s_iret eX2_isNearer_203 rfl rfl ⟨tI_fs (by omega), hx⟩
        · refine x_iconst (v := nI 1) eX2_isNearer_198 (by decide) ?_
          refine x_goto eX2_isNearer_199 ?_
          first
            | exact s_iret eX2_isNearer_203 rfl rfl ⟨tI_ts (by omega), hx⟩
            | exact s_iret eX2_isNearer_203 rfl rfl ⟨tI_fs (by omega), hx⟩
      · omega
    | succ μ ih =>
      intro a hk S1 h1
      obtain ⟨hx, F, hF, hh, hb⟩ := h1
      have oh := ih
      have inner : ∀ i, i < 4 → (∀ S2, colJ S 364 (fun k => lc a k - lt a k) (fun k => ld a k - lt a k) (fun k => lc a k - lt a k) (fun k => ld a k - lt a k) (dAx C D T a) (2 ^ 55) (16 * a) (i + 1) 0 S2 → XP mX2_isNearer 44 [(7, .int (nI (i + 1))), (6, .int (nI ((400 + a) * 4))), (5, .int (nI ((2 * d + a) * 4))), (4, .int (nI ((2 * c + a) * 4))), (3, .int (nI a)), (0, .ref 32), (1, .int (nI c)), (2, .int (nI d))] [] (xwS S2) (sQ (fun x S' => x = some (.int (tI (ds C T < ds D T))) ∧ Lx [364] S S'))) → ∀ m j, j + m = 4 → ∀ S2, colJ S 364 (fun k => lc a k - lt a k) (fun k => ld a k - lt a k) (fun k => lc a k - lt a k) (fun k => ld a k - lt a k) (dAx C D T a) (2 ^ 55) (16 * a) i j S2 → XP mX2_isNearer 99 [(12, .int (nI j)), (10, .long (lI (ld a i - lt a i))), (8, .long (lI (lc a i - lt a i))), (7, .int (nI i)), (6, .int (nI ((400 + a) * 4))), (5, .int (nI ((2 * d + a) * 4))), (4, .int (nI ((2 * c + a) * 4))), (3, .int (nI a)), (0, .ref 32), (1, .int (nI c)), (2, .int (nI d))] [] (xwS S2) (sQ (fun x S' => x = some (.int (tI (ds C T < ds D T))) ∧ Lx [364] S S')) := by
        intro i hi kk m
        induction m with
        | zero =>
          intro j hj S2 h2
          obtain rfl : j = 4 := by omega
          refine x_iload eX2_isNearer_99 rfl ?_
          refine x_iconst (v := nI 4) eX2_isNearer_101 (by decide) ?_
          refine x_icmp_geN eX2_isNearer_102 (by omega) (by omega) (fun c_102 => ?_) (fun c_102 => ?_)
          · refine x_iinc (lv' := [_, _, _, _, _, _, _, _, _, _, _]) eX2_isNearer_176 rfl (by first | exact nI_inc _ | exact rfl) (by decide) rfl ?_
            refine x_goto eX2_isNearer_179 ?_
            refine x_pick [0, 4, 5, 6, 7, 8, 9, 10] rfl ?_
            refine kk S2 ?_
            obtain ⟨hx2, F, hF, hh, hb⟩ := h2
            exact ⟨hx2, F, hF, acc_row hh, fun k2 hk2 => by have := hb k2 hk2; omega⟩
          · omega
        | succ m ihj =>
          intro j hj S2 h2
          obtain ⟨hx2, F, hF, hh, hb⟩ := h2
          have r35 : S2.2.2.1 35 = S.2.2.1 35 := hx2.2.2.2 35 (by decide)
          have qc := (pc a (by omega)).1 i hi
          have qd := (pd a (by omega)).1 i hi
          have qt := (pt2 a (by omega)).1 i hi
          have rc := (pc a (by omega)).1 j (by omega)
          have rd := (pd a (by omega)).1 j (by omega)
          have rt := (pt2 a (by omega)).1 j (by omega)
          have m1 := mul27 (a := lc a i - lt a i) (b := lc a j - lt a j) ⟨by omega, by omega⟩ ⟨by omega, by omega⟩
          have m2 := mul27 (a := ld a i - lt a i) (b := ld a j - lt a j) ⟨by omega, by omega⟩ ⟨by omega, by omega⟩
          refine x_iload eX2_isNearer_99 rfl ?_
          refine x_iconst (v := nI 4) eX2_isNearer_101 (by decide) ?_
          refine x_icmp_geN eX2_isNearer_102 (by omega) (by omega) (fun c_102 => ?_) (fun c_102 => ?_)
          · omega
          · refine x_aload_n eX2_isNearer_105 rfl ?_
            refine s_getR (k := 363) eX2_isNearer_106 fX2_25 rfl (by decide) (by decide) rfl ?_
            refine s_getR (k := 364) eX2_isNearer_109 fX2_75 rfl (by decide) (by decide) rfl ?_
            refine x_iload eX2_isNearer_112 rfl ?_
            refine x_iload eX2_isNearer_114 rfl ?_
            first | refine x_iaddN eX2_isNearer_116 ?_ | refine x_iadd eX2_isNearer_116 ?_
            refine x_dup2_11 eX2_isNearer_117 rfl rfl ?_
            refine s_lald eX2_isNearer_118 rfl (by decide) rfl (show _ < 8 by omega) ?_
            rw [hF (i + j) (by omega)]
            refine x_lload eX2_isNearer_119 rfl ?_
            refine x_aload_n eX2_isNearer_121 rfl ?_
            refine s_getR (k := 35) eX2_isNearer_122 fX2_19 rfl (by decide) (by decide) rfl ?_
            refine x_iload eX2_isNearer_125 rfl ?_
            refine x_iload eX2_isNearer_127 rfl ?_
            first | refine x_iaddN eX2_isNearer_129 ?_ | refine x_iadd eX2_isNearer_129 ?_
            refine s_lald eX2_isNearer_130 rfl (by decide) rfl (show _ < 1608 by omega) ?_
            rw [r35, rc.1]
            refine x_aload_n eX2_isNearer_131 rfl ?_
            refine s_getR (k := 35) eX2_isNearer_132 fX2_19 rfl (by decide) (by decide) rfl ?_
            refine x_iload eX2_isNearer_135 rfl ?_
            refine x_iload eX2_isNearer_137 rfl ?_
            first | refine x_iaddN eX2_isNearer_139 ?_ | refine x_iadd eX2_isNearer_139 ?_
            refine s_lald eX2_isNearer_140 rfl (by decide) rfl (show _ < 1608 by omega) ?_
            rw [r35, show (400 + a) * 4 + j = (2 * 200 + a) * 4 + j by omega, rt.1]
            refine x_lsub eX2_isNearer_141 ?_
            rw [lI_sub]
            refine x_lmul eX2_isNearer_142 ?_
            rw [lI_mul]
            refine x_lload eX2_isNearer_143 rfl ?_
            refine x_aload_n eX2_isNearer_145 rfl ?_
            refine s_getR (k := 35) eX2_isNearer_146 fX2_19 rfl (by decide) (by decide) rfl ?_
            refine x_iload eX2_isNearer_149 rfl ?_
            refine x_iload eX2_isNearer_151 rfl ?_
            first | refine x_iaddN eX2_isNearer_153 ?_ | refine x_iadd eX2_isNearer_153 ?_
            refine s_lald eX2_isNearer_154 rfl (by decide) rfl (show _ < 1608 by omega) ?_
            rw [r35, rd.1]
            refine x_aload_n eX2_isNearer_155 rfl ?_
            refine s_getR (k := 35) eX2_isNearer_156 fX2_19 rfl (by decide) (by decide) rfl ?_
            refine x_iload eX2_isNearer_159 rfl ?_
            refine x_iload eX2_isNearer_161 rfl ?_
            first | refine x_iaddN eX2_isNearer_163 ?_ | refine x_iadd eX2_isNearer_163 ?_
            refine s_lald eX2_isNearer_164 rfl (by decide) rfl (show _ < 1608 by omega) ?_
            rw [r35, show (400 + a) * 4 + j = (2 * 200 + a) * 4 + j by omega, rt.1]
            refine x_lsub eX2_isNearer_165 ?_
            rw [lI_sub]
            refine x_lmul eX2_isNearer_166 ?_
            rw [lI_mul]
            refine x_lsub eX2_isNearer_167 ?_
            rw [lI_sub]
            refine x_ladd eX2_isNearer_168 ?_
            rw [lI_add]
            refine s_last eX2_isNearer_169 rfl (by decide) rfl (show _ < 8 by omega) ?_
            refine x_iinc (lv' := [_, _, _, _, _, _, _, _, _, _, _]) eX2_isNearer_170 rfl (by first | exact nI_inc _ | exact rfl) (by decide) rfl ?_
            refine x_goto eX2_isNearer_173 ?_
            refine x_pick [0, 1, 2, 3, 4, 5, 6, 7, 8, 9, 10] rfl ?_
            exact ihj (j + 1) (by omega) _ (colJ_step hx2 hF hh hb (by omega) (by decide) (by generalize (lc a i - lt a i) * (lc a j - lt a j) = u1 at *; generalize (ld a i - lt a i) * (ld a j - lt a j) = u2 at *; omega))
      have outer : ∀ m i, i + m = 4 → ∀ S2, colJ S 364 (fun k => lc a k - lt a k) (fun k => ld a k - lt a k) (fun k => lc a k - lt a k) (fun k => ld a k - lt a k) (dAx C D T a) (2 ^ 55) (16 * a) i 0 S2 → XP mX2_isNearer 44 [(7, .int (nI i)), (6, .int (nI ((400 + a) * 4))), (5, .int (nI ((2 * d + a) * 4))), (4, .int (nI ((2 * c + a) * 4))), (3, .int (nI a)), (0, .ref 32), (1, .int (nI c)), (2, .int (nI d))] [] (xwS S2) (sQ (fun x S' => x = some (.int (tI (ds C T < ds D T))) ∧ Lx [364] S S')) := by
        intro m
        induction m with
        | zero =>
          intro i hi S2 h2
          obtain rfl : i = 4 := by omega
          obtain ⟨hx2, F, hF, hh, hb⟩ := h2
          have e1 : hv (2 ^ 26) F 0 8 = dAx C D T (a + 1) := by
            rw [acc_end hh, hv_sub, hv_sub, (pc a (by omega)).2, (pd a (by omega)).2, (pt2 a (by omega)).2]
            rfl
          refine x_iload eX2_isNearer_44 rfl ?_
          refine x_iconst (v := nI 4) eX2_isNearer_46 (by decide) ?_
          refine x_icmp_geN eX2_isNearer_47 (by omega) (by omega) (fun c_47 => ?_) (fun c_47 => ?_)
          · refine x_iinc (lv' := [_, _, _, _, _, _, _, _]) eX2_isNearer_182 rfl (by first | exact nI_inc _ | exact rfl) (by decide) rfl ?_
            refine x_goto eX2_isNearer_185 ?_
            refine x_pick [0, 5, 6, 7] rfl ?_
            refine oh (a + 1) (by omega) _ ⟨hx2, F, hF, e1, fun k2 hk2 => by have := hb k2 hk2; omega⟩
          · omega
        | succ m ihi =>
          intro i hi S2 h2
          have r35 : S2.2.2.1 35 = S.2.2.1 35 := h2.1.2.2.2 35 (by decide)
          have qc := (pc a (by omega)).1 i (by omega)
          have qd := (pd a (by omega)).1 i (by omega)
          have qt := (pt2 a (by omega)).1 i (by omega)
          refine x_iload eX2_isNearer_44 rfl ?_
          refine x_iconst (v := nI 4) eX2_isNearer_46 (by decide) ?_
          refine x_icmp_geN eX2_isNearer_47 (by omega) (by omega) (fun c_47 => ?_) (fun c_47 => ?_)
          · omega
          · refine x_aload_n eX2_isNearer_50 rfl ?_
            refine s_getR (k := 35) eX2_isNearer_51 fX2_19 rfl (by decide) (by decide) rfl ?_
            refine x_iload eX2_isNearer_54 rfl ?_
            refine x_iload eX2_isNearer_56 rfl ?_
            first | refine x_iaddN eX2_isNearer_58 ?_ | refine x_iadd eX2_isNearer_58 ?_
            refine s_lald eX2_isNearer_59 rfl (by decide) rfl (show _ < 1608 by omega) ?_
            rw [r35, qc.1]
            refine x_aload_n eX2_isNearer_60 rfl ?_
            refine s_getR (k := 35) eX2_isNearer_61 fX2_19 rfl (by decide) (by decide) rfl ?_
            refine x_iload eX2_isNearer_64 rfl ?_
            refine x_iload eX2_isNearer_66 rfl ?_
            first | refine x_iaddN eX2_isNearer_68 ?_ | refine x_iadd eX2_isNearer_68 ?_
            refine s_lald eX2_isNearer_69 rfl (by decide) rfl (show _ < 1608 by omega) ?_
            rw [r35, show (400 + a) * 4 + i = (2 * 200 + a) * 4 + i by omega, qt.1]
            refine x_lsub eX2_isNearer_70 ?_
            rw [lI_sub]
            refine x_lstore (lv' := [_, _, _, _, _, _, _, _, _]) eX2_isNearer_71 (by decide) rfl ?_
            refine x_aload_n eX2_isNearer_73 rfl ?_
            refine s_getR (k := 35) eX2_isNearer_74 fX2_19 rfl (by decide) (by decide) rfl ?_
            refine x_iload eX2_isNearer_77 rfl ?_
            refine x_iload eX2_isNearer_79 rfl ?_
            first | refine x_iaddN eX2_isNearer_81 ?_ | refine x_iadd eX2_isNearer_81 ?_
            refine s_lald eX2_isNearer_82 rfl (by decide) rfl (show _ < 1608 by omega) ?_
            rw [r35, qd.1]
            refine x_aload_n eX2_isNearer_83 rfl ?_
            refine s_getR (k := 35) eX2_isNearer_84 fX2_19 rfl (by decide) (by decide) rfl ?_
            refine x_iload eX2_isNearer_87 rfl ?_
            refine x_iload eX2_isNearer_89 rfl ?_
            first | refine x_iaddN eX2_isNearer_91 ?_ | refine x_iadd eX2_isNearer_91 ?_
            refine s_lald eX2_isNearer_92 rfl (by decide) rfl (show _ < 1608 by omega) ?_
            rw [r35, show (400 + a) * 4 + i = (2 * 200 + a) * 4 + i by omega, qt.1]
            refine x_lsub eX2_isNearer_93 ?_
            rw [lI_sub]
            refine x_lstore (lv' := [_, _, _, _, _, _, _, _, _, _]) eX2_isNearer_94 (by decide) rfl ?_
            refine x_iconst (v := nI 0) eX2_isNearer_96 (by decide) ?_
            refine x_istore (lv' := [_, _, _, _, _, _, _, _, _, _, _]) eX2_isNearer_97 (by decide) rfl ?_
            refine x_pick [0, 1, 2, 3, 4, 5, 6, 7, 8, 9, 10] rfl ?_
            exact inner i (by omega) (fun S3 h3 => ihi (i + 1) (by omega) S3 h3) 4 0 rfl S2 h2
      refine x_iload_n eX2_isNearer_9 rfl ?_
      refine x_iconst (v := nI 2) eX2_isNearer_10 (by decide) ?_
      refine x_icmp_geN eX2_isNearer_11 (by omega) (by omega) (fun c_11 => ?_) (fun c_11 => ?_)
      · omega
      · refine x_iconst (v := nI 2) eX2_isNearer_14 (by decide) ?_
        refine x_iload_n eX2_isNearer_15 rfl ?_
        first | refine x_imulN eX2_isNearer_16 ?_ | refine x_imul eX2_isNearer_16 ?_
        refine x_iload_n eX2_isNearer_17 rfl ?_
        first | refine x_iaddN eX2_isNearer_18 ?_ | refine x_iadd eX2_isNearer_18 ?_
        refine x_iconst (v := nI 4) eX2_isNearer_19 (by decide) ?_
        first | refine x_imulN eX2_isNearer_20 ?_ | refine x_imul eX2_isNearer_20 ?_
        refine x_istore (lv' := [_, _, _, _, _]) eX2_isNearer_21 (by decide) rfl ?_
        refine x_iconst (v := nI 2) eX2_isNearer_23 (by decide) ?_
        refine x_iload_n eX2_isNearer_24 rfl ?_
        first | refine x_imulN eX2_isNearer_25 ?_ | refine x_imul eX2_isNearer_25 ?_
        refine x_iload_n eX2_isNearer_26 rfl ?_
        first | refine x_iaddN eX2_isNearer_27 ?_ | refine x_iadd eX2_isNearer_27 ?_
        refine x_iconst (v := nI 4) eX2_isNearer_28 (by decide) ?_
        first | refine x_imulN eX2_isNearer_29 ?_ | refine x_imul eX2_isNearer_29 ?_
        refine x_istore (lv' := [_, _, _, _, _, _]) eX2_isNearer_30 (by decide) rfl ?_
        refine x_sipush (v := nI 400) eX2_isNearer_32 (by decide) ?_
        refine x_iload_n eX2_isNearer_35 rfl ?_
        first | refine x_iaddN eX2_isNearer_36 ?_ | refine x_iadd eX2_isNearer_36 ?_
        refine x_iconst (v := nI 4) eX2_isNearer_37 (by decide) ?_
        first | refine x_imulN eX2_isNearer_38 ?_ | refine x_imul eX2_isNearer_38 ?_
        refine x_istore (lv' := [_, _, _, _, _, _, _]) eX2_isNearer_39 (by decide) rfl ?_
        refine x_iconst (v := nI 0) eX2_isNearer_41 (by decide) ?_
        refine x_istore (lv' := [_, _, _, _, _, _, _, _]) eX2_isNearer_42 (by decide) rfl ?_
        refine x_pick [0, 1, 2, 3, 4, 5, 6, 7] rfl ?_
        refine outer 4 0 rfl _ ⟨hx, F, hF, ?_, fun k2 hk2 => by have := hb k2 hk2; omega⟩
        rw [hh]; exact acc_0 _ _ _ _ _
  show XP _ _ [_, _, _] _ _ _
  refine x_aload_n eX2_isNearer_0 rfl ?_
  refine s_getR (k := 363) eX2_isNearer_1 fX2_25 rfl (by decide) (by decide) rfl ?_
  refine s_callV0 (As := []) eX2_isNearer_4 kX2_72 ⟨by decide, by decide⟩ rfl (by decide) (by decide) rfl rfl (Nat.le_of_ble_eq_true rfl) (Nat.le_of_ble_eq_true rfl) (sp_X7_clear (v := 63) (by decide) S) (fun S_4 h_4 => ?_)
  refine x_iconst (v := nI 0) eX2_isNearer_7 (by decide) ?_
  refine x_istore_n (lv' := [_, _, _, _]) eX2_isNearer_8 (by decide) rfl ?_
  refine x_pick [0, 1, 2, 3] rfl ?_
  refine loop 2 0 (by omega) _ ⟨by rw [h_4]; exact Lx.set _ _ (by simp), fun _ => 0, fun k hk => by rw [h_4, setL_at, if_pos hk]; rfl, ?_, fun k hk => ⟨by show _ ≤ (0 : Int); omega, by show (0 : Int) ≤ _; omega⟩⟩
  simp [hv, dAx, sumZ]
