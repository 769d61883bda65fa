/-! ===== quota: the reference's side ===== -/
theorem ul_at (f : Nat → Int64) (k : Nat) (x : Int64) : vp_updL f k x k = x := by simp [vp_updL]
theorem ul_ne (f : Nat → Int64) {k i : Nat} (x : Int64) (h : i ≠ k) : vp_updL f k x i = f i := by simp [vp_updL, h]
theorem can24_bd {V : Int} (h : -(2 ^ 234) ≤ V ∧ V ≤ 2 ^ 234) {i : Nat} (hi : i < 10) : -(2 ^ 24) ≤ can (2 ^ 24) 10 V i ∧ can (2 ^ 24) 10 V i ≤ 2 ^ 24 := by
  by_cases q : i + 1 < 10
  · have := can_low_in (V := V) q
    omega
  · rw [can_hi (by omega), show i = 9 by omega, show ((2 : Int) ^ 24) ^ 9 = 2 ^ 216 by decide]
    omega
theorem sum10.ne {S S' : xS} {p t : Nat} {V : Int} (h : sum10 S p t V) (e : ∀ j, t ≤ j → j < t + 10 → S'.2.2.1 p j = S.2.2.1 p j) : sum10 S' p t V := fun i hi => by rw [e _ (by omega) (by omega)]; exact h i hi
theorem shr_1 {b : Nat} (h : b ≤ 512) : nI b >>> (nI 1 &&& 31) = nI (b / 2) := by
  have : ∀ b : Nat, b < 513 → nI b >>> (nI 1 &&& 31) = nI (b / 2) := by decide +kernel
  exact this b (by omega)
theorem sgn10 {V : Int} (h : -(2 ^ 234) ≤ V ∧ V ≤ 2 ^ 234) : lI (can (2 ^ 24) 10 V 9) < 0 ↔ V < 0 := by
  rw [← lI_0, lI_lt (by have := can24_bd h (i := 9) (by decide); exact ⟨by omega, by omega⟩) inL_0, can_hi (by decide), ediv_neg_iff (by decide)]

theorem sp_X9_shareOf (S : xS) {q n : Nat} {A W : Int} (q60 : q < 60) (hA : sum10 S 27 (10 * q) A) (hW : sum10 S 28 0 W) (n1000 : n ≤ 1000) (bA : -(2 ^ 210) ≤ A ∧ A ≤ 2 ^ 210) (bW : -(2 ^ 214) ≤ W ∧ W ≤ 2 ^ 214) : Sp mX9_shareOf [.ref 0, .int (nI q), .int (nI n)] S (fun r S' => r = some (.int (nI (ctK W n A 10).2)) ∧ Lx [29, 30] S S' ∧ sum10 S' 30 (10 * q) (ctK W n A 10).1 ∧ ∀ j, ¬ (10 * q ≤ j ∧ j < 10 * q + 10) → S'.2.2.1 30 j = S.2.2.1 30 j) := by
  have b10 : ∀ k, k = 10 → btN k = 0 := fun k e => by rw [e]; exact bt_10
  have bits : ∀ μ k, k + μ = 10 → ∀ S1, (Lx [29, 30] S S1 ∧ sum10 S1 30 (10 * q) (ctK W n A k).1 ∧ (∀ j, ¬ (10 * q ≤ j ∧ j < 10 * q + 10) → S1.2.2.1 30 j = S.2.2.1 30 j)) → XP mX9_shareOf 59 [(4, .int (nI (btN k))), (3, .int (nI (ctK W n A k).2)), (0, .ref 0), (1, .int (nI q)), (2, .int (nI n))] [] (xwS S1) (sQ (fun r S' => r = some (.int (nI (ctK W n A 10).2)) ∧ Lx [29, 30] S S' ∧ sum10 S' 30 (10 * q) (ctK W n A 10).1 ∧ ∀ j, ¬ (10 * q ≤ j ∧ j < 10 * q + 10) → S'.2.2.1 30 j = S.2.2.1 30 j)) := by
    intro μ
    induction μ with
    | zero =>
      intro k hk S1 h1
      obtain ⟨hx, hR, ou⟩ := h1
      have bl := bt_le k
      have b0 := b10 k
      refine x_iload eX9_shareOf_59 rfl ?_
      refine x_if_leN eX9_shareOf_61 (by omega) (fun c_61 => ?_) (fun c_61 => ?_)
      · refine x_iload_n eX9_shareOf_182 rfl ?_
        exact s_iret eX9_shareOf_183 rfl rfl ⟨by rw [show k = 10 by omega], hx, by rw [show k = 10 by omega] at hR; exact hR, ou⟩
      · omega
    | succ μ ih =>
      intro k hk S1 h1
      obtain ⟨hx, hR, ou⟩ := h1
      have bl := bt_le k
      have b0 := b10 k
      have bd := ct_228 n1000 bA bW k (by omega)
      have bp := bt_pos k (by omega)
      refine x_iload eX9_shareOf_59 rfl ?_
      refine x_if_leN eX9_shareOf_61 (by omega) (fun c_61 => ?_) (fun c_61 => ?_)
      · omega
      · have fin : ∀ S2 (c2 : Nat), Lx [29, 30] S S2 → ctK W n A (k + 1) = ((ctK W n A (k + 1)).1, c2) → sum10 S2 30 (10 * q) (ctK W n A (k + 1)).1 → (∀ j, ¬ (10 * q ≤ j ∧ j < 10 * q + 10) → S2.2.2.1 30 j = S.2.2.1 30 j) → XP mX9_shareOf 173 [(4, .int (nI (btN k))), (3, .int (nI c2)), (0, .ref 0), (1, .int (nI q)), (2, .int (nI n))] [] (xwS S2) (sQ (fun r S' => r = some (.int (nI (ctK W n A 10).2)) ∧ Lx [29, 30] S S' ∧ sum10 S' 30 (10 * q) (ctK W n A 10).1 ∧ ∀ j, ¬ (10 * q ≤ j ∧ j < 10 * q + 10) → S'.2.2.1 30 j = S.2.2.1 30 j)) := by
          intro S2 c2 x e r ou
          refine x_iload eX9_shareOf_173 rfl ?_
          refine x_iconst (v := nI 1) eX9_shareOf_175 (by decide) ?_
          refine x_ishr eX9_shareOf_176 ?_
          rw [shr_1 bl, bt_s]
          refine x_istore (lv' := [_, _, _, _, _]) eX9_shareOf_177 (by decide) rfl ?_
          refine x_goto eX9_shareOf_179 ?_
          refine x_pick [0, 1, 2, 3, 4] rfl ?_
          have := ih (k + 1) (by omega) S2 ⟨x, r, ou⟩
          rw [show (ctK W n A (k + 1)).2 = c2 by rw [e]] at this
          exact this
        have copy : ∀ μ i, i + μ = 10 → 0 ≤ ((ctK W n A k).1 - (btN k : Int) * W) → ∀ S3, (Lx [29, 30] S S3 ∧ sum10 S3 29 0 ((ctK W n A k).1 - (btN k : Int) * W) ∧ (∀ j, j < i → S3.2.2.1 30 (10 * q + j) = lI (can (2 ^ 24) 10 ((ctK W n A k).1 - (btN k : Int) * W) j)) ∧ (∀ j, ¬ (10 * q ≤ j ∧ j < 10 * q + 10) → S3.2.2.1 30 j = S.2.2.1 30 j)) → XP mX9_shareOf 141 [(5, .int (nI i)), (4, .int (nI (btN k))), (3, .int (nI ((ctK W n A k).2 + btN k))), (0, .ref 0), (1, .int (nI q)), (2, .int (nI n))] [] (xwS S3) (sQ (fun r S' => r = some (.int (nI (ctK W n A 10).2)) ∧ Lx [29, 30] S S' ∧ sum10 S' 30 (10 * q) (ctK W n A 10).1 ∧ ∀ j, ¬ (10 * q ≤ j ∧ j < 10 * q + 10) → S'.2.2.1 30 j = S.2.2.1 30 j)) := by
          intro μ
          induction μ with
          | zero =>
            intro i hk pos S3 h1
            obtain ⟨x3, l3, r3, o3⟩ := h1
            refine x_iload eX9_shareOf_141 rfl ?_
            refine x_bipush (v := nI 10) eX9_shareOf_143 (by decide) ?_
            refine x_icmp_geN eX9_shareOf_145 (by omega) (by omega) (fun c_145 => ?_) (fun c_145 => ?_)
            · refine x_pick [1, 2, 3, 4, 5] rfl ?_
              have ey := ct_y pos
              exact fin S3 _ x3 (by rw [ey]) (by rw [ey]; exact fun j hj => r3 j (by omega)) o3
            · omega
          | succ μ ih =>
            intro i hk pos S3 h1
            obtain ⟨x3, l3, r3, o3⟩ := h1
            refine x_iload eX9_shareOf_141 rfl ?_
            refine x_bipush (v := nI 10) eX9_shareOf_143 (by decide) ?_
            refine x_icmp_geN eX9_shareOf_145 (by omega) (by omega) (fun c_145 => ?_) (fun c_145 => ?_)
            · omega
            · refine x_aload_n eX9_shareOf_148 rfl ?_
              refine s_getR (k := 30) eX9_shareOf_149 fX9_106 rfl (by decide) (by decide) rfl ?_
              refine x_bipush (v := nI 10) eX9_shareOf_152 (by decide) ?_
              refine x_iload_n eX9_shareOf_154 rfl ?_
              first | refine x_imulN eX9_shareOf_155 ?_ | refine x_imul eX9_shareOf_155 ?_
              refine x_iload eX9_shareOf_156 rfl ?_
              first | refine x_iaddN eX9_shareOf_158 ?_ | refine x_iadd eX9_shareOf_158 ?_
              refine x_aload_n eX9_shareOf_159 rfl ?_
              refine s_getR (k := 29) eX9_shareOf_160 fX9_103 rfl (by decide) (by decide) rfl ?_
              refine x_iload eX9_shareOf_163 rfl ?_
              refine s_lald eX9_shareOf_165 rfl (by decide) rfl (show _ < 10 by omega) ?_
              rw [show S3.2.2.1 29 i = lI (can (2 ^ 24) 10 ((ctK W n A k).1 - (btN k : Int) * W) i) from by have := l3 i (by omega); rw [Nat.zero_add] at this; exact this]
              refine s_last eX9_shareOf_166 rfl (by decide) rfl (show 10 * q + i < 600 by omega) ?_
              refine x_iinc (lv' := [_, _, _, _, _, _]) eX9_shareOf_167 rfl (by first | exact nI_inc _ | exact rfl) (by decide) rfl ?_
              refine x_goto eX9_shareOf_170 ?_
              refine x_pick [0, 1, 2, 3, 4, 5] rfl ?_
              exact ih (i + 1) (by omega) pos _ ⟨x3.tr (Lx.set _ _ (by simp)), l3.ne (fun j _ _ => by rw [setL_ne _ _ (by decide)]), fun j hj => by
                rw [setL_at]
                by_cases e : j = i
                · rw [e, ul_at]
                · rw [ul_ne _ _ (by omega)]; exact r3 j (by omega), fun j hj => by rw [setL_at, ul_ne _ _ (by omega)]; exact o3 j hj⟩
        have sub : ∀ μ i, i + μ = 10 → ∀ S3, (Lx [29, 30] S S3 ∧ S3.2.2.1 30 = S1.2.2.1 30 ∧ ∀ j, j < i → S3.2.2.1 29 j = lI ((fun i => can (2 ^ 24) 10 (ctK W n A k).1 i + -(btN k : Int) * can (2 ^ 24) 10 W i) j)) → XP mX9_shareOf 67 [(5, .int (nI i)), (4, .int (nI (btN k))), (3, .int (nI (ctK W n A k).2)), (0, .ref 0), (1, .int (nI q)), (2, .int (nI n))] [] (xwS S3) (sQ (fun r S' => r = some (.int (nI (ctK W n A 10).2)) ∧ Lx [29, 30] S S' ∧ sum10 S' 30 (10 * q) (ctK W n A 10).1 ∧ ∀ j, ¬ (10 * q ≤ j ∧ j < 10 * q + 10) → S'.2.2.1 30 j = S.2.2.1 30 j)) := by
          intro μ
          induction μ with
          | zero =>
            intro i hk S3 h1
            obtain ⟨x3, e30, l3⟩ := h1
            refine x_iload eX9_shareOf_67 rfl ?_
            refine x_bipush (v := nI 10) eX9_shareOf_69 (by decide) ?_
            refine x_icmp_geN eX9_shareOf_71 (by omega) (by omega) (fun c_71 => ?_) (fun c_71 => ?_)
            · refine x_aload_n eX9_shareOf_111 rfl ?_
              refine s_getR (k := 29) eX9_shareOf_112 fX9_103 rfl (by decide) (by decide) rfl ?_
              refine x_iconst (v := nI 0) eX9_shareOf_115 (by decide) ?_
              refine x_bipush (v := nI 10) eX9_shareOf_116 (by decide) ?_
              refine s_callS0 (As := [_, _, _]) eX9_shareOf_118 kX9_128 ⟨by decide, by decide⟩ rfl rfl (Nat.le_of_ble_eq_true rfl) (Nat.le_of_ble_eq_true rfl) (sp_X9_carry (a := 29) rfl (by decide) (fr := 0) (n := 10) (by decide) (by decide) _ (fun i => can (2 ^ 24) 10 (ctK W n A k).1 i + -(btN k : Int) * can (2 ^ 24) 10 W i) (fun j hj => by rw [Nat.zero_add]; exact l3 j (by omega)) (fun j hj => by have c1 := can24_bd (V := (ctK W n A k).1) (by omega) hj; have c2 := can24_bd (V := W) (by omega) hj; have c3 := bt_mul c2 k; show -_ ≤ can (2 ^ 24) 10 (ctK W n A k).1 j + -(btN k : Int) * can (2 ^ 24) 10 W j ∧ can (2 ^ 24) 10 (ctK W n A k).1 j + -(btN k : Int) * can (2 ^ 24) 10 W j ≤ _; rw [Int.neg_mul]; generalize (btN k : Int) * can (2 ^ 24) 10 W j = x at *; omega)) (fun S_118 h_118 => ?_)
              have x4 : Lx [29, 30] S S_118 := x3.tr (by rw [h_118]; exact Lx.set _ _ (by simp))
              have l4 : sum10 S_118 29 0 ((ctK W n A k).1 - (btN k : Int) * W) := fun j hj => by
                rw [h_118, setL_at, if_pos (by omega), hv_lin, hv_can0 _ (by decide), hv_can0 _ (by decide), Int.neg_mul, ← Int.sub_eq_add_neg, show 0 + j - 0 = j by omega]
              have e4 : S_118.2.2.1 30 = S1.2.2.1 30 := by rw [h_118, setL_ne _ _ (by decide)]; exact e30
              have bm := bt_mul bW k
              have bdf : -(2 ^ 234) ≤ ((ctK W n A k).1 - (btN k : Int) * W) ∧ ((ctK W n A k).1 - (btN k : Int) * W) ≤ 2 ^ 234 := by generalize (btN k : Int) * W = x at *; omega
              refine x_aload_n eX9_shareOf_121 rfl ?_
              refine s_getR (k := 29) eX9_shareOf_122 fX9_103 rfl (by decide) (by decide) rfl ?_
              refine x_bipush (v := nI 9) eX9_shareOf_125 (by decide) ?_
              refine s_lald eX9_shareOf_127 rfl (by decide) rfl (show _ < 10 by omega) ?_
              rw [show S_118.2.2.1 29 9 = lI (can (2 ^ 24) 10 ((ctK W n A k).1 - (btN k : Int) * W) 9) from l4 9 (by decide)]
              refine x_lconst (v := 0) eX9_shareOf_128 (by decide) ?_
              refine x_lcmp eX9_shareOf_129 ?_
              refine x_if_ltL eX9_shareOf_130 (fun c_130 => ?_) (fun c_130 => ?_)
              · have lt := (sgn10 bdf).mp c_130
                have en := ct_n (Int.not_le.mpr lt)
                refine x_pick [1, 2, 3, 4, 5] rfl ?_
                exact fin S_118 _ x4 (by rw [en]) (by rw [en]; exact fun j hj => by rw [e4]; exact hR j hj) (fun j hj => by rw [e4]; exact ou j hj)
              · have pos : 0 ≤ ((ctK W n A k).1 - (btN k : Int) * W) := Int.not_lt.mp (fun z => c_130 ((sgn10 bdf).mpr z))
                refine x_iload_n eX9_shareOf_133 rfl ?_
                refine x_iload eX9_shareOf_134 rfl ?_
                first | refine x_iaddN eX9_shareOf_136 ?_ | refine x_iadd eX9_shareOf_136 ?_
                refine x_istore_n (lv' := [_, _, _, _, _, _]) eX9_shareOf_137 (by decide) rfl ?_
                refine x_iconst (v := nI 0) eX9_shareOf_138 (by decide) ?_
                refine x_istore (lv' := [_, _, _, _, _, _]) eX9_shareOf_139 (by decide) rfl ?_
                refine x_pick [0, 2, 1, 3, 4, 5] rfl ?_
                exact copy 10 0 (by omega) pos _ ⟨x4, l4, fun j hj => by omega, fun j hj => by rw [e4]; exact ou j hj⟩
            · omega
          | succ μ ih =>
            intro i hk S3 h1
            obtain ⟨x3, e30, l3⟩ := h1
            refine x_iload eX9_shareOf_67 rfl ?_
            refine x_bipush (v := nI 10) eX9_shareOf_69 (by decide) ?_
            refine x_icmp_geN eX9_shareOf_71 (by omega) (by omega) (fun c_71 => ?_) (fun c_71 => ?_)
            · omega
            · refine x_aload_n eX9_shareOf_74 rfl ?_
              refine s_getR (k := 29) eX9_shareOf_75 fX9_103 rfl (by decide) (by decide) rfl ?_
              refine x_iload eX9_shareOf_78 rfl ?_
              refine x_aload_n eX9_shareOf_80 rfl ?_
              refine s_getR (k := 30) eX9_shareOf_81 fX9_106 rfl (by decide) (by decide) rfl ?_
              refine x_bipush (v := nI 10) eX9_shareOf_84 (by decide) ?_
              refine x_iload_n eX9_shareOf_86 rfl ?_
              first | refine x_imulN eX9_shareOf_87 ?_ | refine x_imul eX9_shareOf_87 ?_
              refine x_iload eX9_shareOf_88 rfl ?_
              first | refine x_iaddN eX9_shareOf_90 ?_ | refine x_iadd eX9_shareOf_90 ?_
              refine s_lald eX9_shareOf_91 rfl (by decide) rfl (show 10 * q + i < 600 by omega) ?_
              rw [show S3.2.2.1 30 (10 * q + i) = lI (can (2 ^ 24) 10 (ctK W n A k).1 i) from by rw [e30]; exact hR i (by omega)]
              refine x_iload eX9_shareOf_92 rfl ?_
              refine x_i2l eX9_shareOf_94 ?_
              rw [i2l_nI (show btN k < 2 ^ 31 by omega)]
              refine x_aload_n eX9_shareOf_95 rfl ?_
              refine s_getR (k := 28) eX9_shareOf_96 fX9_100 rfl (by decide) (by decide) rfl ?_
              refine x_iload eX9_shareOf_99 rfl ?_
              refine s_lald eX9_shareOf_101 rfl (by decide) rfl (show _ < 10 by omega) ?_
              rw [show S3.2.2.1 28 i = lI (can (2 ^ 24) 10 W i) from by rw [x3.2.2.2 28 (by simp)]; have := hW i (by omega); rw [Nat.zero_add] at this; exact this]
              refine x_lmul eX9_shareOf_102 ?_
              refine x_lsub eX9_shareOf_103 ?_
              rw [lI_mul, lI_sub]
              refine s_last eX9_shareOf_104 rfl (by decide) rfl (show _ < 10 by omega) ?_
              refine x_iinc (lv' := [_, _, _, _, _, _]) eX9_shareOf_105 rfl (by first | exact nI_inc _ | exact rfl) (by decide) rfl ?_
              refine x_goto eX9_shareOf_108 ?_
              refine x_pick [0, 1, 2, 3, 4, 5] rfl ?_
              exact ih (i + 1) (by omega) _ ⟨x3.tr (Lx.set _ _ (by simp)), by rw [setL_ne _ _ (by decide)]; exact e30, fun j hj => by
                rw [setL_at]
                by_cases e : j = i
                · rw [e, ul_at]; show _ = lI (_ + -(btN k : Int) * _); rw [Int.neg_mul, ← Int.sub_eq_add_neg]
                · rw [ul_ne _ _ e]; exact l3 j (by omega)⟩
        refine x_iconst (v := nI 0) eX9_shareOf_64 (by decide) ?_
        refine x_istore (lv' := [_, _, _, _, _, _]) eX9_shareOf_65 (by decide) rfl ?_
        refine x_pick [0, 1, 2, 3, 4, 5] rfl ?_
        exact sub 10 0 (by omega) S1 ⟨hx, rfl, fun j hj => by omega⟩
  have mul : ∀ μ i, i + μ = 10 → ∀ S1, (Lx [29, 30] S S1 ∧ (∀ j, j < i → S1.2.2.1 30 (10 * q + j) = lI ((fun j => (fun _ => (0 : Int)) j + (n : Int) * can (2 ^ 24) 10 A j) j)) ∧ (∀ j, ¬ (10 * q ≤ j ∧ j < 10 * q + 10) → S1.2.2.1 30 j = S.2.2.1 30 j)) → XP mX9_shareOf 2 [(3, .int (nI i)), (0, .ref 0), (1, .int (nI q)), (2, .int (nI n))] [] (xwS S1) (sQ (fun r S' => r = some (.int (nI (ctK W n A 10).2)) ∧ Lx [29, 30] S S' ∧ sum10 S' 30 (10 * q) (ctK W n A 10).1 ∧ ∀ j, ¬ (10 * q ≤ j ∧ j < 10 * q + 10) → S'.2.2.1 30 j = S.2.2.1 30 j)) := by
    intro μ
    induction μ with
    | zero =>
      intro i hk S1 h1
      obtain ⟨hx, r, ou⟩ := h1
      refine x_iload_n eX9_shareOf_2 rfl ?_
      refine x_bipush (v := nI 10) eX9_shareOf_3 (by decide) ?_
      refine x_icmp_geN eX9_shareOf_5 (by omega) (by omega) (fun c_5 => ?_) (fun c_5 => ?_)
      · refine x_aload_n eX9_shareOf_39 rfl ?_
        refine s_getR (k := 30) eX9_shareOf_40 fX9_106 rfl (by decide) (by decide) rfl ?_
        refine x_bipush (v := nI 10) eX9_shareOf_43 (by decide) ?_
        refine x_iload_n eX9_shareOf_45 rfl ?_
        first | refine x_imulN eX9_shareOf_46 ?_ | refine x_imul eX9_shareOf_46 ?_
        refine x_bipush (v := nI 10) eX9_shareOf_47 (by decide) ?_
        refine s_callS0 (As := [_, _, _]) eX9_shareOf_49 kX9_128 ⟨by decide, by decide⟩ rfl rfl (Nat.le_of_ble_eq_true rfl) (Nat.le_of_ble_eq_true rfl) (sp_X9_carry (a := 30) rfl (by decide) (fr := 10 * q) (n := 10) (show _ ≤ 600 by omega) (by decide) _ (fun j => (fun _ => (0 : Int)) j + (n : Int) * can (2 ^ 24) 10 A j) (fun j hj => r j (by omega)) (fun j hj => by have c1 := can24_bd (V := A) (by omega) hj; have c2 := mulB (a := (n : Int)) (A := 1000) (by omega) c1; show -_ ≤ 0 + (n : Int) * can (2 ^ 24) 10 A j ∧ 0 + (n : Int) * can (2 ^ 24) 10 A j ≤ _; generalize (n : Int) * can (2 ^ 24) 10 A j = x at *; omega)) (fun S_49 h_49 => ?_)
        refine x_iconst (v := nI 0) eX9_shareOf_52 (by decide) ?_
        refine x_istore_n (lv' := [_, _, _, _]) eX9_shareOf_53 (by decide) rfl ?_
        refine x_sipush (v := nI 512) eX9_shareOf_54 (by decide) ?_
        refine x_istore (lv' := [_, _, _, _, _]) eX9_shareOf_57 (by decide) rfl ?_
        refine x_pick [0, 1, 2, 3, 4] rfl ?_
        have z10 : hv (2 ^ 24) (fun _ => (0 : Int)) 0 10 = 0 := by decide
        exact bits 10 0 (by omega) _ ⟨hx.tr (by rw [h_49]; exact Lx.set _ _ (by simp)), fun j hj => by rw [h_49, setL_at, if_pos (by omega), hv_lin, hv_can0 _ (by decide), z10, Int.zero_add, show 10 * q + j - 10 * q = j by omega]; rfl, fun j hj => by rw [h_49, setL_at, if_neg hj]; exact ou j hj⟩
      · omega
    | succ μ ih =>
      intro i hk S1 h1
      obtain ⟨hx, r, ou⟩ := h1
      refine x_iload_n eX9_shareOf_2 rfl ?_
      refine x_bipush (v := nI 10) eX9_shareOf_3 (by decide) ?_
      refine x_icmp_geN eX9_shareOf_5 (by omega) (by omega) (fun c_5 => ?_) (fun c_5 => ?_)
      · omega
      · refine x_aload_n eX9_shareOf_8 rfl ?_
        refine s_getR (k := 30) eX9_shareOf_9 fX9_106 rfl (by decide) (by decide) rfl ?_
        refine x_bipush (v := nI 10) eX9_shareOf_12 (by decide) ?_
        refine x_iload_n eX9_shareOf_14 rfl ?_
        first | refine x_imulN eX9_shareOf_15 ?_ | refine x_imul eX9_shareOf_15 ?_
        refine x_iload_n eX9_shareOf_16 rfl ?_
        first | refine x_iaddN eX9_shareOf_17 ?_ | refine x_iadd eX9_shareOf_17 ?_
        refine x_iload_n eX9_shareOf_18 rfl ?_
        refine x_i2l eX9_shareOf_19 ?_
        rw [i2l_nI (show n < 2 ^ 31 by omega)]
        refine x_aload_n eX9_shareOf_20 rfl ?_
        refine s_getR (k := 27) eX9_shareOf_21 fX9_97 rfl (by decide) (by decide) rfl ?_
        refine x_bipush (v := nI 10) eX9_shareOf_24 (by decide) ?_
        refine x_iload_n eX9_shareOf_26 rfl ?_
        first | refine x_imulN eX9_shareOf_27 ?_ | refine x_imul eX9_shareOf_27 ?_
        refine x_iload_n eX9_shareOf_28 rfl ?_
        first | refine x_iaddN eX9_shareOf_29 ?_ | refine x_iadd eX9_shareOf_29 ?_
        refine s_lald eX9_shareOf_30 rfl (by decide) rfl (show 10 * q + i < 600 by omega) ?_
        rw [show S1.2.2.1 27 (10 * q + i) = lI (can (2 ^ 24) 10 A i) from by rw [hx.2.2.2 27 (by simp)]; exact hA i (by omega)]
        refine x_lmul eX9_shareOf_31 ?_
        rw [lI_mul]
        refine s_last eX9_shareOf_32 rfl (by decide) rfl (show 10 * q + i < 600 by omega) ?_
        refine x_iinc (lv' := [_, _, _, _]) eX9_shareOf_33 rfl (by first | exact nI_inc _ | exact rfl) (by decide) rfl ?_
        refine x_goto eX9_shareOf_36 ?_
        refine x_pick [0, 1, 2, 3] rfl ?_
        exact ih (i + 1) (by omega) _ ⟨hx.tr (Lx.set _ _ (by simp)), fun j hj => by
          rw [setL_at]
          by_cases e : j = i
          · rw [e, ul_at]; show _ = lI (0 + _); rw [Int.zero_add]
          · rw [ul_ne _ _ (by omega)]; exact r j (by omega), fun j hj => by rw [setL_at, ul_ne _ _ (by omega)]; exact ou j hj⟩
  show XP _ _ [_, _, _] _ _ _
  refine x_iconst (v := nI 0) eX9_shareOf_0 (by decide) ?_
  refine x_istore_n (lv' := [_, _, _, _]) eX9_shareOf_1 (by decide) rfl ?_
  refine x_pick [0, 1, 2, 3] rfl ?_
  exact mul 10 0 (by omega) _ ⟨Lx.rf _ _, fun j hj => by omega, fun j hj => rfl⟩
theorem m_shareOf (S : xS) {X : LM} (w : wf X) {l : Int32} {q n : Nat} (hq : q < xNp X) (t : xTh X q = true) (n1000 : n ≤ 1000) (hA : sum10 S 27 (10 * q) (4 * xAr X q)) (hW : sum10 S 28 0 (4 * totA X l (xNp X))) : Sp mX9_shareOf [.ref 0, .int (nI q), .int (nI n)] S (fun r S' => r = some (.int (nI (cuN X l n q))) ∧ Lx [29, 30] S S' ∧ sum10 S' 30 (10 * q) (4 * rsN X l n q) ∧ ∀ j, ¬ (10 * q ≤ j ∧ j < 10 * q + 10) → S'.2.2.1 30 j = S.2.2.1 30 j) := by
  have n60 := w.2.2.2.2.1.1
  have a := xAr_bd w t
  have b := tot_212 w l (j := xNp X) n60
  refine Sp.mono (sp_X9_shareOf S (by omega) hA hW n1000 (by omega) (by omega)) (fun r S' z => ?_)
  rw [ct_4] at z
  exact z
theorem m_quota {S : xS} {X : LM} (w : wf X) (h : RM S X) {a n : Nat} (ha : a < xNp X) (ta : xTh X a = true) (n1000 : n ≤ 1000) : Sp mX9_quota [.ref 0, .int (nI a), .int (nI n)] S (fun r S' => r = some (.int (quI X (nI (xLy X a)) n a)) ∧ RM S' X ∧ frM S S') := by
  have n60 : xNp X ≤ 60 := w.2.2.2.2.1.1
  have ya0 : xHas X (nI a) := ⟨a, ha, rfl, ta⟩
  have yn : ∃ k, k < 1000 + 1 ∧ nI n = nI k := ⟨n, by omega, rfl⟩
  have loop3 : ∀ μ j, j + μ = (xNp X) → ∀ S1, (Lx [5, 6, 27, 28, 29, 30] S S1 ∧ ∀ q, q < xNp X → act X (nI (xLy X a)) q → sum10 S1 30 (10 * q) (4 * rsN X (nI (xLy X a)) n q)) → XP mX9_quota 212 [(6, .int (nI j)), (5, .int (nI (cnt (btr X (nI (xLy X a)) n a) j))), (4, .int (owI X (nI (xLy X a)) n a (xNp X))), (3, .int (lfI X (nI (xLy X a)) n (xNp X))), (0, .ref 0), (1, .int (nI a)), (2, .int (nI n))] [] (xwS S1) (sQ (fun r S' => r = some (.int (quI X (nI (xLy X a)) n a)) ∧ RM S' X ∧ frM S S')) := by
    intro μ
    induction μ with
    | zero =>
      intro j hk S1 h1
      obtain ⟨hx, hr⟩ := h1
      have g := RM_Lx h hx (by simp) (by simp) (by simp) (by simp)
      have t := g.tab w
      refine x_iload eX9_quota_212 rfl ?_
      refine x_aload_n eX9_quota_214 rfl ?_
      refine s_geti eX9_quota_215 fX9_224 rfl (by decide) (by decide) ?_
      rw [t.1]
      refine x_icmp_geN eX9_quota_218 (by omega) (by omega) (fun c_218 => ?_) (fun c_218 => ?_)
      · obtain rfl : j = xNp X := (by omega)
        refine x_iload eX9_quota_342 rfl ?_
        refine x_iload eX9_quota_344 rfl ?_
        refine x_iload_n eX9_quota_346 rfl ?_
        refine x_icmp_ge eX9_quota_347 (fun c_347 => ?_) (fun c_347 => ?_)
        · have ev := qu_y c_347
          refine x_iconst (v := nI 0) eX9_quota_354 (by decide) ?_
          first | refine x_iaddN eX9_quota_355 ?_ | refine x_iadd eX9_quota_355 ?_
          first
            | exact s_iret eX9_quota_356 rfl rfl ⟨congrArg (fun v => some (Value.int v)) ev.symm, g, hx.frM (by simp)⟩
            | exact s_iret eX9_quota_356 rfl rfl ⟨congrArg (fun v => some (Value.int v)) ((Int32.add_zero _).trans ev.symm), g, hx.frM (by simp)⟩
        · have ev := qu_n c_347
          refine x_iconst (v := nI 1) eX9_quota_350 (by decide) ?_
          refine x_goto eX9_quota_351 ?_
          first | refine x_iaddN eX9_quota_355 ?_ | refine x_iadd eX9_quota_355 ?_
          first
            | exact s_iret eX9_quota_356 rfl rfl ⟨congrArg (fun v => some (Value.int v)) ev.symm, g, hx.frM (by simp)⟩
            | exact s_iret eX9_quota_356 rfl rfl ⟨congrArg (fun v => some (Value.int v)) ((Int32.add_zero _).trans ev.symm), g, hx.frM (by simp)⟩
      · omega
    | succ μ ih =>
      intro j hk S1 h1
      obtain ⟨hx, hr⟩ := h1
      have g := RM_Lx h hx (by simp) (by simp) (by simp) (by simp)
      have t := g.tab w
      refine x_iload eX9_quota_212 rfl ?_
      refine x_aload_n eX9_quota_214 rfl ?_
      refine s_geti eX9_quota_215 fX9_224 rfl (by decide) (by decide) ?_
      rw [t.1]
      refine x_icmp_geN eX9_quota_218 (by omega) (by omega) (fun c_218 => ?_) (fun c_218 => ?_)
      · omega
      · refine x_aload_n eX9_quota_221 rfl ?_
        refine s_getR (k := 12) eX9_quota_222 fX9_48 rfl (by decide) (by decide) rfl ?_
        refine x_iload eX9_quota_225 rfl ?_
        refine s_zald eX9_quota_227 rfl (by decide) rfl (show _ < 60 by omega) ?_
        rw [(t.2.2 j (by omega)).1]
        refine x_if_eqB eX9_quota_228 (fun c_228 => ?_) (fun c_228 => ?_)
        · have nb : ¬ btr X (nI (xLy X a)) n a j := fun y => absurd y.1.1 (by rw [show xTh X j = false from c_228]; decide)
          refine x_iinc (lv' := [_, _, _, _, _, _, _]) eX9_quota_336 rfl (by first | exact nI_inc _ | exact rfl) (by decide) rfl ?_
          refine x_goto eX9_quota_339 ?_
          refine x_pick [0, 1, 2, 3, 4, 5, 6] rfl ?_
          have := ih (j + 1) (by omega) _ ⟨hx, hr⟩; rw [cnt_f nb] at this; exact this
        · refine x_aload_n eX9_quota_231 rfl ?_
          refine s_getR (k := 13) eX9_quota_232 fX9_52 rfl (by decide) (by decide) rfl ?_
          refine x_iload eX9_quota_235 rfl ?_
          refine s_iald eX9_quota_237 rfl (by decide) rfl (show _ < 60 by omega) ?_
          rw [((t.2.2 j (by omega)).2 c_228).1]
          refine x_aload_n eX9_quota_238 rfl ?_
          refine s_getR (k := 13) eX9_quota_239 fX9_52 rfl (by decide) (by decide) rfl ?_
          refine x_iload_n eX9_quota_242 rfl ?_
          refine s_iald eX9_quota_243 rfl (by decide) rfl (show _ < 60 by omega) ?_
          rw [((t.2.2 a ha).2 ta).1]
          refine x_icmp_ne eX9_quota_244 (fun c_244 => ?_) (fun c_244 => ?_)
          · have nb : ¬ btr X (nI (xLy X a)) n a j := fun y => c_244 y.1.2
            refine x_iinc (lv' := [_, _, _, _, _, _, _]) eX9_quota_336 rfl (by first | exact nI_inc _ | exact rfl) (by decide) rfl ?_
            refine x_goto eX9_quota_339 ?_
            refine x_pick [0, 1, 2, 3, 4, 5, 6] rfl ?_
            have := ih (j + 1) (by omega) _ ⟨hx, hr⟩; rw [cnt_f nb] at this; exact this
          · have ya : act X (nI (xLy X a)) j := ⟨c_228, c_244⟩
            refine x_iload eX9_quota_247 rfl ?_
            refine x_iload_n eX9_quota_249 rfl ?_
            refine x_icmp_eqN eX9_quota_250 (by omega) (by omega) (fun c_250 => ?_) (fun c_250 => ?_)
            · have nb : ¬ btr X (nI (xLy X a)) n a j := fun y => y.2.1 c_250
              refine x_iinc (lv' := [_, _, _, _, _, _, _]) eX9_quota_336 rfl (by first | exact nI_inc _ | exact rfl) (by decide) rfl ?_
              refine x_goto eX9_quota_339 ?_
              refine x_pick [0, 1, 2, 3, 4, 5, 6] rfl ?_
              have := ih (j + 1) (by omega) _ ⟨hx, hr⟩; rw [cnt_f nb] at this; exact this
            · refine x_pick [0, 1, 2, 3, 4, 5, 6] rfl ?_
              have rj := hr j (by omega) ya
              have ra := hr a ha ⟨ta, rfl⟩
              have bj := rs_bd w (nI (xLy X a)) n1000 ya.1
              have ba := rs_bd w (nI (xLy X a)) n1000 ta
              have ia := in24 (V := 4 * rsN X (nI (xLy X a)) n a) (by omega)
              have ij := in24 (V := 4 * rsN X (nI (xLy X a)) n j) (by omega)
              rcases Int.lt_trichotomy (rsN X (nI (xLy X a)) n a) (rsN X (nI (xLy X a)) n j) with z | z | z
              · refine x_aload_n eX9_quota_253 rfl ?_
                refine s_getR (k := 30) eX9_quota_254 fX9_106 rfl (by decide) (by decide) rfl ?_
                refine x_bipush (v := nI 10) eX9_quota_257 (by decide) ?_
                refine x_iload_n eX9_quota_259 rfl ?_
                first | refine x_imulN eX9_quota_260 ?_ | refine x_imul eX9_quota_260 ?_
                refine x_aload_n eX9_quota_261 rfl ?_
                refine s_getR (k := 30) eX9_quota_262 fX9_106 rfl (by decide) (by decide) rfl ?_
                refine x_bipush (v := nI 10) eX9_quota_265 (by decide) ?_
                refine x_iload eX9_quota_267 rfl ?_
                first | refine x_imulN eX9_quota_269 ?_ | refine x_imul eX9_quota_269 ?_
                refine s_callS1 (As := [_, _, _, _]) eX9_quota_270 kX9_208 ⟨by decide, by decide⟩ rfl rfl (Nat.le_of_ble_eq_true rfl) (Nat.le_of_ble_eq_true rfl) (sp_X9_less (p := 30) (q := 30) rfl (by decide) rfl (by decide) (show _ ≤ 600 by omega) (show _ ≤ 600 by omega) _ _ _ ra rj ia ij) (fun S_270 h_270 => ?_)
                have h_270 := h_270.symm
                subst h_270
                rw [decide_eq_true (by omega)]
                refine x_istore (lv' := [_, _, _, _, _, _, _, _]) eX9_quota_273 (by decide) rfl ?_
                refine x_iload eX9_quota_275 rfl ?_
                refine x_if_neB eX9_quota_277 (fun c_277 => ?_) (fun c_277 => ?_)
                · refine x_iconst (v := nI 0) eX9_quota_307 (by decide) ?_
                  refine x_istore (lv' := [_, _, _, _, _, _, _, _, _]) eX9_quota_308 (by decide) rfl ?_
                  refine x_iload eX9_quota_310 rfl ?_
                  refine x_iload eX9_quota_312 rfl ?_
                  refine x_if_neB eX9_quota_314 (fun c_314 => ?_) (fun c_314 => ?_)
                  · refine x_iconst (v := nI 1) eX9_quota_328 (by decide) ?_
                    refine x_goto eX9_quota_329 ?_
                    first | refine x_iaddN eX9_quota_333 ?_ | refine x_iadd eX9_quota_333 ?_
                    refine x_istore (lv' := [_, _, _, _, _, _, _, _, _]) eX9_quota_334 (by decide) rfl ?_
                    refine x_iinc (lv' := [_, _, _, _, _, _, _, _, _]) eX9_quota_336 rfl (by first | exact nI_inc _ | exact rfl) (by decide) rfl ?_
                    refine x_goto eX9_quota_339 ?_
                    refine x_pick [0, 1, 4, 5, 6, 7, 8] rfl ?_
                    have yb : btr X (nI (xLy X a)) n a j := ⟨ya, c_250, Or.inl z⟩
                    have := ih (j + 1) (by omega) _ ⟨hx, hr⟩; rw [cnt_t yb] at this; exact this
                  · exact absurd c_314 (by decide)
                · exact absurd c_277 (by decide)
              · refine x_aload_n eX9_quota_253 rfl ?_
                refine s_getR (k := 30) eX9_quota_254 fX9_106 rfl (by decide) (by decide) rfl ?_
                refine x_bipush (v := nI 10) eX9_quota_257 (by decide) ?_
                refine x_iload_n eX9_quota_259 rfl ?_
                first | refine x_imulN eX9_quota_260 ?_ | refine x_imul eX9_quota_260 ?_
                refine x_aload_n eX9_quota_261 rfl ?_
                refine s_getR (k := 30) eX9_quota_262 fX9_106 rfl (by decide) (by decide) rfl ?_
                refine x_bipush (v := nI 10) eX9_quota_265 (by decide) ?_
                refine x_iload eX9_quota_267 rfl ?_
                first | refine x_imulN eX9_quota_269 ?_ | refine x_imul eX9_quota_269 ?_
                refine s_callS1 (As := [_, _, _, _]) eX9_quota_270 kX9_208 ⟨by decide, by decide⟩ rfl rfl (Nat.le_of_ble_eq_true rfl) (Nat.le_of_ble_eq_true rfl) (sp_X9_less (p := 30) (q := 30) rfl (by decide) rfl (by decide) (show _ ≤ 600 by omega) (show _ ≤ 600 by omega) _ _ _ ra rj ia ij) (fun S_270 h_270 => ?_)
                have h_270 := h_270.symm
                subst h_270
                rw [decide_eq_false (by omega)]
                refine x_istore (lv' := [_, _, _, _, _, _, _, _]) eX9_quota_273 (by decide) rfl ?_
                refine x_iload eX9_quota_275 rfl ?_
                refine x_if_neB eX9_quota_277 (fun c_277 => ?_) (fun c_277 => ?_)
                · exact absurd c_277 (by decide)
                · refine x_aload_n eX9_quota_280 rfl ?_
                  refine s_getR (k := 30) eX9_quota_281 fX9_106 rfl (by decide) (by decide) rfl ?_
                  refine x_bipush (v := nI 10) eX9_quota_284 (by decide) ?_
                  refine x_iload eX9_quota_286 rfl ?_
                  first | refine x_imulN eX9_quota_288 ?_ | refine x_imul eX9_quota_288 ?_
                  refine x_aload_n eX9_quota_289 rfl ?_
                  refine s_getR (k := 30) eX9_quota_290 fX9_106 rfl (by decide) (by decide) rfl ?_
                  refine x_bipush (v := nI 10) eX9_quota_293 (by decide) ?_
                  refine x_iload_n eX9_quota_295 rfl ?_
                  first | refine x_imulN eX9_quota_296 ?_ | refine x_imul eX9_quota_296 ?_
                  refine s_callS1 (As := [_, _, _, _]) eX9_quota_297 kX9_208 ⟨by decide, by decide⟩ rfl rfl (Nat.le_of_ble_eq_true rfl) (Nat.le_of_ble_eq_true rfl) (sp_X9_less (p := 30) (q := 30) rfl (by decide) rfl (by decide) (show _ ≤ 600 by omega) (show _ ≤ 600 by omega) _ _ _ rj ra ij ia) (fun S_297 h_297 => ?_)
                  have h_297 := h_297.symm
                  subst h_297
                  rw [decide_eq_false (by omega)]
                  refine x_if_neB eX9_quota_300 (fun c_300 => ?_) (fun c_300 => ?_)
                  · exact absurd c_300 (by decide)
                  · refine x_iconst (v := nI 1) eX9_quota_303 (by decide) ?_
                    refine x_goto eX9_quota_304 ?_
                    refine x_istore (lv' := [_, _, _, _, _, _, _, _, _]) eX9_quota_308 (by decide) rfl ?_
                    refine x_iload eX9_quota_310 rfl ?_
                    refine x_iload eX9_quota_312 rfl ?_
                    refine x_if_neB eX9_quota_314 (fun c_314 => ?_) (fun c_314 => ?_)
                    · exact absurd c_314 (by decide)
                    · refine x_iload eX9_quota_317 rfl ?_
                      refine x_if_eqN eX9_quota_319 (by omega) (fun c_319 => ?_) (fun c_319 => ?_)
                      · omega
                      · refine x_iload eX9_quota_322 rfl ?_
                        refine x_iload_n eX9_quota_324 rfl ?_
                        refine x_icmp_geN eX9_quota_325 (by omega) (by omega) (fun c_325 => ?_) (fun c_325 => ?_)
                        · have nb : ¬ btr X (nI (xLy X a)) n a j := fun y => by have := y.2.2; omega
                          refine x_iconst (v := nI 0) eX9_quota_332 (by decide) ?_
                          first | refine x_iaddN eX9_quota_333 ?_ | refine x_iadd eX9_quota_333 ?_
                          refine x_istore (lv' := [_, _, _, _, _, _, _, _, _]) eX9_quota_334 (by decide) rfl ?_
                          refine x_iinc (lv' := [_, _, _, _, _, _, _, _, _]) eX9_quota_336 rfl (by first | exact nI_inc _ | exact rfl) (by decide) rfl ?_
                          refine x_goto eX9_quota_339 ?_
                          refine x_pick [0, 1, 4, 5, 6, 7, 8] rfl ?_
                          first
                            | (have := ih (j + 1) (by omega) _ ⟨hx, hr⟩; rw [cnt_t yb] at this; exact this)
                            | (have := ih (j + 1) (by omega) _ ⟨hx, hr⟩; rw [cnt_f nb] at this; exact this)
                        · have yb : btr X (nI (xLy X a)) n a j := ⟨ya, c_250, Or.inr ⟨z.symm, c_325⟩⟩
                          refine x_iconst (v := nI 1) eX9_quota_328 (by decide) ?_
                          refine x_goto eX9_quota_329 ?_
                          first | refine x_iaddN eX9_quota_333 ?_ | refine x_iadd eX9_quota_333 ?_
                          refine x_istore (lv' := [_, _, _, _, _, _, _, _, _]) eX9_quota_334 (by decide) rfl ?_
                          refine x_iinc (lv' := [_, _, _, _, _, _, _, _, _]) eX9_quota_336 rfl (by first | exact nI_inc _ | exact rfl) (by decide) rfl ?_
                          refine x_goto eX9_quota_339 ?_
                          refine x_pick [0, 1, 4, 5, 6, 7, 8] rfl ?_
                          first
                            | (have := ih (j + 1) (by omega) _ ⟨hx, hr⟩; rw [cnt_t yb] at this; exact this)
                            | (have := ih (j + 1) (by omega) _ ⟨hx, hr⟩; rw [cnt_f nb] at this; exact this)
              · refine x_aload_n eX9_quota_253 rfl ?_
                refine s_getR (k := 30) eX9_quota_254 fX9_106 rfl (by decide) (by decide) rfl ?_
                refine x_bipush (v := nI 10) eX9_quota_257 (by decide) ?_
                refine x_iload_n eX9_quota_259 rfl ?_
                first | refine x_imulN eX9_quota_260 ?_ | refine x_imul eX9_quota_260 ?_
                refine x_aload_n eX9_quota_261 rfl ?_
                refine s_getR (k := 30) eX9_quota_262 fX9_106 rfl (by decide) (by decide) rfl ?_
                refine x_bipush (v := nI 10) eX9_quota_265 (by decide) ?_
                refine x_iload eX9_quota_267 rfl ?_
                first | refine x_imulN eX9_quota_269 ?_ | refine x_imul eX9_quota_269 ?_
                refine s_callS1 (As := [_, _, _, _]) eX9_quota_270 kX9_208 ⟨by decide, by decide⟩ rfl rfl (Nat.le_of_ble_eq_true rfl) (Nat.le_of_ble_eq_true rfl) (sp_X9_less (p := 30) (q := 30) rfl (by decide) rfl (by decide) (show _ ≤ 600 by omega) (show _ ≤ 600 by omega) _ _ _ ra rj ia ij) (fun S_270 h_270 => ?_)
                have h_270 := h_270.symm
                subst h_270
                rw [decide_eq_false (by omega)]
                refine x_istore (lv' := [_, _, _, _, _, _, _, _]) eX9_quota_273 (by decide) rfl ?_
                refine x_iload eX9_quota_275 rfl ?_
                refine x_if_neB eX9_quota_277 (fun c_277 => ?_) (fun c_277 => ?_)
                · exact absurd c_277 (by decide)
                · refine x_aload_n eX9_quota_280 rfl ?_
                  refine s_getR (k := 30) eX9_quota_281 fX9_106 rfl (by decide) (by decide) rfl ?_
                  refine x_bipush (v := nI 10) eX9_quota_284 (by decide) ?_
                  refine x_iload eX9_quota_286 rfl ?_
                  first | refine x_imulN eX9_quota_288 ?_ | refine x_imul eX9_quota_288 ?_
                  refine x_aload_n eX9_quota_289 rfl ?_
                  refine s_getR (k := 30) eX9_quota_290 fX9_106 rfl (by decide) (by decide) rfl ?_
                  refine x_bipush (v := nI 10) eX9_quota_293 (by decide) ?_
                  refine x_iload_n eX9_quota_295 rfl ?_
                  first | refine x_imulN eX9_quota_296 ?_ | refine x_imul eX9_quota_296 ?_
                  refine s_callS1 (As := [_, _, _, _]) eX9_quota_297 kX9_208 ⟨by decide, by decide⟩ rfl rfl (Nat.le_of_ble_eq_true rfl) (Nat.le_of_ble_eq_true rfl) (sp_X9_less (p := 30) (q := 30) rfl (by decide) rfl (by decide) (show _ ≤ 600 by omega) (show _ ≤ 600 by omega) _ _ _ rj ra ij ia) (fun S_297 h_297 => ?_)
                  have h_297 := h_297.symm
                  subst h_297
                  rw [decide_eq_true (by omega)]
                  refine x_if_neB eX9_quota_300 (fun c_300 => ?_) (fun c_300 => ?_)
                  · refine x_iconst (v := nI 0) eX9_quota_307 (by decide) ?_
                    refine x_istore (lv' := [_, _, _, _, _, _, _, _, _]) eX9_quota_308 (by decide) rfl ?_
                    refine x_iload eX9_quota_310 rfl ?_
                    refine x_iload eX9_quota_312 rfl ?_
                    refine x_if_neB eX9_quota_314 (fun c_314 => ?_) (fun c_314 => ?_)
                    · exact absurd c_314 (by decide)
                    · refine x_iload eX9_quota_317 rfl ?_
                      refine x_if_eqN eX9_quota_319 (by omega) (fun c_319 => ?_) (fun c_319 => ?_)
                      · refine x_iconst (v := nI 0) eX9_quota_332 (by decide) ?_
                        first | refine x_iaddN eX9_quota_333 ?_ | refine x_iadd eX9_quota_333 ?_
                        refine x_istore (lv' := [_, _, _, _, _, _, _, _, _]) eX9_quota_334 (by decide) rfl ?_
                        refine x_iinc (lv' := [_, _, _, _, _, _, _, _, _]) eX9_quota_336 rfl (by first | exact nI_inc _ | exact rfl) (by decide) rfl ?_
                        refine x_goto eX9_quota_339 ?_
                        refine x_pick [0, 1, 4, 5, 6, 7, 8] rfl ?_
                        have nb : ¬ btr X (nI (xLy X a)) n a j := fun y => by have := y.2.2; omega
                        have := ih (j + 1) (by omega) _ ⟨hx, hr⟩; rw [cnt_f nb] at this; exact this
                      · omega
                  · exact absurd c_300 (by decide)
  have loop2 : ∀ μ j, j + μ = (xNp X) → ∀ S1, (Lx [5, 6, 27, 28, 29, 30] S S1 ∧ sum10 S1 28 0 (4 * totA X (nI (xLy X a)) (xNp X)) ∧ (∀ q, q < xNp X → act X (nI (xLy X a)) q → sum10 S1 27 (10 * q) (4 * xAr X q)) ∧ ∀ q, q < j → act X (nI (xLy X a)) q → sum10 S1 30 (10 * q) (4 * rsN X (nI (xLy X a)) n q)) → XP mX9_quota 136 [(5, .int (nI j)), (4, .int (owI X (nI (xLy X a)) n a j)), (3, .int (lfI X (nI (xLy X a)) n j)), (0, .ref 0), (1, .int (nI a)), (2, .int (nI n))] [] (xwS S1) (sQ (fun r S' => r = some (.int (quI X (nI (xLy X a)) n a)) ∧ RM S' X ∧ frM S S')) := by
    intro μ
    induction μ with
    | zero =>
      intro j hk S1 h1
      obtain ⟨hx, hw, hA, hr⟩ := h1
      have g := RM_Lx h hx (by simp) (by simp) (by simp) (by simp)
      have t := g.tab w
      refine x_iload eX9_quota_136 rfl ?_
      refine x_aload_n eX9_quota_138 rfl ?_
      refine s_geti eX9_quota_139 fX9_224 rfl (by decide) (by decide) ?_
      rw [t.1]
      refine x_icmp_geN eX9_quota_142 (by omega) (by omega) (fun c_142 => ?_) (fun c_142 => ?_)
      · obtain rfl : j = xNp X := (by omega)
        refine x_iconst (v := nI 0) eX9_quota_206 (by decide) ?_
        refine x_istore (lv' := [_, _, _, _, _, _]) eX9_quota_207 (by decide) rfl ?_
        refine x_iconst (v := nI 0) eX9_quota_209 (by decide) ?_
        refine x_istore (lv' := [_, _, _, _, _, _, _]) eX9_quota_210 (by decide) rfl ?_
        refine x_pick [0, 1, 2, 3, 4, 5, 6] rfl ?_
        exact loop3 (xNp X) 0 (by omega) _ ⟨hx, hr⟩
      · omega
    | succ μ ih =>
      intro j hk S1 h1
      obtain ⟨hx, hw, hA, hr⟩ := h1
      have g := RM_Lx h hx (by simp) (by simp) (by simp) (by simp)
      have t := g.tab w
      refine x_iload eX9_quota_136 rfl ?_
      refine x_aload_n eX9_quota_138 rfl ?_
      refine s_geti eX9_quota_139 fX9_224 rfl (by decide) (by decide) ?_
      rw [t.1]
      refine x_icmp_geN eX9_quota_142 (by omega) (by omega) (fun c_142 => ?_) (fun c_142 => ?_)
      · omega
      · refine x_aload_n eX9_quota_145 rfl ?_
        refine s_getR (k := 12) eX9_quota_146 fX9_48 rfl (by decide) (by decide) rfl ?_
        refine x_iload eX9_quota_149 rfl ?_
        refine s_zald eX9_quota_151 rfl (by decide) rfl (show _ < 60 by omega) ?_
        rw [(t.2.2 j (by omega)).1]
        refine x_if_eqB eX9_quota_152 (fun c_152 => ?_) (fun c_152 => ?_)
        · have na : ¬ act X (nI (xLy X a)) j := fun y => absurd y.1 (by rw [show xTh X j = false from c_152]; decide)
          refine x_iinc (lv' := [_, _, _, _, _, _]) eX9_quota_200 rfl (by first | exact nI_inc _ | exact rfl) (by decide) rfl ?_
          refine x_goto eX9_quota_203 ?_
          refine x_pick [0, 1, 2, 3, 4, 5] rfl ?_
          first
            | (have := ih (j + 1) (by omega) S1 ⟨hx, hw, hA, fun q hq hac => hr q (by have e : q ≠ j := (fun e => na (e ▸ hac)); omega) hac⟩
               rw [lf_n na, ow_n (fun z => na z.1)] at this; exact this)
            | (have := ih (j + 1) (by omega) S_175 nx; rw [lf_y ya, eo] at this; exact this)
        · refine x_aload_n eX9_quota_155 rfl ?_
          refine s_getR (k := 13) eX9_quota_156 fX9_52 rfl (by decide) (by decide) rfl ?_
          refine x_iload eX9_quota_159 rfl ?_
          refine s_iald eX9_quota_161 rfl (by decide) rfl (show _ < 60 by omega) ?_
          rw [((t.2.2 j (by omega)).2 c_152).1]
          refine x_aload_n eX9_quota_162 rfl ?_
          refine s_getR (k := 13) eX9_quota_163 fX9_52 rfl (by decide) (by decide) rfl ?_
          refine x_iload_n eX9_quota_166 rfl ?_
          refine s_iald eX9_quota_167 rfl (by decide) rfl (show _ < 60 by omega) ?_
          rw [((t.2.2 a ha).2 ta).1]
          refine x_icmp_ne eX9_quota_168 (fun c_168 => ?_) (fun c_168 => ?_)
          · have na : ¬ act X (nI (xLy X a)) j := fun y => c_168 y.2
            refine x_iinc (lv' := [_, _, _, _, _, _]) eX9_quota_200 rfl (by first | exact nI_inc _ | exact rfl) (by decide) rfl ?_
            refine x_goto eX9_quota_203 ?_
            refine x_pick [0, 1, 2, 3, 4, 5] rfl ?_
            first
              | (have := ih (j + 1) (by omega) S1 ⟨hx, hw, hA, fun q hq hac => hr q (by have e : q ≠ j := (fun e => na (e ▸ hac)); omega) hac⟩
                 rw [lf_n na, ow_n (fun z => na z.1)] at this; exact this)
              | (have := ih (j + 1) (by omega) S_175 nx; rw [lf_y ya, eo] at this; exact this)
          · have ya : act X (nI (xLy X a)) j := ⟨c_152, c_168⟩
            refine x_aload_n eX9_quota_171 rfl ?_
            refine x_iload eX9_quota_172 rfl ?_
            refine x_iload_n eX9_quota_174 rfl ?_
            refine s_callV1 (As := [_, _]) eX9_quota_175 kX9_309 ⟨by decide, by decide⟩ rfl (by decide) (by decide) rfl rfl (Nat.le_of_ble_eq_true rfl) (Nat.le_of_ble_eq_true rfl) (m_shareOf _ w (l := (nI (xLy X a))) (by omega) ya.1 n1000 (hA j (by omega) ya) hw) (fun S_175 h_175 => ?_)
            have x1 : Lx [5, 6, 27, 28, 29, 30] S1 S_175 := h_175.1.mono (fun p hp => by simp at hp ⊢; omega)
            have nx : Lx [5, 6, 27, 28, 29, 30] S S_175 ∧ sum10 S_175 28 0 (4 * totA X (nI (xLy X a)) (xNp X)) ∧ (∀ q, q < xNp X → act X (nI (xLy X a)) q → sum10 S_175 27 (10 * q) (4 * xAr X q)) ∧ ∀ q, q < j + 1 → act X (nI (xLy X a)) q → sum10 S_175 30 (10 * q) (4 * rsN X (nI (xLy X a)) n q) := ⟨hx.tr x1, hw.ne (fun i _ _ => by rw [h_175.1.2.2.2 28 (by simp)]), fun q hq hac => (hA q hq hac).ne (fun i _ _ => by rw [h_175.1.2.2.2 27 (by simp)]), fun q hq hac => by
              by_cases e : q = j
              · subst e; exact h_175.2.1
              · exact (hr q (by omega) hac).ne (fun i h1 h2 => h_175.2.2 i (by omega))⟩
            refine x_istore (lv' := [_, _, _, _, _, _, _]) eX9_quota_178 (by decide) rfl ?_
            refine x_iload_n eX9_quota_180 rfl ?_
            refine x_iload eX9_quota_181 rfl ?_
            first | refine x_isubN eX9_quota_183 (by omega) ?_ | refine x_isub eX9_quota_183 ?_
            refine x_istore_n (lv' := [_, _, _, _, _, _, _]) eX9_quota_184 (by decide) rfl ?_
            refine x_iload eX9_quota_185 rfl ?_
            refine x_iload_n eX9_quota_187 rfl ?_
            refine x_icmp_neN eX9_quota_188 (by omega) (by omega) (fun c_188 => ?_) (fun c_188 => ?_)
            · have eo := ow_n (X := X) (l := (nI (xLy X a))) (n := n) (a := a) (j := j) (fun z => c_188 z.2)
              refine x_iload eX9_quota_196 rfl ?_
              refine x_istore (lv' := [_, _, _, _, _, _, _]) eX9_quota_198 (by decide) rfl ?_
              refine x_iinc (lv' := [_, _, _, _, _, _, _]) eX9_quota_200 rfl (by first | exact nI_inc _ | exact rfl) (by decide) rfl ?_
              refine x_goto eX9_quota_203 ?_
              refine x_pick [0, 1, 2, 4, 5, 6] rfl ?_
              first
                | (have := ih (j + 1) (by omega) S1 ⟨hx, hw, hA, fun q hq hac => hr q (by have e : q ≠ j := (fun e => na (e ▸ hac)); omega) hac⟩
                   rw [lf_n na, ow_n (fun z => na z.1)] at this; exact this)
                | (have := ih (j + 1) (by omega) S_175 nx; rw [lf_y ya, eo] at this; exact this)
            · have eo := ow_y (X := X) (l := (nI (xLy X a))) (n := n) (a := a) (j := j) ⟨ya, c_188⟩
              refine x_iload eX9_quota_191 rfl ?_
              refine x_goto eX9_quota_193 ?_
              refine x_istore (lv' := [_, _, _, _, _, _, _]) eX9_quota_198 (by decide) rfl ?_
              refine x_iinc (lv' := [_, _, _, _, _, _, _]) eX9_quota_200 rfl (by first | exact nI_inc _ | exact rfl) (by decide) rfl ?_
              refine x_goto eX9_quota_203 ?_
              refine x_pick [0, 1, 2, 4, 5, 6] rfl ?_
              first
                | (have := ih (j + 1) (by omega) S1 ⟨hx, hw, hA, fun q hq hac => hr q (by have e : q ≠ j := (fun e => na (e ▸ hac)); omega) hac⟩
                   rw [lf_n na, ow_n (fun z => na z.1)] at this; exact this)
                | (have := ih (j + 1) (by omega) S_175 nx; rw [lf_y ya, eo] at this; exact this)
  have loop1 : ∀ μ j, j + μ = (xNp X) → ∀ S1, (Lx [5, 6, 27, 28, 29, 30] S S1 ∧ sum10 S1 28 0 (4 * totA X (nI (xLy X a)) j) ∧ ∀ q, q < j → act X (nI (xLy X a)) q → sum10 S1 27 (10 * q) (4 * xAr X q)) → XP mX9_quota 37 [(3, .int (nI j)), (0, .ref 0), (1, .int (nI a)), (2, .int (nI n))] [] (xwS S1) (sQ (fun r S' => r = some (.int (quI X (nI (xLy X a)) n a)) ∧ RM S' X ∧ frM S S')) := by
    intro μ
    induction μ with
    | zero =>
      intro j hk S1 h1
      obtain ⟨hx, hw, hA⟩ := h1
      have g := RM_Lx h hx (by simp) (by simp) (by simp) (by simp)
      have t := g.tab w
      refine x_iload_n eX9_quota_37 rfl ?_
      refine x_aload_n eX9_quota_38 rfl ?_
      refine s_geti eX9_quota_39 fX9_224 rfl (by decide) (by decide) ?_
      rw [t.1]
      refine x_icmp_geN eX9_quota_42 (by omega) (by omega) (fun c_42 => ?_) (fun c_42 => ?_)
      · obtain rfl : j = xNp X := (by omega)
        refine x_iload_n eX9_quota_128 rfl ?_
        refine x_istore_n (lv' := [_, _, _, _]) eX9_quota_129 (by decide) rfl ?_
        refine x_iconst (v := nI 0) eX9_quota_130 (by decide) ?_
        refine x_istore (lv' := [_, _, _, _, _]) eX9_quota_131 (by decide) rfl ?_
        refine x_iconst (v := nI 0) eX9_quota_133 (by decide) ?_
        refine x_istore (lv' := [_, _, _, _, _, _]) eX9_quota_134 (by decide) rfl ?_
        refine x_pick [0, 1, 2, 3, 4, 5] rfl ?_
        exact loop2 (xNp X) 0 (by omega) _ ⟨hx, hw, hA, fun q hq => by omega⟩
      · omega
    | succ μ ih =>
      intro j hk S1 h1
      obtain ⟨hx, hw, hA⟩ := h1
      have g := RM_Lx h hx (by simp) (by simp) (by simp) (by simp)
      have t := g.tab w
      refine x_iload_n eX9_quota_37 rfl ?_
      refine x_aload_n eX9_quota_38 rfl ?_
      refine s_geti eX9_quota_39 fX9_224 rfl (by decide) (by decide) ?_
      rw [t.1]
      refine x_icmp_geN eX9_quota_42 (by omega) (by omega) (fun c_42 => ?_) (fun c_42 => ?_)
      · omega
      · refine x_aload_n eX9_quota_45 rfl ?_
        refine s_getR (k := 12) eX9_quota_46 fX9_48 rfl (by decide) (by decide) rfl ?_
        refine x_iload_n eX9_quota_49 rfl ?_
        refine s_zald eX9_quota_50 rfl (by decide) rfl (show _ < 60 by omega) ?_
        rw [(t.2.2 j (by omega)).1]
        refine x_if_eqB eX9_quota_51 (fun c_51 => ?_) (fun c_51 => ?_)
        · have na : ¬ act X (nI (xLy X a)) j := fun y => absurd y.1 (by rw [show xTh X j = false from c_51]; decide)
          refine x_iinc (lv' := [_, _, _, _]) eX9_quota_122 rfl (by first | exact nI_inc _ | exact rfl) (by decide) rfl ?_
          refine x_goto eX9_quota_125 ?_
          refine x_pick [0, 1, 2, 3] rfl ?_
          exact ih (j + 1) (by omega) S1 ⟨hx, by rw [tot_n na]; exact hw, fun q hq hac => hA q (by have e : q ≠ j := (fun e => na (e ▸ hac)); omega) hac⟩
        · refine x_aload_n eX9_quota_54 rfl ?_
          refine s_getR (k := 13) eX9_quota_55 fX9_52 rfl (by decide) (by decide) rfl ?_
          refine x_iload_n eX9_quota_58 rfl ?_
          refine s_iald eX9_quota_59 rfl (by decide) rfl (show _ < 60 by omega) ?_
          rw [((t.2.2 j (by omega)).2 c_51).1]
          refine x_aload_n eX9_quota_60 rfl ?_
          refine s_getR (k := 13) eX9_quota_61 fX9_52 rfl (by decide) (by decide) rfl ?_
          refine x_iload_n eX9_quota_64 rfl ?_
          refine s_iald eX9_quota_65 rfl (by decide) rfl (show _ < 60 by omega) ?_
          rw [((t.2.2 a ha).2 ta).1]
          refine x_icmp_ne eX9_quota_66 (fun c_66 => ?_) (fun c_66 => ?_)
          · have na : ¬ act X (nI (xLy X a)) j := fun y => c_66 y.2
            refine x_iinc (lv' := [_, _, _, _]) eX9_quota_122 rfl (by first | exact nI_inc _ | exact rfl) (by decide) rfl ?_
            refine x_goto eX9_quota_125 ?_
            refine x_pick [0, 1, 2, 3] rfl ?_
            exact ih (j + 1) (by omega) S1 ⟨hx, by rw [tot_n na]; exact hw, fun q hq hac => hA q (by have e : q ≠ j := (fun e => na (e ▸ hac)); omega) hac⟩
          · have ya : act X (nI (xLy X a)) j := ⟨c_51, c_66⟩
            refine x_aload_n eX9_quota_69 rfl ?_
            refine x_iload_n eX9_quota_70 rfl ?_
            refine s_callV0 (As := [_]) eX9_quota_71 kX9_306 ⟨by decide, by decide⟩ rfl (by decide) (by decide) rfl rfl (Nat.le_of_ble_eq_true rfl) (Nat.le_of_ble_eq_true rfl) (m_weigh w g (by omega) ya.1) (fun S_71 h_71 => ?_)
            have ih0 := ih
            have x1 : Lx [5, 6, 27, 28, 29, 30] S1 S_71 := h_71.1.mono (fun p hp => by simp at hp ⊢; omega)
            have w1 : sum10 S_71 28 0 (4 * totA X (nI (xLy X a)) j) := hw.ne (fun k _ _ => by rw [h_71.1.2.2.2 28 (by simp)])
            have bt := tot_212 w (nI (xLy X a)) (j := j) (by omega)
            have bx := xAr_bd w ya.1
            have addl : ∀ μ i, i + μ = 10 → ∀ S3, (Lx [28] S_71 S3 ∧ (∀ k, k < i → S3.2.2.1 28 k = lI ((fun i => can (2 ^ 24) 10 (4 * totA X (nI (xLy X a)) j) i + 1 * can (2 ^ 24) 10 (4 * xAr X j) i) k)) ∧ ∀ k, i ≤ k → S3.2.2.1 28 k = S_71.2.2.1 28 k) → XP mX9_quota 77 [(4, .int (nI i)), (3, .int (nI j)), (0, .ref 0), (1, .int (nI a)), (2, .int (nI n))] [] (xwS S3) (sQ (fun r S' => r = some (.int (quI X (nI (xLy X a)) n a)) ∧ RM S' X ∧ frM S S')) := by
              intro μ
              induction μ with
              | zero =>
                intro i hk S3 h1
                obtain ⟨x3, r3, q3⟩ := h1
                refine x_iload eX9_quota_77 rfl ?_
                refine x_bipush (v := nI 10) eX9_quota_79 (by decide) ?_
                refine x_icmp_geN eX9_quota_81 (by omega) (by omega) (fun c_81 => ?_) (fun c_81 => ?_)
                · refine x_aload_n eX9_quota_112 rfl ?_
                  refine s_getR (k := 28) eX9_quota_113 fX9_100 rfl (by decide) (by decide) rfl ?_
                  refine x_iconst (v := nI 0) eX9_quota_116 (by decide) ?_
                  refine x_bipush (v := nI 10) eX9_quota_117 (by decide) ?_
                  refine s_callS0 (As := [_, _, _]) eX9_quota_119 kX9_128 ⟨by decide, by decide⟩ rfl rfl (Nat.le_of_ble_eq_true rfl) (Nat.le_of_ble_eq_true rfl) (sp_X9_carry (a := 28) rfl (by decide) (fr := 0) (n := 10) (by decide) (by decide) _ (fun i => can (2 ^ 24) 10 (4 * totA X (nI (xLy X a)) j) i + 1 * can (2 ^ 24) 10 (4 * xAr X j) i) (fun k hk => by rw [Nat.zero_add]; exact r3 k (by omega)) (fun k hk => by have c1 := can24_bd (V := 4 * totA X (nI (xLy X a)) j) (by omega) hk; have c2 := can24_bd (V := 4 * xAr X j) (by omega) hk; show -_ ≤ can (2 ^ 24) 10 (4 * totA X (nI (xLy X a)) j) k + 1 * can (2 ^ 24) 10 (4 * xAr X j) k ∧ can (2 ^ 24) 10 (4 * totA X (nI (xLy X a)) j) k + 1 * can (2 ^ 24) 10 (4 * xAr X j) k ≤ _; omega)) (fun S_119 h_119 => ?_)
                  refine x_iinc (lv' := [_, _, _, _, _]) eX9_quota_122 rfl (by first | exact nI_inc _ | exact rfl) (by decide) rfl ?_
                  refine x_goto eX9_quota_125 ?_
                  refine x_pick [0, 2, 3, 4] rfl ?_
                  refine ih0 (j + 1) (by omega) _ ⟨((hx.tr x1).tr (x3.mono (fun p hp => by simp at hp ⊢; omega))).tr (by rw [h_119]; exact Lx.set _ _ (by simp)), fun k hk => ?_, fun q hq hac => ?_⟩
                  · rw [h_119, setL_at, if_pos (by omega), hv_lin, hv_can0 _ (by decide), hv_can0 _ (by decide), Int.one_mul, tot_y ya, show 0 + k - 0 = k by omega, Int.mul_add]
                  · by_cases e : q = j
                    · subst e; exact h_71.2.1.ne (fun k _ _ => by rw [h_119, setL_ne _ _ (by decide), x3.2.2.2 27 (by simp)])
                    · exact (hA q (by omega) hac).ne (fun k h1 h2 => by rw [h_119, setL_ne _ _ (by decide), x3.2.2.2 27 (by simp)]; exact h_71.2.2 k (by omega))
                · omega
              | succ μ ih =>
                intro i hk S3 h1
                obtain ⟨x3, r3, q3⟩ := h1
                refine x_iload eX9_quota_77 rfl ?_
                refine x_bipush (v := nI 10) eX9_quota_79 (by decide) ?_
                refine x_icmp_geN eX9_quota_81 (by omega) (by omega) (fun c_81 => ?_) (fun c_81 => ?_)
                · omega
                · refine x_aload_n eX9_quota_84 rfl ?_
                  refine s_getR (k := 28) eX9_quota_85 fX9_100 rfl (by decide) (by decide) rfl ?_
                  refine x_iload eX9_quota_88 rfl ?_
                  refine x_dup2_11 eX9_quota_90 rfl rfl ?_
                  refine s_lald eX9_quota_91 rfl (by decide) rfl (show _ < 10 by omega) ?_
                  rw [q3 i (Nat.le_refl _), show S_71.2.2.1 28 i = lI (can (2 ^ 24) 10 (4 * totA X (nI (xLy X a)) j) i) from by have := w1 i (by omega); rw [Nat.zero_add] at this; exact this]
                  refine x_aload_n eX9_quota_92 rfl ?_
                  refine s_getR (k := 27) eX9_quota_93 fX9_97 rfl (by decide) (by decide) rfl ?_
                  refine x_bipush (v := nI 10) eX9_quota_96 (by decide) ?_
                  refine x_iload_n eX9_quota_98 rfl ?_
                  first | refine x_imulN eX9_quota_99 ?_ | refine x_imul eX9_quota_99 ?_
                  refine x_iload eX9_quota_100 rfl ?_
                  first | refine x_iaddN eX9_quota_102 ?_ | refine x_iadd eX9_quota_102 ?_
                  refine s_lald eX9_quota_103 rfl (by decide) rfl (show 10 * j + i < 600 by omega) ?_
                  rw [x3.2.2.2 27 (by simp), h_71.2.1 i (by omega)]
                  refine x_ladd eX9_quota_104 ?_
                  rw [lI_add]
                  refine s_last eX9_quota_105 rfl (by decide) rfl (show _ < 10 by omega) ?_
                  refine x_iinc (lv' := [_, _, _, _, _]) eX9_quota_106 rfl (by first | exact nI_inc _ | exact rfl) (by decide) rfl ?_
                  refine x_goto eX9_quota_109 ?_
                  refine x_pick [0, 1, 2, 3, 4] rfl ?_
                  exact ih (i + 1) (by omega) _ ⟨x3.tr (Lx.set _ _ (by simp)), fun k hk => by
                    rw [setL_at]
                    by_cases e : k = i
                    · rw [e, ul_at]; show _ = lI (_ + 1 * _); rw [Int.one_mul]
                    · rw [ul_ne _ _ e]; exact r3 k (by omega), fun k hk => by rw [setL_at, ul_ne _ _ (by omega)]; exact q3 k (by omega)⟩
            refine x_iconst (v := nI 0) eX9_quota_74 (by decide) ?_
            refine x_istore (lv' := [_, _, _, _, _]) eX9_quota_75 (by decide) rfl ?_
            refine x_pick [0, 1, 2, 3, 4] rfl ?_
            exact addl 10 0 (by omega) _ ⟨Lx.rf _ _, fun k hk => by omega, fun k _ => rfl⟩
  show XP _ _ [_, _, _] _ _ _
  refine x_aload_n eX9_quota_0 rfl ?_
  refine x_iload_n eX9_quota_1 rfl ?_
  refine s_callV1 (As := [_]) eX9_quota_2 kX9_284 ⟨by decide, by decide⟩ rfl (by decide) (by decide) rfl rfl (Nat.le_of_ble_eq_true rfl) (Nat.le_of_ble_eq_true rfl) (sp_X9_isParcel (h.tab w) (nI a)) (fun S_2 h_2 => ?_)
  have h_2 := h_2.symm
  subst h_2
  refine x_if_neT eX9_quota_5 (fun c_5 => ?_) (fun c_5 => ?_)
  · refine x_iload_n eX9_quota_11 rfl ?_
    refine x_iconst (v := nI 0) eX9_quota_12 (by decide) ?_
    refine x_sipush (v := nI 1000) eX9_quota_13 (by decide) ?_
    refine s_callS1 (As := [_, _, _]) eX9_quota_16 kX9_173 ⟨by decide, by decide⟩ rfl rfl (Nat.le_of_ble_eq_true rfl) (Nat.le_of_ble_eq_true rfl) (sp_X9_in _ _ _ _) (fun S_16 h_16 => ?_)
    have h_16 := h_16.symm
    subst h_16
    rw [inN 1000 (by decide)]
    refine x_if_neB eX9_quota_19 (fun c_19 => ?_) (fun c_19 => ?_)
    · refine x_aload_n eX9_quota_25 rfl ?_
      refine s_getR (k := 28) eX9_quota_26 fX9_100 rfl (by decide) (by decide) rfl ?_
      refine x_iconst (v := nI 0) eX9_quota_29 (by decide) ?_
      refine x_bipush (v := nI 10) eX9_quota_30 (by decide) ?_
      refine s_callS0 (As := [_, _, _]) eX9_quota_32 kX9_144 ⟨by decide, by decide⟩ rfl rfl (Nat.le_of_ble_eq_true rfl) (Nat.le_of_ble_eq_true rfl) (sp_X9_clear (a := 28) rfl (by decide) (fr := 0) (n := 10) (by decide) _) (fun S_32 h_32 => ?_)
      refine x_iconst (v := nI 0) eX9_quota_35 (by decide) ?_
      refine x_istore_n (lv' := [_, _, _, _]) eX9_quota_36 (by decide) rfl ?_
      refine x_pick [0, 1, 2, 3] rfl ?_
      refine loop1 (xNp X) 0 (by omega) _ ⟨by rw [h_32]; exact Lx.set _ _ (by simp), fun k hk => ?_, fun q hq => by omega⟩
      rw [h_32, setL_at, if_pos (by omega), show totA X (nI (xLy X a)) 0 = 0 from rfl, Int.mul_zero, can_of_zero, lI_0]
    · exact absurd yn (of_decide_eq_false c_19)
  · exact absurd ya0 c_5
theorem b_quota {X : LM} (w : wf X) (p v : Int32) : both X mX8_quota mX9_quota [.int p, .int v] := by
  have n60 : xNp X ≤ 60 := w.2.2.2.2.1.1
  by_cases hp : xHas X p
  rotate_left
  · refine ⟨.int (-101), X, w, fun S h => ?_, fun S h => ?_⟩
    · show XP _ _ [_, _, _] _ _ _
      refine x_aload_n eX8_quota_0 rfl ?_
      refine s_getR (k := 37) eX8_quota_1 fX8_28 rfl (by decide) (by decide) rfl ?_
      refine x_iload_n eX8_quota_4 rfl ?_
      refine s_callV1 (As := [_]) eX8_quota_5 kX8_144 ⟨by decide, by decide⟩ rfl (by decide) (by decide) rfl rfl (Nat.le_of_ble_eq_true rfl) (Nat.le_of_ble_eq_true rfl) (sp_X3_has (h.tab w) p) (fun S_5 h_5 => ?_)
      have h_5 := h_5.symm
      subst h_5
      refine x_if_neT eX8_quota_8 (fun c_8 => ?_) (fun c_8 => ?_)
      · exact absurd c_8 hp
      · refine x_bipush (v := -101) eX8_quota_11 (by decide) ?_
        exact s_iret eX8_quota_13 rfl rfl ⟨rfl, h, frC.rf _⟩
    · show XP _ _ [_, _, _] _ _ _
      refine x_aload_n eX9_quota_0 rfl ?_
      refine x_iload_n eX9_quota_1 rfl ?_
      refine s_callV1 (As := [_]) eX9_quota_2 kX9_284 ⟨by decide, by decide⟩ rfl (by decide) (by decide) rfl rfl (Nat.le_of_ble_eq_true rfl) (Nat.le_of_ble_eq_true rfl) (sp_X9_isParcel (h.tab w) p) (fun S_2 h_2 => ?_)
      have h_2 := h_2.symm
      subst h_2
      refine x_if_neT eX9_quota_5 (fun c_5 => ?_) (fun c_5 => ?_)
      · exact absurd c_5 hp
      · refine x_bipush (v := -101) eX9_quota_8 (by decide) ?_
        exact s_iret eX9_quota_10 rfl rfl ⟨rfl, h, frM.rf _⟩
  obtain ⟨a, ha, rfl, ta⟩ := hp
  have ya : xHas X (nI a) := ⟨a, ha, rfl, ta⟩
  by_cases hv : ∃ k, k < 1000 + 1 ∧ v = nI k
  rotate_left
  · refine ⟨.int (-102), X, w, fun S h => ?_, fun S h => ?_⟩
    · show XP _ _ [_, _, _] _ _ _
      refine x_aload_n eX8_quota_0 rfl ?_
      refine s_getR (k := 37) eX8_quota_1 fX8_28 rfl (by decide) (by decide) rfl ?_
      refine x_iload_n eX8_quota_4 rfl ?_
      refine s_callV1 (As := [_]) eX8_quota_5 kX8_144 ⟨by decide, by decide⟩ rfl (by decide) (by decide) rfl rfl (Nat.le_of_ble_eq_true rfl) (Nat.le_of_ble_eq_true rfl) (sp_X3_has (h.tab w) (nI a)) (fun S_5 h_5 => ?_)
      have h_5 := h_5.symm
      subst h_5
      refine x_if_neT eX8_quota_8 (fun c_8 => ?_) (fun c_8 => ?_)
      · refine x_iload_n eX8_quota_14 rfl ?_
        refine x_if_lt eX8_quota_15 (fun c_15 => ?_) (fun c_15 => ?_)
        · refine x_bipush (v := -102) eX8_quota_25 (by decide) ?_
          exact s_iret eX8_quota_27 rfl rfl ⟨rfl, h, frC.rf _⟩
        · refine x_iload_n eX8_quota_18 rfl ?_
          refine x_sipush (v := nI 1000) eX8_quota_19 (by decide) ?_
          refine x_icmp_le eX8_quota_22 (fun c_22 => ?_) (fun c_22 => ?_)
          · obtain ⟨j, hj, rfl⟩ := nI_of c_15
            exact absurd ⟨j, by have := (nI_leI hj (by decide)).mp c_22; omega, rfl⟩ hv
          · refine x_bipush (v := -102) eX8_quota_25 (by decide) ?_
            exact s_iret eX8_quota_27 rfl rfl ⟨rfl, h, frC.rf _⟩
      · exact absurd ya c_8
    · show XP _ _ [_, _, _] _ _ _
      refine x_aload_n eX9_quota_0 rfl ?_
      refine x_iload_n eX9_quota_1 rfl ?_
      refine s_callV1 (As := [_]) eX9_quota_2 kX9_284 ⟨by decide, by decide⟩ rfl (by decide) (by decide) rfl rfl (Nat.le_of_ble_eq_true rfl) (Nat.le_of_ble_eq_true rfl) (sp_X9_isParcel (h.tab w) (nI a)) (fun S_2 h_2 => ?_)
      have h_2 := h_2.symm
      subst h_2
      refine x_if_neT eX9_quota_5 (fun c_5 => ?_) (fun c_5 => ?_)
      · refine x_iload_n eX9_quota_11 rfl ?_
        refine x_iconst (v := nI 0) eX9_quota_12 (by decide) ?_
        refine x_sipush (v := nI 1000) eX9_quota_13 (by decide) ?_
        refine s_callS1 (As := [_, _, _]) eX9_quota_16 kX9_173 ⟨by decide, by decide⟩ rfl rfl (Nat.le_of_ble_eq_true rfl) (Nat.le_of_ble_eq_true rfl) (sp_X9_in _ _ _ _) (fun S_16 h_16 => ?_)
        have h_16 := h_16.symm
        subst h_16
        rw [inN 1000 (by decide)]
        refine x_if_neB eX9_quota_19 (fun c_19 => ?_) (fun c_19 => ?_)
        · exact absurd (of_decide_eq_true c_19) hv
        · refine x_bipush (v := -102) eX9_quota_22 (by decide) ?_
          exact s_iret eX9_quota_24 rfl rfl ⟨rfl, h, frM.rf _⟩
      · exact absurd ya c_5
  obtain ⟨n, hn, rfl⟩ := hv
  refine ⟨.int (quI X (nI (xLy X a)) n a), X, w, fun S h => ?_, fun S h => m_quota w h ha ta (by omega)⟩
  have ce := ((h.tab w).2.2 a ha).2 ta
  show XP _ _ [_, _, _] _ _ _
  refine x_aload_n eX8_quota_0 rfl ?_
  refine s_getR (k := 37) eX8_quota_1 fX8_28 rfl (by decide) (by decide) rfl ?_
  refine x_iload_n eX8_quota_4 rfl ?_
  refine s_callV1 (As := [_]) eX8_quota_5 kX8_144 ⟨by decide, by decide⟩ rfl (by decide) (by decide) rfl rfl (Nat.le_of_ble_eq_true rfl) (Nat.le_of_ble_eq_true rfl) (sp_X3_has (h.tab w) (nI a)) (fun S_5 h_5 => ?_)
  have h_5 := h_5.symm
  subst h_5
  refine x_if_neT eX8_quota_8 (fun c_8 => ?_) (fun c_8 => ?_)
  · refine x_iload_n eX8_quota_14 rfl ?_
    refine x_if_ltN eX8_quota_15 (by omega) ?_
    refine x_iload_n eX8_quota_18 rfl ?_
    refine x_sipush (v := nI 1000) eX8_quota_19 (by decide) ?_
    refine x_icmp_leN eX8_quota_22 (by omega) (by omega) (fun c_22 => ?_) (fun c_22 => ?_)
    · refine x_aload_n eX8_quota_28 rfl ?_
      refine s_getR (k := 37) eX8_quota_29 fX8_28 rfl (by decide) (by decide) rfl ?_
      refine s_getR (k := 38) eX8_quota_32 fX8_145 rfl (by decide) (by decide) rfl ?_
      refine x_iload_n eX8_quota_35 rfl ?_
      refine s_raldR eX8_quota_36 (by first | exact Or.inl rfl | exact Or.inr rfl) (by decide) rfl (show _ < 60 by omega) (rf_parcels a) ?_
      refine s_geti eX8_quota_37 fX8_149 (kd_parcel (by omega)) (show _ < 365 by omega) (by decide) ?_
      rw [show S.1 (175 + a) 2 = nI (xLy X a) from ce.1]
      refine x_istore_n (lv' := [_, _, _, _]) eX8_quota_40 (by decide) rfl ?_
      refine x_aload_n eX8_quota_41 rfl ?_
      refine s_getR (k := 39) eX8_quota_42 fX8_35 rfl (by decide) (by decide) rfl ?_
      refine x_aload_n eX8_quota_45 rfl ?_
      refine s_getR (k := 37) eX8_quota_46 fX8_28 rfl (by decide) (by decide) rfl ?_
      refine x_aload_n eX8_quota_49 rfl ?_
      refine s_getR (k := 32) eX8_quota_50 fX8_12 rfl (by decide) (by decide) rfl ?_
      refine x_iload_n eX8_quota_53 rfl ?_
      refine s_callV0 (As := [_, _, _]) eX8_quota_54 kX8_258 ⟨by decide, by decide⟩ rfl (by decide) (by decide) rfl rfl (Nat.le_of_ble_eq_true rfl) (Nat.le_of_ble_eq_true rfl) (sp_X6_weigh w h _) (fun S_54 h_54 => ?_)
      have g := RC_L h h_54.1 (wp_out (by decide)) (wp_out (by decide))
      refine x_aload_n eX8_quota_57 rfl ?_
      refine s_getR (k := 39) eX8_quota_58 fX8_35 rfl (by decide) (by decide) rfl ?_
      refine x_aload_n eX8_quota_61 rfl ?_
      refine s_getR (k := 37) eX8_quota_62 fX8_28 rfl (by decide) (by decide) rfl ?_
      refine x_iload_n eX8_quota_65 rfl ?_
      refine x_iload_n eX8_quota_66 rfl ?_
      refine x_iload_n eX8_quota_67 rfl ?_
      refine s_callV1 (As := [_, _, _, _]) eX8_quota_68 kX8_262 ⟨by decide, by decide⟩ rfl (by decide) (by decide) rfl rfl (Nat.le_of_ble_eq_true rfl) (Nat.le_of_ble_eq_true rfl) (sp_X6_shareOf w g ha ⟨ta, rfl⟩ (by omega) h_54.2.1 h_54.2.2) (fun S_68 h_68 => ?_)
      have hx := h_54.1.tr h_68
      exact s_iret eX8_quota_71 rfl rfl ⟨rfl, RC_L h hx (wp_out (by decide)) (wp_out (by decide)), hx.frC wp_31⟩
    · omega
  · exact absurd ya c_8
