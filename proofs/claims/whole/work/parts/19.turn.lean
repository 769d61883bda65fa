def estE (a b c : Pt) : Int := rn (rn (a.1 - c.1) * rn (b.2 - c.2))
def estF (a b c : Pt) : Int := rn (rn (a.2 - c.2) * rn (b.1 - c.1))
theorem rn_le {z : Int} {k : Nat} (h : z.natAbs ≤ 2 ^ k) : (rn z).natAbs ≤ 2 ^ (k + 1) := by
  have := rn_err z
  have e : 2 ^ (k + 1) = 2 ^ k * 2 := Nat.pow_succ 2 k
  omega
theorem prod_bd {x y : Int} {j k : Nat} (hx : x.natAbs ≤ 2 ^ j) (hy : y.natAbs ≤ 2 ^ k) : (x * y).natAbs ≤ 2 ^ (j + k) := by
  rw [Int.natAbs_mul, Nat.pow_add]
  exact Nat.mul_le_mul hx hy
/-- the four differences, the two products of the estimate -/
theorem est_vz {S : xS} {a b c : Nat} {A B C : Pt} (ha : cpt S a A) (hb : cpt S b B) (hc : cpt S c C) :
    (vz 72 (FP.dsub (S.2.2.2 34 (2 * a)) (S.2.2.2 34 (2 * c))) (rn (A.1 - C.1)) ∧ vz 72 (FP.dsub (S.2.2.2 34 (2 * b + 1)) (S.2.2.2 34 (2 * c + 1))) (rn (B.2 - C.2)) ∧ vz 144 (FP.dmul (FP.dsub (S.2.2.2 34 (2 * a)) (S.2.2.2 34 (2 * c))) (FP.dsub (S.2.2.2 34 (2 * b + 1)) (S.2.2.2 34 (2 * c + 1)))) (estE A B C)) ∧
    (vz 72 (FP.dsub (S.2.2.2 34 (2 * a + 1)) (S.2.2.2 34 (2 * c + 1))) (rn (A.2 - C.2)) ∧ vz 72 (FP.dsub (S.2.2.2 34 (2 * b)) (S.2.2.2 34 (2 * c))) (rn (B.1 - C.1)) ∧ vz 144 (FP.dmul (FP.dsub (S.2.2.2 34 (2 * a + 1)) (S.2.2.2 34 (2 * c + 1))) (FP.dsub (S.2.2.2 34 (2 * b)) (S.2.2.2 34 (2 * c)))) (estF A B C)) ∧ (estE A B C).natAbs < 2 ^ 300 ∧ (estF A B C).natAbs < 2 ^ 300 := by
  obtain ⟨-, a1, a2, ax, ay, -⟩ := ha
  obtain ⟨-, b1, b2, bx, bY, -⟩ := hb
  obtain ⟨-, c1, c2, cx, cy, -⟩ := hc
  have big : (2 : Nat) ^ 104 < 2 ^ (72 + 900) := Nat.pow_lt_pow_right (by decide) (by decide)
  have big2 : (2 : Nat) ^ 206 < 2 ^ (72 + 72 + 900) := Nat.pow_lt_pow_right (by decide) (by decide)
  have n1 : (A.1 - C.1).natAbs ≤ 2 ^ 102 := by omega
  have n2 : (B.2 - C.2).natAbs ≤ 2 ^ 102 := by omega
  have n3 : (A.2 - C.2).natAbs ≤ 2 ^ 102 := by omega
  have n4 : (B.1 - C.1).natAbs ≤ 2 ^ 102 := by omega
  have d1 := vz_dsub (by decide) a1 c1 (show (A.1 - C.1).natAbs < 2 ^ (72 + 900) by omega)
  have d2 := vz_dsub (by decide) b2 c2 (show (B.2 - C.2).natAbs < 2 ^ (72 + 900) by omega)
  have d3 := vz_dsub (by decide) a2 c2 (show (A.2 - C.2).natAbs < 2 ^ (72 + 900) by omega)
  have d4 := vz_dsub (by decide) b1 c1 (show (B.1 - C.1).natAbs < 2 ^ (72 + 900) by omega)
  have m1 := prod_bd (rn_le n1) (rn_le n2)
  have m2 := prod_bd (rn_le n3) (rn_le n4)
  have e1 := vz_dmul (by decide) d1 d2 (by omega)
  have e2 := vz_dmul (by decide) d3 d4 (by omega)
  have r1 := rn_le m1
  have r2 := rn_le m2
  have big3 : (2 : Nat) ^ 207 < 2 ^ 300 := Nat.pow_lt_pow_right (by decide) (by decide)
  exact ⟨⟨d1, d2, e1⟩, ⟨d3, d4, e2⟩, by unfold estE; omega, by unfold estF; omega⟩

theorem sp_X2_isSure (S : xS) {a b c : Nat} {A B C : Pt} (ha : cpt S a A) (hb : cpt S b B) (hc : cpt S c C) : Sp mX2_isSure [.ref 32, .int (nI a), .int (nI b), .int (nI c)] S (fun r S' => r = some (.int (bI (sureZ (estE A B C) (estF A B C)))) ∧ S' = S) := by
  obtain ⟨e1, e2, bE, bF⟩ := est_vz ha hb hc
  show XP _ _ [_, _, _, _] _ _ _
  refine x_aload_n eX2_isSure_0 rfl ?_
  refine x_iload_n eX2_isSure_1 rfl ?_
  refine s_callV1 (As := [_]) eX2_isSure_2 kX2_55 ⟨by decide, by decide⟩ rfl (by decide) (by decide) rfl rfl (Nat.le_of_ble_eq_true rfl) (Nat.le_of_ble_eq_true rfl) (sp_X2_x _ ha.1) (fun S_2 h_2 => ?_)
  subst h_2
  refine x_aload_n eX2_isSure_5 rfl ?_
  refine x_iload_n eX2_isSure_6 rfl ?_
  refine s_callV1 (As := [_]) eX2_isSure_7 kX2_55 ⟨by decide, by decide⟩ rfl (by decide) (by decide) rfl rfl (Nat.le_of_ble_eq_true rfl) (Nat.le_of_ble_eq_true rfl) (sp_X2_x _ hc.1) (fun S_7 h_7 => ?_)
  subst h_7
  refine x_dsub eX2_isSure_10 (vz_n64 e1.1) ?_
  refine x_aload_n eX2_isSure_11 rfl ?_
  refine x_iload_n eX2_isSure_12 rfl ?_
  refine s_callV1 (As := [_]) eX2_isSure_13 kX2_59 ⟨by decide, by decide⟩ rfl (by decide) (by decide) rfl rfl (Nat.le_of_ble_eq_true rfl) (Nat.le_of_ble_eq_true rfl) (sp_X2_y _ hb.1) (fun S_13 h_13 => ?_)
  subst h_13
  refine x_aload_n eX2_isSure_16 rfl ?_
  refine x_iload_n eX2_isSure_17 rfl ?_
  refine s_callV1 (As := [_]) eX2_isSure_18 kX2_59 ⟨by decide, by decide⟩ rfl (by decide) (by decide) rfl rfl (Nat.le_of_ble_eq_true rfl) (Nat.le_of_ble_eq_true rfl) (sp_X2_y _ hc.1) (fun S_18 h_18 => ?_)
  subst h_18
  refine x_dsub eX2_isSure_21 (vz_n64 e1.2.1) ?_
  refine x_dmul eX2_isSure_22 (vz_n64 e1.2.2) ?_
  refine x_dstore (lv' := [_, _, _, _, _]) eX2_isSure_23 (by decide) rfl ?_
  refine x_aload_n eX2_isSure_25 rfl ?_
  refine x_iload_n eX2_isSure_26 rfl ?_
  refine s_callV1 (As := [_]) eX2_isSure_27 kX2_59 ⟨by decide, by decide⟩ rfl (by decide) (by decide) rfl rfl (Nat.le_of_ble_eq_true rfl) (Nat.le_of_ble_eq_true rfl) (sp_X2_y _ ha.1) (fun S_27 h_27 => ?_)
  subst h_27
  refine x_aload_n eX2_isSure_30 rfl ?_
  refine x_iload_n eX2_isSure_31 rfl ?_
  refine s_callV1 (As := [_]) eX2_isSure_32 kX2_59 ⟨by decide, by decide⟩ rfl (by decide) (by decide) rfl rfl (Nat.le_of_ble_eq_true rfl) (Nat.le_of_ble_eq_true rfl) (sp_X2_y _ hc.1) (fun S_32 h_32 => ?_)
  subst h_32
  refine x_dsub eX2_isSure_35 (vz_n64 e2.1) ?_
  refine x_aload_n eX2_isSure_36 rfl ?_
  refine x_iload_n eX2_isSure_37 rfl ?_
  refine s_callV1 (As := [_]) eX2_isSure_38 kX2_55 ⟨by decide, by decide⟩ rfl (by decide) (by decide) rfl rfl (Nat.le_of_ble_eq_true rfl) (Nat.le_of_ble_eq_true rfl) (sp_X2_x _ hb.1) (fun S_38 h_38 => ?_)
  subst h_38
  refine x_aload_n eX2_isSure_41 rfl ?_
  refine x_iload_n eX2_isSure_42 rfl ?_
  refine s_callV1 (As := [_]) eX2_isSure_43 kX2_55 ⟨by decide, by decide⟩ rfl (by decide) (by decide) rfl rfl (Nat.le_of_ble_eq_true rfl) (Nat.le_of_ble_eq_true rfl) (sp_X2_x _ hc.1) (fun S_43 h_43 => ?_)
  subst h_43
  refine x_dsub eX2_isSure_46 (vz_n64 e2.2.1) ?_
  refine x_dmul eX2_isSure_47 (vz_n64 e2.2.2) ?_
  refine x_dstore (lv' := [_, _, _, _, _, _]) eX2_isSure_48 (by decide) rfl ?_
  refine x_dload eX2_isSure_50 rfl ?_
  refine x_dload eX2_isSure_52 rfl ?_
  refine s_callS1 (As := [_, _]) eX2_isSure_54 kX2_62 ⟨by decide, by decide⟩ rfl rfl (Nat.le_of_ble_eq_true rfl) (Nat.le_of_ble_eq_true rfl) (sp_X2_isSureOf _ e1.2.2 e2.2.2 bE bF) (fun S_54 h_54 => ?_)
  subst h_54
  exact s_iret eX2_isSure_57 rfl (by first | rfl | exact bI_nar _) ⟨rfl, rfl⟩
def etJ (S : xS) (fa ga fb gb fc gc : Nat → Int) (B C : Pt) (i j : Nat) (S1 : xS) : Prop := Lx [364] S S1 ∧ ∃ F : Nat → Int, (∀ k, k < 8 → S1.2.2.1 364 k = lI (F k)) ∧ hv (2 ^ 26) F 0 8 = (hv (2 ^ 26) (fun n => fa n - fc n) 0 i * (B.2 - C.2) - hv (2 ^ 26) (fun n => ga n - gc n) 0 i * (B.1 - C.1)) + (2 ^ 26) ^ i * ((fa i - fc i) * hv (2 ^ 26) (fun n => gb n - gc n) 0 j - (ga i - gc i) * hv (2 ^ 26) (fun n => fb n - fc n) 0 j) ∧ ∀ k, k < 8 → -((4 * i + j) * 2 ^ 56) ≤ F k ∧ F k ≤ (4 * i + j) * 2 ^ 56
theorem hv_sub (f g : Nat → Int) (n : Nat) : hv (2 ^ 26) (fun k => f k - g k) 0 n = hv (2 ^ 26) f 0 n - hv (2 ^ 26) g 0 n := by
  have h := hv_lin (B := 2 ^ 26) f g (-1) n 0
  rw [show (fun k => f k - g k) = (fun k => f k + -1 * g k) from by funext i; omega, h]
  omega
theorem mulB27 {a b : Int} (ha : -(2 ^ 27) ≤ a ∧ a ≤ 2 ^ 27) (hb : -(2 ^ 27) ≤ b ∧ b ≤ 2 ^ 27) : -(2 ^ 54) ≤ a * b ∧ a * b ≤ 2 ^ 54 := mulB ha hb
theorem sp_X2_exactTurn (S : xS) {a b c : Nat} {A B C : Pt} (ha : cpt S a A) (hb : cpt S b B) (hc : cpt S c C) : Sp mX2_exactTurn [.ref 32, .int (nI a), .int (nI b), .int (nI c)] S (fun r S' => r = some (.int (sg (orP A B C))) ∧ Lx [364] S S') := by
  obtain ⟨la, -, -, -, -, fa, ga, pa, va, wa⟩ := ha
  obtain ⟨lb, -, -, -, -, fb, gb, pb, vb, wb⟩ := hb
  obtain ⟨lc, -, -, -, -, fc, gc, pc, vc, wc⟩ := hc
  have inner : ∀ i, i < 4 → (∀ S2, etJ S fa ga fb gb fc gc B C (i + 1) 0 S2 → XP mX2_exactTurn 31 [(7, .int (nI (i + 1))), (6, .int (nI (2 * c * 4))), (5, .int (nI (2 * b * 4))), (4, .int (nI (2 * a * 4))), (0, .ref 32)] [] (xwS S2) (sQ (fun r S' => r = some (.int (sg (orP A B C))) ∧ Lx [364] S S'))) → ∀ m j, j + m = 4 → ∀ S1, etJ S fa ga fb gb fc gc B C i j S1 → XP mX2_exactTurn 90 [(12, .int (nI j)), (10, .long (lI (ga i - gc i))), (8, .long (lI (fa i - fc i))), (7, .int (nI i)), (6, .int (nI (2 * c * 4))), (5, .int (nI (2 * b * 4))), (4, .int (nI (2 * a * 4))), (0, .ref 32)] [] (xwS S1) (sQ (fun r S' => r = some (.int (sg (orP A B C))) ∧ Lx [364] S S')) := by
    intro i hi kk m
    induction m with
    | zero =>
      intro j hj S1 h1
      obtain rfl : j = 4 := by omega
      refine x_iload eX2_exactTurn_90 rfl ?_
      refine x_iconst (v := nI 4) eX2_exactTurn_92 (by decide) ?_
      refine x_icmp_geN eX2_exactTurn_93 (by omega) (by omega) (fun c_93 => ?_) (fun c_93 => ?_)
      · refine x_iinc (lv' := [_, _, _, _, _, _, _, _]) eX2_exactTurn_179 rfl (by first | exact nI_inc _ | exact rfl) (by decide) rfl ?_
        refine x_goto eX2_exactTurn_182 ?_
        refine x_pick [0, 4, 5, 6, 7] rfl ?_
        refine kk S1 ?_
        obtain ⟨hx, F, hF, hh, hb⟩ := h1
        refine ⟨hx, F, hF, ?_, fun k hk => by have := hb k hk; omega⟩
        rw [hh, hv_snoc _ i 0, hv_snoc _ i 0, show 0 + i = i by omega, hv_sub gb gc, hv_sub fb fc, vb, vc, wb, wc]
        show _ = _ + _ * (_ * 0 - _ * 0)
        grind
      · omega
    | succ m ih =>
      intro j hj S1 h1
      obtain ⟨hx, F, hF, hh, hb⟩ := id h1
      have r35 : S1.2.2.1 35 = S.2.2.1 35 := hx.2.2.2 35 (by decide)
      have qa := pa i hi
      have qc := pc i hi
      have qb := pb j (by omega)
      have qd := pc j (by omega)
      have m1 := mulB27 (a := fa i - fc i) (b := gb j - gc j) ⟨by omega, by omega⟩ ⟨by omega, by omega⟩
      have m2 := mulB27 (a := ga i - gc i) (b := fb j - fc j) ⟨by omega, by omega⟩ ⟨by omega, by omega⟩
      refine x_iload eX2_exactTurn_90 rfl ?_
      refine x_iconst (v := nI 4) eX2_exactTurn_92 (by decide) ?_
      refine x_icmp_geN eX2_exactTurn_93 (by omega) (by omega) (fun c_93 => ?_) (fun c_93 => ?_)
      · omega
      · refine x_aload_n eX2_exactTurn_96 rfl ?_
        refine s_getR (k := 35) eX2_exactTurn_97 fX2_19 rfl (by decide) (by decide) rfl ?_
        refine x_iload eX2_exactTurn_100 rfl ?_
        refine x_iload eX2_exactTurn_102 rfl ?_
        first | refine x_iaddN eX2_exactTurn_104 ?_ | refine x_iadd eX2_exactTurn_104 ?_
        refine s_lald eX2_exactTurn_105 rfl (by decide) rfl (show _ < 1608 by omega) ?_
        rw [r35, show 2 * b * 4 + j = 8 * b + j by omega, qb.1.1]
        refine x_aload_n eX2_exactTurn_106 rfl ?_
        refine s_getR (k := 35) eX2_exactTurn_107 fX2_19 rfl (by decide) (by decide) rfl ?_
        refine x_iload eX2_exactTurn_110 rfl ?_
        refine x_iload eX2_exactTurn_112 rfl ?_
        first | refine x_iaddN eX2_exactTurn_114 ?_ | refine x_iadd eX2_exactTurn_114 ?_
        refine s_lald eX2_exactTurn_115 rfl (by decide) rfl (show _ < 1608 by omega) ?_
        rw [r35, show 2 * c * 4 + j = 8 * c + j by omega, qd.1.1]
        refine x_lsub eX2_exactTurn_116 ?_
        rw [lI_sub]
        refine x_lstore (lv' := [_, _, _, _, _, _, _, _, _]) eX2_exactTurn_117 (by decide) rfl ?_
        refine x_aload_n eX2_exactTurn_119 rfl ?_
        refine s_getR (k := 35) eX2_exactTurn_120 fX2_19 rfl (by decide) (by decide) rfl ?_
        refine x_iload eX2_exactTurn_123 rfl ?_
        refine x_iconst (v := nI 4) eX2_exactTurn_125 (by decide) ?_
        first | refine x_iaddN eX2_exactTurn_126 ?_ | refine x_iadd eX2_exactTurn_126 ?_
        refine x_iload eX2_exactTurn_127 rfl ?_
        first | refine x_iaddN eX2_exactTurn_129 ?_ | refine x_iadd eX2_exactTurn_129 ?_
        refine s_lald eX2_exactTurn_130 rfl (by decide) rfl (show _ < 1608 by omega) ?_
        rw [r35, show 2 * b * 4 + 4 + j = 8 * b + 4 + j by omega, qb.2.1]
        refine x_aload_n eX2_exactTurn_131 rfl ?_
        refine s_getR (k := 35) eX2_exactTurn_132 fX2_19 rfl (by decide) (by decide) rfl ?_
        refine x_iload eX2_exactTurn_135 rfl ?_
        refine x_iconst (v := nI 4) eX2_exactTurn_137 (by decide) ?_
        first | refine x_iaddN eX2_exactTurn_138 ?_ | refine x_iadd eX2_exactTurn_138 ?_
        refine x_iload eX2_exactTurn_139 rfl ?_
        first | refine x_iaddN eX2_exactTurn_141 ?_ | refine x_iadd eX2_exactTurn_141 ?_
        refine s_lald eX2_exactTurn_142 rfl (by decide) rfl (show _ < 1608 by omega) ?_
        rw [r35, show 2 * c * 4 + 4 + j = 8 * c + 4 + j by omega, qd.2.1]
        refine x_lsub eX2_exactTurn_143 ?_
        rw [lI_sub]
        refine x_lstore (lv' := [_, _, _, _, _, _, _, _, _, _]) eX2_exactTurn_144 (by decide) rfl ?_
        refine x_aload_n eX2_exactTurn_146 rfl ?_
        refine s_getR (k := 363) eX2_exactTurn_147 fX2_25 rfl (by decide) (by decide) rfl ?_
        refine s_getR (k := 364) eX2_exactTurn_150 fX2_75 rfl (by decide) (by decide) rfl ?_
        refine x_iload eX2_exactTurn_153 rfl ?_
        refine x_iload eX2_exactTurn_155 rfl ?_
        first | refine x_iaddN eX2_exactTurn_157 ?_ | refine x_iadd eX2_exactTurn_157 ?_
        refine x_dup2_11 eX2_exactTurn_158 rfl rfl ?_
        refine s_lald eX2_exactTurn_159 rfl (by decide) rfl (show _ < 8 by omega) ?_
        rw [hF (i + j) (by omega)]
        refine x_lload eX2_exactTurn_160 rfl ?_
        refine x_lload eX2_exactTurn_162 rfl ?_
        refine x_lmul eX2_exactTurn_164 ?_
        rw [lI_mul]
        refine x_lload eX2_exactTurn_165 rfl ?_
        refine x_lload eX2_exactTurn_167 rfl ?_
        refine x_lmul eX2_exactTurn_169 ?_
        rw [lI_mul]
        refine x_lsub eX2_exactTurn_170 ?_
        rw [lI_sub]
        refine x_ladd eX2_exactTurn_171 ?_
        rw [lI_add]
        refine s_last eX2_exactTurn_172 rfl (by decide) rfl (show _ < 8 by omega) ?_
        refine x_iinc (lv' := [_, _, _, _, _, _, _, _, _, _]) eX2_exactTurn_173 rfl (by first | exact nI_inc _ | exact rfl) (by decide) rfl ?_
        refine x_goto eX2_exactTurn_176 ?_
        refine x_pick [0, 3, 4, 5, 6, 7, 8, 9] rfl ?_
        refine ih (j + 1) (by omega) _ ?_
        refine ⟨hx.tr (Lx.set _ _ (by simp)), updZ F (i + j) (F (i + j) + ((fa i - fc i) * (gb j - gc j) - (ga i - gc i) * (fb j - fc j))), ?_, ?_, ?_⟩
        · intro k hk
          rw [setL_at]
          unfold vp_updL updZ
          by_cases hk2 : k = i + j
          · rw [if_pos hk2, if_pos hk2]
          · rw [if_neg hk2, if_neg hk2]; exact hF k hk
        · rw [hv_upd _ _ _ _ (by omega), hh, hv_snoc _ j 0, hv_snoc _ j 0, Int.pow_add, show 0 + j = j by omega]
          grind
        · intro k hk
          have := hb k hk
          unfold updZ
          generalize (fa i - fc i) * (gb j - gc j) = u at *
          generalize (ga i - gc i) * (fb j - fc j) = v at *
          split
          · rename_i he
            subst he
            omega
          · omega
  have outer : ∀ m i, i + m = 4 → ∀ S1, etJ S fa ga fb gb fc gc B C i 0 S1 → XP mX2_exactTurn 31 [(7, .int (nI i)), (6, .int (nI (2 * c * 4))), (5, .int (nI (2 * b * 4))), (4, .int (nI (2 * a * 4))), (0, .ref 32)] [] (xwS S1) (sQ (fun r S' => r = some (.int (sg (orP A B C))) ∧ Lx [364] S S')) := by
    intro m
    induction m with
    | zero =>
      intro i hi S1 h1
      obtain rfl : i = 4 := by omega
      obtain ⟨hx, F, hF, hh, hb⟩ := h1
      have e1 : hv (2 ^ 26) F 0 8 = orP A B C := by
        rw [hh, hv_sub, hv_sub, va, vc, wa, wc]
        unfold orP
        show _ + _ * (_ * 0 - _ * 0) = _
        grind
      refine x_iload eX2_exactTurn_31 rfl ?_
      refine x_iconst (v := nI 4) eX2_exactTurn_33 (by decide) ?_
      refine x_icmp_geN eX2_exactTurn_34 (by omega) (by omega) (fun c_34 => ?_) (fun c_34 => ?_)
      · refine x_aload_n eX2_exactTurn_185 rfl ?_
        refine s_getR (k := 363) eX2_exactTurn_186 fX2_25 rfl (by decide) (by decide) rfl ?_
        refine s_callV1 (As := []) eX2_exactTurn_189 kX2_78 ⟨by decide, by decide⟩ rfl (by decide) (by decide) rfl rfl (Nat.le_of_ble_eq_true rfl) (Nat.le_of_ble_eq_true rfl) (sp_X7_sign (v := 63) (by decide) S1 F hF (fun k hk => by have := hb k hk; omega)) (fun S_189 h_189 => ?_)
        subst h_189
        rw [e1]
        exact s_iret eX2_exactTurn_192 rfl rfl ⟨rfl, hx⟩
      · omega
    | succ m ih =>
      intro i hi S1 h1
      have hx := h1.1
      have r35 : S1.2.2.1 35 = S.2.2.1 35 := hx.2.2.2 35 (by decide)
      have qa := pa i (by omega)
      have qc := pc i (by omega)
      refine x_iload eX2_exactTurn_31 rfl ?_
      refine x_iconst (v := nI 4) eX2_exactTurn_33 (by decide) ?_
      refine x_icmp_geN eX2_exactTurn_34 (by omega) (by omega) (fun c_34 => ?_) (fun c_34 => ?_)
      · omega
      · refine x_aload_n eX2_exactTurn_37 rfl ?_
        refine s_getR (k := 35) eX2_exactTurn_38 fX2_19 rfl (by decide) (by decide) rfl ?_
        refine x_iload eX2_exactTurn_41 rfl ?_
        refine x_iload eX2_exactTurn_43 rfl ?_
        first | refine x_iaddN eX2_exactTurn_45 ?_ | refine x_iadd eX2_exactTurn_45 ?_
        refine s_lald eX2_exactTurn_46 rfl (by decide) rfl (show _ < 1608 by omega) ?_
        rw [r35, show 2 * a * 4 + i = 8 * a + i by omega, qa.1.1]
        refine x_aload_n eX2_exactTurn_47 rfl ?_
        refine s_getR (k := 35) eX2_exactTurn_48 fX2_19 rfl (by decide) (by decide) rfl ?_
        refine x_iload eX2_exactTurn_51 rfl ?_
        refine x_iload eX2_exactTurn_53 rfl ?_
        first | refine x_iaddN eX2_exactTurn_55 ?_ | refine x_iadd eX2_exactTurn_55 ?_
        refine s_lald eX2_exactTurn_56 rfl (by decide) rfl (show _ < 1608 by omega) ?_
        rw [r35, show 2 * c * 4 + i = 8 * c + i by omega, qc.1.1]
        refine x_lsub eX2_exactTurn_57 ?_
        rw [lI_sub]
        refine x_lstore (lv' := [_, _, _, _, _, _]) eX2_exactTurn_58 (by decide) rfl ?_
        refine x_aload_n eX2_exactTurn_60 rfl ?_
        refine s_getR (k := 35) eX2_exactTurn_61 fX2_19 rfl (by decide) (by decide) rfl ?_
        refine x_iload eX2_exactTurn_64 rfl ?_
        refine x_iconst (v := nI 4) eX2_exactTurn_66 (by decide) ?_
        first | refine x_iaddN eX2_exactTurn_67 ?_ | refine x_iadd eX2_exactTurn_67 ?_
        refine x_iload eX2_exactTurn_68 rfl ?_
        first | refine x_iaddN eX2_exactTurn_70 ?_ | refine x_iadd eX2_exactTurn_70 ?_
        refine s_lald eX2_exactTurn_71 rfl (by decide) rfl (show _ < 1608 by omega) ?_
        rw [r35, show 2 * a * 4 + 4 + i = 8 * a + 4 + i by omega, qa.2.1]
        refine x_aload_n eX2_exactTurn_72 rfl ?_
        refine s_getR (k := 35) eX2_exactTurn_73 fX2_19 rfl (by decide) (by decide) rfl ?_
        refine x_iload eX2_exactTurn_76 rfl ?_
        refine x_iconst (v := nI 4) eX2_exactTurn_78 (by decide) ?_
        first | refine x_iaddN eX2_exactTurn_79 ?_ | refine x_iadd eX2_exactTurn_79 ?_
        refine x_iload eX2_exactTurn_80 rfl ?_
        first | refine x_iaddN eX2_exactTurn_82 ?_ | refine x_iadd eX2_exactTurn_82 ?_
        refine s_lald eX2_exactTurn_83 rfl (by decide) rfl (show _ < 1608 by omega) ?_
        rw [r35, show 2 * c * 4 + 4 + i = 8 * c + 4 + i by omega, qc.2.1]
        refine x_lsub eX2_exactTurn_84 ?_
        rw [lI_sub]
        refine x_lstore (lv' := [_, _, _, _, _, _, _]) eX2_exactTurn_85 (by decide) rfl ?_
        refine x_iconst (v := nI 0) eX2_exactTurn_87 (by decide) ?_
        refine x_istore (lv' := [_, _, _, _, _, _, _, _]) eX2_exactTurn_88 (by decide) rfl ?_
        refine x_pick [0, 1, 2, 3, 4, 5, 6, 7] rfl ?_
        exact inner i (by omega) (fun S2 h2 => ih (i + 1) (by omega) S2 h2) 4 0 rfl S1 h1
  show XP _ _ [_, _, _, _] _ _ _
  refine x_iconst (v := nI 2) eX2_exactTurn_0 (by decide) ?_
  refine x_iload_n eX2_exactTurn_1 rfl ?_
  first | refine x_imulN eX2_exactTurn_2 ?_ | refine x_imul eX2_exactTurn_2 ?_
  refine x_iconst (v := nI 4) eX2_exactTurn_3 (by decide) ?_
  first | refine x_imulN eX2_exactTurn_4 ?_ | refine x_imul eX2_exactTurn_4 ?_
  refine x_istore (lv' := [_, _, _, _, _]) eX2_exactTurn_5 (by decide) rfl ?_
  refine x_iconst (v := nI 2) eX2_exactTurn_7 (by decide) ?_
  refine x_iload_n eX2_exactTurn_8 rfl ?_
  first | refine x_imulN eX2_exactTurn_9 ?_ | refine x_imul eX2_exactTurn_9 ?_
  refine x_iconst (v := nI 4) eX2_exactTurn_10 (by decide) ?_
  first | refine x_imulN eX2_exactTurn_11 ?_ | refine x_imul eX2_exactTurn_11 ?_
  refine x_istore (lv' := [_, _, _, _, _, _]) eX2_exactTurn_12 (by decide) rfl ?_
  refine x_iconst (v := nI 2) eX2_exactTurn_14 (by decide) ?_
  refine x_iload_n eX2_exactTurn_15 rfl ?_
  first | refine x_imulN eX2_exactTurn_16 ?_ | refine x_imul eX2_exactTurn_16 ?_
  refine x_iconst (v := nI 4) eX2_exactTurn_17 (by decide) ?_
  first | refine x_imulN eX2_exactTurn_18 ?_ | refine x_imul eX2_exactTurn_18 ?_
  refine x_istore (lv' := [_, _, _, _, _, _, _]) eX2_exactTurn_19 (by decide) rfl ?_
  refine x_aload_n eX2_exactTurn_21 rfl ?_
  refine s_getR (k := 363) eX2_exactTurn_22 fX2_25 rfl (by decide) (by decide) rfl ?_
  refine s_callV0 (As := []) eX2_exactTurn_25 kX2_72 ⟨by decide, by decide⟩ rfl (by decide) (by decide) rfl rfl (Nat.le_of_ble_eq_true rfl) (Nat.le_of_ble_eq_true rfl) (sp_X7_clear (v := 63) (by decide) S) (fun S_25 h_25 => ?_)
  refine x_iconst (v := nI 0) eX2_exactTurn_28 (by decide) ?_
  refine x_istore (lv' := [_, _, _, _, _, _, _, _]) eX2_exactTurn_29 (by decide) rfl ?_
  refine x_pick [0, 1, 2, 3, 4] rfl ?_
  refine outer 4 0 rfl _ ?_
  rw [h_25]
  refine ⟨Lx.set _ _ (by simp), fun _ => 0, fun k hk => ?_, ?_, fun k hk => ⟨by show _ ≤ (0 : Int); omega, by show (0 : Int) ≤ _; omega⟩⟩
  · rw [setL_at, if_pos hk]; rfl
  · simp [hv]
theorem rel_swap {d p a T : Nat} (hT : 1 ≤ T) (h : d * (T * 2) ≤ p) (h2 : p ≤ a + d) : d * T ≤ a := by
  have e : d * (T * 2) = d * T + d * T := by rw [← Nat.mul_assoc, Nat.mul_two]
  have e2 : d ≤ d * T := Nat.le_mul_of_pos_right d hT
  rw [e] at h
  generalize d * T = x at *
  omega
theorem est_lin {X Y Z W D G E T : Nat} (hT : 8 ≤ T) (t1 : G ≤ D + (Y + Z)) (y1 : Y * T ≤ X) (z1 : Z * T ≤ W) (w1 : W ≤ X + Y) (h3 : D * (T * 2) ≤ X) (s1 : X ≤ E + D) : G * (T * 4) ≤ 13 * E := by
  have g1 : G * (T * 4) ≤ D * (T * 4) + (Y * (T * 4) + Z * (T * 4)) := by rw [← Nat.add_mul, ← Nat.add_mul]; exact Nat.mul_le_mul_right _ t1
  have d1 : D * (T * 4) = D * (T * 2) * 2 := by grind
  have y2 : Y * (T * 4) = Y * T * 4 := by rw [Nat.mul_assoc]
  have z2 : Z * (T * 4) = Z * T * 4 := by rw [Nat.mul_assoc]
  have d8 : D * 8 ≤ X := Nat.le_trans (Nat.mul_le_mul_left D (by omega)) h3
  have y8 : Y * 8 ≤ X := Nat.le_trans (Nat.mul_le_mul_left Y hT) y1
  rw [d1, y2, z2] at g1
  generalize G * (T * 4) = g at *
  generalize D * (T * 2) = d at *
  generalize Y * T = y at *
  generalize Z * T = z at *
  omega
/-- the estimate errs by less than 13 of 2^54 of itself -/
theorem est_err {p r : Int} : (rn (rn p * rn r) - p * r).natAbs * 2 ^ 54 ≤ 13 * (rn (rn p * rn r)).natAbs := by
  have h1 := rn_err p
  have h2 := rn_err r
  have h3 := rn_err (rn p * rn r)
  generalize rn p = a at *
  generalize rn r = b at *
  generalize rn (a * b) = E at *
  have e1 : a * b - p * r = (a - p) * b + p * (b - r) := by grind
  have t1 : (E - p * r).natAbs ≤ (E - a * b).natAbs + ((a - p).natAbs * b.natAbs + p.natAbs * (b - r).natAbs) := by
    have q1 : (E - p * r).natAbs ≤ (E - a * b).natAbs + (a * b - p * r).natAbs := by omega
    have q2 : (a * b - p * r).natAbs ≤ (a - p).natAbs * b.natAbs + p.natAbs * (b - r).natAbs := by
      rw [e1, ← Int.natAbs_mul, ← Int.natAbs_mul]
      exact Int.natAbs_add_le _ _
    omega
  have a1 : (a - p).natAbs * 2 ^ 52 ≤ a.natAbs := rel_swap (by decide) h1 (by clear h1 h2 h3; omega)
  have b1 : (b - r).natAbs * 2 ^ 52 ≤ b.natAbs := rel_swap (by decide) h2 (by clear h1 h2 h3; omega)
  have p1 : p.natAbs ≤ a.natAbs + (a - p).natAbs := by omega
  have y1 : (a - p).natAbs * b.natAbs * 2 ^ 52 ≤ a.natAbs * b.natAbs := by
    have := Nat.mul_le_mul_right b.natAbs a1
    rw [Nat.mul_right_comm] at this
    exact this
  have z1 : p.natAbs * (b - r).natAbs * 2 ^ 52 ≤ p.natAbs * b.natAbs := by
    have := Nat.mul_le_mul_left p.natAbs b1
    rw [← Nat.mul_assoc] at this
    exact this
  have w1 : p.natAbs * b.natAbs ≤ a.natAbs * b.natAbs + (a - p).natAbs * b.natAbs := by
    have := Nat.mul_le_mul_right b.natAbs p1
    rw [Nat.add_mul] at this
    exact this
  have x1 : (a * b).natAbs = a.natAbs * b.natAbs := Int.natAbs_mul a b
  have s1 : (a * b).natAbs ≤ E.natAbs + (E - a * b).natAbs := by omega
  rw [x1] at h3 s1
  exact est_lin (T := 2 ^ 52) (by decide) t1 y1 z1 w1 h3 s1
/-- where the estimate is sure, its sign is right -/
theorem sure_sign {A B C : Pt} (h : sureZ (estE A B C) (estF A B C) = true) : (estF A B C < estE A B C ↔ 0 < orP A B C) ∧ estF A B C ≠ estE A B C ∧ orP A B C ≠ 0 := by
  have h1 := of_decide_eq_true h
  have e1 := est_err (p := A.1 - C.1) (r := B.2 - C.2)
  have e2 := est_err (p := A.2 - C.2) (r := B.1 - C.1)
  unfold orP
  unfold estE estF at h1 ⊢
  generalize (A.1 - C.1) * (B.2 - C.2) = e0 at *
  generalize (A.2 - C.2) * (B.1 - C.1) = f0 at *
  generalize rn (rn (A.1 - C.1) * rn (B.2 - C.2)) = E at *
  generalize rn (rn (A.2 - C.2) * rn (B.1 - C.1)) = F at *
  have q1 := rn_err ((E.natAbs : Int) + F.natAbs)
  have q2 := rn_err ((E - F).natAbs : Int)
  generalize rn ((E.natAbs : Int) + F.natAbs) = s at *
  generalize rn ((E - F).natAbs : Int) = t at *
  omega
theorem rn_eq0 {z : Int} : rn z = 0 ↔ z = 0 := by
  constructor
  · intro h
    rcases Int.lt_trichotomy z 0 with h1 | h1 | h1
    · have := rn_negz h1; omega
    · exact h1
    · have := rn_pos h1; omega
  · intro h; subst h; decide
theorem sp_X2_turn (S : xS) {a b c : Nat} {A B C : Pt} (ha : cpt S a A) (hb : cpt S b B) (hc : cpt S c C) : Sp mX2_turn [.ref 32, .int (nI a), .int (nI b), .int (nI c)] S (fun r S' => r = some (.int (sg (orP A B C))) ∧ Lx [364] S S') := by
  obtain ⟨e1, e2, bE, bF⟩ := est_vz ha hb hc
  show XP _ _ [_, _, _, _] _ _ _
  refine x_aload_n eX2_turn_0 rfl ?_
  refine x_iload_n eX2_turn_1 rfl ?_
  refine s_callV1 (As := [_]) eX2_turn_2 kX2_55 ⟨by decide, by decide⟩ rfl (by decide) (by decide) rfl rfl (Nat.le_of_ble_eq_true rfl) (Nat.le_of_ble_eq_true rfl) (sp_X2_x _ ha.1) (fun S_2 h_2 => ?_)
  subst h_2
  refine x_aload_n eX2_turn_5 rfl ?_
  refine x_iload_n eX2_turn_6 rfl ?_
  refine s_callV1 (As := [_]) eX2_turn_7 kX2_55 ⟨by decide, by decide⟩ rfl (by decide) (by decide) rfl rfl (Nat.le_of_ble_eq_true rfl) (Nat.le_of_ble_eq_true rfl) (sp_X2_x _ hc.1) (fun S_7 h_7 => ?_)
  subst h_7
  refine x_dsub eX2_turn_10 (vz_n64 e1.1) ?_
  refine x_aload_n eX2_turn_11 rfl ?_
  refine x_iload_n eX2_turn_12 rfl ?_
  refine s_callV1 (As := [_]) eX2_turn_13 kX2_59 ⟨by decide, by decide⟩ rfl (by decide) (by decide) rfl rfl (Nat.le_of_ble_eq_true rfl) (Nat.le_of_ble_eq_true rfl) (sp_X2_y _ hb.1) (fun S_13 h_13 => ?_)
  subst h_13
  refine x_aload_n eX2_turn_16 rfl ?_
  refine x_iload_n eX2_turn_17 rfl ?_
  refine s_callV1 (As := [_]) eX2_turn_18 kX2_59 ⟨by decide, by decide⟩ rfl (by decide) (by decide) rfl rfl (Nat.le_of_ble_eq_true rfl) (Nat.le_of_ble_eq_true rfl) (sp_X2_y _ hc.1) (fun S_18 h_18 => ?_)
  subst h_18
  refine x_dsub eX2_turn_21 (vz_n64 e1.2.1) ?_
  refine x_dmul eX2_turn_22 (vz_n64 e1.2.2) ?_
  refine x_dstore (lv' := [_, _, _, _, _]) eX2_turn_23 (by decide) rfl ?_
  refine x_aload_n eX2_turn_25 rfl ?_
  refine x_iload_n eX2_turn_26 rfl ?_
  refine s_callV1 (As := [_]) eX2_turn_27 kX2_59 ⟨by decide, by decide⟩ rfl (by decide) (by decide) rfl rfl (Nat.le_of_ble_eq_true rfl) (Nat.le_of_ble_eq_true rfl) (sp_X2_y _ ha.1) (fun S_27 h_27 => ?_)
  subst h_27
  refine x_aload_n eX2_turn_30 rfl ?_
  refine x_iload_n eX2_turn_31 rfl ?_
  refine s_callV1 (As := [_]) eX2_turn_32 kX2_59 ⟨by decide, by decide⟩ rfl (by decide) (by decide) rfl rfl (Nat.le_of_ble_eq_true rfl) (Nat.le_of_ble_eq_true rfl) (sp_X2_y _ hc.1) (fun S_32 h_32 => ?_)
  subst h_32
  refine x_dsub eX2_turn_35 (vz_n64 e2.1) ?_
  refine x_aload_n eX2_turn_36 rfl ?_
  refine x_iload_n eX2_turn_37 rfl ?_
  refine s_callV1 (As := [_]) eX2_turn_38 kX2_55 ⟨by decide, by decide⟩ rfl (by decide) (by decide) rfl rfl (Nat.le_of_ble_eq_true rfl) (Nat.le_of_ble_eq_true rfl) (sp_X2_x _ hb.1) (fun S_38 h_38 => ?_)
  subst h_38
  refine x_aload_n eX2_turn_41 rfl ?_
  refine x_iload_n eX2_turn_42 rfl ?_
  refine s_callV1 (As := [_]) eX2_turn_43 kX2_55 ⟨by decide, by decide⟩ rfl (by decide) (by decide) rfl rfl (Nat.le_of_ble_eq_true rfl) (Nat.le_of_ble_eq_true rfl) (sp_X2_x _ hc.1) (fun S_43 h_43 => ?_)
  subst h_43
  refine x_dsub eX2_turn_46 (vz_n64 e2.2.1) ?_
  refine x_dmul eX2_turn_47 (vz_n64 e2.2.2) ?_
  refine x_dstore (lv' := [_, _, _, _, _, _]) eX2_turn_48 (by decide) rfl ?_
  refine x_dload eX2_turn_50 rfl ?_
  refine x_dload eX2_turn_52 rfl ?_
  refine s_callS1 (As := [_, _]) eX2_turn_54 kX2_62 ⟨by decide, by decide⟩ rfl rfl (Nat.le_of_ble_eq_true rfl) (Nat.le_of_ble_eq_true rfl) (sp_X2_isSureOf _ e1.2.2 e2.2.2 bE bF) (fun S_54 h_54 => ?_)
  subst h_54
  refine x_if_eqB eX2_turn_57 (fun c_57 => ?_) (fun c_57 => ?_)
  · refine x_dload eX2_turn_74 rfl ?_
    refine x_dconst0 eX2_turn_76 ?_
    refine x_dcmp eX2_turn_77 ?_
    rw [cmpV e1.2.2 (vz_0 144)]
    refine x_if_neS eX2_turn_78 (fun c_78 => ?_) (fun c_78 => ?_)
    · refine x_aload_n eX2_turn_90 rfl ?_
      refine x_iload_n eX2_turn_91 rfl ?_
      refine x_iload_n eX2_turn_92 rfl ?_
      refine x_iload_n eX2_turn_93 rfl ?_
      refine s_callV1 (As := [_, _, _]) eX2_turn_94 kX2_68 ⟨by decide, by decide⟩ rfl (by decide) (by decide) rfl rfl (Nat.le_of_ble_eq_true rfl) (Nat.le_of_ble_eq_true rfl) (sp_X2_exactTurn _ ha hb hc) (fun S_94 h_94 => ?_)
      exact s_iret eX2_turn_97 rfl rfl ⟨rfl, h_94⟩
    · refine x_dload eX2_turn_81 rfl ?_
      refine x_dconst0 eX2_turn_83 ?_
      refine x_dcmp eX2_turn_84 ?_
      rw [cmpV e2.2.2 (vz_0 144)]
      refine x_if_neS eX2_turn_85 (fun c_85 => ?_) (fun c_85 => ?_)
      · refine x_aload_n eX2_turn_90 rfl ?_
        refine x_iload_n eX2_turn_91 rfl ?_
        refine x_iload_n eX2_turn_92 rfl ?_
        refine x_iload_n eX2_turn_93 rfl ?_
        refine s_callV1 (As := [_, _, _]) eX2_turn_94 kX2_68 ⟨by decide, by decide⟩ rfl (by decide) (by decide) rfl rfl (Nat.le_of_ble_eq_true rfl) (Nat.le_of_ble_eq_true rfl) (sp_X2_exactTurn _ ha hb hc) (fun S_94 h_94 => ?_)
        exact s_iret eX2_turn_97 rfl rfl ⟨rfl, h_94⟩
      · refine x_iconst (v := nI 0) eX2_turn_88 (by decide) ?_
        refine s_iret eX2_turn_89 rfl rfl ⟨?_, Lx.rf _ _⟩
        have z1 : (A.1 - C.1) * (B.2 - C.2) = 0 := by
          have h7 : rn (A.1 - C.1) * rn (B.2 - C.2) = 0 := rn_eq0.mp (by unfold estE at c_78; omega)
          rcases Int.mul_eq_zero.mp h7 with h8 | h8
          · rw [rn_eq0.mp h8, Int.zero_mul]
          · rw [rn_eq0.mp h8, Int.mul_zero]
        have z2 : (A.2 - C.2) * (B.1 - C.1) = 0 := by
          have h7 : rn (A.2 - C.2) * rn (B.1 - C.1) = 0 := rn_eq0.mp (by unfold estF at c_85; omega)
          rcases Int.mul_eq_zero.mp h7 with h8 | h8
          · rw [rn_eq0.mp h8, Int.zero_mul]
          · rw [rn_eq0.mp h8, Int.mul_zero]
        have z3 : orP A B C = 0 := by unfold orP; omega
        rw [z3]; rfl
  · refine x_dload eX2_turn_60 rfl ?_
    refine x_dload eX2_turn_62 rfl ?_
    refine x_dcmp eX2_turn_64 ?_
    rw [cmpV e1.2.2 e2.2.2]
    refine x_if_leS eX2_turn_65 (fun c_65 => ?_) (fun c_65 => ?_)
    · refine x_iconst (v := -1) eX2_turn_72 (by decide) ?_
      have hs := sure_sign c_57
      refine s_iret eX2_turn_73 rfl rfl ⟨?_, Lx.rf _ _⟩
      unfold sg
      first
        | (have h5 := hs.1.mp (by omega); rw [if_neg (by omega), if_neg hs.2.2]; rfl)
        | (have h5 : ¬ 0 < orP A B C := (fun h => absurd (hs.1.mpr h) (by omega)); have h6 := hs.2.2; rw [if_pos (by omega)])
    · refine x_iconst (v := nI 1) eX2_turn_68 (by decide) ?_
      refine x_goto eX2_turn_69 ?_
      have hs := sure_sign c_57
      refine s_iret eX2_turn_73 rfl rfl ⟨?_, Lx.rf _ _⟩
      unfold sg
      first
        | (have h5 := hs.1.mp (by omega); rw [if_neg (by omega), if_neg hs.2.2]; rfl)
        | (have h5 : ¬ 0 < orP A B C := (fun h => absurd (hs.1.mpr h) (by omega)); have h6 := hs.2.2; rw [if_pos (by omega)])
