/-- the number x stands at the spot -/
def putR (S : xS) (spot : Nat) (x : Int64) (S' : xS) : Prop := S'.1 = S.1 ∧ S'.2.1 = S.2.1 ∧ (∀ p, p ≠ 33 → p ≠ 35 → S'.2.2.1 p = S.2.2.1 p) ∧ (∀ j, S'.2.2.1 33 j = if j = spot then plainB x else S.2.2.1 33 j) ∧ (∀ p, p ≠ 34 → S'.2.2.2 p = S.2.2.2 p) ∧ (∀ j, j ≠ spot → S'.2.2.2 34 j = S.2.2.2 34 j) ∧ vz 72 (S'.2.2.2 34 spot) (zc x) ∧ (∀ j, j < 4 * spot ∨ 4 * spot + 4 ≤ j → S'.2.2.1 35 j = S.2.2.1 35 j) ∧ ∃ f : Nat → Int, (∀ k, k < 4 → S'.2.2.1 35 (4 * spot + k) = lI (f k) ∧ -(2 ^ 26) < f k ∧ f k < 2 ^ 26) ∧ hv (2 ^ 26) f 0 4 = zc x
theorem setD_at (S : xS) (p : Nat) (g : Nat → UInt64) : (setD S p g).2.2.2 p = g := rw1_same
theorem setD_ne (S : xS) {p q : Nat} (g : Nat → UInt64) (h : q ≠ p) : (setD S p g).2.2.2 q = S.2.2.2 q := rw1_ne h
theorem vfu_at (f : Nat → UInt64) (k : Nat) (x : UInt64) : vf_upd f k x k = x := by simp [vf_upd]
theorem vfu_ne (f : Nat → UInt64) {k i : Nat} (x : UInt64) (h : i ≠ k) : vf_upd f k x i = f i := by simp [vf_upd, h]
theorem vul_at (f : Nat → Int64) (k : Nat) (x : Int64) : vp_updL f k x k = x := by simp [vp_updL]
theorem vul_ne (f : Nat → Int64) {k i : Nat} (x : Int64) (h : i ≠ k) : vp_updL f k x i = f i := by simp [vp_updL, h]

theorem sp_X2_putOne (S : xS) {spot : Nat} (hsp : spot < 402) {x : Int64} (hx : isNum x = true) : Sp mX2_putOne [.ref 32, .int (nI spot), .long x] S (fun r S' => r = none ∧ putR S spot x S') := by
  have key : ∀ (s d : Int) (e : Nat), (s = 1 ∨ s = -1) → 0 ≤ d → d < 2 ^ 53 → e ≤ 48 → zc x = s * (d * 2 ^ e) → XP mX2_putOne 68 [(10, .int (nI e)), (8, .long (lI d)), (6, .long (lI s)), (4, .long (lI (szZ x))), (0, .ref 32), (1, .int (nI spot)), (2, .long x)] [] (xwS S) (sQ (fun r S' => r = none ∧ putR S spot x S')) := by
    intro s d e hs d0 d1 he hzc
    have Mlt : d * 2 ^ e < (2 ^ 26) ^ (0 + 4) := by
      have p1 : (2 : Int) ^ e ≤ 2 ^ 48 := by have := Nat.pow_le_pow_right (n := 2) (by decide) he; have e1 := two_pow_N e; have e2 := two_pow_N 48; omega
      have p2 : d * 2 ^ e ≤ d * 2 ^ 48 := Int.mul_le_mul_of_nonneg_left p1 d0
      have p3 : ((2 : Int) ^ 26) ^ (0 + 4) = 20282409603651670423947251286016 := by decide
      omega
    have loop : ∀ μ k, k + μ = 4 → ∀ S2, (S2.1 = S.1 ∧ S2.2.1 = S.2.1 ∧ (∀ p, p ≠ 33 → p ≠ 35 → S2.2.2.1 p = S.2.2.1 p) ∧ (∀ j, S2.2.2.1 33 j = if j = spot then plainB x else S.2.2.1 33 j) ∧ (∀ p, p ≠ 34 → S2.2.2.2 p = S.2.2.2 p) ∧ (∀ j, j ≠ spot → S2.2.2.2 34 j = S.2.2.2 34 j) ∧ vz 72 (S2.2.2.2 34 spot) (zc x) ∧ ∀ j, S2.2.2.1 35 j = if 4 * spot ≤ j ∧ j < 4 * spot + k then lI (s * (d * 2 ^ e / (2 ^ 26) ^ (j - 4 * spot) % 2 ^ 26)) else S.2.2.1 35 j) → XP mX2_putOne 128 [(12, .int (nI k)), (10, .int (nI e)), (8, .long (lI d)), (6, .long (lI s)), (0, .ref 32), (1, .int (nI spot))] [] (xwS S2) (sQ (fun r S' => r = none ∧ putR S spot x S')) := by
      intro μ
      induction μ with
      | zero =>
        intro k hk S2 h1
        obtain ⟨i1, i2, i3, i4, i5, i6, i7, i8⟩ := h1
        refine x_iload eX2_putOne_128 rfl ?_
        refine x_iconst (v := nI 4) eX2_putOne_130 (by decide) ?_
        refine x_icmp_geN eX2_putOne_131 (by omega) (by omega) (fun c_131 => ?_) (fun c_131 => ?_)
        · have ek : k = 4 := by omega
          subst ek
          refine s_vret eX2_putOne_167 rfl ⟨rfl, i1, i2, i3, i4, i5, i6, i7, fun j hj => by rw [i8, if_neg (by omega)], fun j => s * (d * 2 ^ e / (2 ^ 26) ^ j % 2 ^ 26), fun k hk => ⟨by rw [i8, if_pos (by omega), show 4 * spot + k - 4 * spot = k by omega], ?_⟩, ?_⟩
          · have m1 := Int.emod_nonneg (d * 2 ^ e / (2 ^ 26) ^ k) (show (2 : Int) ^ 26 ≠ 0 by decide)
            have m2 := Int.emod_lt_of_pos (d * 2 ^ e / (2 ^ 26) ^ k) (show (0 : Int) < 2 ^ 26 by decide)
            show -(2 ^ 26) < s * (d * 2 ^ e / (2 ^ 26) ^ k % 2 ^ 26) ∧ s * (d * 2 ^ e / (2 ^ 26) ^ k % 2 ^ 26) < 2 ^ 26
            generalize d * 2 ^ e / (2 ^ 26) ^ k % 2 ^ 26 = y at *
            rcases hs with rfl | rfl <;> omega
          · rw [hv_digits (by decide)]
            have z : d * 2 ^ e / (2 ^ 26) ^ (0 + 4) = 0 := Int.ediv_eq_zero_of_lt (Int.mul_nonneg d0 (Int.le_of_lt (Int.pow_pos (by decide)))) Mlt
            rw [z, Int.mul_zero, Int.mul_zero, Int.sub_zero, Int.pow_zero, Int.ediv_one, hzc]
        · omega
      | succ μ ih =>
        intro k hk S2 h1
        obtain ⟨i1, i2, i3, i4, i5, i6, i7, i8⟩ := h1
        refine x_iload eX2_putOne_128 rfl ?_
        refine x_iconst (v := nI 4) eX2_putOne_130 (by decide) ?_
        refine x_icmp_geN eX2_putOne_131 (by omega) (by omega) (fun c_131 => ?_) (fun c_131 => ?_)
        · omega
        · refine x_aload_n eX2_putOne_134 rfl ?_
          refine s_getR (k := 35) eX2_putOne_135 fX2_19 rfl (by decide) (by decide) rfl ?_
          refine x_iload_n eX2_putOne_138 rfl ?_
          refine x_iconst (v := nI 4) eX2_putOne_139 (by decide) ?_
          first | refine x_imulN eX2_putOne_140 ?_ | refine x_imul eX2_putOne_140 ?_
          refine x_iload eX2_putOne_141 rfl ?_
          first | refine x_iaddN eX2_putOne_143 ?_ | refine x_iadd eX2_putOne_143 ?_
          refine x_lload eX2_putOne_144 rfl ?_
          refine x_lload eX2_putOne_146 rfl ?_
          refine x_iload eX2_putOne_148 rfl ?_
          refine x_bipush (v := nI 26) eX2_putOne_150 (by decide) ?_
          first | refine x_imulN eX2_putOne_152 ?_ | refine x_imul eX2_putOne_152 ?_
          refine x_iload eX2_putOne_153 rfl ?_
          refine x_isub eX2_putOne_155 ?_
          refine s_callS1 (As := [_, _]) eX2_putOne_156 kX2_49 ⟨by decide, by decide⟩ rfl rfl (Nat.le_of_ble_eq_true rfl) (Nat.le_of_ble_eq_true rfl) (sp_X2_limbOf _ d0 d1 he (by omega)) (fun S_156 h_156 => ?_)
          have h_156 := h_156.symm
          subst h_156
          refine x_lmul eX2_putOne_159 ?_
          rw [lI_mul]
          refine s_last eX2_putOne_160 rfl (by decide) rfl (show _ < 1608 by omega) ?_
          refine x_iinc (lv' := [_, _, _, _, _, _]) eX2_putOne_161 rfl (by first | exact nI_inc _ | exact rfl) (by decide) rfl ?_
          refine x_goto eX2_putOne_164 ?_
          refine x_pick [0, 1, 2, 3, 4, 5] rfl ?_
          refine ih (k + 1) (by omega) _ ⟨i1, i2, fun p a b => by rw [setL_ne _ _ b]; exact i3 p a b, fun j => by rw [setL_ne _ _ (by decide)]; exact i4 j, i5, i6, i7, fun j => ?_⟩
          rw [setL_at]
          by_cases q : j = spot * 4 + k
          · subst q; rw [vul_at, if_pos (by omega), show spot * 4 + k - 4 * spot = k by omega]
          · rw [vul_ne _ _ q, i8]
            by_cases q2 : 4 * spot ≤ j ∧ j < 4 * spot + k
            · rw [if_pos q2, if_pos (by omega)]
            · rw [if_neg q2, if_neg (by omega)]
    have j95 : ∀ S1, S1 = setL S 33 (vp_updL (S.2.2.1 33) spot (plainB x)) → XP mX2_putOne 95 [(11, .int (nI ((72 - e) / 2))), (10, .int (nI e)), (8, .long (lI d)), (6, .long (lI s)), (4, .long (lI (szZ x))), (0, .ref 32), (1, .int (nI spot)), (2, .long x)] [] (xwS S1) (sQ (fun r S' => r = none ∧ putR S spot x S')) := by
      intro S1 e1
      have sd : (s * d).natAbs ≤ 2 ^ 53 := by rcases hs with rfl | rfl <;> omega
      have ph : ∀ k : Nat, k ≤ 40 → vz 0 (FP.l2d (lI (2 ^ k))) (2 ^ k) := fun k hk => vz_l2d (by
        have := Nat.pow_le_pow_right (n := 2) (by decide) hk
        have e1 : ((2 : Int) ^ k).natAbs = 2 ^ k := by rw [← two_pow_N k]; exact Int.natAbs_natCast _
        rw [e1]
        exact Nat.le_trans this (by decide))
      have v1 := vz_ddiv (u := 0) (k := (72 - e) / 2) (by omega) (vz_l2d sd) (ph _ (by omega)) (Nat.lt_of_le_of_lt sd (Nat.pow_lt_pow_right (by decide) (by omega)))
      rw [rn_small sd, Nat.zero_add] at v1
      have v2 := vz_ddiv (u := (72 - e) / 2) (k := 72 - e - (72 - e) / 2) (by omega) v1 (ph _ (by omega)) (Nat.lt_of_le_of_lt sd (Nat.pow_lt_pow_right (by decide) (by omega)))
      rw [rn_small sd] at v2
      have v3 := vz_rep (k := e) v2
      rw [show (72 - e) / 2 + (72 - e - (72 - e) / 2) + e = 72 by omega, show s * d * 2 ^ e = zc x by rw [hzc]; grind] at v3
      refine x_aload_n eX2_putOne_95 rfl ?_
      refine s_getR (k := 34) eX2_putOne_96 fX2_15 rfl (by decide) (by decide) rfl ?_
      refine x_iload_n eX2_putOne_99 rfl ?_
      refine x_lload eX2_putOne_100 rfl ?_
      refine x_lload eX2_putOne_102 rfl ?_
      refine x_lmul eX2_putOne_104 ?_
      rw [lI_mul]
      refine x_l2d eX2_putOne_105 ?_
      refine x_lconst (v := lI 1) eX2_putOne_106 (by decide) ?_
      refine x_iload eX2_putOne_107 rfl ?_
      refine x_lshl eX2_putOne_109 rfl ?_
      rw [lI_shl _ (shc (show (72 - e) / 2 < 64 by omega)), Int.one_mul]
      refine x_l2d eX2_putOne_110 ?_
      refine x_ddiv eX2_putOne_111 (vz_n64 v1) ?_
      refine x_lconst (v := lI 1) eX2_putOne_112 (by decide) ?_
      refine x_bipush (v := nI 72) eX2_putOne_113 (by decide) ?_
      refine x_iload eX2_putOne_115 rfl ?_
      first | refine x_isubN eX2_putOne_117 (by omega) ?_ | refine x_isub eX2_putOne_117 ?_
      refine x_iload eX2_putOne_118 rfl ?_
      first | refine x_isubN eX2_putOne_120 (by omega) ?_ | refine x_isub eX2_putOne_120 ?_
      refine x_lshl eX2_putOne_121 rfl ?_
      rw [lI_shl _ (shc (show 72 - e - (72 - e) / 2 < 64 by omega)), Int.one_mul]
      refine x_l2d eX2_putOne_122 ?_
      refine x_ddiv eX2_putOne_123 (vz_n64 v2) ?_
      refine s_dast eX2_putOne_124 rfl (by decide) rfl (show _ < 402 by omega) ?_
      refine x_iconst (v := nI 0) eX2_putOne_125 (by decide) ?_
      refine x_istore (lv' := [_, _, _, _, _, _, _, _, _]) eX2_putOne_126 (by decide) rfl ?_
      refine x_pick [0, 2, 3, 4, 6, 7] rfl ?_
      refine loop 4 0 (by omega) _ ⟨by show S1.1 = _; rw [e1]; rfl, by show S1.2.1 = _; rw [e1]; rfl, fun p a b => by show S1.2.2.1 p = _; rw [e1, setL_ne _ _ a], fun j => ?_, fun p a => by rw [setD_ne _ _ a, e1]; rfl, fun j a => by rw [setD_at, vfu_ne _ _ a, e1]; rfl, by rw [setD_at, vfu_at]; exact v3, fun j => by rw [if_neg (by omega)]; show S1.2.2.1 35 j = _; rw [e1, setL_ne _ _ (by decide)]⟩
      show S1.2.2.1 33 j = _
      rw [e1, setL_at]
      by_cases q : j = spot
      · subst q; rw [vul_at, if_pos rfl]
      · rw [vul_ne _ _ q, if_neg q]
    refine x_bipush (v := nI 72) eX2_putOne_68 (by decide) ?_
    refine x_iload eX2_putOne_70 rfl ?_
    first | refine x_isubN eX2_putOne_72 (by omega) ?_ | refine x_isub eX2_putOne_72 ?_
    refine x_iconst (v := nI 2) eX2_putOne_73 (by decide) ?_
    refine x_idivN eX2_putOne_74 (by omega) (by omega) (by omega) ?_
    refine x_istore (lv' := [_, _, _, _, _, _, _, _]) eX2_putOne_75 (by decide) rfl ?_
    refine x_aload_n eX2_putOne_77 rfl ?_
    refine s_getR (k := 33) eX2_putOne_78 fX2_9 rfl (by decide) (by decide) rfl ?_
    refine x_iload_n eX2_putOne_81 rfl ?_
    refine x_lload eX2_putOne_82 rfl ?_
    refine x_lconst (v := 0) eX2_putOne_84 (by decide) ?_
    refine x_lcmp eX2_putOne_85 ?_
    refine x_if_neL eX2_putOne_86 (fun c_86 => ?_) (fun c_86 => ?_)
    · refine x_lload_n eX2_putOne_93 rfl ?_
      refine s_last eX2_putOne_94 rfl (by decide) rfl (show _ < 402 by omega) ?_
      refine x_pick [0, 1, 2, 3, 4, 5, 6, 7] rfl ?_
      first
        | (rw [show (0 : Int64) = plainB x by unfold plainB; rw [and_size, if_pos c_86]]; exact j95 _ rfl)
        | (have ep : plainB x = x := by unfold plainB; rw [and_size, if_neg c_86]
           refine j95 _ ?_
           rw [ep])
    · refine x_lconst (v := 0) eX2_putOne_89 (by decide) ?_
      refine x_goto eX2_putOne_90 ?_
      refine s_last eX2_putOne_94 rfl (by decide) rfl (show _ < 402 by omega) ?_
      refine x_pick [0, 1, 2, 3, 4, 5, 6, 7] rfl ?_
      first
        | (rw [show (0 : Int64) = plainB x by unfold plainB; rw [and_size, if_pos c_86]]; exact j95 _ rfl)
        | (have ep : plainB x = x := by unfold plainB; rw [and_size, if_neg c_86]
           refine j95 _ ?_
           rw [ep])
  have zx : (lI (szZ x) = 0) ↔ szZ x = 0 := lI_inj (szZ_in x) inL_0
  have mb := mt_bounds x
  have nn := szZ_nn x
  have lt := szZ_lt x
  show XP _ _ [_, _, _] _ _ _
  have neg : x < 0 ↔ x.toInt < 0 := Int64.lt_iff_toInt_lt
  by_cases q : lI (szZ x) = 0
  · have q0 := zx.mp q
    have hz : ∀ s : Int, zc x = s * (0 * 2 ^ 0) := fun s => by unfold zc mtZ; rw [if_pos q0]; simp
    refine x_lload_n eX2_putOne_0 rfl ?_
    refine x_ldc2 (v := 9223372036854775807) eX2_putOne_1 (xT 261 (by decide +kernel) rfl) ?_
    refine x_land eX2_putOne_4 ?_
    rw [and_size]
    refine x_lstore (lv' := [_, _, _, _]) eX2_putOne_5 (by decide) rfl ?_
    refine x_lload_n eX2_putOne_7 rfl ?_
    refine x_lconst (v := 0) eX2_putOne_8 (by decide) ?_
    refine x_lcmp eX2_putOne_9 ?_
    refine x_if_geL eX2_putOne_10 (fun c_10 => ?_) (fun c_10 => ?_)
    · refine x_lconst (v := lI 1) eX2_putOne_19 (by decide) ?_
      refine x_lstore (lv' := [_, _, _, _, _]) eX2_putOne_20 (by decide) rfl ?_
      refine x_lload eX2_putOne_22 rfl ?_
      refine x_lconst (v := 0) eX2_putOne_24 (by decide) ?_
      refine x_lcmp eX2_putOne_25 ?_
      refine x_if_neL eX2_putOne_26 (fun c_26 => ?_) (fun c_26 => ?_)
      · exact absurd q c_26
      · refine x_lconst (v := lI 0) eX2_putOne_29 (by decide) ?_
        refine x_goto eX2_putOne_30 ?_
        refine x_lstore (lv' := [_, _, _, _, _, _]) eX2_putOne_43 (by decide) rfl ?_
        refine x_lload eX2_putOne_45 rfl ?_
        refine x_lconst (v := 0) eX2_putOne_47 (by decide) ?_
        refine x_lcmp eX2_putOne_48 ?_
        refine x_if_neL eX2_putOne_49 (fun c_49 => ?_) (fun c_49 => ?_)
        · exact absurd q c_49
        · refine x_iconst (v := nI 0) eX2_putOne_52 (by decide) ?_
          refine x_goto eX2_putOne_53 ?_
          refine x_istore (lv' := [_, _, _, _, _, _, _]) eX2_putOne_66 (by decide) rfl ?_
          refine x_pick [0, 1, 2, 3, 4, 5, 6] rfl ?_
          first
            | exact key 1 0 0 (Or.inl rfl) (by decide) (by decide) (by decide) (hz 1)
            | exact key (-1) 0 0 (Or.inr rfl) (by decide) (by decide) (by decide) (hz (-1))
    · refine x_ldc2 (v := lI (-1)) eX2_putOne_13 (xT 262 (by decide +kernel) rfl) ?_
      refine x_goto eX2_putOne_16 ?_
      refine x_lstore (lv' := [_, _, _, _, _]) eX2_putOne_20 (by decide) rfl ?_
      refine x_lload eX2_putOne_22 rfl ?_
      refine x_lconst (v := 0) eX2_putOne_24 (by decide) ?_
      refine x_lcmp eX2_putOne_25 ?_
      refine x_if_neL eX2_putOne_26 (fun c_26 => ?_) (fun c_26 => ?_)
      · exact absurd q c_26
      · refine x_lconst (v := lI 0) eX2_putOne_29 (by decide) ?_
        refine x_goto eX2_putOne_30 ?_
        refine x_lstore (lv' := [_, _, _, _, _, _]) eX2_putOne_43 (by decide) rfl ?_
        refine x_lload eX2_putOne_45 rfl ?_
        refine x_lconst (v := 0) eX2_putOne_47 (by decide) ?_
        refine x_lcmp eX2_putOne_48 ?_
        refine x_if_neL eX2_putOne_49 (fun c_49 => ?_) (fun c_49 => ?_)
        · exact absurd q c_49
        · refine x_iconst (v := nI 0) eX2_putOne_52 (by decide) ?_
          refine x_goto eX2_putOne_53 ?_
          refine x_istore (lv' := [_, _, _, _, _, _, _]) eX2_putOne_66 (by decide) rfl ?_
          refine x_pick [0, 1, 2, 3, 4, 5, 6] rfl ?_
          first
            | exact key 1 0 0 (Or.inl rfl) (by decide) (by decide) (by decide) (hz 1)
            | exact key (-1) 0 0 (Or.inr rfl) (by decide) (by decide) (by decide) (hz (-1))
  · have q0 : szZ x ≠ 0 := fun z => q (zx.mpr z)
    have pb := pw_bounds hx q0
    have em : szZ x % 2 ^ 52 + 2 ^ 52 = mtZ x := by unfold mtZ; rw [if_neg q0]
    have ep : szZ x / 2 ^ 52 = (pwN x : Int) := by unfold pwN; omega
    refine x_lload_n eX2_putOne_0 rfl ?_
    refine x_ldc2 (v := 9223372036854775807) eX2_putOne_1 (xT 261 (by decide +kernel) rfl) ?_
    refine x_land eX2_putOne_4 ?_
    rw [and_size]
    refine x_lstore (lv' := [_, _, _, _]) eX2_putOne_5 (by decide) rfl ?_
    refine x_lload_n eX2_putOne_7 rfl ?_
    refine x_lconst (v := 0) eX2_putOne_8 (by decide) ?_
    refine x_lcmp eX2_putOne_9 ?_
    refine x_if_geL eX2_putOne_10 (fun c_10 => ?_) (fun c_10 => ?_)
    · refine x_lconst (v := lI 1) eX2_putOne_19 (by decide) ?_
      refine x_lstore (lv' := [_, _, _, _, _]) eX2_putOne_20 (by decide) rfl ?_
      refine x_lload eX2_putOne_22 rfl ?_
      refine x_lconst (v := 0) eX2_putOne_24 (by decide) ?_
      refine x_lcmp eX2_putOne_25 ?_
      refine x_if_neL eX2_putOne_26 (fun c_26 => ?_) (fun c_26 => ?_)
      · refine x_lload eX2_putOne_33 rfl ?_
        refine x_ldc2 (v := 4503599627370495) eX2_putOne_35 (xT 263 (by decide +kernel) rfl) ?_
        refine x_land eX2_putOne_38 ?_
        rw [lI_mask (k := 52) (by decide) (by decide)]
        refine x_ldc2 (v := 4503599627370496) eX2_putOne_39 (xT 264 (by decide +kernel) rfl) ?_
        refine x_ladd eX2_putOne_42 ?_
        rw [show (4503599627370496 : Int64) = lI (2 ^ 52) from rfl, lI_add, em]
        refine x_lstore (lv' := [_, _, _, _, _, _]) eX2_putOne_43 (by decide) rfl ?_
        refine x_lload eX2_putOne_45 rfl ?_
        refine x_lconst (v := 0) eX2_putOne_47 (by decide) ?_
        refine x_lcmp eX2_putOne_48 ?_
        refine x_if_neL eX2_putOne_49 (fun c_49 => ?_) (fun c_49 => ?_)
        · refine x_lload eX2_putOne_56 rfl ?_
          refine x_bipush (v := nI 52) eX2_putOne_58 (by decide) ?_
          refine x_lushr eX2_putOne_60 rfl ?_
          rw [lI_ushr nn lt (by decide), ep]
          refine x_l2i eX2_putOne_61 ?_
          rw [lI_toInt32]
          refine x_sipush (v := nI 1003) eX2_putOne_62 (by decide) ?_
          first | refine x_isubN eX2_putOne_65 (by omega) ?_ | refine x_isub eX2_putOne_65 ?_
          refine x_istore (lv' := [_, _, _, _, _, _, _]) eX2_putOne_66 (by decide) rfl ?_
          refine x_pick [0, 1, 2, 3, 4, 5, 6] rfl ?_
          first
            | exact key (-1) (mtZ x) (pwN x - 1003) (Or.inr rfl) mb.1 mb.2 (by omega) (by unfold zc sgZ; rw [if_pos (neg.mp c_10)])
            | exact key 1 (mtZ x) (pwN x - 1003) (Or.inl rfl) mb.1 mb.2 (by omega) (by unfold zc sgZ; rw [if_neg (fun z => c_10 (neg.mpr z))])
        · exact absurd c_49 q
      · exact absurd c_26 q
    · refine x_ldc2 (v := lI (-1)) eX2_putOne_13 (xT 262 (by decide +kernel) rfl) ?_
      refine x_goto eX2_putOne_16 ?_
      refine x_lstore (lv' := [_, _, _, _, _]) eX2_putOne_20 (by decide) rfl ?_
      refine x_lload eX2_putOne_22 rfl ?_
      refine x_lconst (v := 0) eX2_putOne_24 (by decide) ?_
      refine x_lcmp eX2_putOne_25 ?_
      refine x_if_neL eX2_putOne_26 (fun c_26 => ?_) (fun c_26 => ?_)
      · refine x_lload eX2_putOne_33 rfl ?_
        refine x_ldc2 (v := 4503599627370495) eX2_putOne_35 (xT 263 (by decide +kernel) rfl) ?_
        refine x_land eX2_putOne_38 ?_
        rw [lI_mask (k := 52) (by decide) (by decide)]
        refine x_ldc2 (v := 4503599627370496) eX2_putOne_39 (xT 264 (by decide +kernel) rfl) ?_
        refine x_ladd eX2_putOne_42 ?_
        rw [show (4503599627370496 : Int64) = lI (2 ^ 52) from rfl, lI_add, em]
        refine x_lstore (lv' := [_, _, _, _, _, _]) eX2_putOne_43 (by decide) rfl ?_
        refine x_lload eX2_putOne_45 rfl ?_
        refine x_lconst (v := 0) eX2_putOne_47 (by decide) ?_
        refine x_lcmp eX2_putOne_48 ?_
        refine x_if_neL eX2_putOne_49 (fun c_49 => ?_) (fun c_49 => ?_)
        · refine x_lload eX2_putOne_56 rfl ?_
          refine x_bipush (v := nI 52) eX2_putOne_58 (by decide) ?_
          refine x_lushr eX2_putOne_60 rfl ?_
          rw [lI_ushr nn lt (by decide), ep]
          refine x_l2i eX2_putOne_61 ?_
          rw [lI_toInt32]
          refine x_sipush (v := nI 1003) eX2_putOne_62 (by decide) ?_
          first | refine x_isubN eX2_putOne_65 (by omega) ?_ | refine x_isub eX2_putOne_65 ?_
          refine x_istore (lv' := [_, _, _, _, _, _, _]) eX2_putOne_66 (by decide) rfl ?_
          refine x_pick [0, 1, 2, 3, 4, 5, 6] rfl ?_
          first
            | exact key (-1) (mtZ x) (pwN x - 1003) (Or.inr rfl) mb.1 mb.2 (by omega) (by unfold zc sgZ; rw [if_pos (neg.mp c_10)])
            | exact key 1 (mtZ x) (pwN x - 1003) (Or.inl rfl) mb.1 mb.2 (by omega) (by unfold zc sgZ; rw [if_neg (fun z => c_10 (neg.mpr z))])
        · exact absurd c_49 q
      · exact absurd c_26 q
