/-! ===== the nearest corner ===== -/
def nrs (D : Nat → Int) : Nat → Nat
  | 0 => 0
  | k + 1 => if D k < D (nrs D k) then k else nrs D k
theorem nrs_lt (D : Nat → Int) : ∀ k, 0 < k → nrs D k < k := by
  intro k
  induction k with
  | zero => intro h; omega
  | succ k ih =>
    intro _
    show (if D k < D (nrs D k) then k else nrs D k) < k + 1
    split
    · omega
    · by_cases q : k = 0
      · subst q; exact Nat.zero_lt_one
      · have := ih (by omega); omega
/-- the estimate of a squared distance -/
def fe (A T : Pt) : Int := rn (rn (rn (A.1 - T.1) * rn (A.1 - T.1)) + rn (rn (A.2 - T.2) * rn (A.2 - T.2)))
theorem sq_nn (x : Int) : 0 ≤ x * x := by
  rcases Int.le_total 0 x with h | h
  · exact Int.mul_nonneg h h
  · have := Int.mul_nonneg (show 0 ≤ -x by omega) (show 0 ≤ -x by omega); rw [Int.neg_mul_neg] at this; exact this
theorem nat_est {r x : Int} (e : (r - x).natAbs * 2 ^ 53 ≤ x.natAbs) : r.natAbs * 9007199254740992 ≤ x.natAbs * 9007199254740993 ∧ x.natAbs * 9007199254740991 ≤ r.natAbs * 9007199254740992 := by omega
theorem nsq (a N : Nat) : a * N * (a * N) = a * a * (N * N) := by grind
theorem sq_est (x : Int) : rn x * rn x * 81129638414606681695789005144064 ≤ x * x * 81129638414606699710187514626049 ∧ x * x * 81129638414606663681390495662081 ≤ rn x * rn x * 81129638414606681695789005144064 := by
  obtain ⟨u1, u2⟩ := nat_est (rn_err x)
  have ha : (rn x * rn x) = (((rn x).natAbs * (rn x).natAbs : Nat) : Int) := Int.natAbs_mul_self.symm
  have hx : (x * x) = ((x.natAbs * x.natAbs : Nat) : Int) := Int.natAbs_mul_self.symm
  have p1 := Nat.mul_le_mul u1 u1
  have p2 := Nat.mul_le_mul u2 u2
  rw [nsq, nsq] at p1 p2
  rw [ha, hx]
  generalize (rn x).natAbs * (rn x).natAbs = a at *
  generalize x.natAbs * x.natAbs = b at *
  constructor
  · omega
  · omega
theorem fe_bd (A T : Pt) : 0 ≤ fe A T ∧ fe A T * 2 ^ 50 ≤ ds A T * (2 ^ 50 + 1) ∧ ds A T * (2 ^ 50 - 1) ≤ fe A T * 2 ^ 50 := by
  unfold fe ds
  have s1 := sq_est (A.1 - T.1)
  have s2 := sq_est (A.2 - T.2)
  have n1 := sq_nn (rn (A.1 - T.1))
  have n2 := sq_nn (rn (A.2 - T.2))
  have n3 := sq_nn (A.1 - T.1)
  have n4 := sq_nn (A.2 - T.2)
  generalize rn (A.1 - T.1) * rn (A.1 - T.1) = a at *
  generalize rn (A.2 - T.2) * rn (A.2 - T.2) = b at *
  generalize (A.1 - T.1) * (A.1 - T.1) = x at *
  generalize (A.2 - T.2) * (A.2 - T.2) = y at *
  have e1 := rn_err a
  have e2 := rn_err b
  have e3 := rn_err (rn a + rn b)
  generalize rn a = a' at *
  generalize rn b = b' at *
  generalize rn (a' + b') = f at *
  omega
theorem far_ok {F G D E : Int} (g0 : 0 ≤ G) (d0 : 0 ≤ D) (hF : F * 2 ^ 50 ≤ D * (2 ^ 50 + 1)) (hG : E * (2 ^ 50 - 1) ≤ G * 2 ^ 50) (h : D < E) : ¬ 0 < rn (F - G) * 2 ^ 40 - rn G := by
  have e1 := rn_err (F - G)
  have e2 := rn_err G
  generalize rn (F - G) = x at *
  generalize rn G = y at *
  omega
theorem fe_vz {S : xS} {a : Nat} {A T : Pt} (ha : cpt S a A) (ht : cpt S 200 T) :
    vz 72 (FP.dsub (S.2.2.2 34 (2 * a)) (S.2.2.2 34 (2 * 200))) (rn (A.1 - T.1)) ∧ vz 72 (FP.dsub (S.2.2.2 34 (2 * a + 1)) (S.2.2.2 34 (2 * 200 + 1))) (rn (A.2 - T.2)) ∧
    vz 144 (FP.dmul (FP.dsub (S.2.2.2 34 (2 * a)) (S.2.2.2 34 (2 * 200))) (FP.dsub (S.2.2.2 34 (2 * a)) (S.2.2.2 34 (2 * 200)))) (rn (rn (A.1 - T.1) * rn (A.1 - T.1))) ∧ vz 144 (FP.dmul (FP.dsub (S.2.2.2 34 (2 * a + 1)) (S.2.2.2 34 (2 * 200 + 1))) (FP.dsub (S.2.2.2 34 (2 * a + 1)) (S.2.2.2 34 (2 * 200 + 1)))) (rn (rn (A.2 - T.2) * rn (A.2 - T.2))) ∧
    vz 144 (FP.dadd (FP.dmul (FP.dsub (S.2.2.2 34 (2 * a)) (S.2.2.2 34 (2 * 200))) (FP.dsub (S.2.2.2 34 (2 * a)) (S.2.2.2 34 (2 * 200)))) (FP.dmul (FP.dsub (S.2.2.2 34 (2 * a + 1)) (S.2.2.2 34 (2 * 200 + 1))) (FP.dsub (S.2.2.2 34 (2 * a + 1)) (S.2.2.2 34 (2 * 200 + 1))))) (fe A T) ∧ (fe A T).natAbs ≤ 2 ^ 210 := by
  obtain ⟨-, a1, a2, ax, ay, -⟩ := ha
  obtain ⟨-, c1, c2, cx, cy, -⟩ := ht
  have big : (2 : Nat) ^ 104 < 2 ^ (72 + 900) := Nat.pow_lt_pow_right (by decide) (by decide)
  have big2 : (2 : Nat) ^ 206 < 2 ^ (72 + 72 + 900) := Nat.pow_lt_pow_right (by decide) (by decide)
  have big3 : (2 : Nat) ^ 209 < 2 ^ (144 + 900) := Nat.pow_lt_pow_right (by decide) (by decide)
  have n1 : (A.1 - T.1).natAbs ≤ 2 ^ 102 := by omega
  have n3 : (A.2 - T.2).natAbs ≤ 2 ^ 102 := by omega
  have d1 := vz_dsub (by decide) a1 c1 (show (A.1 - T.1).natAbs < 2 ^ (72 + 900) by omega)
  have d3 := vz_dsub (by decide) a2 c2 (show (A.2 - T.2).natAbs < 2 ^ (72 + 900) by omega)
  have m1 := prod_bd (rn_le n1) (rn_le n1)
  have m2 := prod_bd (rn_le n3) (rn_le n3)
  have e1 := vz_dmul (by decide) d1 d1 (by omega)
  have e2 := vz_dmul (by decide) d3 d3 (by omega)
  have r1 := rn_le m1
  have r2 := rn_le m2
  have sb : (rn (rn (A.1 - T.1) * rn (A.1 - T.1)) + rn (rn (A.2 - T.2) * rn (A.2 - T.2))).natAbs ≤ 2 ^ 209 := by omega
  have s := vz_dadd (u := 144) (by decide) e1 e2 (Nat.lt_of_le_of_lt sb big3)
  exact ⟨d1, d3, e1, e2, s, rn_le sb⟩

theorem sp_X2_nearestToLoose (S : xS) {nc : Nat} {P : Nat → Pt} (hp0 : cps S nc P) (hn : S.1 32 4 = nI nc) (hnc : nc ≤ 200) : Sp mX2_nearestToLoose [.ref 32] S (fun x S' => x = some (.int (if nc = 0 then -1 else nI (nrs (fun s => ds (P s) (P 200)) nc))) ∧ Lx [364] S S') := by
  have loop : ∀ μ k, k + μ = nc → ∀ (x : Int32) (d : UInt64) S1, (Lx [364] S S1 ∧ ((k = 0 ∧ x = -1) ∨ (0 < k ∧ x = nI (nrs (fun s => ds (P s) (P 200)) k) ∧ vz 144 d (fe (P (nrs (fun s => ds (P s) (P 200)) k)) (P 200))))) → XP mX2_nearestToLoose 7 [(4, .int (nI k)), (1, .int x), (2, .double d), (0, .ref 32)] [] (xwS S1) (sQ (fun x S' => x = some (.int (if nc = 0 then -1 else nI (nrs (fun s => ds (P s) (P 200)) nc))) ∧ Lx [364] S S')) := by
    intro μ
    induction μ with
    | zero =>
      intro k hk x d S1 h1
      obtain ⟨hx, hc⟩ := h1
      have en : S1.1 32 4 = nI nc := by rw [hx.1]; exact hn
      refine x_iload eX2_nearestToLoose_7 rfl ?_
      refine x_aload_n eX2_nearestToLoose_9 rfl ?_
      refine s_geti eX2_nearestToLoose_10 fX2_29 rfl (by decide) (by decide) ?_
      rw [en]
      refine x_icmp_geN eX2_nearestToLoose_13 (by omega) (by omega) (fun c_13 => ?_) (fun c_13 => ?_)
      · refine x_iload_n eX2_nearestToLoose_118 rfl ?_
        refine s_iret eX2_nearestToLoose_119 rfl rfl ⟨?_, hx⟩
        rcases hc with ⟨k0, rfl⟩ | ⟨k0, rfl, -⟩
        · rw [if_pos (by omega)]
        · rw [if_neg (by omega), show nc = k by omega]
      · omega
    | succ μ ih =>
      intro k hk x d S1 h1
      obtain ⟨hx, hc⟩ := h1
      have en : S1.1 32 4 = nI nc := by rw [hx.1]; exact hn
      have hp := hp0.m hx
      have tA := hp k (Or.inl (by omega))
      have tT := hp 200 (Or.inr rfl)
      have lA := tA.1
      obtain ⟨f1, f2, f3, f4, f5, f6⟩ := fe_vz tA tT
      rcases hc with ⟨k0, rfl⟩ | ⟨k0, rfl, hd⟩
      · refine x_iload eX2_nearestToLoose_7 rfl ?_
        refine x_aload_n eX2_nearestToLoose_9 rfl ?_
        refine s_geti eX2_nearestToLoose_10 fX2_29 rfl (by decide) (by decide) ?_
        rw [en]
        refine x_icmp_geN eX2_nearestToLoose_13 (by omega) (by omega) (fun c_13 => ?_) (fun c_13 => ?_)
        · omega
        · refine x_aload_n eX2_nearestToLoose_16 rfl ?_
          refine x_iload eX2_nearestToLoose_17 rfl ?_
          refine s_callV1 (As := [_]) eX2_nearestToLoose_19 kX2_55 ⟨by decide, by decide⟩ rfl (by decide) (by decide) rfl rfl (Nat.le_of_ble_eq_true rfl) (Nat.le_of_ble_eq_true rfl) (sp_X2_x _ tA.1) (fun S_19 h_19 => ?_)
          have h_19 := h_19.symm
          subst h_19
          refine x_aload_n eX2_nearestToLoose_22 rfl ?_
          refine x_sipush (v := nI 200) eX2_nearestToLoose_23 (by decide) ?_
          refine s_callV1 (As := [_]) eX2_nearestToLoose_26 kX2_55 ⟨by decide, by decide⟩ rfl (by decide) (by decide) rfl rfl (Nat.le_of_ble_eq_true rfl) (Nat.le_of_ble_eq_true rfl) (sp_X2_x _ (s := 200) (by decide)) (fun S_26 h_26 => ?_)
          have h_26 := h_26.symm
          subst h_26
          refine x_dsub eX2_nearestToLoose_29 (vz_n64 f1) ?_
          refine x_dstore (lv' := [_, _, _, _, _]) eX2_nearestToLoose_30 (by decide) rfl ?_
          refine x_aload_n eX2_nearestToLoose_32 rfl ?_
          refine x_iload eX2_nearestToLoose_33 rfl ?_
          refine s_callV1 (As := [_]) eX2_nearestToLoose_35 kX2_59 ⟨by decide, by decide⟩ rfl (by decide) (by decide) rfl rfl (Nat.le_of_ble_eq_true rfl) (Nat.le_of_ble_eq_true rfl) (sp_X2_y _ tA.1) (fun S_35 h_35 => ?_)
          have h_35 := h_35.symm
          subst h_35
          refine x_aload_n eX2_nearestToLoose_38 rfl ?_
          refine x_sipush (v := nI 200) eX2_nearestToLoose_39 (by decide) ?_
          refine s_callV1 (As := [_]) eX2_nearestToLoose_42 kX2_59 ⟨by decide, by decide⟩ rfl (by decide) (by decide) rfl rfl (Nat.le_of_ble_eq_true rfl) (Nat.le_of_ble_eq_true rfl) (sp_X2_y _ (s := 200) (by decide)) (fun S_42 h_42 => ?_)
          have h_42 := h_42.symm
          subst h_42
          refine x_dsub eX2_nearestToLoose_45 (vz_n64 f2) ?_
          refine x_dstore (lv' := [_, _, _, _, _, _]) eX2_nearestToLoose_46 (by decide) rfl ?_
          refine x_dload eX2_nearestToLoose_48 rfl ?_
          refine x_dload eX2_nearestToLoose_50 rfl ?_
          refine x_dmul eX2_nearestToLoose_52 (vz_n64 f3) ?_
          refine x_dload eX2_nearestToLoose_53 rfl ?_
          refine x_dload eX2_nearestToLoose_55 rfl ?_
          refine x_dmul eX2_nearestToLoose_57 (vz_n64 f4) ?_
          refine x_dadd eX2_nearestToLoose_58 (vz_n64 f5) ?_
          refine x_dstore (lv' := [_, _, _, _, _, _, _]) eX2_nearestToLoose_59 (by decide) rfl ?_
          refine x_iload_n eX2_nearestToLoose_61 rfl ?_
          refine x_iconst (v := -1) eX2_nearestToLoose_62 (by decide) ?_
          refine x_icmp_eq eX2_nearestToLoose_63 (fun c_63 => ?_) (fun c_63 => ?_)
          · refine x_iconst (v := nI 0) eX2_nearestToLoose_83 (by decide) ?_
            refine x_istore (lv' := [_, _, _, _, _, _, _, _]) eX2_nearestToLoose_84 (by decide) rfl ?_
            refine x_iload_n eX2_nearestToLoose_86 rfl ?_
            refine x_iconst (v := -1) eX2_nearestToLoose_87 (by decide) ?_
            refine x_icmp_eq eX2_nearestToLoose_88 (fun c_88 => ?_) (fun c_88 => ?_)
            · refine x_iload eX2_nearestToLoose_106 rfl ?_
              refine x_istore_n (lv' := [_, _, _, _, _, _, _, _]) eX2_nearestToLoose_108 (by decide) rfl ?_
              refine x_dload eX2_nearestToLoose_109 rfl ?_
              refine x_dstore_n (lv' := [_, _, _, _, _, _, _, _]) eX2_nearestToLoose_111 (by decide) rfl ?_
              refine x_iinc (lv' := [_, _, _, _, _, _, _, _]) eX2_nearestToLoose_112 rfl (by first | exact nI_inc _ | exact rfl) (by decide) rfl ?_
              refine x_goto eX2_nearestToLoose_115 ?_
              refine x_pick [0, 2, 1, 7] rfl ?_
              subst k0
              refine ih 1 (by omega) _ _ _ ⟨hx, Or.inr ⟨by omega, ?_, ?_⟩⟩
              · have : nrs (fun s => ds (P s) (P 200)) 1 = 0 := by show (if _ then 0 else 0) = 0; split <;> rfl
                rw [this]
              · have : nrs (fun s => ds (P s) (P 200)) 1 = 0 := by show (if _ then 0 else 0) = 0; split <;> rfl
                rw [this]; exact f5
            · exact absurd rfl c_88
          · exact absurd rfl c_63
      · have ln := nrs_lt (fun s => ds (P s) (P 200)) k k0
        have tB := hp (nrs (fun s => ds (P s) (P 200)) k) (Or.inl (by omega))
        have fb := fe_bd (P k) (P 200)
        have gb := fe_bd (P (nrs (fun s => ds (P s) (P 200)) k)) (P 200)
        have bb := (fe_vz tB tT).2.2.2.2.2
        have big4 : (2 : Nat) ^ 211 < 2 ^ (144 + 900) := Nat.pow_lt_pow_right (by decide) (by decide)
        have big5 : (2 : Nat) ^ 211 < 2 ^ (144 + 40 + 900) := Nat.pow_lt_pow_right (by decide) (by decide)
        have g1 := vz_dsub (u := 144) (by decide) f5 hd (show (fe (P k) (P 200) - fe (P (nrs (fun s => ds (P s) (P 200)) k)) (P 200)).natAbs < 2 ^ (144 + 900) by omega)
        have ec : vz 0 (4787326403894837248 : UInt64) (2 ^ 40) := by
          have := vz_l2d (z := 2 ^ 40) (by decide)
          rw [show FP.l2d (lI (2 ^ 40)) = 4787326403894837248 by decide +kernel] at this
          exact this
        have g2 := vz_ddiv (u := 144) (k := 40) (by decide) hd ec (show (fe (P (nrs (fun s => ds (P s) (P 200)) k)) (P 200)).natAbs < 2 ^ (144 + 40 + 900) by omega)
        have g3 := vz_rep (k := 40) g1
        refine x_iload eX2_nearestToLoose_7 rfl ?_
        refine x_aload_n eX2_nearestToLoose_9 rfl ?_
        refine s_geti eX2_nearestToLoose_10 fX2_29 rfl (by decide) (by decide) ?_
        rw [en]
        refine x_icmp_geN eX2_nearestToLoose_13 (by omega) (by omega) (fun c_13 => ?_) (fun c_13 => ?_)
        · omega
        · refine x_aload_n eX2_nearestToLoose_16 rfl ?_
          refine x_iload eX2_nearestToLoose_17 rfl ?_
          refine s_callV1 (As := [_]) eX2_nearestToLoose_19 kX2_55 ⟨by decide, by decide⟩ rfl (by decide) (by decide) rfl rfl (Nat.le_of_ble_eq_true rfl) (Nat.le_of_ble_eq_true rfl) (sp_X2_x _ tA.1) (fun S_19 h_19 => ?_)
          have h_19 := h_19.symm
          subst h_19
          refine x_aload_n eX2_nearestToLoose_22 rfl ?_
          refine x_sipush (v := nI 200) eX2_nearestToLoose_23 (by decide) ?_
          refine s_callV1 (As := [_]) eX2_nearestToLoose_26 kX2_55 ⟨by decide, by decide⟩ rfl (by decide) (by decide) rfl rfl (Nat.le_of_ble_eq_true rfl) (Nat.le_of_ble_eq_true rfl) (sp_X2_x _ (s := 200) (by decide)) (fun S_26 h_26 => ?_)
          have h_26 := h_26.symm
          subst h_26
          refine x_dsub eX2_nearestToLoose_29 (vz_n64 f1) ?_
          refine x_dstore (lv' := [_, _, _, _, _]) eX2_nearestToLoose_30 (by decide) rfl ?_
          refine x_aload_n eX2_nearestToLoose_32 rfl ?_
          refine x_iload eX2_nearestToLoose_33 rfl ?_
          refine s_callV1 (As := [_]) eX2_nearestToLoose_35 kX2_59 ⟨by decide, by decide⟩ rfl (by decide) (by decide) rfl rfl (Nat.le_of_ble_eq_true rfl) (Nat.le_of_ble_eq_true rfl) (sp_X2_y _ tA.1) (fun S_35 h_35 => ?_)
          have h_35 := h_35.symm
          subst h_35
          refine x_aload_n eX2_nearestToLoose_38 rfl ?_
          refine x_sipush (v := nI 200) eX2_nearestToLoose_39 (by decide) ?_
          refine s_callV1 (As := [_]) eX2_nearestToLoose_42 kX2_59 ⟨by decide, by decide⟩ rfl (by decide) (by decide) rfl rfl (Nat.le_of_ble_eq_true rfl) (Nat.le_of_ble_eq_true rfl) (sp_X2_y _ (s := 200) (by decide)) (fun S_42 h_42 => ?_)
          have h_42 := h_42.symm
          subst h_42
          refine x_dsub eX2_nearestToLoose_45 (vz_n64 f2) ?_
          refine x_dstore (lv' := [_, _, _, _, _, _]) eX2_nearestToLoose_46 (by decide) rfl ?_
          refine x_dload eX2_nearestToLoose_48 rfl ?_
          refine x_dload eX2_nearestToLoose_50 rfl ?_
          refine x_dmul eX2_nearestToLoose_52 (vz_n64 f3) ?_
          refine x_dload eX2_nearestToLoose_53 rfl ?_
          refine x_dload eX2_nearestToLoose_55 rfl ?_
          refine x_dmul eX2_nearestToLoose_57 (vz_n64 f4) ?_
          refine x_dadd eX2_nearestToLoose_58 (vz_n64 f5) ?_
          refine x_dstore (lv' := [_, _, _, _, _, _, _]) eX2_nearestToLoose_59 (by decide) rfl ?_
          refine x_iload_n eX2_nearestToLoose_61 rfl ?_
          refine x_iconst (v := -1) eX2_nearestToLoose_62 (by decide) ?_
          refine x_icmp_eq eX2_nearestToLoose_63 (fun c_63 => ?_) (fun c_63 => ?_)
          · exact absurd c_63 (nI_ne_m1 (by omega))
          · refine x_dload eX2_nearestToLoose_66 rfl ?_
            refine x_dload_n eX2_nearestToLoose_68 rfl ?_
            refine x_dsub eX2_nearestToLoose_69 (vz_n64 g1) ?_
            refine x_dload_n eX2_nearestToLoose_70 rfl ?_
            refine x_ldc2d (v := 4787326403894837248) eX2_nearestToLoose_71 (xT 357 (by decide +kernel) rfl) ?_
            refine x_ddiv eX2_nearestToLoose_74 (vz_n64 g2) ?_
            refine x_dcmp eX2_nearestToLoose_75 ?_
            rw [cmpV g3 g2]
            refine x_if_leS eX2_nearestToLoose_76 (fun c_76 => ?_) (fun c_76 => ?_)
            · refine x_iconst (v := nI 0) eX2_nearestToLoose_83 (by decide) ?_
              refine x_istore (lv' := [_, _, _, _, _, _, _, _]) eX2_nearestToLoose_84 (by decide) rfl ?_
              refine x_iload_n eX2_nearestToLoose_86 rfl ?_
              refine x_iconst (v := -1) eX2_nearestToLoose_87 (by decide) ?_
              refine x_icmp_eq eX2_nearestToLoose_88 (fun c_88 => ?_) (fun c_88 => ?_)
              · exact absurd c_88 (nI_ne_m1 (by omega))
              · refine x_iload eX2_nearestToLoose_91 rfl ?_
                refine x_if_neN eX2_nearestToLoose_93 (by omega) (fun c_93 => ?_) (fun c_93 => ?_)
                · refine x_iinc (lv' := [_, _, _, _, _, _, _, _]) eX2_nearestToLoose_112 rfl (by first | exact nI_inc _ | exact rfl) (by decide) rfl ?_
                  refine x_goto eX2_nearestToLoose_115 ?_
                  refine x_pick [0, 5, 6, 7] rfl ?_
                  first
                    | omega
                    | (refine ih (k + 1) (by omega) _ _ _ ⟨hx, Or.inr ⟨by omega, ?_, ?_⟩⟩
                       · rw [show nrs (fun s => ds (P s) (P 200)) (k + 1) = k from if_pos c_103]
                       · rw [show nrs (fun s => ds (P s) (P 200)) (k + 1) = k from if_pos c_103]; exact f5)
                    | (have lt : ¬ ds (P k) (P 200) < ds (P (nrs (fun s => ds (P s) (P 200)) k)) (P 200) := by
                         first
                           | exact c_103
                           | exact fun hh => far_ok gb.1 (by have := sq_nn ((P k).1 - (P 200).1); have := sq_nn ((P k).2 - (P 200).2); unfold ds; omega) fb.2.1 gb.2.2 hh c_76
                       refine ih (k + 1) (by omega) _ _ _ ⟨hx, Or.inr ⟨by omega, ?_, ?_⟩⟩
                       · rw [show nrs (fun s => ds (P s) (P 200)) (k + 1) = nrs (fun s => ds (P s) (P 200)) k from if_neg lt]
                       · rw [show nrs (fun s => ds (P s) (P 200)) (k + 1) = nrs (fun s => ds (P s) (P 200)) k from if_neg lt]; exact hd)
                · refine x_aload_n eX2_nearestToLoose_96 rfl ?_
                  refine x_iload eX2_nearestToLoose_97 rfl ?_
                  refine x_iload_n eX2_nearestToLoose_99 rfl ?_
                  refine s_callV1 (As := [_, _]) eX2_nearestToLoose_100 kX2_99 ⟨by decide, by decide⟩ rfl (by decide) (by decide) rfl rfl (Nat.le_of_ble_eq_true rfl) (Nat.le_of_ble_eq_true rfl) (sp_X2_isNearer _ tA tB tT) (fun S_100 h_100 => ?_)
                  have hx := hx.tr h_100
                  refine x_if_eqT eX2_nearestToLoose_103 (fun c_103 => ?_) (fun c_103 => ?_)
                  · refine x_iinc (lv' := [_, _, _, _, _, _, _, _]) eX2_nearestToLoose_112 rfl (by first | exact nI_inc _ | exact rfl) (by decide) rfl ?_
                    refine x_goto eX2_nearestToLoose_115 ?_
                    refine x_pick [0, 5, 6, 7] rfl ?_
                    first
                      | omega
                      | (refine ih (k + 1) (by omega) _ _ _ ⟨hx, Or.inr ⟨by omega, ?_, ?_⟩⟩
                         · rw [show nrs (fun s => ds (P s) (P 200)) (k + 1) = k from if_pos c_103]
                         · rw [show nrs (fun s => ds (P s) (P 200)) (k + 1) = k from if_pos c_103]; exact f5)
                      | (have lt : ¬ ds (P k) (P 200) < ds (P (nrs (fun s => ds (P s) (P 200)) k)) (P 200) := by
                           first
                             | exact c_103
                             | exact fun hh => far_ok gb.1 (by have := sq_nn ((P k).1 - (P 200).1); have := sq_nn ((P k).2 - (P 200).2); unfold ds; omega) fb.2.1 gb.2.2 hh c_76
                         refine ih (k + 1) (by omega) _ _ _ ⟨hx, Or.inr ⟨by omega, ?_, ?_⟩⟩
                         · rw [show nrs (fun s => ds (P s) (P 200)) (k + 1) = nrs (fun s => ds (P s) (P 200)) k from if_neg lt]
                         · rw [show nrs (fun s => ds (P s) (P 200)) (k + 1) = nrs (fun s => ds (P s) (P 200)) k from if_neg lt]; exact hd)
                  · refine x_iload eX2_nearestToLoose_106 rfl ?_
                    refine x_istore_n (lv' := [_, _, _, _, _, _, _, _]) eX2_nearestToLoose_108 (by decide) rfl ?_
                    refine x_dload eX2_nearestToLoose_109 rfl ?_
                    refine x_dstore_n (lv' := [_, _, _, _, _, _, _, _]) eX2_nearestToLoose_111 (by decide) rfl ?_
                    refine x_iinc (lv' := [_, _, _, _, _, _, _, _]) eX2_nearestToLoose_112 rfl (by first | exact nI_inc _ | exact rfl) (by decide) rfl ?_
                    refine x_goto eX2_nearestToLoose_115 ?_
                    refine x_pick [0, 2, 1, 7] rfl ?_
                    first
                      | omega
                      | (refine ih (k + 1) (by omega) _ _ _ ⟨hx, Or.inr ⟨by omega, ?_, ?_⟩⟩
                         · rw [show nrs (fun s => ds (P s) (P 200)) (k + 1) = k from if_pos c_103]
                         · rw [show nrs (fun s => ds (P s) (P 200)) (k + 1) = k from if_pos c_103]; exact f5)
                      | (have lt : ¬ ds (P k) (P 200) < ds (P (nrs (fun s => ds (P s) (P 200)) k)) (P 200) := by
                           first
                             | exact c_103
                             | exact fun hh => far_ok gb.1 (by have := sq_nn ((P k).1 - (P 200).1); have := sq_nn ((P k).2 - (P 200).2); unfold ds; omega) fb.2.1 gb.2.2 hh c_76
                         refine ih (k + 1) (by omega) _ _ _ ⟨hx, Or.inr ⟨by omega, ?_, ?_⟩⟩
                         · rw [show nrs (fun s => ds (P s) (P 200)) (k + 1) = nrs (fun s => ds (P s) (P 200)) k from if_neg lt]
                         · rw [show nrs (fun s => ds (P s) (P 200)) (k + 1) = nrs (fun s => ds (P s) (P 200)) k from if_neg lt]; exact hd)
            · refine x_iconst (v := nI 1) eX2_nearestToLoose_79 (by decide) ?_
              refine x_goto eX2_nearestToLoose_80 ?_
              refine x_istore (lv' := [_, _, _, _, _, _, _, _]) eX2_nearestToLoose_84 (by decide) rfl ?_
              refine x_iload_n eX2_nearestToLoose_86 rfl ?_
              refine x_iconst (v := -1) eX2_nearestToLoose_87 (by decide) ?_
              refine x_icmp_eq eX2_nearestToLoose_88 (fun c_88 => ?_) (fun c_88 => ?_)
              · exact absurd c_88 (nI_ne_m1 (by omega))
              · refine x_iload eX2_nearestToLoose_91 rfl ?_
                refine x_if_neN eX2_nearestToLoose_93 (by omega) (fun c_93 => ?_) (fun c_93 => ?_)
                · refine x_iinc (lv' := [_, _, _, _, _, _, _, _]) eX2_nearestToLoose_112 rfl (by first | exact nI_inc _ | exact rfl) (by decide) rfl ?_
                  refine x_goto eX2_nearestToLoose_115 ?_
                  refine x_pick [0, 5, 6, 7] rfl ?_
                  first
                    | omega
                    | (refine ih (k + 1) (by omega) _ _ _ ⟨hx, Or.inr ⟨by omega, ?_, ?_⟩⟩
                       · rw [show nrs (fun s => ds (P s) (P 200)) (k + 1) = k from if_pos c_103]
                       · rw [show nrs (fun s => ds (P s) (P 200)) (k + 1) = k from if_pos c_103]; exact f5)
                    | (have lt : ¬ ds (P k) (P 200) < ds (P (nrs (fun s => ds (P s) (P 200)) k)) (P 200) := by
                         first
                           | exact c_103
                           | exact fun hh => far_ok gb.1 (by have := sq_nn ((P k).1 - (P 200).1); have := sq_nn ((P k).2 - (P 200).2); unfold ds; omega) fb.2.1 gb.2.2 hh c_76
                       refine ih (k + 1) (by omega) _ _ _ ⟨hx, Or.inr ⟨by omega, ?_, ?_⟩⟩
                       · rw [show nrs (fun s => ds (P s) (P 200)) (k + 1) = nrs (fun s => ds (P s) (P 200)) k from if_neg lt]
                       · rw [show nrs (fun s => ds (P s) (P 200)) (k + 1) = nrs (fun s => ds (P s) (P 200)) k from if_neg lt]; exact hd)
                · refine x_aload_n eX2_nearestToLoose_96 rfl ?_
                  refine x_iload eX2_nearestToLoose_97 rfl ?_
                  refine x_iload_n eX2_nearestToLoose_99 rfl ?_
                  refine s_callV1 (As := [_, _]) eX2_nearestToLoose_100 kX2_99 ⟨by decide, by decide⟩ rfl (by decide) (by decide) rfl rfl (Nat.le_of_ble_eq_true rfl) (Nat.le_of_ble_eq_true rfl) (sp_X2_isNearer _ tA tB tT) (fun S_100 h_100 => ?_)
                  have hx := hx.tr h_100
                  refine x_if_eqT eX2_nearestToLoose_103 (fun c_103 => ?_) (fun c_103 => ?_)
                  · refine x_iinc (lv' := [_, _, _, _, _, _, _, _]) eX2_nearestToLoose_112 rfl (by first | exact nI_inc _ | exact rfl) (by decide) rfl ?_
                    refine x_goto eX2_nearestToLoose_115 ?_
                    refine x_pick [0, 5, 6, 7] rfl ?_
                    first
                      | omega
                      | (refine ih (k + 1) (by omega) _ _ _ ⟨hx, Or.inr ⟨by omega, ?_, ?_⟩⟩
                         · rw [show nrs (fun s => ds (P s) (P 200)) (k + 1) = k from if_pos c_103]
                         · rw [show nrs (fun s => ds (P s) (P 200)) (k + 1) = k from if_pos c_103]; exact f5)
                      | (have lt : ¬ ds (P k) (P 200) < ds (P (nrs (fun s => ds (P s) (P 200)) k)) (P 200) := by
                           first
                             | exact c_103
                             | exact fun hh => far_ok gb.1 (by have := sq_nn ((P k).1 - (P 200).1); have := sq_nn ((P k).2 - (P 200).2); unfold ds; omega) fb.2.1 gb.2.2 hh c_76
                         refine ih (k + 1) (by omega) _ _ _ ⟨hx, Or.inr ⟨by omega, ?_, ?_⟩⟩
                         · rw [show nrs (fun s => ds (P s) (P 200)) (k + 1) = nrs (fun s => ds (P s) (P 200)) k from if_neg lt]
                         · rw [show nrs (fun s => ds (P s) (P 200)) (k + 1) = nrs (fun s => ds (P s) (P 200)) k from if_neg lt]; exact hd)
                  · refine x_iload eX2_nearestToLoose_106 rfl ?_
                    refine x_istore_n (lv' := [_, _, _, _, _, _, _, _]) eX2_nearestToLoose_108 (by decide) rfl ?_
                    refine x_dload eX2_nearestToLoose_109 rfl ?_
                    refine x_dstore_n (lv' := [_, _, _, _, _, _, _, _]) eX2_nearestToLoose_111 (by decide) rfl ?_
                    refine x_iinc (lv' := [_, _, _, _, _, _, _, _]) eX2_nearestToLoose_112 rfl (by first | exact nI_inc _ | exact rfl) (by decide) rfl ?_
                    refine x_goto eX2_nearestToLoose_115 ?_
                    refine x_pick [0, 2, 1, 7] rfl ?_
                    first
                      | omega
                      | (refine ih (k + 1) (by omega) _ _ _ ⟨hx, Or.inr ⟨by omega, ?_, ?_⟩⟩
                         · rw [show nrs (fun s => ds (P s) (P 200)) (k + 1) = k from if_pos c_103]
                         · rw [show nrs (fun s => ds (P s) (P 200)) (k + 1) = k from if_pos c_103]; exact f5)
                      | (have lt : ¬ ds (P k) (P 200) < ds (P (nrs (fun s => ds (P s) (P 200)) k)) (P 200) := by
                           first
                             | exact c_103
                             | exact fun hh => far_ok gb.1 (by have := sq_nn ((P k).1 - (P 200).1); have := sq_nn ((P k).2 - (P 200).2); unfold ds; omega) fb.2.1 gb.2.2 hh c_76
                         refine ih (k + 1) (by omega) _ _ _ ⟨hx, Or.inr ⟨by omega, ?_, ?_⟩⟩
                         · rw [show nrs (fun s => ds (P s) (P 200)) (k + 1) = nrs (fun s => ds (P s) (P 200)) k from if_neg lt]
                         · rw [show nrs (fun s => ds (P s) (P 200)) (k + 1) = nrs (fun s => ds (P s) (P 200)) k from if_neg lt]; exact hd)
  show XP _ _ [_] _ _ _
  refine x_iconst (v := -1) eX2_nearestToLoose_0 (by decide) ?_
  refine x_istore_n (lv' := [_, _]) eX2_nearestToLoose_1 (by decide) rfl ?_
  refine x_dconst0 eX2_nearestToLoose_2 ?_
  refine x_dstore_n (lv' := [_, _, _]) eX2_nearestToLoose_3 (by decide) rfl ?_
  refine x_iconst (v := nI 0) eX2_nearestToLoose_4 (by decide) ?_
  refine x_istore (lv' := [_, _, _, _]) eX2_nearestToLoose_5 (by decide) rfl ?_
  refine x_pick [0, 2, 1, 3] rfl ?_
  exact loop nc 0 (by omega) _ _ _ ⟨Lx.rf _ _, Or.inl ⟨rfl, rfl⟩⟩
