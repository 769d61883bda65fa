/-! ===== areas: the reference's weigh; twice, compare ===== -/
theorem zc100 {x : Int64} (h : isNum x = true) : -(2 ^ 100) ≤ zc x ∧ zc x ≤ 2 ^ 100 := by
  have h1 := mt_bounds x
  have e : ∀ k : Nat, ((2 ^ k : Nat) : Int) = 2 ^ k := by intro k; simp
  have h2 : mtZ x * 2 ^ (pwN x - 1003) ≤ 2 ^ 100 := by
    by_cases h0 : szZ x = 0
    · have : mtZ x = 0 := by unfold mtZ; rw [if_pos h0]
      rw [this]; simp
    · have h3 := pw_bounds h h0
      by_cases q : pwN x = 1051
      · have m52 : mtZ x = 2 ^ 52 := by
          unfold mtZ
          rw [if_neg h0]
          rcases (isNum_iff x).mp h with z | z
          · exact absurd z h0
          · unfold pwN at q
            omega
        rw [m52, q]
        decide
      · have h4 : (2 : Int) ^ (pwN x - 1003) ≤ 2 ^ 47 := by
          have := Nat.pow_le_pow_right (n := 2) (by decide) (show pwN x - 1003 ≤ 47 by omega)
          rw [← e, ← e]; omega
        have h6 : mtZ x * 2 ^ (pwN x - 1003) ≤ mtZ x * 2 ^ 47 := Int.mul_le_mul_of_nonneg_left h4 h1.1
        omega
  have h3 : 0 ≤ mtZ x * 2 ^ (pwN x - 1003) := Int.mul_nonneg h1.1 (Int.le_of_lt (Int.pow_pos (by decide)))
  unfold zc sgZ
  split <;> omega
/-- the area of parcel q, in units of 2^-144 -/
def xAr (X : LM) (q : Nat) : Int := are (vq X q) (xSz X q)
theorem xAr_bd {X : LM} (w : wf X) {q : Nat} (t : xTh X q = true) : -(24 * 2 ^ 200) ≤ xAr X q ∧ xAr X q ≤ 24 * 2 ^ 200 := by
  have n0 := (good_c w t).1
  have s12 : xSz X q ≤ 12 := (wf_good w t).2.1
  have pb : ∀ k, (-(2 ^ 100) ≤ (vq X q k).1 ∧ (vq X q k).1 ≤ 2 ^ 100) ∧ (-(2 ^ 100) ≤ (vq X q k).2 ∧ (vq X q k).2 ≤ 2 ^ 100) := fun k => by
    have c := w.2.1 _ ((good_c w t).2 _ (Nat.mod_lt k n0))
    exact ⟨zc100 c.1.1, zc100 c.2.1⟩
  have ab : ∀ k, -(2 ^ 201) ≤ arf (vq X q) k ∧ arf (vq X q) k ≤ 2 ^ 201 := fun k => by
    have p1 := mulB (A := 2 ^ 100) (B := 2 ^ 100) (pb k).1 (pb (k + 1)).2
    have p2 := mulB (A := 2 ^ 100) (B := 2 ^ 100) (pb k).2 (pb (k + 1)).1
    unfold arf
    generalize (vq X q k).1 * (vq X q (k + 1)).2 = x at *
    generalize (vq X q k).2 * (vq X q (k + 1)).1 = y at *
    omega
  have := sumZ_bB (arf (vq X q)) (2 ^ 201) ab (xSz X q)
  have e : xAr X q = sumZ (arf (vq X q)) (xSz X q) := rfl
  have : ((xSz X q : Nat) : Int) * 2 ^ 201 ≤ 12 * 2 ^ 201 := Int.mul_le_mul_of_nonneg_right (by omega) (by decide)
  omega
theorem are_2 (v : Nat → Pt) (n : Nat) : are (fun k => scP 2 (v k)) n = 4 * are v n := by
  unfold are
  rw [← sumZ_mulc]
  exact sumZ_congr n (fun i _ => by unfold scP; grind)
theorem lI_orl {a b : Int} (h0 : 0 ≤ b) (h : b < 2 ^ 24) : lI (a * 2 ^ 24) ||| lI b = lI (a * 2 ^ 24 + b) := by
  rw [← Int64.toBitVec_inj, Int64.toBitVec_or, lI_bv, lI_bv, lI_bv]
  apply BitVec.eq_of_toNat_eq
  rw [BitVec.toNat_or, BitVec.toNat_ofInt, BitVec.toNat_ofInt, BitVec.toNat_ofInt]
  have e1 : (a * 2 ^ 24 % ((2 ^ 64 : Nat) : Int)).toNat = 2 ^ 24 * (a % 2 ^ 40).toNat := by
    have : ((2 ^ 64 : Nat) : Int) = 2 ^ 64 := rfl
    omega
  have e2 : (b % ((2 ^ 64 : Nat) : Int)).toNat = b.toNat := by
    have : ((2 ^ 64 : Nat) : Int) = 2 ^ 64 := rfl
    omega
  have e3 : ((a * 2 ^ 24 + b) % ((2 ^ 64 : Nat) : Int)).toNat = 2 ^ 24 * (a % 2 ^ 40).toNat + b.toNat := by
    have : ((2 ^ 64 : Nat) : Int) = 2 ^ 64 := rfl
    omega
  rw [e1, e2, e3]
  exact (Nat.two_pow_add_eq_or_of_lt (show b.toNat < 2 ^ 24 by omega) _).symm

theorem sp_X9_weigh (S : xS) {nc p n : Nat} {c : Nat → Nat} {P : Nat → Pt} (hp0 : mps S nc P) (h : mpr S p n c) (hc : ∀ i, i < n → c i < nc) : Sp mX9_weigh [.ref 0, .int (nI p)] S (fun r S' => r = none ∧ Lx [5, 6, 27] S S' ∧ sum10 S' 27 (10 * p) (are (vr P c n) n) ∧ ∀ j, ¬ (10 * p ≤ j ∧ j < 10 * p + 10) → S'.2.2.1 27 j = S.2.2.1 27 j) := by
  have p60 := h.1
  have n0 := h.2.1
  have n12 := h.2.2.1
  have bd : ∀ k, pbd ((vr P c n) k) := fun k => by
    have t := hp0 _ (Or.inl (hc _ (Nat.mod_lt k n0)))
    exact ⟨t.2.2.1, t.2.2.2.1⟩
  have loop : ∀ μ k, k + μ = n → ∀ S1, (Lx [5, 6, 27] S S1 ∧ sum10 S1 27 (10 * p) (sumZ (arf (vr P c n)) k) ∧ ∀ j, ¬ (10 * p ≤ j ∧ j < 10 * p + 10) → S1.2.2.1 27 j = S.2.2.1 27 j) → XP mX9_weigh 15 [(2, .int (nI k)), (0, .ref 0), (1, .int (nI p))] [] (xwS S1) (sQ (fun r S' => r = none ∧ Lx [5, 6, 27] S S' ∧ sum10 S' 27 (10 * p) (are (vr P c n) n) ∧ ∀ j, ¬ (10 * p ≤ j ∧ j < 10 * p + 10) → S'.2.2.1 27 j = S.2.2.1 27 j)) := by
    intro μ
    induction μ with
    | zero =>
      intro k hk S1 h1
      obtain ⟨hx, hT59, hO⟩ := h1
      have g := h.I (S1 := S1) (by rw [hx.2.1]) (by rw [hx.2.1])
      refine x_iload_n eX9_weigh_15 rfl ?_
      refine x_aload_n eX9_weigh_16 rfl ?_
      refine s_getR (k := 15) eX9_weigh_17 fX9_58 rfl (by decide) (by decide) rfl ?_
      refine x_iload_n eX9_weigh_20 rfl ?_
      refine s_iald eX9_weigh_21 rfl (by decide) rfl (show _ < 60 by omega) ?_
      rw [g.2.2.2.1]
      refine x_icmp_geN eX9_weigh_22 (by omega) (by omega) (fun c_22 => ?_) (fun c_22 => ?_)
      · exact s_vret eX9_weigh_107 rfl ⟨rfl, hx, by rw [show k = n by omega] at hT59; rw [are_arf]; exact hT59, hO⟩
      · omega
    | succ μ ih =>
      intro k hk S1 h1
      obtain ⟨hx, hT59, hO⟩ := h1
      have g := h.I (S1 := S1) (by rw [hx.2.1]) (by rw [hx.2.1])
      refine x_iload_n eX9_weigh_15 rfl ?_
      refine x_aload_n eX9_weigh_16 rfl ?_
      refine s_getR (k := 15) eX9_weigh_17 fX9_58 rfl (by decide) (by decide) rfl ?_
      refine x_iload_n eX9_weigh_20 rfl ?_
      refine s_iald eX9_weigh_21 rfl (by decide) rfl (show _ < 60 by omega) ?_
      rw [g.2.2.2.1]
      refine x_icmp_geN eX9_weigh_22 (by omega) (by omega) (fun c_22 => ?_) (fun c_22 => ?_)
      · omega
      · have tA59 : pt S1 (c (k % n)) ((vr P c n) k) := (hp0 _ (Or.inl (hc _ (Nat.mod_lt k n0)))).mv hx (by decide) (by decide)
        have tB59 : pt S1 (c ((k + 1) % n)) ((vr P c n) (k + 1)) := (hp0 _ (Or.inl (hc _ (Nat.mod_lt (k + 1) n0)))).mv hx (by decide) (by decide)
        have la := tA59.2.2.2.2
        have lb := tB59.2.2.2.2
        have a1 := tA59.2.2.1
        have a2 := tA59.2.2.2.1
        have b1 := tB59.2.2.1
        have b2 := tB59.2.2.2.1
        have ab := area_bd (v := (vr P c n)) bd (k := k) (by omega)
        have bT59 := tb9 (T := sumZ (arf (vr P c n)) k) (by omega)
        have pb := pp_bd (A := (vr P c n) k) (B := (vr P c n) (k + 1)) ⟨a1, a2⟩ ⟨b1, b2⟩
        refine x_aload_n eX9_weigh_25 rfl ?_
        refine x_aload_n eX9_weigh_26 rfl ?_
        refine s_getR (k := 3) eX9_weigh_27 fX9_16 rfl (by decide) (by decide) rfl ?_
        refine x_aload_n eX9_weigh_30 rfl ?_
        refine x_iload_n eX9_weigh_31 rfl ?_
        refine x_iload_n eX9_weigh_32 rfl ?_
        refine s_callV1 (As := [_, _]) eX9_weigh_33 kX9_241 ⟨by decide, by decide⟩ rfl (by decide) (by decide) rfl rfl (Nat.le_of_ble_eq_true rfl) (Nat.le_of_ble_eq_true rfl) (sp_X9_of _ g (by omega)) (fun S_33 h_33 => ?_)
        have h_33 := h_33.symm
        subst h_33
        refine x_iconst (v := -1) eX9_weigh_36 (by decide) ?_
        refine x_aload_n eX9_weigh_37 rfl ?_
        refine s_getR (k := 4) eX9_weigh_38 fX9_19 rfl (by decide) (by decide) rfl ?_
        refine x_aload_n eX9_weigh_41 rfl ?_
        refine x_iload_n eX9_weigh_42 rfl ?_
        refine x_iload_n eX9_weigh_43 rfl ?_
        refine x_iconst (v := nI 1) eX9_weigh_44 (by decide) ?_
        first | refine x_iaddN eX9_weigh_45 ?_ | refine x_iadd eX9_weigh_45 ?_
        refine s_callV1 (As := [_, _]) eX9_weigh_46 kX9_241 ⟨by decide, by decide⟩ rfl (by decide) (by decide) rfl rfl (Nat.le_of_ble_eq_true rfl) (Nat.le_of_ble_eq_true rfl) (sp_X9_of _ g (by omega)) (fun S_46 h_46 => ?_)
        have h_46 := h_46.symm
        subst h_46
        refine x_iconst (v := -1) eX9_weigh_49 (by decide) ?_
        refine x_aload_n eX9_weigh_50 rfl ?_
        refine s_getR (k := 27) eX9_weigh_51 fX9_97 rfl (by decide) (by decide) rfl ?_
        refine x_bipush (v := nI 10) eX9_weigh_54 (by decide) ?_
        refine x_iload_n eX9_weigh_56 rfl ?_
        first | refine x_imulN eX9_weigh_57 ?_ | refine x_imul eX9_weigh_57 ?_
        refine x_lconst (v := lI 1) eX9_weigh_58 (by decide) ?_
        refine s_callV0 (As := [_, _, _, _, _, _, _, _, _]) eX9_weigh_59 kX9_147 ⟨by decide, by decide⟩ rfl (by decide) (by decide) rfl rfl (Nat.le_of_ble_eq_true rfl) (Nat.le_of_ble_eq_true rfl) (sp_X9_times S1 (p1 := 3) (p2 := 4) (p3 := 27) rfl (by decide) rfl (by decide) rfl (by decide) (by decide) (by decide) (by decide) (a := c (k % n)) (c := c ((k + 1) % n)) (VA := ((vr P c n) k).1) (VB := 0) (VC := ((vr P c n) (k + 1)).2) (VD := 0) (T := sumZ (arf (vr P c n)) k) (s := 1) (show _ ≤ 1010 by omega) (show _ ≤ 1010 by omega) (show _ ≤ 600 by omega) tA59.1 tB59.2.1 (Or.inl ⟨rfl, rfl⟩) (Or.inl ⟨rfl, rfl⟩) (by omega) (by omega) (by omega) (by omega) (Or.inl rfl) hT59 bT59) (fun S_59 h_59 => ?_)
        have x2 := h_59.1
        have g := g.I (S1 := S_59) (by rw [x2.2.1]) (by rw [x2.2.1])
        have tA98 := tA59.mv x2 (by decide) (by decide)
        have tB98 := tB59.mv x2 (by decide) (by decide)
        have hT98 : sum10 S_59 27 (10 * p) (sumZ (arf (vr P c n)) k + 1 * ((((vr P c n) k).1 - 0) * (((vr P c n) (k + 1)).2 - 0))) := fun i hi => by rw [h_59.2, if_pos (by omega), show 10 * p + i - 10 * p = i by omega]
        have bT98 := tb9 (T := sumZ (arf (vr P c n)) k + 1 * ((((vr P c n) k).1 - 0) * (((vr P c n) (k + 1)).2 - 0))) (by rw [Int.sub_zero, Int.sub_zero, Int.one_mul]; generalize ((vr P c n) k).1 * ((vr P c n) (k + 1)).2 = x at *; omega)
        refine x_aload_n eX9_weigh_62 rfl ?_
        refine x_aload_n eX9_weigh_63 rfl ?_
        refine s_getR (k := 4) eX9_weigh_64 fX9_19 rfl (by decide) (by decide) rfl ?_
        refine x_aload_n eX9_weigh_67 rfl ?_
        refine x_iload_n eX9_weigh_68 rfl ?_
        refine x_iload_n eX9_weigh_69 rfl ?_
        refine s_callV1 (As := [_, _]) eX9_weigh_70 kX9_241 ⟨by decide, by decide⟩ rfl (by decide) (by decide) rfl rfl (Nat.le_of_ble_eq_true rfl) (Nat.le_of_ble_eq_true rfl) (sp_X9_of _ g (by omega)) (fun S_70 h_70 => ?_)
        have h_70 := h_70.symm
        subst h_70
        refine x_iconst (v := -1) eX9_weigh_73 (by decide) ?_
        refine x_aload_n eX9_weigh_74 rfl ?_
        refine s_getR (k := 3) eX9_weigh_75 fX9_16 rfl (by decide) (by decide) rfl ?_
        refine x_aload_n eX9_weigh_78 rfl ?_
        refine x_iload_n eX9_weigh_79 rfl ?_
        refine x_iload_n eX9_weigh_80 rfl ?_
        refine x_iconst (v := nI 1) eX9_weigh_81 (by decide) ?_
        first | refine x_iaddN eX9_weigh_82 ?_ | refine x_iadd eX9_weigh_82 ?_
        refine s_callV1 (As := [_, _]) eX9_weigh_83 kX9_241 ⟨by decide, by decide⟩ rfl (by decide) (by decide) rfl rfl (Nat.le_of_ble_eq_true rfl) (Nat.le_of_ble_eq_true rfl) (sp_X9_of _ g (by omega)) (fun S_83 h_83 => ?_)
        have h_83 := h_83.symm
        subst h_83
        refine x_iconst (v := -1) eX9_weigh_86 (by decide) ?_
        refine x_aload_n eX9_weigh_87 rfl ?_
        refine s_getR (k := 27) eX9_weigh_88 fX9_97 rfl (by decide) (by decide) rfl ?_
        refine x_bipush (v := nI 10) eX9_weigh_91 (by decide) ?_
        refine x_iload_n eX9_weigh_93 rfl ?_
        first | refine x_imulN eX9_weigh_94 ?_ | refine x_imul eX9_weigh_94 ?_
        refine x_ldc2 (v := lI (-1)) eX9_weigh_95 (xT 842 (by decide +kernel) rfl) ?_
        refine s_callV0 (As := [_, _, _, _, _, _, _, _, _]) eX9_weigh_98 kX9_147 ⟨by decide, by decide⟩ rfl (by decide) (by decide) rfl rfl (Nat.le_of_ble_eq_true rfl) (Nat.le_of_ble_eq_true rfl) (sp_X9_times S_59 (p1 := 4) (p2 := 3) (p3 := 27) rfl (by decide) rfl (by decide) rfl (by decide) (by decide) (by decide) (by decide) (a := c (k % n)) (c := c ((k + 1) % n)) (VA := ((vr P c n) k).2) (VB := 0) (VC := ((vr P c n) (k + 1)).1) (VD := 0) (T := sumZ (arf (vr P c n)) k + 1 * ((((vr P c n) k).1 - 0) * (((vr P c n) (k + 1)).2 - 0))) (s := -1) (show _ ≤ 1010 by omega) (show _ ≤ 1010 by omega) (show _ ≤ 600 by omega) tA98.2.1 tB98.1 (Or.inl ⟨rfl, rfl⟩) (Or.inl ⟨rfl, rfl⟩) (by omega) (by omega) (by omega) (by omega) (Or.inr rfl) hT98 bT98) (fun S_98 h_98 => ?_)
        refine x_iinc (lv' := [_, _, _]) eX9_weigh_101 rfl (by first | exact nI_inc _ | exact rfl) (by decide) rfl ?_
        refine x_goto eX9_weigh_104 ?_
        refine x_pick [0, 1, 2] rfl ?_
        refine ih (k + 1) (by omega) _ ⟨(hx.tr x2).tr h_98.1, fun i hi => ?_, fun j hj => ?_⟩
        · rw [h_98.2, if_pos (by omega), show 10 * p + i - 10 * p = i by omega]
          congr 2
          show _ = sumZ (arf (vr P c n)) k + arf (vr P c n) k
          unfold arf
          grind
        · rw [h_98.2, if_neg hj, h_59.2, if_neg hj]; exact hO j hj
  show XP _ _ [_, _] _ _ _
  refine x_aload_n eX9_weigh_0 rfl ?_
  refine s_getR (k := 27) eX9_weigh_1 fX9_97 rfl (by decide) (by decide) rfl ?_
  refine x_bipush (v := nI 10) eX9_weigh_4 (by decide) ?_
  refine x_iload_n eX9_weigh_6 rfl ?_
  first | refine x_imulN eX9_weigh_7 ?_ | refine x_imul eX9_weigh_7 ?_
  refine x_bipush (v := nI 10) eX9_weigh_8 (by decide) ?_
  refine s_callS0 (As := [_, _, _]) eX9_weigh_10 kX9_144 ⟨by decide, by decide⟩ rfl rfl (Nat.le_of_ble_eq_true rfl) (Nat.le_of_ble_eq_true rfl) (sp_X9_clear (a := 27) rfl (by decide) (fr := 10 * p) (n := 10) (show _ ≤ 600 by omega) _) (fun S_10 h_10 => ?_)
  subst h_10
  refine x_iconst (v := nI 0) eX9_weigh_13 (by decide) ?_
  refine x_istore_n (lv' := [_, _, _]) eX9_weigh_14 (by decide) rfl ?_
  refine x_pick [0, 1, 2] rfl ?_
  refine loop n 0 (by omega) _ ⟨Lx.set _ _ (by simp), fun i hi => ?_, fun j hj => by rw [setL_at, if_neg hj]⟩
  rw [setL_at, if_pos (by omega), show sumZ (arf (vr P c n)) 0 = 0 from rfl, can_of_zero, lI_0]
theorem m_weigh {S : xS} {X : LM} (w : wf X) (h : RM S X) {q : Nat} (hq : q < xNp X) (t : xTh X q = true) : Sp mX9_weigh [.ref 0, .int (nI q)] S (fun r S' => r = none ∧ Lx [5, 6, 27] S S' ∧ sum10 S' 27 (10 * q) (4 * xAr X q) ∧ ∀ j, ¬ (10 * q ≤ j ∧ j < 10 * q + 10) → S'.2.2.1 27 j = S.2.2.1 27 j) := by
  obtain ⟨T, hT⟩ := h.pts w
  refine Sp.mono (sp_X9_weigh S hT (h.pr w hq t) (RGd_X w t T).1) (fun r S' z => ?_)
  rw [vq_PTd w t, are_2] at z
  exact z
theorem c_measure {S : xS} {X : LM} (w : wf X) (h : RC S X) {q v : Nat} (hq : q < xNp X) (t : xTh X q = true) (hv : v < 64) : Sp mX2_measure [.ref 32, .ref (45 + 2 * q), .ref (237 + 2 * v)] S (fun x S' => x = none ∧ Lx [238 + 2 * v] S S' ∧ wid S' v (xAr X q)) := by
  obtain ⟨T, hT⟩ := h.pts w
  refine Sp.mono (sp_X2_measure S hT (h.cr w hq t) hv) (fun r S' z => ?_)
  rw [vq_PT w t] at z
  exact z
theorem in26 {V : Int} (h : -(2 ^ 240) ≤ V ∧ V ≤ 2 ^ 240) : inL (V / (2 ^ 26) ^ 7) := by
  rw [show ((2 : Int) ^ 26) ^ 7 = 2 ^ 182 by decide]
  unfold inL
  omega
theorem in24 {V : Int} (h : -(2 ^ 240) ≤ V ∧ V ≤ 2 ^ 240) : inL (V / (2 ^ 24) ^ 9) := by
  rw [show ((2 : Int) ^ 24) ^ 9 = 2 ^ 216 by decide]
  unfold inL
  omega
theorem xAr_240 {X : LM} (w : wf X) {q : Nat} (t : xTh X q = true) : (-(2 ^ 240) ≤ xAr X q ∧ xAr X q ≤ 2 ^ 240) ∧ (-(2 ^ 240) ≤ 4 * xAr X q ∧ 4 * xAr X q ≤ 2 ^ 240) := by
  have := xAr_bd w t
  omega

theorem b_twice {X : LM} (w : wf X) (p : Int32) : both X mX8_twice mX9_twice [.int p] := by
  have n60 : xNp X ≤ 60 := w.2.2.2.2.1.1
  by_cases hp : xHas X p
  rotate_left
  · refine ⟨.long (-101), X, w, fun S h => ?_, fun S h => ?_⟩
    · show XP _ _ [_, _] _ _ _
      refine x_aload_n eX8_twice_0 rfl ?_
      refine s_getR (k := 37) eX8_twice_1 fX8_28 rfl (by decide) (by decide) rfl ?_
      refine x_iload_n eX8_twice_4 rfl ?_
      refine s_callV1 (As := [_]) eX8_twice_5 kX8_144 ⟨by decide, by decide⟩ rfl (by decide) (by decide) rfl rfl (Nat.le_of_ble_eq_true rfl) (Nat.le_of_ble_eq_true rfl) (sp_X3_has (h.tab w) p) (fun S_5 h_5 => ?_)
      have h_5 := h_5.symm
      subst h_5
      refine x_if_neT eX8_twice_8 (fun c_8 => ?_) (fun c_8 => ?_)
      · exact absurd c_8 hp
      · refine x_ldc2 (v := -101) eX8_twice_11 (xT 286 (by decide +kernel) rfl) ?_
        exact s_lret eX8_twice_14 rfl ⟨rfl, h, frC.rf _⟩
    · show XP _ _ [_, _] _ _ _
      refine x_aload_n eX9_twice_0 rfl ?_
      refine x_iload_n eX9_twice_1 rfl ?_
      refine s_callV1 (As := [_]) eX9_twice_2 kX9_284 ⟨by decide, by decide⟩ rfl (by decide) (by decide) rfl rfl (Nat.le_of_ble_eq_true rfl) (Nat.le_of_ble_eq_true rfl) (sp_X9_isParcel (h.tab w) p) (fun S_2 h_2 => ?_)
      have h_2 := h_2.symm
      subst h_2
      refine x_if_neT eX9_twice_5 (fun c_5 => ?_) (fun c_5 => ?_)
      · exact absurd c_5 hp
      · refine x_ldc2 (v := -101) eX9_twice_8 (xT 858 (by decide +kernel) rfl) ?_
        exact s_lret eX9_twice_11 rfl ⟨rfl, h, frM.rf _⟩
  obtain ⟨a, ha, rfl, ta⟩ := hp
  have ya : xHas X (nI a) := ⟨a, ha, rfl, ta⟩
  have ab := xAr_bd w ta
  refine ⟨.long (lI (xAr X a / 2 ^ 144)), X, w, fun S h => ?_, fun S h => ?_⟩
  · show XP _ _ [_, _] _ _ _
    refine x_aload_n eX8_twice_0 rfl ?_
    refine s_getR (k := 37) eX8_twice_1 fX8_28 rfl (by decide) (by decide) rfl ?_
    refine x_iload_n eX8_twice_4 rfl ?_
    refine s_callV1 (As := [_]) eX8_twice_5 kX8_144 ⟨by decide, by decide⟩ rfl (by decide) (by decide) rfl rfl (Nat.le_of_ble_eq_true rfl) (Nat.le_of_ble_eq_true rfl) (sp_X3_has (h.tab w) (nI a)) (fun S_5 h_5 => ?_)
    have h_5 := h_5.symm
    subst h_5
    refine x_if_neT eX8_twice_8 (fun c_8 => ?_) (fun c_8 => ?_)
    · refine x_aload_n eX8_twice_15 rfl ?_
      refine s_getR (k := 32) eX8_twice_16 fX8_12 rfl (by decide) (by decide) rfl ?_
      refine x_aload_n eX8_twice_19 rfl ?_
      refine s_getR (k := 37) eX8_twice_20 fX8_28 rfl (by decide) (by decide) rfl ?_
      refine s_getR (k := 38) eX8_twice_23 fX8_145 rfl (by decide) (by decide) rfl ?_
      refine x_iload_n eX8_twice_26 rfl ?_
      refine s_raldR eX8_twice_27 (by first | exact Or.inl rfl | exact Or.inr rfl) (by decide) rfl (show _ < 60 by omega) (rf_parcels a) ?_
      refine s_getR (k := (45 + 2 * a)) eX8_twice_28 fX8_157 (kd_parcel (by omega)) (show _ < 365 by omega) (by decide) (rf_parcel (by omega)) ?_
      refine x_aload_n eX8_twice_31 rfl ?_
      refine s_getR (k := 39) eX8_twice_32 fX8_35 rfl (by decide) (by decide) rfl ?_
      refine s_getR (k := 359) eX8_twice_35 fX8_237 rfl (by decide) (by decide) rfl ?_
      refine s_callV0 (As := [_, _]) eX8_twice_38 kX8_241 ⟨by decide, by decide⟩ rfl (by decide) (by decide) rfl rfl (Nat.le_of_ble_eq_true rfl) (Nat.le_of_ble_eq_true rfl) (c_measure w h (v := 61) ha ta (by decide)) (fun S_38 h_38 => ?_)
      refine x_aload_n eX8_twice_41 rfl ?_
      refine s_getR (k := 39) eX8_twice_42 fX8_35 rfl (by decide) (by decide) rfl ?_
      refine s_getR (k := 359) eX8_twice_45 fX8_237 rfl (by decide) (by decide) rfl ?_
      refine s_callV1 (As := []) eX8_twice_48 kX8_245 ⟨by decide, by decide⟩ rfl (by decide) (by decide) rfl rfl (Nat.le_of_ble_eq_true rfl) (Nat.le_of_ble_eq_true rfl) (sp_X7_wholePart (v := 61) (by decide) _ h_38.2 (in26 (xAr_240 w ta).1)) (fun S_48 h_48 => ?_)
      have h_48 := h_48.symm
      subst h_48
      exact s_lret eX8_twice_51 rfl ⟨rfl, RC_L h h_38.1, h_38.1.frC (by simp)⟩
    · exact absurd ya c_8
  · show XP _ _ [_, _] _ _ _
    refine x_aload_n eX9_twice_0 rfl ?_
    refine x_iload_n eX9_twice_1 rfl ?_
    refine s_callV1 (As := [_]) eX9_twice_2 kX9_284 ⟨by decide, by decide⟩ rfl (by decide) (by decide) rfl rfl (Nat.le_of_ble_eq_true rfl) (Nat.le_of_ble_eq_true rfl) (sp_X9_isParcel (h.tab w) (nI a)) (fun S_2 h_2 => ?_)
    have h_2 := h_2.symm
    subst h_2
    refine x_if_neT eX9_twice_5 (fun c_5 => ?_) (fun c_5 => ?_)
    · refine x_aload_n eX9_twice_12 rfl ?_
      refine x_iload_n eX9_twice_13 rfl ?_
      refine s_callV0 (As := [_]) eX9_twice_14 kX9_306 ⟨by decide, by decide⟩ rfl (by decide) (by decide) rfl rfl (Nat.le_of_ble_eq_true rfl) (Nat.le_of_ble_eq_true rfl) (m_weigh w h ha ta) (fun S_14 h_14 => ?_)
      have loop : ∀ d, d < 4 → XP mX9_twice 34 [(4, .int (nI (5 + d))), (2, .long (lI ((4 * xAr X a) / (2 ^ 24) ^ (5 + d + 1)))), (0, .ref 0), (1, .int (nI a))] [] (xwS S_14) (sQ (fun r S' => r = some (.long (lI (xAr X a / 2 ^ 144))) ∧ RM S' X ∧ frM S S')) := by
        intro d
        induction d with
        | zero =>
          intro _
          refine x_iload eX9_twice_34 rfl ?_
          refine x_bipush (v := nI 6) eX9_twice_36 (by decide) ?_
          refine x_icmp_ltN eX9_twice_38 (by omega) (by omega) (fun c_38 => ?_) (fun c_38 => ?_)
          · refine x_lload_n eX9_twice_65 rfl ?_
            refine x_iconst (v := nI 2) eX9_twice_66 (by decide) ?_
            refine x_lshr eX9_twice_67 rfl ?_
            rw [lI_shr (z := (4 * xAr X a) / (2 ^ 24) ^ (5 + 0 + 1)) (by rw [show ((2 : Int) ^ 24) ^ (5 + 0 + 1) = 2 ^ 144 by decide]; unfold inL; omega) (shc (d := 2) (by decide))]
            exact s_lret eX9_twice_68 rfl ⟨by congr 3; rw [show ((2 : Int) ^ 24) ^ (5 + 0 + 1) = 2 ^ 144 by decide]; omega, RM_Lx h h_14.1 (by simp) (by simp) (by simp) (by simp), h_14.1.frM (by simp)⟩
          · omega
        | succ d ih =>
          intro hd
          refine x_iload eX9_twice_34 rfl ?_
          refine x_bipush (v := nI 6) eX9_twice_36 (by decide) ?_
          refine x_icmp_ltN eX9_twice_38 (by omega) (by omega) (fun c_38 => ?_) (fun c_38 => ?_)
          · omega
          · refine x_lload_n eX9_twice_41 rfl ?_
            refine x_bipush (v := nI 24) eX9_twice_42 (by decide) ?_
            refine x_lshl eX9_twice_44 rfl ?_
            rw [lI_shl _ (shc (d := 24) (by decide))]
            refine x_aload_n eX9_twice_45 rfl ?_
            refine s_getR (k := 27) eX9_twice_46 fX9_97 rfl (by decide) (by decide) rfl ?_
            refine x_bipush (v := nI 10) eX9_twice_49 (by decide) ?_
            refine x_iload_n eX9_twice_51 rfl ?_
            first | refine x_imulN eX9_twice_52 ?_ | refine x_imul eX9_twice_52 ?_
            refine x_iload eX9_twice_53 rfl ?_
            first | refine x_iaddN eX9_twice_55 ?_ | refine x_iadd eX9_twice_55 ?_
            refine s_lald eX9_twice_56 rfl (by decide) rfl (show 10 * a + (5 + (d + 1)) < 600 by omega) ?_
            rw [show S_14.2.2.1 27 (10 * a + (5 + (d + 1))) = lI (can (2 ^ 24) 10 (4 * xAr X a) (5 + (d + 1))) from h_14.2.1 _ (by omega)]
            refine x_lor eX9_twice_57 ?_
            rw [can_lo (show 5 + (d + 1) + 1 < 10 by omega), lI_orl (Int.emod_nonneg _ (by decide)) (Int.emod_lt_of_pos _ (by decide)), show (4 * xAr X a) / (2 ^ 24) ^ (5 + (d + 1) + 1) * 2 ^ 24 + (4 * xAr X a) / (2 ^ 24) ^ (5 + (d + 1)) % 2 ^ 24 = (4 * xAr X a) / (2 ^ 24) ^ (5 + d + 1) from by rw [Int.pow_succ _ (5 + (d + 1)), ← Int.ediv_ediv_of_nonneg (Int.le_of_lt (Int.pow_pos (by decide))), show 5 + (d + 1) = 5 + d + 1 by omega, Int.mul_comm _ ((2 : Int) ^ 24), Int.mul_ediv_add_emod]]
            refine x_lstore_n (lv' := [_, _, _, _]) eX9_twice_58 (by decide) rfl ?_
            refine x_iinc (lv' := [_, _, _, _]) eX9_twice_59 rfl (show nI (5 + (d + 1)) + Int32.ofInt (-1) = nI (5 + d) by rw [show 5 + (d + 1) = 5 + d + 1 by omega, nI_dec, dI_s]) (by decide) rfl ?_
            refine x_goto eX9_twice_62 ?_
            refine x_pick [0, 1, 2, 3] rfl ?_
            exact ih (by omega)
      refine x_aload_n eX9_twice_17 rfl ?_
      refine s_getR (k := 27) eX9_twice_18 fX9_97 rfl (by decide) (by decide) rfl ?_
      refine x_bipush (v := nI 10) eX9_twice_21 (by decide) ?_
      refine x_iload_n eX9_twice_23 rfl ?_
      first | refine x_imulN eX9_twice_24 ?_ | refine x_imul eX9_twice_24 ?_
      refine x_bipush (v := nI 9) eX9_twice_25 (by decide) ?_
      first | refine x_iaddN eX9_twice_27 ?_ | refine x_iadd eX9_twice_27 ?_
      refine s_lald eX9_twice_28 rfl (by decide) rfl (show _ < 600 by omega) ?_
      rw [show S_14.2.2.1 27 (10 * a + 9) = lI (can (2 ^ 24) 10 (4 * xAr X a) 9) from h_14.2.1 9 (by decide), can_hi (by decide)]
      refine x_lstore_n (lv' := [_, _, _]) eX9_twice_29 (by decide) rfl ?_
      refine x_bipush (v := nI 8) eX9_twice_30 (by decide) ?_
      refine x_istore (lv' := [_, _, _, _]) eX9_twice_32 (by decide) rfl ?_
      refine x_pick [0, 1, 2, 3] rfl ?_
      exact loop 3 (by decide)
    · exact absurd ya c_5
theorem sg_lt {x y : Int} (h : x < y) : sg (x - y) = -1 := by unfold sg; rw [if_pos (by omega)]
theorem sg_eq {x y : Int} (h : x = y) : sg (x - y) = 0 := by unfold sg; rw [if_neg (by omega), if_pos (by omega)]
theorem sg_gt {x y : Int} (h : y < x) : sg (x - y) = 1 := by unfold sg; rw [if_neg (by omega), if_neg (by omega)]
theorem b_compare {X : LM} (w : wf X) (p q : Int32) : both X mX8_compare mX9_compare [.int p, .int q] := by
  have n60 : xNp X ≤ 60 := w.2.2.2.2.1.1
  by_cases hp : xHas X p
  rotate_left
  · refine ⟨.int (-101), X, w, fun S h => ?_, fun S h => ?_⟩
    · show XP _ _ [_, _, _] _ _ _
      refine x_aload_n eX8_compare_0 rfl ?_
      refine s_getR (k := 37) eX8_compare_1 fX8_28 rfl (by decide) (by decide) rfl ?_
      refine x_iload_n eX8_compare_4 rfl ?_
      refine s_callV1 (As := [_]) eX8_compare_5 kX8_144 ⟨by decide, by decide⟩ rfl (by decide) (by decide) rfl rfl (Nat.le_of_ble_eq_true rfl) (Nat.le_of_ble_eq_true rfl) (sp_X3_has (h.tab w) p) (fun S_5 h_5 => ?_)
      have h_5 := h_5.symm
      subst h_5
      refine x_if_eqT eX8_compare_8 (fun c_8 => ?_) (fun c_8 => ?_)
      · refine x_bipush (v := -101) eX8_compare_22 (by decide) ?_
        exact s_iret eX8_compare_24 rfl rfl ⟨rfl, h, frC.rf _⟩
      · exact absurd c_8 hp
    · show XP _ _ [_, _, _] _ _ _
      refine x_aload_n eX9_compare_0 rfl ?_
      refine x_iload_n eX9_compare_1 rfl ?_
      refine s_callV1 (As := [_]) eX9_compare_2 kX9_284 ⟨by decide, by decide⟩ rfl (by decide) (by decide) rfl rfl (Nat.le_of_ble_eq_true rfl) (Nat.le_of_ble_eq_true rfl) (sp_X9_isParcel (h.tab w) p) (fun S_2 h_2 => ?_)
      have h_2 := h_2.symm
      subst h_2
      refine x_if_eqT eX9_compare_5 (fun c_5 => ?_) (fun c_5 => ?_)
      · refine x_bipush (v := -101) eX9_compare_16 (by decide) ?_
        exact s_iret eX9_compare_18 rfl rfl ⟨rfl, h, frM.rf _⟩
      · exact absurd c_5 hp
  by_cases hq : xHas X q
  rotate_left
  · refine ⟨.int (-101), X, w, fun S h => ?_, fun S h => ?_⟩
    · show XP _ _ [_, _, _] _ _ _
      refine x_aload_n eX8_compare_0 rfl ?_
      refine s_getR (k := 37) eX8_compare_1 fX8_28 rfl (by decide) (by decide) rfl ?_
      refine x_iload_n eX8_compare_4 rfl ?_
      refine s_callV1 (As := [_]) eX8_compare_5 kX8_144 ⟨by decide, by decide⟩ rfl (by decide) (by decide) rfl rfl (Nat.le_of_ble_eq_true rfl) (Nat.le_of_ble_eq_true rfl) (sp_X3_has (h.tab w) p) (fun S_5 h_5 => ?_)
      have h_5 := h_5.symm
      subst h_5
      refine x_if_eqT eX8_compare_8 (fun c_8 => ?_) (fun c_8 => ?_)
      · exact absurd hp c_8
      · refine x_aload_n eX8_compare_11 rfl ?_
        refine s_getR (k := 37) eX8_compare_12 fX8_28 rfl (by decide) (by decide) rfl ?_
        refine x_iload_n eX8_compare_15 rfl ?_
        refine s_callV1 (As := [_]) eX8_compare_16 kX8_144 ⟨by decide, by decide⟩ rfl (by decide) (by decide) rfl rfl (Nat.le_of_ble_eq_true rfl) (Nat.le_of_ble_eq_true rfl) (sp_X3_has (h.tab w) q) (fun S_16 h_16 => ?_)
        have h_16 := h_16.symm
        subst h_16
        refine x_if_neT eX8_compare_19 (fun c_19 => ?_) (fun c_19 => ?_)
        · exact absurd c_19 hq
        · refine x_bipush (v := -101) eX8_compare_22 (by decide) ?_
          exact s_iret eX8_compare_24 rfl rfl ⟨rfl, h, frC.rf _⟩
    · show XP _ _ [_, _, _] _ _ _
      refine x_aload_n eX9_compare_0 rfl ?_
      refine x_iload_n eX9_compare_1 rfl ?_
      refine s_callV1 (As := [_]) eX9_compare_2 kX9_284 ⟨by decide, by decide⟩ rfl (by decide) (by decide) rfl rfl (Nat.le_of_ble_eq_true rfl) (Nat.le_of_ble_eq_true rfl) (sp_X9_isParcel (h.tab w) p) (fun S_2 h_2 => ?_)
      have h_2 := h_2.symm
      subst h_2
      refine x_if_eqT eX9_compare_5 (fun c_5 => ?_) (fun c_5 => ?_)
      · exact absurd hp c_5
      · refine x_aload_n eX9_compare_8 rfl ?_
        refine x_iload_n eX9_compare_9 rfl ?_
        refine s_callV1 (As := [_]) eX9_compare_10 kX9_284 ⟨by decide, by decide⟩ rfl (by decide) (by decide) rfl rfl (Nat.le_of_ble_eq_true rfl) (Nat.le_of_ble_eq_true rfl) (sp_X9_isParcel (h.tab w) q) (fun S_10 h_10 => ?_)
        have h_10 := h_10.symm
        subst h_10
        refine x_if_neT eX9_compare_13 (fun c_13 => ?_) (fun c_13 => ?_)
        · exact absurd c_13 hq
        · refine x_bipush (v := -101) eX9_compare_16 (by decide) ?_
          exact s_iret eX9_compare_18 rfl rfl ⟨rfl, h, frM.rf _⟩
  obtain ⟨a, ha, rfl, ta⟩ := hp
  obtain ⟨b, hb, rfl, tb⟩ := hq
  have ya : xHas X (nI a) := ⟨a, ha, rfl, ta⟩
  have yb : xHas X (nI b) := ⟨b, hb, rfl, tb⟩
  refine ⟨.int (sg (xAr X a - xAr X b)), X, w, fun S h => ?_, fun S h => ?_⟩
  · show XP _ _ [_, _, _] _ _ _
    refine x_aload_n eX8_compare_0 rfl ?_
    refine s_getR (k := 37) eX8_compare_1 fX8_28 rfl (by decide) (by decide) rfl ?_
    refine x_iload_n eX8_compare_4 rfl ?_
    refine s_callV1 (As := [_]) eX8_compare_5 kX8_144 ⟨by decide, by decide⟩ rfl (by decide) (by decide) rfl rfl (Nat.le_of_ble_eq_true rfl) (Nat.le_of_ble_eq_true rfl) (sp_X3_has (h.tab w) (nI a)) (fun S_5 h_5 => ?_)
    have h_5 := h_5.symm
    subst h_5
    refine x_if_eqT eX8_compare_8 (fun c_8 => ?_) (fun c_8 => ?_)
    · exact absurd ya c_8
    · refine x_aload_n eX8_compare_11 rfl ?_
      refine s_getR (k := 37) eX8_compare_12 fX8_28 rfl (by decide) (by decide) rfl ?_
      refine x_iload_n eX8_compare_15 rfl ?_
      refine s_callV1 (As := [_]) eX8_compare_16 kX8_144 ⟨by decide, by decide⟩ rfl (by decide) (by decide) rfl rfl (Nat.le_of_ble_eq_true rfl) (Nat.le_of_ble_eq_true rfl) (sp_X3_has (h.tab w) (nI b)) (fun S_16 h_16 => ?_)
      have h_16 := h_16.symm
      subst h_16
      refine x_if_neT eX8_compare_19 (fun c_19 => ?_) (fun c_19 => ?_)
      · refine x_aload_n eX8_compare_25 rfl ?_
        refine s_getR (k := 32) eX8_compare_26 fX8_12 rfl (by decide) (by decide) rfl ?_
        refine x_aload_n eX8_compare_29 rfl ?_
        refine s_getR (k := 37) eX8_compare_30 fX8_28 rfl (by decide) (by decide) rfl ?_
        refine s_getR (k := 38) eX8_compare_33 fX8_145 rfl (by decide) (by decide) rfl ?_
        refine x_iload_n eX8_compare_36 rfl ?_
        refine s_raldR eX8_compare_37 (by first | exact Or.inl rfl | exact Or.inr rfl) (by decide) rfl (show _ < 60 by omega) (rf_parcels a) ?_
        refine s_getR (k := (45 + 2 * a)) eX8_compare_38 fX8_157 (kd_parcel (by omega)) (show _ < 365 by omega) (by decide) (rf_parcel (by omega)) ?_
        refine x_aload_n eX8_compare_41 rfl ?_
        refine s_getR (k := 39) eX8_compare_42 fX8_35 rfl (by decide) (by decide) rfl ?_
        refine s_getR (k := 359) eX8_compare_45 fX8_237 rfl (by decide) (by decide) rfl ?_
        refine s_callV0 (As := [_, _]) eX8_compare_48 kX8_241 ⟨by decide, by decide⟩ rfl (by decide) (by decide) rfl rfl (Nat.le_of_ble_eq_true rfl) (Nat.le_of_ble_eq_true rfl) (c_measure w h (v := 61) ha ta (by decide)) (fun S_48 h_48 => ?_)
        have g := RC_L h h_48.1
        refine x_aload_n eX8_compare_51 rfl ?_
        refine s_getR (k := 32) eX8_compare_52 fX8_12 rfl (by decide) (by decide) rfl ?_
        refine x_aload_n eX8_compare_55 rfl ?_
        refine s_getR (k := 37) eX8_compare_56 fX8_28 rfl (by decide) (by decide) rfl ?_
        refine s_getR (k := 38) eX8_compare_59 fX8_145 rfl (by decide) (by decide) rfl ?_
        refine x_iload_n eX8_compare_62 rfl ?_
        refine s_raldR eX8_compare_63 (by first | exact Or.inl rfl | exact Or.inr rfl) (by decide) rfl (show _ < 60 by omega) (rf_parcels b) ?_
        refine s_getR (k := (45 + 2 * b)) eX8_compare_64 fX8_157 (kd_parcel (by omega)) (show _ < 365 by omega) (by decide) (rf_parcel (by omega)) ?_
        refine x_aload_n eX8_compare_67 rfl ?_
        refine s_getR (k := 39) eX8_compare_68 fX8_35 rfl (by decide) (by decide) rfl ?_
        refine s_getR (k := 361) eX8_compare_71 fX8_251 rfl (by decide) (by decide) rfl ?_
        refine s_callV0 (As := [_, _]) eX8_compare_74 kX8_241 ⟨by decide, by decide⟩ rfl (by decide) (by decide) rfl rfl (Nat.le_of_ble_eq_true rfl) (Nat.le_of_ble_eq_true rfl) (c_measure w g (v := 62) hb tb (by decide)) (fun S_74 h_74 => ?_)
        have g2 := RC_L g h_74.1
        have wa : wid S_74 61 (xAr X a) := fun i hi => by rw [h_74.1.2.2.2 _ (by simp)]; exact h_48.2 i hi
        refine x_aload_n eX8_compare_77 rfl ?_
        refine s_getR (k := 39) eX8_compare_78 fX8_35 rfl (by decide) (by decide) rfl ?_
        refine s_getR (k := 359) eX8_compare_81 fX8_237 rfl (by decide) (by decide) rfl ?_
        refine x_aload_n eX8_compare_84 rfl ?_
        refine s_getR (k := 39) eX8_compare_85 fX8_35 rfl (by decide) (by decide) rfl ?_
        refine s_getR (k := 361) eX8_compare_88 fX8_251 rfl (by decide) (by decide) rfl ?_
        refine s_callV1 (As := [_]) eX8_compare_91 kX8_254 ⟨by decide, by decide⟩ rfl (by decide) (by decide) rfl rfl (Nat.le_of_ble_eq_true rfl) (Nat.le_of_ble_eq_true rfl) (sp_X7_against (v := 61) (w := 62) (by decide) (by decide) _ wa h_74.2 (in26 (xAr_240 w ta).1) (in26 (xAr_240 w tb).1)) (fun S_91 h_91 => ?_)
        have h_91 := h_91.symm
        subst h_91
        exact s_iret eX8_compare_94 rfl rfl ⟨rfl, g2, (h_48.1.frC (by simp)).tr (h_74.1.frC (by simp))⟩
      · exact absurd yb c_19
  · have fin : ∀ {S1 S2 S3 : xS}, Lx [5, 6, 27] S S1 → Lx [5, 6, 27] S1 S2 → S3 = S2 → RM S3 X ∧ frM S S3 := fun {S1 S2 S3} h1 h2 e => by
      subst e
      exact ⟨RM_Lx h (h1.tr h2) (by simp) (by simp) (by simp) (by simp), (h1.tr h2).frM (by simp)⟩
    show XP _ _ [_, _, _] _ _ _
    refine x_aload_n eX9_compare_0 rfl ?_
    refine x_iload_n eX9_compare_1 rfl ?_
    refine s_callV1 (As := [_]) eX9_compare_2 kX9_284 ⟨by decide, by decide⟩ rfl (by decide) (by decide) rfl rfl (Nat.le_of_ble_eq_true rfl) (Nat.le_of_ble_eq_true rfl) (sp_X9_isParcel (h.tab w) (nI a)) (fun S_2 h_2 => ?_)
    have h_2 := h_2.symm
    subst h_2
    refine x_if_eqT eX9_compare_5 (fun c_5 => ?_) (fun c_5 => ?_)
    · exact absurd ya c_5
    · refine x_aload_n eX9_compare_8 rfl ?_
      refine x_iload_n eX9_compare_9 rfl ?_
      refine s_callV1 (As := [_]) eX9_compare_10 kX9_284 ⟨by decide, by decide⟩ rfl (by decide) (by decide) rfl rfl (Nat.le_of_ble_eq_true rfl) (Nat.le_of_ble_eq_true rfl) (sp_X9_isParcel (h.tab w) (nI b)) (fun S_10 h_10 => ?_)
      have h_10 := h_10.symm
      subst h_10
      refine x_if_neT eX9_compare_13 (fun c_13 => ?_) (fun c_13 => ?_)
      · refine x_aload_n eX9_compare_19 rfl ?_
        refine x_iload_n eX9_compare_20 rfl ?_
        refine s_callV0 (As := [_]) eX9_compare_21 kX9_306 ⟨by decide, by decide⟩ rfl (by decide) (by decide) rfl rfl (Nat.le_of_ble_eq_true rfl) (Nat.le_of_ble_eq_true rfl) (m_weigh w h ha ta) (fun S_21 h_21 => ?_)
        have g := RM_Lx h h_21.1 (by simp) (by simp) (by simp) (by simp)
        refine x_aload_n eX9_compare_24 rfl ?_
        refine x_iload_n eX9_compare_25 rfl ?_
        refine s_callV0 (As := [_]) eX9_compare_26 kX9_306 ⟨by decide, by decide⟩ rfl (by decide) (by decide) rfl rfl (Nat.le_of_ble_eq_true rfl) (Nat.le_of_ble_eq_true rfl) (m_weigh w g hb tb) (fun S_26 h_26 => ?_)
        have wb := h_26.2.1
        have wa : sum10 S_26 27 (10 * a) (4 * xAr X a) := by
          by_cases e : a = b
          · rw [e]; exact wb
          · intro i hi
            rw [h_26.2.2 _ (by omega)]
            exact h_21.2.1 i hi
        have ia := in24 (xAr_240 w ta).2
        have ib := in24 (xAr_240 w tb).2
        have gg := fin h_21.1 h_26.1 rfl
        refine x_aload_n eX9_compare_29 rfl ?_
        refine s_getR (k := 27) eX9_compare_30 fX9_97 rfl (by decide) (by decide) rfl ?_
        refine x_bipush (v := nI 10) eX9_compare_33 (by decide) ?_
        refine x_iload_n eX9_compare_35 rfl ?_
        first | refine x_imulN eX9_compare_36 ?_ | refine x_imul eX9_compare_36 ?_
        refine x_aload_n eX9_compare_37 rfl ?_
        refine s_getR (k := 27) eX9_compare_38 fX9_97 rfl (by decide) (by decide) rfl ?_
        refine x_bipush (v := nI 10) eX9_compare_41 (by decide) ?_
        refine x_iload_n eX9_compare_43 rfl ?_
        first | refine x_imulN eX9_compare_44 ?_ | refine x_imul eX9_compare_44 ?_
        refine s_callS1 (As := [_, _, _, _]) eX9_compare_45 kX9_208 ⟨by decide, by decide⟩ rfl rfl (Nat.le_of_ble_eq_true rfl) (Nat.le_of_ble_eq_true rfl) (sp_X9_less (p := 27) (q := 27) rfl (by decide) rfl (by decide) (show _ ≤ 600 by omega) (show _ ≤ 600 by omega) _ _ _ wa wb ia ib) (fun S_45 h_45 => ?_)
        have h_45 := h_45.symm
        subst h_45
        refine x_if_eqB eX9_compare_48 (fun c_48 => ?_) (fun c_48 => ?_)
        · have n1 := of_decide_eq_false c_48
          refine x_aload_n eX9_compare_55 rfl ?_
          refine s_getR (k := 27) eX9_compare_56 fX9_97 rfl (by decide) (by decide) rfl ?_
          refine x_bipush (v := nI 10) eX9_compare_59 (by decide) ?_
          refine x_iload_n eX9_compare_61 rfl ?_
          first | refine x_imulN eX9_compare_62 ?_ | refine x_imul eX9_compare_62 ?_
          refine x_aload_n eX9_compare_63 rfl ?_
          refine s_getR (k := 27) eX9_compare_64 fX9_97 rfl (by decide) (by decide) rfl ?_
          refine x_bipush (v := nI 10) eX9_compare_67 (by decide) ?_
          refine x_iload_n eX9_compare_69 rfl ?_
          first | refine x_imulN eX9_compare_70 ?_ | refine x_imul eX9_compare_70 ?_
          refine s_callS1 (As := [_, _, _, _]) eX9_compare_71 kX9_208 ⟨by decide, by decide⟩ rfl rfl (Nat.le_of_ble_eq_true rfl) (Nat.le_of_ble_eq_true rfl) (sp_X9_less (p := 27) (q := 27) rfl (by decide) rfl (by decide) (show _ ≤ 600 by omega) (show _ ≤ 600 by omega) _ _ _ wb wa ib ia) (fun S_71 h_71 => ?_)
          have h_71 := h_71.symm
          subst h_71
          refine x_if_eqB eX9_compare_74 (fun c_74 => ?_) (fun c_74 => ?_)
          · have n2 := of_decide_eq_false c_74
            have ev := sg_eq (show xAr X a = xAr X b by omega)
            refine x_iconst (v := nI 0) eX9_compare_81 (by decide) ?_
            exact s_iret eX9_compare_82 rfl rfl ⟨congrArg (fun v => some (Value.int v)) ev.symm, gg⟩
          · have n2 := of_decide_eq_true c_74
            have ev := sg_gt (show xAr X b < xAr X a by omega)
            refine x_iconst (v := nI 1) eX9_compare_77 (by decide) ?_
            refine x_goto eX9_compare_78 ?_
            exact s_iret eX9_compare_82 rfl rfl ⟨congrArg (fun v => some (Value.int v)) ev.symm, gg⟩
        · have n1 := of_decide_eq_true c_48
          have ev := sg_lt (show xAr X a < xAr X b by omega)
          refine x_iconst (v := -1) eX9_compare_51 (by decide) ?_
          refine x_goto eX9_compare_52 ?_
          exact s_iret eX9_compare_82 rfl rfl ⟨congrArg (fun v => some (Value.int v)) ev.symm, gg⟩
      · exact absurd yb c_13
