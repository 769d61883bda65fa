/-! ===== sums of products by columns ===== -/
def acc (p q r t : Nat → Int) (base : Int) (i j : Nat) (V : Int) : Prop := V = base + (hv (2 ^ 26) p 0 i * hv (2 ^ 26) r 0 4 - hv (2 ^ 26) q 0 i * hv (2 ^ 26) t 0 4) + (2 ^ 26) ^ i * (p i * hv (2 ^ 26) r 0 j - q i * hv (2 ^ 26) t 0 j)
theorem acc_col {p q r t : Nat → Int} {base V : Int} {i j : Nat} (h : acc p q r t base i j V) : acc p q r t base i (j + 1) (V + (p i * r j - q i * t j) * (2 ^ 26) ^ (i + j)) := by
  unfold acc at h ⊢
  rw [h, hv_snoc _ j 0, hv_snoc _ j 0, Int.pow_add, Nat.zero_add]
  grind
theorem acc_row {p q r t : Nat → Int} {base V : Int} {i : Nat} (h : acc p q r t base i 4 V) : acc p q r t base (i + 1) 0 V := by
  unfold acc at h ⊢
  rw [h, hv_snoc _ i 0, hv_snoc _ i 0, Nat.zero_add]
  show _ = _ + _ + _ * (_ * 0 - _ * 0)
  grind
theorem acc_end {p q r t : Nat → Int} {base V : Int} (h : acc p q r t base 4 0 V) : V = base + (hv (2 ^ 26) p 0 4 * hv (2 ^ 26) r 0 4 - hv (2 ^ 26) q 0 4 * hv (2 ^ 26) t 0 4) := by
  unfold acc at h
  rw [h]
  show _ + _ * (_ * 0 - _ * 0) = _
  grind
theorem acc_0 (p q r t : Nat → Int) (base : Int) : acc p q r t base 0 0 base := by
  unfold acc
  show _ = _ + (0 * _ - 0 * _) + _ * (_ * 0 - _ * 0)
  grind
/-- the columns of a row while they are summed -/
def colJ (S : xS) (row : Nat) (p q r t : Nat → Int) (base E : Int) (N i j : Nat) (S1 : xS) : Prop := Lx [row] S S1 ∧ ∃ F : Nat → Int, (∀ k, k < 8 → S1.2.2.1 row k = lI (F k)) ∧ acc p q r t base i j (hv (2 ^ 26) F 0 8) ∧ ∀ k, k < 8 → -(((N + 4 * i + j : Nat) : Int) * E) ≤ F k ∧ F k ≤ ((N + 4 * i + j : Nat) : Int) * E
theorem colJ_step {S S1 : xS} {row : Nat} {p q r t : Nat → Int} {base E : Int} {N i j : Nat} {F : Nat → Int} (hx : Lx [row] S S1) (hF : ∀ k, k < 8 → S1.2.2.1 row k = lI (F k)) (ha : acc p q r t base i j (hv (2 ^ 26) F 0 8)) (hb : ∀ k, k < 8 → -(((N + 4 * i + j : Nat) : Int) * E) ≤ F k ∧ F k ≤ ((N + 4 * i + j : Nat) : Int) * E) (hij : i + j < 8) (hE : 0 ≤ E) (hm : -E ≤ p i * r j - q i * t j ∧ p i * r j - q i * t j ≤ E) : colJ S row p q r t base E N i (j + 1) (setL S1 row (vp_updL (S1.2.2.1 row) (i + j) (lI (F (i + j) + (p i * r j - q i * t j))))) := by
  refine ⟨hx.tr (Lx.set _ _ (by simp)), updZ F (i + j) (F (i + j) + (p i * r j - q i * t j)), fun k hk => ?_, ?_, fun k hk => ?_⟩
  · rw [setL_at]
    unfold vp_updL updZ
    by_cases q : k = i + j
    · rw [if_pos q, if_pos q]
    · rw [if_neg q, if_neg q]; exact hF k hk
  · rw [hv_upd _ _ _ _ hij]
    have := acc_col ha
    rw [show F (i + j) + (p i * r j - q i * t j) - F (i + j) = p i * r j - q i * t j by omega]
    exact this
  · have b1 := hb k hk
    have e : ((N + 4 * i + (j + 1) : Nat) : Int) * E = ((N + 4 * i + j : Nat) : Int) * E + E := by rw [show N + 4 * i + (j + 1) = N + 4 * i + j + 1 by omega, Int.natCast_add, Int.add_mul, show ((1 : Nat) : Int) = 1 from rfl, Int.one_mul]
    rw [e]
    unfold updZ
    generalize p i * r j - q i * t j = u at *
    generalize ((N + 4 * i + j : Nat) : Int) * E = z at *
    split
    · rename_i he
      subst he
      omega
    · omega
theorem mul26 {a b : Int} (ha : -(2 ^ 26) ≤ a ∧ a ≤ 2 ^ 26) (hb : -(2 ^ 26) ≤ b ∧ b ≤ 2 ^ 26) : -(2 ^ 52) ≤ a * b ∧ a * b ≤ 2 ^ 52 := mulB ha hb

theorem sp_X2_measure (S : xS) {nc r n v : Nat} {c : Nat → Nat} {P : Nat → Pt} (hp0 : cps S nc P) (h : CR S nc r n c) (hv0 : v < 64) : Sp mX2_measure [.ref 32, .ref (45 + 2 * r), .ref (237 + 2 * v)] S (fun x S' => x = none ∧ Lx [238 + 2 * v] S S' ∧ wid S' v (are (vr P c n) n)) := by
  have hr := h.1.1
  have n24 := h.1.2.1
  have loop : ∀ μ k, k + μ = n → ∀ S1, (Lx [238 + 2 * v] S S1 ∧ ∃ F : Nat → Int, (∀ k2, k2 < 8 → S1.2.2.1 (238 + 2 * v) k2 = lI (F k2)) ∧ hv (2 ^ 26) F 0 8 = sumZ (arf (vr P c n)) k ∧ ∀ k2, k2 < 8 → -(((16 * k : Nat) : Int) * 2 ^ 53) ≤ F k2 ∧ F k2 ≤ ((16 * k : Nat) : Int) * 2 ^ 53) → XP mX2_measure 6 [(3, .int (nI k)), (0, .ref 32), (1, .ref (45 + 2 * r)), (2, .ref (237 + 2 * v))] [] (xwS S1) (sQ (fun x S' => x = none ∧ Lx [238 + 2 * v] S S' ∧ wid S' v (are (vr P c n) n))) := by
    intro μ
    induction μ with
    | zero =>
      intro k hk S1 h1
      obtain ⟨hx, F, hF, hh, hb⟩ := h1
      have es : S1.1 (45 + 2 * r) 1 = nI n := by rw [hx.1]; exact h.1.2.2.1
      have hr1 := h.m hx
      refine x_iload_n eX2_measure_6 rfl ?_
      refine x_aload_n eX2_measure_7 rfl ?_
      refine s_geti eX2_measure_8 fX2_102 (kd_ring h.1.1) (show _ < 365 by omega) (by decide) ?_
      rw [es]
      refine x_icmp_geN eX2_measure_11 (by omega) (by omega) (fun c_11 => ?_) (fun c_11 => ?_)
      · refine x_aload_n eX2_measure_134 rfl ?_
        refine s_callV0 (As := []) eX2_measure_135 kX2_111 ⟨by decide, by decide⟩ (kd_wide hv0) (by decide) (show _ < 365 by omega) rfl rfl (Nat.le_of_ble_eq_true rfl) (Nat.le_of_ble_eq_true rfl) (sp_X7_carry hv0 _ F hF (fun i hi => by have := hb i hi; omega)) (fun S_135 h_135 => ?_)
        refine s_vret eX2_measure_138 rfl ⟨rfl, hx.tr (by rw [h_135]; exact Lx.set _ _ (by simp)), fun i hi => ?_⟩
        rw [h_135, setL_at, if_pos hi, hh, show k = n by omega]; rfl
      · omega
    | succ μ ih =>
      intro k hk S1 h1
      obtain ⟨hx, F, hF, hh, hb⟩ := h1
      have es : S1.1 (45 + 2 * r) 1 = nI n := by rw [hx.1]; exact h.1.2.2.1
      have hr1 := h.m hx
      have oh := ih
      have tA := (h.m hx).pt (hp0.mv hx (by simp; omega)) k
      have tB := (h.m hx).pt (hp0.mv hx (by simp; omega)) (k + 1)
      have lA := tA.1
      have lB := tB.1
      obtain ⟨-, -, -, -, -, fa, ga, pa1, va, wa⟩ := tA
      obtain ⟨-, -, -, -, -, fb, gb, pb1, vb, wb⟩ := tB
      have r35 : S1.2.2.1 35 = S.2.2.1 35 := hx.2.2.2 35 (by simp; omega)
      rw [r35] at pa1 pb1
      have pa := pa1
      have pb := pb1
      have inner : ∀ i, i < 4 → (∀ S2, colJ S (238 + 2 * v) fa fb gb ga (sumZ (arf (vr P c n)) k) (2 ^ 53) (16 * k) (i + 1) 0 S2 → XP mX2_measure 41 [(6, .int (nI (i + 1))), (5, .int (nI (2 * c ((k + 1) % n) * 4))), (4, .int (nI (2 * c (k % n) * 4))), (3, .int (nI k)), (0, .ref 32), (1, .ref (45 + 2 * r)), (2, .ref (237 + 2 * v))] [] (xwS S2) (sQ (fun x S' => x = none ∧ Lx [238 + 2 * v] S S' ∧ wid S' v (are (vr P c n) n)))) → ∀ m j, j + m = 4 → ∀ S2, colJ S (238 + 2 * v) fa fb gb ga (sumZ (arf (vr P c n)) k) (2 ^ 53) (16 * k) i j S2 → XP mX2_measure 50 [(7, .int (nI j)), (6, .int (nI i)), (5, .int (nI (2 * c ((k + 1) % n) * 4))), (4, .int (nI (2 * c (k % n) * 4))), (3, .int (nI k)), (0, .ref 32), (1, .ref (45 + 2 * r)), (2, .ref (237 + 2 * v))] [] (xwS S2) (sQ (fun x S' => x = none ∧ Lx [238 + 2 * v] S S' ∧ wid S' v (are (vr P c n) n))) := by
        intro i hi kk m
        induction m with
        | zero =>
          intro j hj S2 h2
          obtain rfl : j = 4 := by omega
          refine x_iload eX2_measure_50 rfl ?_
          refine x_iconst (v := nI 4) eX2_measure_52 (by decide) ?_
          refine x_icmp_geN eX2_measure_53 (by omega) (by omega) (fun c_53 => ?_) (fun c_53 => ?_)
          · refine x_iinc (lv' := [_, _, _, _, _, _, _, _]) eX2_measure_122 rfl (by first | exact nI_inc _ | exact rfl) (by decide) rfl ?_
            refine x_goto eX2_measure_125 ?_
            refine x_pick [0, 2, 3, 4, 5, 6, 7] rfl ?_
            refine kk S2 ?_
            obtain ⟨hx2, F, hF, hh, hb⟩ := h2
            exact ⟨hx2, F, hF, acc_row hh, fun k2 hk2 => by have := hb k2 hk2; omega⟩
          · omega
        | succ m ihj =>
          intro j hj S2 h2
          obtain ⟨hx2, F, hF, hh, hb⟩ := h2
          have r35 : S2.2.2.1 35 = S.2.2.1 35 := hx2.2.2.2 35 (by simp; omega)
          have qa := pa i hi
          have qb := pb i hi
          have qc := pa j (by omega)
          have qd := pb j (by omega)
          have m1 := mul26 (a := fa i) (b := gb j) ⟨by omega, by omega⟩ ⟨by omega, by omega⟩
          have m2 := mul26 (a := fb i) (b := ga j) ⟨by omega, by omega⟩ ⟨by omega, by omega⟩
          refine x_iload eX2_measure_50 rfl ?_
          refine x_iconst (v := nI 4) eX2_measure_52 (by decide) ?_
          refine x_icmp_geN eX2_measure_53 (by omega) (by omega) (fun c_53 => ?_) (fun c_53 => ?_)
          · omega
          · refine x_aload_n eX2_measure_56 rfl ?_
            refine s_getR (k := (238 + 2 * v)) eX2_measure_57 fX2_75 (kd_wide hv0) (show _ < 365 by omega) (by decide) (rf_wide hv0) ?_
            refine x_iload eX2_measure_60 rfl ?_
            refine x_iload eX2_measure_62 rfl ?_
            first | refine x_iaddN eX2_measure_64 ?_ | refine x_iadd eX2_measure_64 ?_
            refine x_dup2_11 eX2_measure_65 rfl rfl ?_
            refine s_lald eX2_measure_66 (kd_col hv0) (show _ < 365 by omega) rfl (by rw [ln_col hv0]; omega) ?_
            rw [hF (i + j) (by omega)]
            refine x_aload_n eX2_measure_67 rfl ?_
            refine s_getR (k := 35) eX2_measure_68 fX2_19 rfl (by decide) (by decide) rfl ?_
            refine x_iload eX2_measure_71 rfl ?_
            refine x_iload eX2_measure_73 rfl ?_
            first | refine x_iaddN eX2_measure_75 ?_ | refine x_iadd eX2_measure_75 ?_
            refine s_lald eX2_measure_76 rfl (by decide) rfl (show _ < 1608 by omega) ?_
            rw [r35, show 2 * c (k % n) * 4 + i = 8 * c (k % n) + i by omega, qa.1.1]
            refine x_aload_n eX2_measure_77 rfl ?_
            refine s_getR (k := 35) eX2_measure_78 fX2_19 rfl (by decide) (by decide) rfl ?_
            refine x_iload eX2_measure_81 rfl ?_
            refine x_iconst (v := nI 4) eX2_measure_83 (by decide) ?_
            first | refine x_iaddN eX2_measure_84 ?_ | refine x_iadd eX2_measure_84 ?_
            refine x_iload eX2_measure_85 rfl ?_
            first | refine x_iaddN eX2_measure_87 ?_ | refine x_iadd eX2_measure_87 ?_
            refine s_lald eX2_measure_88 rfl (by decide) rfl (show _ < 1608 by omega) ?_
            rw [r35, show 2 * c ((k + 1) % n) * 4 + 4 + j = 8 * c ((k + 1) % n) + 4 + j by omega, qd.2.1]
            refine x_lmul eX2_measure_89 ?_
            rw [lI_mul]
            refine x_aload_n eX2_measure_90 rfl ?_
            refine s_getR (k := 35) eX2_measure_91 fX2_19 rfl (by decide) (by decide) rfl ?_
            refine x_iload eX2_measure_94 rfl ?_
            refine x_iload eX2_measure_96 rfl ?_
            first | refine x_iaddN eX2_measure_98 ?_ | refine x_iadd eX2_measure_98 ?_
            refine s_lald eX2_measure_99 rfl (by decide) rfl (show _ < 1608 by omega) ?_
            rw [r35, show 2 * c ((k + 1) % n) * 4 + i = 8 * c ((k + 1) % n) + i by omega, qb.1.1]
            refine x_aload_n eX2_measure_100 rfl ?_
            refine s_getR (k := 35) eX2_measure_101 fX2_19 rfl (by decide) (by decide) rfl ?_
            refine x_iload eX2_measure_104 rfl ?_
            refine x_iconst (v := nI 4) eX2_measure_106 (by decide) ?_
            first | refine x_iaddN eX2_measure_107 ?_ | refine x_iadd eX2_measure_107 ?_
            refine x_iload eX2_measure_108 rfl ?_
            first | refine x_iaddN eX2_measure_110 ?_ | refine x_iadd eX2_measure_110 ?_
            refine s_lald eX2_measure_111 rfl (by decide) rfl (show _ < 1608 by omega) ?_
            rw [r35, show 2 * c (k % n) * 4 + 4 + j = 8 * c (k % n) + 4 + j by omega, qc.2.1]
            refine x_lmul eX2_measure_112 ?_
            rw [lI_mul]
            refine x_lsub eX2_measure_113 ?_
            rw [lI_sub]
            refine x_ladd eX2_measure_114 ?_
            rw [lI_add]
            refine s_last eX2_measure_115 (kd_col hv0) (show _ < 365 by omega) rfl (by rw [ln_col hv0]; omega) ?_
            refine x_iinc (lv' := [_, _, _, _, _, _, _, _]) eX2_measure_116 rfl (by first | exact nI_inc _ | exact rfl) (by decide) rfl ?_
            refine x_goto eX2_measure_119 ?_
            refine x_pick [0, 1, 2, 3, 4, 5, 6, 7] rfl ?_
            exact ihj (j + 1) (by omega) _ (colJ_step hx2 hF hh hb (by omega) (by decide) (by generalize fa i * gb j = u1 at *; generalize fb i * ga j = u2 at *; omega))
      have outer : ∀ m i, i + m = 4 → ∀ S2, colJ S (238 + 2 * v) fa fb gb ga (sumZ (arf (vr P c n)) k) (2 ^ 53) (16 * k) i 0 S2 → XP mX2_measure 41 [(6, .int (nI i)), (5, .int (nI (2 * c ((k + 1) % n) * 4))), (4, .int (nI (2 * c (k % n) * 4))), (3, .int (nI k)), (0, .ref 32), (1, .ref (45 + 2 * r)), (2, .ref (237 + 2 * v))] [] (xwS S2) (sQ (fun x S' => x = none ∧ Lx [238 + 2 * v] S S' ∧ wid S' v (are (vr P c n) n))) := by
        intro m
        induction m with
        | zero =>
          intro i hi S2 h2
          obtain rfl : i = 4 := by omega
          obtain ⟨hx2, F, hF, hh, hb⟩ := h2
          have e1 : hv (2 ^ 26) F 0 8 = sumZ (arf (vr P c n)) (k + 1) := by
            rw [acc_end hh, va, vb, wa, wb]
            show _ = sumZ (arf (vr P c n)) k + arf (vr P c n) k
            unfold arf vr
            grind
          refine x_iload eX2_measure_41 rfl ?_
          refine x_iconst (v := nI 4) eX2_measure_43 (by decide) ?_
          refine x_icmp_geN eX2_measure_44 (by omega) (by omega) (fun c_44 => ?_) (fun c_44 => ?_)
          · refine x_iinc (lv' := [_, _, _, _, _, _, _]) eX2_measure_128 rfl (by first | exact nI_inc _ | exact rfl) (by decide) rfl ?_
            refine x_goto eX2_measure_131 ?_
            refine x_pick [0, 4, 5, 6] rfl ?_
            refine oh (k + 1) (by omega) _ ⟨hx2, F, hF, e1, fun k2 hk2 => by have := hb k2 hk2; omega⟩
          · omega
        | succ m ihi =>
          intro i hi S2 h2
          refine x_iload eX2_measure_41 rfl ?_
          refine x_iconst (v := nI 4) eX2_measure_43 (by decide) ?_
          refine x_icmp_geN eX2_measure_44 (by omega) (by omega) (fun c_44 => ?_) (fun c_44 => ?_)
          · omega
          · refine x_iconst (v := nI 0) eX2_measure_47 (by decide) ?_
            refine x_istore (lv' := [_, _, _, _, _, _, _, _]) eX2_measure_48 (by decide) rfl ?_
            refine x_pick [0, 1, 2, 3, 4, 5, 6, 7] rfl ?_
            exact inner i (by omega) (fun S3 h3 => ihi (i + 1) (by omega) S3 h3) 4 0 rfl S2 h2
      refine x_iload_n eX2_measure_6 rfl ?_
      refine x_aload_n eX2_measure_7 rfl ?_
      refine s_geti eX2_measure_8 fX2_102 (kd_ring h.1.1) (show _ < 365 by omega) (by decide) ?_
      rw [es]
      refine x_icmp_geN eX2_measure_11 (by omega) (by omega) (fun c_11 => ?_) (fun c_11 => ?_)
      · omega
      · refine x_iconst (v := nI 2) eX2_measure_14 (by decide) ?_
        refine x_aload_n eX2_measure_15 rfl ?_
        refine x_iload_n eX2_measure_16 rfl ?_
        refine s_callV1 (As := [_]) eX2_measure_17 kX2_107 ⟨by decide, by decide⟩ (kd_ring h.1.1) (by decide) (show _ < 365 by omega) rfl rfl (Nat.le_of_ble_eq_true rfl) (Nat.le_of_ble_eq_true rfl) (sp_X4_around _ hr1.1 h.2.1 (by omega)) (fun S_17 h_17 => ?_)
        have h_17 := h_17.symm
        subst h_17
        first | refine x_imulN eX2_measure_20 ?_ | refine x_imul eX2_measure_20 ?_
        refine x_iconst (v := nI 4) eX2_measure_21 (by decide) ?_
        first | refine x_imulN eX2_measure_22 ?_ | refine x_imul eX2_measure_22 ?_
        refine x_istore (lv' := [_, _, _, _, _]) eX2_measure_23 (by decide) rfl ?_
        refine x_iconst (v := nI 2) eX2_measure_25 (by decide) ?_
        refine x_aload_n eX2_measure_26 rfl ?_
        refine x_iload_n eX2_measure_27 rfl ?_
        refine x_iconst (v := nI 1) eX2_measure_28 (by decide) ?_
        first | refine x_iaddN eX2_measure_29 ?_ | refine x_iadd eX2_measure_29 ?_
        refine s_callV1 (As := [_]) eX2_measure_30 kX2_107 ⟨by decide, by decide⟩ (kd_ring h.1.1) (by decide) (show _ < 365 by omega) rfl rfl (Nat.le_of_ble_eq_true rfl) (Nat.le_of_ble_eq_true rfl) (sp_X4_around _ hr1.1 h.2.1 (by omega)) (fun S_30 h_30 => ?_)
        have h_30 := h_30.symm
        subst h_30
        first | refine x_imulN eX2_measure_33 ?_ | refine x_imul eX2_measure_33 ?_
        refine x_iconst (v := nI 4) eX2_measure_34 (by decide) ?_
        first | refine x_imulN eX2_measure_35 ?_ | refine x_imul eX2_measure_35 ?_
        refine x_istore (lv' := [_, _, _, _, _, _]) eX2_measure_36 (by decide) rfl ?_
        refine x_iconst (v := nI 0) eX2_measure_38 (by decide) ?_
        refine x_istore (lv' := [_, _, _, _, _, _, _]) eX2_measure_39 (by decide) rfl ?_
        refine x_pick [0, 1, 2, 3, 4, 5, 6] rfl ?_
        refine outer 4 0 rfl _ ⟨hx, F, hF, ?_, fun k2 hk2 => by have := hb k2 hk2; omega⟩
        rw [hh]; exact acc_0 _ _ _ _ _
  show XP _ _ [_, _, _] _ _ _
  refine x_aload_n eX2_measure_0 rfl ?_
  refine s_callV0 (As := []) eX2_measure_1 kX2_72 ⟨by decide, by decide⟩ (kd_wide hv0) (by decide) (show _ < 365 by omega) rfl rfl (Nat.le_of_ble_eq_true rfl) (Nat.le_of_ble_eq_true rfl) (sp_X7_clear hv0 S) (fun S_1 h_1 => ?_)
  refine x_iconst (v := nI 0) eX2_measure_4 (by decide) ?_
  refine x_istore_n (lv' := [_, _, _, _]) eX2_measure_5 (by decide) rfl ?_
  refine x_pick [0, 1, 2, 3] rfl ?_
  refine loop n 0 (by omega) _ ⟨by rw [h_1]; exact Lx.set _ _ (by simp), fun _ => 0, fun k hk => by rw [h_1, setL_at, if_pos hk]; rfl, ?_, fun k hk => ⟨by show _ ≤ (0 : Int); omega, by show (0 : Int) ≤ _; omega⟩⟩
  simp [hv, sumZ]
