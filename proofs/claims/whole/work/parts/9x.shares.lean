/-! ===== quota: shares cut; the class's side ===== -/
def btN (k : Nat) : Nat := 512 / 2 ^ k
theorem bt_pos : ∀ k, k < 10 → 0 < btN k := by decide
theorem bt_10 : btN 10 = 0 := by decide
theorem bt_le (k : Nat) : btN k ≤ 512 := Nat.div_le_self _ _
theorem bt_s (k : Nat) : btN k / 2 = btN (k + 1) := by
  unfold btN
  rw [Nat.div_div_eq_div_mul, Nat.pow_succ]
/-- n times A by W, cut bit by bit: the rest, the share -/
def ctK (W : Int) (n : Nat) (A : Int) : Nat → Int × Nat
  | 0 => ((n : Int) * A, 0)
  | k + 1 => if 0 ≤ (ctK W n A k).1 - (btN k : Int) * W then ((ctK W n A k).1 - (btN k : Int) * W, (ctK W n A k).2 + btN k) else ctK W n A k
theorem ct_y {W A : Int} {n k : Nat} (h : 0 ≤ (ctK W n A k).1 - (btN k : Int) * W) : ctK W n A (k + 1) = ((ctK W n A k).1 - (btN k : Int) * W, (ctK W n A k).2 + btN k) := if_pos h
theorem ct_n {W A : Int} {n k : Nat} (h : ¬ 0 ≤ (ctK W n A k).1 - (btN k : Int) * W) : ctK W n A (k + 1) = ctK W n A k := if_neg h
theorem ct_4 (W A : Int) (n : Nat) : ∀ k, ctK (4 * W) n (4 * A) k = (4 * (ctK W n A k).1, (ctK W n A k).2) := by
  intro k
  induction k with
  | zero =>
    show ((n : Int) * (4 * A), 0) = (4 * ((n : Int) * A), 0)
    rw [Int.mul_left_comm]
  | succ k ih =>
    have e : (ctK (4 * W) n (4 * A) k).1 - (btN k : Int) * (4 * W) = 4 * ((ctK W n A k).1 - (btN k : Int) * W) := by
      rw [ih, Int.mul_left_comm]
      show 4 * _ - 4 * _ = _
      omega
    by_cases q : 0 ≤ (ctK W n A k).1 - (btN k : Int) * W
    · rw [ct_y q, ct_y (by rw [e]; omega), e, ih]
    · rw [ct_n q, ct_n (by rw [e]; omega), ih]
theorem bt_mul {W : Int} {B : Int} (h : -B ≤ W ∧ W ≤ B) (k : Nat) : -(512 * B) ≤ (btN k : Int) * W ∧ (btN k : Int) * W ≤ 512 * B := mulB (A := 512) (by have := bt_le k; omega) h
theorem ct_bd {W A : Int} {n : Nat} (hn : n ≤ 1000) (hA : -(2 ^ 210) ≤ A ∧ A ≤ 2 ^ 210) (hW : -(2 ^ 214) ≤ W ∧ W ≤ 2 ^ 214) : ∀ k, k ≤ 10 → (-(2 ^ 220 + k * 2 ^ 223) ≤ (ctK W n A k).1 ∧ (ctK W n A k).1 ≤ 2 ^ 220 + k * 2 ^ 223) ∧ (ctK W n A k).2 ≤ 512 * k := by
  intro k
  induction k with
  | zero =>
    intro _
    have := mulB (a := (n : Int)) (b := A) (A := 1000) (B := 2 ^ 210) (by omega) hA
    refine ⟨?_, Nat.le_refl _⟩
    show -_ ≤ (n : Int) * A ∧ (n : Int) * A ≤ _
    generalize (n : Int) * A = x at *
    omega
  | succ k ih =>
    intro hk
    obtain ⟨i1, i2⟩ := ih (by omega)
    have b := bt_mul hW k
    have bl := bt_le k
    by_cases q : 0 ≤ (ctK W n A k).1 - (btN k : Int) * W
    · rw [ct_y q]
      refine ⟨?_, by show (ctK W n A k).2 + btN k ≤ _; omega⟩
      show -_ ≤ (ctK W n A k).1 - (btN k : Int) * W ∧ (ctK W n A k).1 - (btN k : Int) * W ≤ _
      generalize (btN k : Int) * W = x at *
      omega
    · rw [ct_n q]
      omega
theorem ct_228 {W A : Int} {n : Nat} (hn : n ≤ 1000) (hA : -(2 ^ 210) ≤ A ∧ A ≤ 2 ^ 210) (hW : -(2 ^ 214) ≤ W ∧ W ≤ 2 ^ 214) (k : Nat) (hk : k ≤ 10) : (-(2 ^ 228) ≤ (ctK W n A k).1 ∧ (ctK W n A k).1 ≤ 2 ^ 228) ∧ (ctK W n A k).2 ≤ 5120 := by
  have := ct_bd hn hA hW k hk
  omega
theorem hv_can26 (V : Int) : hv (2 ^ 26) (can (2 ^ 26) 8 V) 0 8 = V := by
  rcases hv_can (B := 2 ^ 26) (n := 8) V 7 0 (by omega) with h1 | h1
  · simpa using h1
  · exact absurd (by decide) h1
theorem can26_bd {V : Int} (h : -(2 ^ 228) ≤ V ∧ V ≤ 2 ^ 228) {i : Nat} (hi : i < 8) : -(2 ^ 46) ≤ can (2 ^ 26) 8 V i ∧ can (2 ^ 26) 8 V i ≤ 2 ^ 46 := by
  by_cases q : i + 1 < 8
  · have := can_lo26 (V := V) q
    omega
  · rw [can_hi (by omega), show i = 7 by omega, show ((2 : Int) ^ 26) ^ 7 = 2 ^ 182 by decide]
    omega
theorem wid.ne {S S' : xS} {v : Nat} {V : Int} (h : wid S v V) (e : S'.2.2.1 (238 + 2 * v) = S.2.2.1 (238 + 2 * v)) : wid S' v V := fun i hi => by rw [e]; exact h i hi
theorem neg_i2l {k : Nat} (h : k < 2 ^ 31) : (-(nI k)).toInt64 = lI (-(k : Int)) := by
  rw [← Int64.toInt_inj, lI_toInt ⟨by omega, by omega⟩, Int32.toInt_toInt64, sb_negT h]

theorem sp_X6_cutShare (S : xS) {v n : Nat} {A W : Int} (hv60 : v < 60) (hA : wid S v A) (hW : wid S 60 W) (n1000 : n ≤ 1000) (bA : -(2 ^ 210) ≤ A ∧ A ≤ 2 ^ 210) (bW : -(2 ^ 214) ≤ W ∧ W ≤ 2 ^ 214) : Sp mX6_cutShare [.ref 39, .ref (237 + 2 * v), .int (nI n)] S (fun x S' => x = some (.int (nI (ctK W n A 10).2)) ∧ Lx [238 + 2 * v, 360] S S' ∧ wid S' v (ctK W n A 10).1) := by
  have b10 : ∀ k, k = 10 → btN k = 0 := fun k e => by rw [e]; exact bt_10
  have loop : ∀ μ k, k + μ = 10 → ∀ S1, (Lx [238 + 2 * v, 360] S S1 ∧ wid S1 v (ctK W n A k).1) → XP mX6_cutShare 33 [(4, .int (nI (btN k))), (3, .int (nI (ctK W n A k).2)), (0, .ref 39), (1, .ref (237 + 2 * v)), (2, .int (nI n))] [] (xwS S1) (sQ (fun x S' => x = some (.int (nI (ctK W n A 10).2)) ∧ Lx [238 + 2 * v, 360] S S' ∧ wid S' v (ctK W n A 10).1)) := by
    intro μ
    induction μ with
    | zero =>
      intro k hk S1 h1
      obtain ⟨hx, hR⟩ := h1
      have hW1 : wid S1 60 W := hW.ne (hx.2.2.2 _ (by simp; omega))
      have bl := bt_le k
      have b0 := b10 k
      refine x_iload eX6_cutShare_33 rfl ?_
      refine x_if_leN eX6_cutShare_35 (by omega) (fun c_35 => ?_) (fun c_35 => ?_)
      · refine x_iload_n eX6_cutShare_100 rfl ?_
        exact s_iret eX6_cutShare_101 rfl rfl ⟨by rw [show k = 10 by omega], hx, by rw [show k = 10 by omega] at hR; exact hR⟩
      · omega
    | succ μ ih =>
      intro k hk S1 h1
      obtain ⟨hx, hR⟩ := h1
      have hW1 : wid S1 60 W := hW.ne (hx.2.2.2 _ (by simp; omega))
      have bl := bt_le k
      have bd := ct_228 n1000 bA bW k (by omega)
      have bp := bt_pos k (by omega)
      have fin_n : ctK W n A (k + 1) = ctK W n A k → ∀ S2, Lx [238 + 2 * v, 360] S S2 → wid S2 v (ctK W n A k).1 → XP mX6_cutShare 33 [(4, .int (nI (btN (k + 1)))), (3, .int (nI (ctK W n A k).2)), (0, .ref 39), (1, .ref (237 + 2 * v)), (2, .int (nI n))] [] (xwS S2) (sQ (fun x S' => x = some (.int (nI (ctK W n A 10).2)) ∧ Lx [238 + 2 * v, 360] S S' ∧ wid S' v (ctK W n A 10).1)) := fun e S2 x r => by have := ih (k + 1) (by omega) S2 ⟨x, by rw [e]; exact r⟩; rw [e] at this; exact this
      have fin_y : ctK W n A (k + 1) = ((ctK W n A k).1 - (btN k : Int) * W, (ctK W n A k).2 + btN k) → ∀ S2, Lx [238 + 2 * v, 360] S S2 → wid S2 v ((ctK W n A k).1 - (btN k : Int) * W) → XP mX6_cutShare 33 [(4, .int (nI (btN (k + 1)))), (3, .int (nI ((ctK W n A k).2 + btN k))), (0, .ref 39), (1, .ref (237 + 2 * v)), (2, .int (nI n))] [] (xwS S2) (sQ (fun x S' => x = some (.int (nI (ctK W n A 10).2)) ∧ Lx [238 + 2 * v, 360] S S' ∧ wid S' v (ctK W n A 10).1)) := fun e S2 x r => by have := ih (k + 1) (by omega) S2 ⟨x, by rw [e]; exact r⟩; rw [e] at this; exact this
      refine x_iload eX6_cutShare_33 rfl ?_
      refine x_if_leN eX6_cutShare_35 (by omega) (fun c_35 => ?_) (fun c_35 => ?_)
      · omega
      · refine x_aload_n eX6_cutShare_38 rfl ?_
        refine s_getR (k := 359) eX6_cutShare_39 fX6_22 rfl (by decide) (by decide) rfl ?_
        refine x_aload_n eX6_cutShare_42 rfl ?_
        refine s_callV0 (As := [_]) eX6_cutShare_43 kX6_72 ⟨by decide, by decide⟩ rfl (by decide) (by decide) rfl rfl (Nat.le_of_ble_eq_true rfl) (Nat.le_of_ble_eq_true rfl) (sp_X7_copy (v := 61) (w := v) (by decide) (by omega) (by omega) _) (fun S_43 h_43 => ?_)
        have m1 : wid S_43 61 (ctK W n A k).1 := fun i hi => by rw [h_43, setL_at, if_pos hi]; exact hR i hi
        have x1 : Lx [238 + 2 * v, 360] S1 S_43 := by rw [h_43]; exact Lx.set _ _ (by simp)
        have w1 : wid S_43 60 W := hW1.ne (by rw [h_43]; exact setL_ne _ _ (by decide))
        have r1 : wid S_43 v (ctK W n A k).1 := hR.ne (by rw [h_43]; exact setL_ne _ _ (by omega))
        refine x_aload_n eX6_cutShare_46 rfl ?_
        refine s_getR (k := 359) eX6_cutShare_47 fX6_22 rfl (by decide) (by decide) rfl ?_
        refine x_aload_n eX6_cutShare_50 rfl ?_
        refine s_getR (k := 357) eX6_cutShare_51 fX6_18 rfl (by decide) (by decide) rfl ?_
        refine x_iload eX6_cutShare_54 rfl ?_
        refine x_ineg eX6_cutShare_56 ?_
        refine x_i2l eX6_cutShare_57 ?_
        rw [neg_i2l (show btN k < 2 ^ 31 by omega)]
        refine s_callV0 (As := [_, _]) eX6_cutShare_58 kX6_57 ⟨by decide, by decide⟩ rfl (by decide) (by decide) rfl rfl (Nat.le_of_ble_eq_true rfl) (Nat.le_of_ble_eq_true rfl) (sp_X7_plus (v := 61) (w := 60) (by decide) (by decide) (by decide) _ _) (fun S_58 h_58 => ?_)
        have m2 : ∀ i, i < 8 → S_58.2.2.1 (238 + 2 * 61) i = lI (can (2 ^ 26) 8 (ctK W n A k).1 i + -(btN k : Int) * can (2 ^ 26) 8 W i) := fun i hi => by rw [h_58, setL_at, if_pos hi, m1 i hi, w1 i hi, lI_mul, lI_add]
        have x2 : Lx [238 + 2 * v, 360] S_43 S_58 := by rw [h_58]; exact Lx.set _ _ (by simp)
        have r2 : wid S_58 v (ctK W n A k).1 := r1.ne (by rw [h_58]; exact setL_ne _ _ (by omega))
        refine x_aload_n eX6_cutShare_61 rfl ?_
        refine s_getR (k := 359) eX6_cutShare_62 fX6_22 rfl (by decide) (by decide) rfl ?_
        refine s_callV0 (As := []) eX6_cutShare_65 kX6_61 ⟨by decide, by decide⟩ rfl (by decide) (by decide) rfl rfl (Nat.le_of_ble_eq_true rfl) (Nat.le_of_ble_eq_true rfl) (sp_X7_carry (v := 61) (by decide) _ _ m2 (fun i hi => by have c1 := can26_bd bd.1 hi; have c2 := can26_bd (V := W) (by omega) hi; have c3 := bt_mul c2 k; rw [Int.neg_mul]; generalize (btN k : Int) * can (2 ^ 26) 8 W i = x at *; omega)) (fun S_65 h_65 => ?_)
        have m3 : wid S_65 61 ((ctK W n A k).1 - (btN k : Int) * W) := fun i hi => by rw [h_65, setL_at, if_pos hi, hv_lin, hv_can26, hv_can26, Int.neg_mul, ← Int.sub_eq_add_neg]
        have x3 : Lx [238 + 2 * v, 360] S_58 S_65 := by rw [h_65]; exact Lx.set _ _ (by simp)
        have r3 : wid S_65 v (ctK W n A k).1 := r2.ne (by rw [h_65]; exact setL_ne _ _ (by omega))
        have bm := bt_mul bW k
        refine x_aload_n eX6_cutShare_68 rfl ?_
        refine s_getR (k := 359) eX6_cutShare_69 fX6_22 rfl (by decide) (by decide) rfl ?_
        refine s_callV1 (As := []) eX6_cutShare_72 kX6_76 ⟨by decide, by decide⟩ rfl (by decide) (by decide) rfl rfl (Nat.le_of_ble_eq_true rfl) (Nat.le_of_ble_eq_true rfl) (sp_X7_sign (v := 61) (by decide) _ _ m3 (fun i hi => by have c1 := can26_bd (V := (ctK W n A k).1 - (btN k : Int) * W) (by have := ct_bd n1000 bA bW k (by omega); generalize (btN k : Int) * W = x at *; omega) hi; omega)) (fun S_72 h_72 => ?_)
        have h_72 := h_72.symm
        subst h_72
        rw [hv_can26]
        refine x_if_ltS eX6_cutShare_75 (fun c_75 => ?_) (fun c_75 => ?_)
        · have en := ct_n (Int.not_le.mpr c_75)
          refine x_iload eX6_cutShare_91 rfl ?_
          refine x_iconst (v := nI 2) eX6_cutShare_93 (by decide) ?_
          refine x_idivN eX6_cutShare_94 (by omega) (by omega) (by omega) ?_
          rw [bt_s]
          refine x_istore (lv' := [_, _, _, _, _]) eX6_cutShare_95 (by decide) rfl ?_
          refine x_goto eX6_cutShare_97 ?_
          refine x_pick [0, 1, 2, 3, 4] rfl ?_
          first
            | exact fin_n en _ (((hx.tr x1).tr x2).tr x3) r3
            | exact fin_y ey _ ((((hx.tr x1).tr x2).tr x3).tr x4) r4
        · have ey := ct_y c_75
          refine x_aload_n eX6_cutShare_78 rfl ?_
          refine x_aload_n eX6_cutShare_79 rfl ?_
          refine s_getR (k := 359) eX6_cutShare_80 fX6_22 rfl (by decide) (by decide) rfl ?_
          refine s_callV0 (As := [_]) eX6_cutShare_83 kX6_72 ⟨by decide, by decide⟩ (kd_wide (show v < 64 by omega)) (by decide) (show _ < 365 by omega) rfl rfl (Nat.le_of_ble_eq_true rfl) (Nat.le_of_ble_eq_true rfl) (sp_X7_copy (v := v) (w := 61) (by omega) (by decide) (by omega) _) (fun S_83 h_83 => ?_)
          have r4 : wid S_83 v ((ctK W n A k).1 - (btN k : Int) * W) := fun i hi => by rw [h_83, setL_at, if_pos hi]; exact m3 i hi
          have x4 : Lx [238 + 2 * v, 360] S_65 S_83 := by rw [h_83]; exact Lx.set _ _ (by simp)
          refine x_iload_n eX6_cutShare_86 rfl ?_
          refine x_iload eX6_cutShare_87 rfl ?_
          first | refine x_iaddN eX6_cutShare_89 ?_ | refine x_iadd eX6_cutShare_89 ?_
          refine x_istore_n (lv' := [_, _, _, _, _]) eX6_cutShare_90 (by decide) rfl ?_
          refine x_iload eX6_cutShare_91 rfl ?_
          refine x_iconst (v := nI 2) eX6_cutShare_93 (by decide) ?_
          refine x_idivN eX6_cutShare_94 (by omega) (by omega) (by omega) ?_
          rw [bt_s]
          refine x_istore (lv' := [_, _, _, _, _]) eX6_cutShare_95 (by decide) rfl ?_
          refine x_goto eX6_cutShare_97 ?_
          refine x_pick [0, 1, 2, 3, 4] rfl ?_
          first
            | exact fin_n en _ (((hx.tr x1).tr x2).tr x3) r3
            | exact fin_y ey _ ((((hx.tr x1).tr x2).tr x3).tr x4) r4
  show XP _ _ [_, _, _] _ _ _
  refine x_aload_n eX6_cutShare_0 rfl ?_
  refine s_getR (k := 359) eX6_cutShare_1 fX6_22 rfl (by decide) (by decide) rfl ?_
  refine x_aload_n eX6_cutShare_4 rfl ?_
  refine s_callV0 (As := [_]) eX6_cutShare_5 kX6_72 ⟨by decide, by decide⟩ rfl (by decide) (by decide) rfl rfl (Nat.le_of_ble_eq_true rfl) (Nat.le_of_ble_eq_true rfl) (sp_X7_copy (v := 61) (w := v) (by decide) (by omega) (by omega) _) (fun S_5 h_5 => ?_)
  have m1 : wid S_5 61 A := fun i hi => by rw [h_5, setL_at, if_pos hi]; exact hA i hi
  have x1 : Lx [238 + 2 * v, 360] S S_5 := by rw [h_5]; exact Lx.set _ _ (by simp)
  refine x_aload_n eX6_cutShare_8 rfl ?_
  refine s_callV0 (As := []) eX6_cutShare_9 kX6_28 ⟨by decide, by decide⟩ (kd_wide (show v < 64 by omega)) (by decide) (show _ < 365 by omega) rfl rfl (Nat.le_of_ble_eq_true rfl) (Nat.le_of_ble_eq_true rfl) (sp_X7_clear (v := v) (by omega) _) (fun S_9 h_9 => ?_)
  have m2 : wid S_9 61 A := m1.ne (by rw [h_9]; exact setL_ne _ _ (by omega))
  have x2 : Lx [238 + 2 * v, 360] S_5 S_9 := by rw [h_9]; exact Lx.set _ _ (by simp)
  have z2 : ∀ i, i < 8 → S_9.2.2.1 (238 + 2 * v) i = lI 0 := fun i hi => by rw [h_9, setL_at, if_pos hi]; rfl
  refine x_aload_n eX6_cutShare_12 rfl ?_
  refine x_aload_n eX6_cutShare_13 rfl ?_
  refine s_getR (k := 359) eX6_cutShare_14 fX6_22 rfl (by decide) (by decide) rfl ?_
  refine x_iload_n eX6_cutShare_17 rfl ?_
  refine x_i2l eX6_cutShare_18 ?_
  rw [i2l_nI (show n < 2 ^ 31 by omega)]
  refine s_callV0 (As := [_, _]) eX6_cutShare_19 kX6_57 ⟨by decide, by decide⟩ (kd_wide (show v < 64 by omega)) (by decide) (show _ < 365 by omega) rfl rfl (Nat.le_of_ble_eq_true rfl) (Nat.le_of_ble_eq_true rfl) (sp_X7_plus (v := v) (w := 61) (by omega) (by decide) (by omega) _ _) (fun S_19 h_19 => ?_)
  have m3 : ∀ i, i < 8 → S_19.2.2.1 (238 + 2 * v) i = lI ((fun _ => (0 : Int)) i + (n : Int) * can (2 ^ 26) 8 A i) := fun i hi => by rw [h_19, setL_at, if_pos hi, z2 i hi, m2 i hi, lI_mul, lI_add]
  have x3 : Lx [238 + 2 * v, 360] S_9 S_19 := by rw [h_19]; exact Lx.set _ _ (by simp)
  refine x_aload_n eX6_cutShare_22 rfl ?_
  refine s_callV0 (As := []) eX6_cutShare_23 kX6_61 ⟨by decide, by decide⟩ (kd_wide (show v < 64 by omega)) (by decide) (show _ < 365 by omega) rfl rfl (Nat.le_of_ble_eq_true rfl) (Nat.le_of_ble_eq_true rfl) (sp_X7_carry (v := v) (by omega) _ _ m3 (fun i hi => by have c1 := can26_bd (V := A) (by omega) hi; have c2 := mulB (a := (n : Int)) (A := 1000) (by omega) c1; show -_ ≤ 0 + (n : Int) * can (2 ^ 26) 8 A i ∧ 0 + (n : Int) * can (2 ^ 26) 8 A i ≤ _; generalize (n : Int) * can (2 ^ 26) 8 A i = x at *; omega)) (fun S_23 h_23 => ?_)
  have z8 : hv (2 ^ 26) (fun _ => (0 : Int)) 0 8 = 0 := by decide
  have m4 : wid S_23 v (ctK W n A 0).1 := fun i hi => by rw [h_23, setL_at, if_pos hi, hv_lin, hv_can26, z8, Int.zero_add]; rfl
  have x4 : Lx [238 + 2 * v, 360] S_19 S_23 := by rw [h_23]; exact Lx.set _ _ (by simp)
  refine x_iconst (v := nI 0) eX6_cutShare_26 (by decide) ?_
  refine x_istore_n (lv' := [_, _, _, _]) eX6_cutShare_27 (by decide) rfl ?_
  refine x_sipush (v := nI 512) eX6_cutShare_28 (by decide) ?_
  refine x_istore (lv' := [_, _, _, _, _]) eX6_cutShare_31 (by decide) rfl ?_
  refine x_pick [0, 1, 2, 3, 4] rfl ?_
  exact loop 10 0 (by omega) _ ⟨((x1.tr x2).tr x3).tr x4, m4⟩
/-- all rows of wides -/
def wps : List Nat := List.range' 238 127
theorem wp_in {p : Nat} (h1 : 238 ≤ p) (h2 : p < 365) : p ∈ wps := by unfold wps; rw [List.mem_range'_1]; omega
theorem wp_out {p : Nat} (h : p < 238) : p ∉ wps := by unfold wps; rw [List.mem_range'_1]; omega
theorem wp_31 : ∀ p, p ∈ wps → 31 ≤ p := fun p h => by unfold wps at h; rw [List.mem_range'_1] at h; omega
def act (X : LM) (l : Int32) (q : Nat) : Prop := xTh X q = true ∧ nI (xLy X q) = l
noncomputable def totA (X : LM) (l : Int32) : Nat → Int
  | 0 => 0
  | j + 1 => totA X l j + @ite _ (act X l j) (Classical.propDecidable _) (xAr X j) 0
theorem tot_y {X : LM} {l : Int32} {j : Nat} (h : act X l j) : totA X l (j + 1) = totA X l j + xAr X j := by
  show totA X l j + _ = _
  rw [if_pos h]
theorem tot_n {X : LM} {l : Int32} {j : Nat} (h : ¬ act X l j) : totA X l (j + 1) = totA X l j := by
  show totA X l j + _ = _
  rw [if_neg h, Int.add_zero]
theorem tot_bd {X : LM} (w : wf X) (l : Int32) : ∀ j : Nat, -((j : Int) * 2 ^ 205) ≤ totA X l j ∧ totA X l j ≤ (j : Int) * 2 ^ 205 := by
  intro j
  induction j with
  | zero => rw [show ((0 : Nat) : Int) * 2 ^ 205 = 0 from Int.zero_mul _]; exact ⟨Int.le_refl _, Int.le_refl _⟩
  | succ j ih =>
    have e : ((j + 1 : Nat) : Int) * 2 ^ 205 = (j : Int) * 2 ^ 205 + 2 ^ 205 := by omega
    rw [e]
    by_cases q : act X l j
    · rw [tot_y q]
      have := xAr_bd w q.1
      omega
    · rw [tot_n q]
      omega
theorem tot_212 {X : LM} (w : wf X) (l : Int32) {j : Nat} (hj : j ≤ 60) : -(2 ^ 211) ≤ totA X l j ∧ totA X l j ≤ 2 ^ 211 := by
  have := tot_bd w l j
  omega

theorem sp_X6_weigh {S : xS} {X : LM} (w : wf X) (h : RC S X) (l : Int32) : Sp mX6_weigh [.ref 39, .ref 37, .ref 32, .int l] S (fun r S' => r = none ∧ Lx wps S S' ∧ wid S' 60 (totA X l (xNp X)) ∧ ∀ q, q < xNp X → act X l q → wid S' q (xAr X q)) := by
  have n60 : xNp X ≤ 60 := w.2.2.2.2.1.1
  have loop : ∀ μ j, j + μ = (xNp X) → ∀ S1, (Lx wps S S1 ∧ (∃ F : Nat → Int, (∀ i, i < 8 → S1.2.2.1 (238 + 2 * 60) i = lI (F i)) ∧ hv (2 ^ 26) F 0 8 = totA X l j ∧ ∀ i, i < 8 → -((j : Int) * 2 ^ 46) ≤ F i ∧ F i ≤ (j : Int) * 2 ^ 46) ∧ ∀ q, q < j → act X l q → wid S1 q (xAr X q)) → XP mX6_weigh 10 [(4, .int (nI j)), (0, .ref 39), (1, .ref 37), (2, .ref 32), (3, .int l)] [] (xwS S1) (sQ (fun r S' => r = none ∧ Lx wps S S' ∧ wid S' 60 (totA X l (xNp X)) ∧ ∀ q, q < xNp X → act X l q → wid S' q (xAr X q))) := by
    intro μ
    induction μ with
    | zero =>
      intro j hk S1 h1
      obtain ⟨hx, ⟨F, hF, hh, hb⟩, hr⟩ := h1
      have g := RC_L h hx (wp_out (by decide)) (wp_out (by decide))
      have t := g.tab w
      refine x_iload eX6_weigh_10 rfl ?_
      refine x_aload_n eX6_weigh_12 rfl ?_
      refine s_geti eX6_weigh_13 fX6_31 rfl (by decide) (by decide) ?_
      rw [t.1]
      refine x_icmp_geN eX6_weigh_16 (by omega) (by omega) (fun c_16 => ?_) (fun c_16 => ?_)
      · refine x_aload_n eX6_weigh_71 rfl ?_
        refine s_getR (k := 357) eX6_weigh_72 fX6_18 rfl (by decide) (by decide) rfl ?_
        refine s_callV0 (As := []) eX6_weigh_75 kX6_61 ⟨by decide, by decide⟩ rfl (by decide) (by decide) rfl rfl (Nat.le_of_ble_eq_true rfl) (Nat.le_of_ble_eq_true rfl) (sp_X7_carry (v := 60) (by decide) _ F hF (fun i hi => by have := hb i hi; omega)) (fun S_75 h_75 => ?_)
        have x1 : Lx wps S1 S_75 := by rw [h_75]; exact Lx.set _ _ (wp_in (by decide) (by decide))
        exact s_vret eX6_weigh_78 rfl ⟨rfl, hx.tr x1, fun i hi => by rw [h_75, setL_at, if_pos hi, hh, show j = xNp X by omega], fun q hq ha => (hr q (by omega) ha).ne (by rw [h_75]; exact setL_ne _ _ (by omega))⟩
      · omega
    | succ μ ih =>
      intro j hk S1 h1
      obtain ⟨hx, ⟨F, hF, hh, hb⟩, hr⟩ := h1
      have g := RC_L h hx (wp_out (by decide)) (wp_out (by decide))
      have t := g.tab w
      refine x_iload eX6_weigh_10 rfl ?_
      refine x_aload_n eX6_weigh_12 rfl ?_
      refine s_geti eX6_weigh_13 fX6_31 rfl (by decide) (by decide) ?_
      rw [t.1]
      refine x_icmp_geN eX6_weigh_16 (by omega) (by omega) (fun c_16 => ?_) (fun c_16 => ?_)
      · omega
      · refine x_aload_n eX6_weigh_19 rfl ?_
        refine x_iload eX6_weigh_20 rfl ?_
        refine x_iload_n eX6_weigh_22 rfl ?_
        refine s_callV1 (As := [_, _]) eX6_weigh_23 kX6_37 ⟨by decide, by decide⟩ rfl (by decide) (by decide) rfl rfl (Nat.le_of_ble_eq_true rfl) (Nat.le_of_ble_eq_true rfl) (sp_X3_isOf t (by omega) _) (fun S_23 h_23 => ?_)
        have h_23 := h_23.symm
        subst h_23
        refine x_if_eqT eX6_weigh_26 (fun c_26 => ?_) (fun c_26 => ?_)
        · have na : ¬ act X l j := fun z => c_26 ⟨by omega, z.1, z.2⟩
          refine x_iinc (lv' := [_, _, _, _, _]) eX6_weigh_65 rfl (by first | exact nI_inc _ | exact rfl) (by decide) rfl ?_
          refine x_goto eX6_weigh_68 ?_
          refine x_pick [0, 1, 2, 3, 4] rfl ?_
          first
            | exact ih (j + 1) (by omega) S1 ⟨hx, ⟨F, hF, by rw [tot_n na]; exact hh, fun i hi => by have := hb i hi; omega⟩, fun q hq ha => by
                by_cases e : q = j
                · subst e; exact absurd ha na
                · exact hr q (by omega) ha⟩
            | exact ih (j + 1) (by omega) S_62 ⟨(hx.tr x1).tr x2, ⟨_, f2, by rw [tot_y ya, hv_lin, hh, hv_can26, Int.one_mul], fun i hi => by
                have := hb i hi
                have := can26_bd (V := xAr X j) (by have := xAr_bd w ya.1; omega) hi
                omega⟩, fun q hq ha => by
                by_cases e : q = j
                · subst e; exact h_47.2.ne (by rw [h_62]; exact setL_ne _ _ (by omega))
                · exact (hr q (by omega) ha).ne (by rw [h_62, setL_ne _ _ (by omega)]; exact h_47.1.2.2.2 _ (by simp; omega))⟩
        · have ya : act X l j := ⟨c_26.2.1, c_26.2.2⟩
          refine x_aload_n eX6_weigh_29 rfl ?_
          refine x_aload_n eX6_weigh_30 rfl ?_
          refine s_getR (k := 38) eX6_weigh_31 fX6_41 rfl (by decide) (by decide) rfl ?_
          refine x_iload eX6_weigh_34 rfl ?_
          refine s_raldR eX6_weigh_36 (by first | exact Or.inl rfl | exact Or.inr rfl) (by decide) rfl (show _ < 60 by omega) (rf_parcels j) ?_
          refine s_getR (k := (45 + 2 * j)) eX6_weigh_37 fX6_45 (kd_parcel (by omega)) (show _ < 365 by omega) (by decide) (rf_parcel (by omega)) ?_
          refine x_aload_n eX6_weigh_40 rfl ?_
          refine s_getR (k := 40) eX6_weigh_41 fX6_11 rfl (by decide) (by decide) rfl ?_
          refine x_iload eX6_weigh_44 rfl ?_
          refine s_raldR eX6_weigh_46 (by first | exact Or.inl rfl | exact Or.inr rfl) (by decide) rfl (show _ < 60 by omega) (rf_rest j) ?_
          refine s_callV0 (As := [_, _]) eX6_weigh_47 kX6_51 ⟨by decide, by decide⟩ rfl (by decide) (by decide) rfl rfl (Nat.le_of_ble_eq_true rfl) (Nat.le_of_ble_eq_true rfl) (c_measure w g (v := j) (by omega) ya.1 (by omega)) (fun S_47 h_47 => ?_)
          have x1 : Lx wps S1 S_47 := h_47.1.mono (fun p hp => by simp at hp; exact wp_in (by omega) (by omega))
          have f1 : ∀ i, i < 8 → S_47.2.2.1 (238 + 2 * 60) i = lI (F i) := fun i hi => by rw [h_47.1.2.2.2 _ (by simp; omega)]; exact hF i hi
          refine x_aload_n eX6_weigh_50 rfl ?_
          refine s_getR (k := 357) eX6_weigh_51 fX6_18 rfl (by decide) (by decide) rfl ?_
          refine x_aload_n eX6_weigh_54 rfl ?_
          refine s_getR (k := 40) eX6_weigh_55 fX6_11 rfl (by decide) (by decide) rfl ?_
          refine x_iload eX6_weigh_58 rfl ?_
          refine s_raldR eX6_weigh_60 (by first | exact Or.inl rfl | exact Or.inr rfl) (by decide) rfl (show _ < 60 by omega) (rf_rest j) ?_
          refine x_lconst (v := lI 1) eX6_weigh_61 (by decide) ?_
          refine s_callV0 (As := [_, _]) eX6_weigh_62 kX6_57 ⟨by decide, by decide⟩ rfl (by decide) (by decide) rfl rfl (Nat.le_of_ble_eq_true rfl) (Nat.le_of_ble_eq_true rfl) (sp_X7_plus (v := 60) (w := j) (by decide) (by omega) (by omega) _ _) (fun S_62 h_62 => ?_)
          have x2 : Lx wps S_47 S_62 := by rw [h_62]; exact Lx.set _ _ (wp_in (by decide) (by decide))
          have f2 : ∀ i, i < 8 → S_62.2.2.1 (238 + 2 * 60) i = lI (F i + 1 * can (2 ^ 26) 8 (xAr X j) i) := fun i hi => by rw [h_62, setL_at, if_pos hi, f1 i hi, h_47.2 i hi, lI_mul, lI_add]
          refine x_iinc (lv' := [_, _, _, _, _]) eX6_weigh_65 rfl (by first | exact nI_inc _ | exact rfl) (by decide) rfl ?_
          refine x_goto eX6_weigh_68 ?_
          refine x_pick [0, 1, 2, 3, 4] rfl ?_
          first
            | exact ih (j + 1) (by omega) S1 ⟨hx, ⟨F, hF, by rw [tot_n na]; exact hh, fun i hi => by have := hb i hi; omega⟩, fun q hq ha => by
                by_cases e : q = j
                · subst e; exact absurd ha na
                · exact hr q (by omega) ha⟩
            | exact ih (j + 1) (by omega) S_62 ⟨(hx.tr x1).tr x2, ⟨_, f2, by rw [tot_y ya, hv_lin, hh, hv_can26, Int.one_mul], fun i hi => by
                have := hb i hi
                have := can26_bd (V := xAr X j) (by have := xAr_bd w ya.1; omega) hi
                omega⟩, fun q hq ha => by
                by_cases e : q = j
                · subst e; exact h_47.2.ne (by rw [h_62]; exact setL_ne _ _ (by omega))
                · exact (hr q (by omega) ha).ne (by rw [h_62, setL_ne _ _ (by omega)]; exact h_47.1.2.2.2 _ (by simp; omega))⟩
  show XP _ _ [_, _, _, _] _ _ _
  refine x_aload_n eX6_weigh_0 rfl ?_
  refine s_getR (k := 357) eX6_weigh_1 fX6_18 rfl (by decide) (by decide) rfl ?_
  refine s_callV0 (As := []) eX6_weigh_4 kX6_28 ⟨by decide, by decide⟩ rfl (by decide) (by decide) rfl rfl (Nat.le_of_ble_eq_true rfl) (Nat.le_of_ble_eq_true rfl) (sp_X7_clear (v := 60) (by decide) _) (fun S_4 h_4 => ?_)
  refine x_iconst (v := nI 0) eX6_weigh_7 (by decide) ?_
  refine x_istore (lv' := [_, _, _, _, _]) eX6_weigh_8 (by decide) rfl ?_
  refine x_pick [0, 1, 2, 3, 4] rfl ?_
  exact loop (xNp X) 0 (by omega) _ ⟨by rw [h_4]; exact Lx.set _ _ (wp_in (by decide) (by decide)), ⟨fun _ => 0, fun i hi => by rw [h_4, setL_at, if_pos hi]; rfl, by show hv (2 ^ 26) (fun _ => (0 : Int)) 0 8 = 0; decide, fun i hi => by show -(((0 : Nat) : Int) * 2 ^ 46) ≤ 0 ∧ 0 ≤ ((0 : Nat) : Int) * 2 ^ 46; decide⟩, fun q hq => by omega⟩
noncomputable def cuN (X : LM) (l : Int32) (n q : Nat) : Nat := (ctK (totA X l (xNp X)) n (xAr X q) 10).2
noncomputable def rsN (X : LM) (l : Int32) (n q : Nat) : Int := (ctK (totA X l (xNp X)) n (xAr X q) 10).1
noncomputable def lfI (X : LM) (l : Int32) (n : Nat) : Nat → Int32
  | 0 => nI n
  | j + 1 => @ite _ (act X l j) (Classical.propDecidable _) (lfI X l n j - nI (cuN X l n j)) (lfI X l n j)
noncomputable def owI (X : LM) (l : Int32) (n a : Nat) : Nat → Int32
  | 0 => nI 0
  | j + 1 => @ite _ (act X l j ∧ j = a) (Classical.propDecidable _) (nI (cuN X l n j)) (owI X l n a j)
theorem lf_y {X : LM} {l : Int32} {n j : Nat} (h : act X l j) : lfI X l n (j + 1) = lfI X l n j - nI (cuN X l n j) := (if_pos h : @ite _ (act X l j) (Classical.propDecidable _) (lfI X l n j - nI (cuN X l n j)) (lfI X l n j) = _)
theorem lf_n {X : LM} {l : Int32} {n j : Nat} (h : ¬ act X l j) : lfI X l n (j + 1) = lfI X l n j := (if_neg h : @ite _ (act X l j) (Classical.propDecidable _) (lfI X l n j - nI (cuN X l n j)) (lfI X l n j) = _)
theorem ow_y {X : LM} {l : Int32} {n a j : Nat} (h : act X l j ∧ j = a) : owI X l n a (j + 1) = nI (cuN X l n j) := (if_pos h : @ite _ (act X l j ∧ j = a) (Classical.propDecidable _) (nI (cuN X l n j)) (owI X l n a j) = _)
theorem ow_n {X : LM} {l : Int32} {n a j : Nat} (h : ¬ (act X l j ∧ j = a)) : owI X l n a (j + 1) = owI X l n a j := (if_neg h : @ite _ (act X l j ∧ j = a) (Classical.propDecidable _) (nI (cuN X l n j)) (owI X l n a j) = _)
/-- which parcels come first -/
def btr (X : LM) (l : Int32) (n a q : Nat) : Prop := act X l q ∧ q ≠ a ∧ (rsN X l n a < rsN X l n q ∨ (rsN X l n q = rsN X l n a ∧ q < a))
noncomputable def quI (X : LM) (l : Int32) (n a : Nat) : Int32 := @ite _ (lfI X l n (xNp X) ≤ nI (cnt (btr X l n a) (xNp X))) (Classical.propDecidable _) (owI X l n a (xNp X)) (owI X l n a (xNp X) + nI 1)
theorem qu_y {X : LM} {l : Int32} {n a : Nat} (h : lfI X l n (xNp X) ≤ nI (cnt (btr X l n a) (xNp X))) : quI X l n a = owI X l n a (xNp X) := by unfold quI; rw [if_pos h]
theorem qu_n {X : LM} {l : Int32} {n a : Nat} (h : ¬ lfI X l n (xNp X) ≤ nI (cnt (btr X l n a) (xNp X))) : quI X l n a = owI X l n a (xNp X) + nI 1 := by unfold quI; rw [if_neg h]
theorem ar_210 {X : LM} (w : wf X) {q : Nat} (t : xTh X q = true) : -(2 ^ 210) ≤ xAr X q ∧ xAr X q ≤ 2 ^ 210 := by have := xAr_bd w t; omega
theorem rs_bd {X : LM} (w : wf X) (l : Int32) {n q : Nat} (hn : n ≤ 1000) (t : xTh X q = true) : -(2 ^ 228) ≤ rsN X l n q ∧ rsN X l n q ≤ 2 ^ 228 := (ct_228 hn (ar_210 w t) (by have := tot_212 w l w.2.2.2.2.1.1; omega) 10 (by decide)).1

theorem sp_X6_shareOf {S : xS} {X : LM} (w : wf X) (h : RC S X) {l : Int32} {a n : Nat} (ha : a < xNp X) (aa : act X l a) (n1000 : n ≤ 1000) (hw0 : wid S 60 (totA X l (xNp X))) (hr0 : ∀ q, q < xNp X → act X l q → wid S q (xAr X q)) : Sp mX6_shareOf [.ref 39, .ref 37, .int l, .int (nI a), .int (nI n)] S (fun r S' => r = some (.int (quI X l n a)) ∧ Lx wps S S') := by
  have n60 : xNp X ≤ 60 := w.2.2.2.2.1.1
  have loop2 : ∀ μ j, j + μ = (xNp X) → ∀ S1, (Lx wps S S1 ∧ ∀ q, q < xNp X → act X l q → wid S1 q (rsN X l n q)) → XP mX6_shareOf 78 [(8, .int (nI j)), (7, .int (nI (cnt (btr X l n a) j))), (6, .int (owI X l n a (xNp X))), (5, .int (lfI X l n (xNp X))), (0, .ref 39), (1, .ref 37), (2, .int l), (3, .int (nI a)), (4, .int (nI n))] [] (xwS S1) (sQ (fun r S' => r = some (.int (quI X l n a)) ∧ Lx wps S S')) := by
    intro μ
    induction μ with
    | zero =>
      intro j hk S1 h1
      obtain ⟨hx, hr⟩ := h1
      have g := RC_L h hx (wp_out (by decide)) (wp_out (by decide))
      have t := g.tab w
      refine x_iload eX6_shareOf_78 rfl ?_
      refine x_aload_n eX6_shareOf_80 rfl ?_
      refine s_geti eX6_shareOf_81 fX6_31 rfl (by decide) (by decide) ?_
      rw [t.1]
      refine x_icmp_geN eX6_shareOf_84 (by omega) (by omega) (fun c_84 => ?_) (fun c_84 => ?_)
      · obtain rfl : j = xNp X := (by omega)
        refine x_iload eX6_shareOf_153 rfl ?_
        refine x_iload eX6_shareOf_155 rfl ?_
        refine x_icmp_ge eX6_shareOf_157 (fun c_157 => ?_) (fun c_157 => ?_)
        · have ev := qu_y c_157
          refine x_iload eX6_shareOf_167 rfl ?_
          exact s_iret eX6_shareOf_169 rfl rfl ⟨congrArg (fun v => some (Value.int v)) ev.symm, hx⟩
        · have ev := qu_n c_157
          refine x_iload eX6_shareOf_160 rfl ?_
          refine x_iconst (v := nI 1) eX6_shareOf_162 (by decide) ?_
          first | refine x_iaddN eX6_shareOf_163 ?_ | refine x_iadd eX6_shareOf_163 ?_
          refine x_goto eX6_shareOf_164 ?_
          exact s_iret eX6_shareOf_169 rfl rfl ⟨congrArg (fun v => some (Value.int v)) ev.symm, hx⟩
      · omega
    | succ μ ih =>
      intro j hk S1 h1
      obtain ⟨hx, hr⟩ := h1
      have g := RC_L h hx (wp_out (by decide)) (wp_out (by decide))
      have t := g.tab w
      refine x_iload eX6_shareOf_78 rfl ?_
      refine x_aload_n eX6_shareOf_80 rfl ?_
      refine s_geti eX6_shareOf_81 fX6_31 rfl (by decide) (by decide) ?_
      rw [t.1]
      refine x_icmp_geN eX6_shareOf_84 (by omega) (by omega) (fun c_84 => ?_) (fun c_84 => ?_)
      · omega
      · refine x_iload eX6_shareOf_87 rfl ?_
        refine x_iload_n eX6_shareOf_89 rfl ?_
        refine x_icmp_eqN eX6_shareOf_90 (by omega) (by omega) (fun c_90 => ?_) (fun c_90 => ?_)
        · have nb : ¬ btr X l n a j := fun z => z.2.1 c_90
          refine x_iinc (lv' := [_, _, _, _, _, _, _, _, _]) eX6_shareOf_147 rfl (by first | exact nI_inc _ | exact rfl) (by decide) rfl ?_
          refine x_goto eX6_shareOf_150 ?_
          refine x_pick [0, 1, 2, 3, 4, 5, 6, 7, 8] rfl ?_
          first
            | (have := ih (j + 1) (by omega) _ ⟨hx, hr⟩; rw [cnt_t yb] at this; exact this)
            | (have := ih (j + 1) (by omega) _ ⟨hx, hr⟩; rw [cnt_f nb] at this; exact this)
        · refine x_aload_n eX6_shareOf_93 rfl ?_
          refine x_iload eX6_shareOf_94 rfl ?_
          refine x_iload_n eX6_shareOf_96 rfl ?_
          refine s_callV1 (As := [_, _]) eX6_shareOf_97 kX6_37 ⟨by decide, by decide⟩ rfl (by decide) (by decide) rfl rfl (Nat.le_of_ble_eq_true rfl) (Nat.le_of_ble_eq_true rfl) (sp_X3_isOf t (by omega) _) (fun S_97 h_97 => ?_)
          have h_97 := h_97.symm
          subst h_97
          refine x_if_eqT eX6_shareOf_100 (fun c_100 => ?_) (fun c_100 => ?_)
          · have nb : ¬ btr X l n a j := fun z => c_100 ⟨by omega, z.1.1, z.1.2⟩
            refine x_iinc (lv' := [_, _, _, _, _, _, _, _, _]) eX6_shareOf_147 rfl (by first | exact nI_inc _ | exact rfl) (by decide) rfl ?_
            refine x_goto eX6_shareOf_150 ?_
            refine x_pick [0, 1, 2, 3, 4, 5, 6, 7, 8] rfl ?_
            first
              | (have := ih (j + 1) (by omega) _ ⟨hx, hr⟩; rw [cnt_t yb] at this; exact this)
              | (have := ih (j + 1) (by omega) _ ⟨hx, hr⟩; rw [cnt_f nb] at this; exact this)
          · have ya : act X l j := ⟨c_100.2.1, c_100.2.2⟩
            refine x_aload_n eX6_shareOf_103 rfl ?_
            refine s_getR (k := 40) eX6_shareOf_104 fX6_11 rfl (by decide) (by decide) rfl ?_
            refine x_iload eX6_shareOf_107 rfl ?_
            refine s_raldR eX6_shareOf_109 (by first | exact Or.inl rfl | exact Or.inr rfl) (by decide) rfl (show _ < 60 by omega) (rf_rest j) ?_
            refine x_aload_n eX6_shareOf_110 rfl ?_
            refine s_getR (k := 40) eX6_shareOf_111 fX6_11 rfl (by decide) (by decide) rfl ?_
            refine x_iload_n eX6_shareOf_114 rfl ?_
            refine s_raldR eX6_shareOf_115 (by first | exact Or.inl rfl | exact Or.inr rfl) (by decide) rfl (show _ < 60 by omega) (rf_rest a) ?_
            refine s_callV1 (As := [_]) eX6_shareOf_116 kX6_68 ⟨by decide, by decide⟩ (kd_wide (show j < 64 by omega)) (by decide) (show _ < 365 by omega) rfl rfl (Nat.le_of_ble_eq_true rfl) (Nat.le_of_ble_eq_true rfl) (sp_X7_against (v := j) (w := a) (by omega) (by omega) _ (hr j (by omega) ya) (hr a ha aa) (in26 (by have := rs_bd w l n1000 ya.1; omega)) (in26 (by have := rs_bd w l n1000 aa.1; omega))) (fun S_116 h_116 => ?_)
            have h_116 := h_116.symm
            subst h_116
            refine x_istore (lv' := [_, _, _, _, _, _, _, _, _, _]) eX6_shareOf_119 (by decide) rfl ?_
            refine x_iload eX6_shareOf_121 rfl ?_
            refine x_iload eX6_shareOf_123 rfl ?_
            refine x_if_gtS eX6_shareOf_125 (fun c_125 => ?_) (fun c_125 => ?_)
            · have yb : btr X l n a j := ⟨ya, c_90, Or.inl (by omega)⟩
              refine x_iconst (v := nI 1) eX6_shareOf_139 (by decide) ?_
              refine x_goto eX6_shareOf_140 ?_
              first | refine x_iaddN eX6_shareOf_144 ?_ | refine x_iadd eX6_shareOf_144 ?_
              refine x_istore (lv' := [_, _, _, _, _, _, _, _, _, _]) eX6_shareOf_145 (by decide) rfl ?_
              refine x_iinc (lv' := [_, _, _, _, _, _, _, _, _, _]) eX6_shareOf_147 rfl (by first | exact nI_inc _ | exact rfl) (by decide) rfl ?_
              refine x_goto eX6_shareOf_150 ?_
              refine x_pick [0, 1, 3, 4, 5, 6, 7, 8, 9] rfl ?_
              first
                | (have := ih (j + 1) (by omega) _ ⟨hx, hr⟩; rw [cnt_t yb] at this; exact this)
                | (have := ih (j + 1) (by omega) _ ⟨hx, hr⟩; rw [cnt_f nb] at this; exact this)
            · refine x_iload eX6_shareOf_128 rfl ?_
              refine x_if_neS eX6_shareOf_130 (fun c_130 => ?_) (fun c_130 => ?_)
              · have nb : ¬ btr X l n a j := fun z => by have := z.2.2; omega
                refine x_iconst (v := nI 0) eX6_shareOf_143 (by decide) ?_
                first | refine x_iaddN eX6_shareOf_144 ?_ | refine x_iadd eX6_shareOf_144 ?_
                refine x_istore (lv' := [_, _, _, _, _, _, _, _, _, _]) eX6_shareOf_145 (by decide) rfl ?_
                refine x_iinc (lv' := [_, _, _, _, _, _, _, _, _, _]) eX6_shareOf_147 rfl (by first | exact nI_inc _ | exact rfl) (by decide) rfl ?_
                refine x_goto eX6_shareOf_150 ?_
                refine x_pick [0, 1, 3, 4, 5, 6, 7, 8, 9] rfl ?_
                first
                  | (have := ih (j + 1) (by omega) _ ⟨hx, hr⟩; rw [cnt_t yb] at this; exact this)
                  | (have := ih (j + 1) (by omega) _ ⟨hx, hr⟩; rw [cnt_f nb] at this; exact this)
              · refine x_iload eX6_shareOf_133 rfl ?_
                refine x_iload_n eX6_shareOf_135 rfl ?_
                refine x_icmp_geN eX6_shareOf_136 (by omega) (by omega) (fun c_136 => ?_) (fun c_136 => ?_)
                · have nb : ¬ btr X l n a j := fun z => by have := z.2.2; omega
                  refine x_iconst (v := nI 0) eX6_shareOf_143 (by decide) ?_
                  first | refine x_iaddN eX6_shareOf_144 ?_ | refine x_iadd eX6_shareOf_144 ?_
                  refine x_istore (lv' := [_, _, _, _, _, _, _, _, _, _]) eX6_shareOf_145 (by decide) rfl ?_
                  refine x_iinc (lv' := [_, _, _, _, _, _, _, _, _, _]) eX6_shareOf_147 rfl (by first | exact nI_inc _ | exact rfl) (by decide) rfl ?_
                  refine x_goto eX6_shareOf_150 ?_
                  refine x_pick [0, 1, 3, 4, 5, 6, 7, 8, 9] rfl ?_
                  first
                    | (have := ih (j + 1) (by omega) _ ⟨hx, hr⟩; rw [cnt_t yb] at this; exact this)
                    | (have := ih (j + 1) (by omega) _ ⟨hx, hr⟩; rw [cnt_f nb] at this; exact this)
                · have yb : btr X l n a j := ⟨ya, c_90, Or.inr ⟨by omega, by omega⟩⟩
                  refine x_iconst (v := nI 1) eX6_shareOf_139 (by decide) ?_
                  refine x_goto eX6_shareOf_140 ?_
                  first | refine x_iaddN eX6_shareOf_144 ?_ | refine x_iadd eX6_shareOf_144 ?_
                  refine x_istore (lv' := [_, _, _, _, _, _, _, _, _, _]) eX6_shareOf_145 (by decide) rfl ?_
                  refine x_iinc (lv' := [_, _, _, _, _, _, _, _, _, _]) eX6_shareOf_147 rfl (by first | exact nI_inc _ | exact rfl) (by decide) rfl ?_
                  refine x_goto eX6_shareOf_150 ?_
                  refine x_pick [0, 1, 3, 4, 5, 6, 7, 8, 9] rfl ?_
                  first
                    | (have := ih (j + 1) (by omega) _ ⟨hx, hr⟩; rw [cnt_t yb] at this; exact this)
                    | (have := ih (j + 1) (by omega) _ ⟨hx, hr⟩; rw [cnt_f nb] at this; exact this)
  have loop1 : ∀ μ j, j + μ = (xNp X) → ∀ S1, (Lx wps S S1 ∧ wid S1 60 (totA X l (xNp X)) ∧ ∀ q, q < xNp X → act X l q → wid S1 q (if q < j then rsN X l n q else xAr X q)) → XP mX6_shareOf 10 [(7, .int (nI j)), (6, .int (owI X l n a j)), (5, .int (lfI X l n j)), (0, .ref 39), (1, .ref 37), (2, .int l), (3, .int (nI a)), (4, .int (nI n))] [] (xwS S1) (sQ (fun r S' => r = some (.int (quI X l n a)) ∧ Lx wps S S')) := by
    intro μ
    induction μ with
    | zero =>
      intro j hk S1 h1
      obtain ⟨hx, hw, hr⟩ := h1
      have g := RC_L h hx (wp_out (by decide)) (wp_out (by decide))
      have t := g.tab w
      refine x_iload eX6_shareOf_10 rfl ?_
      refine x_aload_n eX6_shareOf_12 rfl ?_
      refine s_geti eX6_shareOf_13 fX6_31 rfl (by decide) (by decide) ?_
      rw [t.1]
      refine x_icmp_geN eX6_shareOf_16 (by omega) (by omega) (fun c_16 => ?_) (fun c_16 => ?_)
      · obtain rfl : j = xNp X := (by omega)
        refine x_iconst (v := nI 0) eX6_shareOf_72 (by decide) ?_
        refine x_istore (lv' := [_, _, _, _, _, _, _, _]) eX6_shareOf_73 (by decide) rfl ?_
        refine x_iconst (v := nI 0) eX6_shareOf_75 (by decide) ?_
        refine x_istore (lv' := [_, _, _, _, _, _, _, _, _]) eX6_shareOf_76 (by decide) rfl ?_
        refine x_pick [0, 1, 2, 3, 4, 5, 6, 7, 8] rfl ?_
        exact loop2 (xNp X) 0 (by omega) _ ⟨hx, fun q hq hac => by have := hr q hq hac; rw [if_pos hq] at this; exact this⟩
      · omega
    | succ μ ih =>
      intro j hk S1 h1
      obtain ⟨hx, hw, hr⟩ := h1
      have g := RC_L h hx (wp_out (by decide)) (wp_out (by decide))
      have t := g.tab w
      refine x_iload eX6_shareOf_10 rfl ?_
      refine x_aload_n eX6_shareOf_12 rfl ?_
      refine s_geti eX6_shareOf_13 fX6_31 rfl (by decide) (by decide) ?_
      rw [t.1]
      refine x_icmp_geN eX6_shareOf_16 (by omega) (by omega) (fun c_16 => ?_) (fun c_16 => ?_)
      · omega
      · refine x_aload_n eX6_shareOf_19 rfl ?_
        refine x_iload eX6_shareOf_20 rfl ?_
        refine x_iload_n eX6_shareOf_22 rfl ?_
        refine s_callV1 (As := [_, _]) eX6_shareOf_23 kX6_37 ⟨by decide, by decide⟩ rfl (by decide) (by decide) rfl rfl (Nat.le_of_ble_eq_true rfl) (Nat.le_of_ble_eq_true rfl) (sp_X3_isOf t (by omega) _) (fun S_23 h_23 => ?_)
        have h_23 := h_23.symm
        subst h_23
        refine x_if_eqT eX6_shareOf_26 (fun c_26 => ?_) (fun c_26 => ?_)
        · have na : ¬ act X l j := fun z => c_26 ⟨by omega, z.1, z.2⟩
          refine x_iinc (lv' := [_, _, _, _, _, _, _, _]) eX6_shareOf_66 rfl (by first | exact nI_inc _ | exact rfl) (by decide) rfl ?_
          refine x_goto eX6_shareOf_69 ?_
          refine x_pick [0, 1, 2, 3, 4, 5, 6, 7] rfl ?_
          first
            | (have := ih (j + 1) (by omega) S1 ⟨hx, hw, fun q hq hac => by
                  have e : q ≠ j := fun e => na (e ▸ hac)
                  have := hr q hq hac
                  by_cases e2 : q < j
                  · rw [if_pos e2] at this; rw [if_pos (by omega)]; exact this
                  · rw [if_neg e2] at this; rw [if_neg (by omega)]; exact this⟩
               rw [lf_n na, ow_n (fun z => na z.1)] at this; exact this)
            | (have := ih (j + 1) (by omega) S_39 nx; rw [lf_y ya, eo] at this; exact this)
        · have ya : act X l j := ⟨c_26.2.1, c_26.2.2⟩
          have wj : wid S1 j (xAr X j) := by have := hr j (by omega) ya; rw [if_neg (by omega)] at this; exact this
          refine x_aload_n eX6_shareOf_29 rfl ?_
          refine x_aload_n eX6_shareOf_30 rfl ?_
          refine s_getR (k := 40) eX6_shareOf_31 fX6_11 rfl (by decide) (by decide) rfl ?_
          refine x_iload eX6_shareOf_34 rfl ?_
          refine s_raldR eX6_shareOf_36 (by first | exact Or.inl rfl | exact Or.inr rfl) (by decide) rfl (show _ < 60 by omega) (rf_rest j) ?_
          refine x_iload eX6_shareOf_37 rfl ?_
          refine s_callV1 (As := [_, _]) eX6_shareOf_39 kX6_64 ⟨by decide, by decide⟩ rfl (by decide) (by decide) rfl rfl (Nat.le_of_ble_eq_true rfl) (Nat.le_of_ble_eq_true rfl) (sp_X6_cutShare _ (v := j) (by omega) wj hw n1000 (ar_210 w ya.1) (by have := tot_212 w l n60; omega)) (fun S_39 h_39 => ?_)
          have x1 : Lx wps S1 S_39 := h_39.1.mono (fun p hp => by simp at hp; exact wp_in (by omega) (by omega))
          have nx : Lx wps S S_39 ∧ wid S_39 60 (totA X l (xNp X)) ∧ ∀ q, q < xNp X → act X l q → wid S_39 q (if q < j + 1 then rsN X l n q else xAr X q) := ⟨hx.tr x1, hw.ne (h_39.1.2.2.2 _ (by simp; omega)), fun q hq hac => by
            by_cases e : q = j
            · subst e; rw [if_pos (by omega)]; exact h_39.2
            · have := (hr q hq hac).ne (h_39.1.2.2.2 _ (by simp; omega))
              by_cases e2 : q < j
              · rw [if_pos e2] at this; rw [if_pos (by omega)]; exact this
              · rw [if_neg e2] at this; rw [if_neg (by omega)]; exact this⟩
          refine x_istore (lv' := [_, _, _, _, _, _, _, _, _]) eX6_shareOf_42 (by decide) rfl ?_
          refine x_iload eX6_shareOf_44 rfl ?_
          refine x_iload eX6_shareOf_46 rfl ?_
          first | refine x_isubN eX6_shareOf_48 (by omega) ?_ | refine x_isub eX6_shareOf_48 ?_
          refine x_istore (lv' := [_, _, _, _, _, _, _, _, _]) eX6_shareOf_49 (by decide) rfl ?_
          refine x_iload eX6_shareOf_51 rfl ?_
          refine x_iload_n eX6_shareOf_53 rfl ?_
          refine x_icmp_neN eX6_shareOf_54 (by omega) (by omega) (fun c_54 => ?_) (fun c_54 => ?_)
          · have eo := ow_n (X := X) (l := l) (n := n) (a := a) (j := j) (fun z => c_54 z.2)
            refine x_iload eX6_shareOf_62 rfl ?_
            refine x_istore (lv' := [_, _, _, _, _, _, _, _, _]) eX6_shareOf_64 (by decide) rfl ?_
            refine x_iinc (lv' := [_, _, _, _, _, _, _, _, _]) eX6_shareOf_66 rfl (by first | exact nI_inc _ | exact rfl) (by decide) rfl ?_
            refine x_goto eX6_shareOf_69 ?_
            refine x_pick [0, 1, 2, 4, 5, 6, 7, 8] rfl ?_
            first
              | (have := ih (j + 1) (by omega) S1 ⟨hx, hw, fun q hq hac => by
                    have e : q ≠ j := fun e => na (e ▸ hac)
                    have := hr q hq hac
                    by_cases e2 : q < j
                    · rw [if_pos e2] at this; rw [if_pos (by omega)]; exact this
                    · rw [if_neg e2] at this; rw [if_neg (by omega)]; exact this⟩
                 rw [lf_n na, ow_n (fun z => na z.1)] at this; exact this)
              | (have := ih (j + 1) (by omega) S_39 nx; rw [lf_y ya, eo] at this; exact this)
          · have eo := ow_y (X := X) (l := l) (n := n) (a := a) (j := j) ⟨ya, c_54⟩
            refine x_iload eX6_shareOf_57 rfl ?_
            refine x_goto eX6_shareOf_59 ?_
            refine x_istore (lv' := [_, _, _, _, _, _, _, _, _]) eX6_shareOf_64 (by decide) rfl ?_
            refine x_iinc (lv' := [_, _, _, _, _, _, _, _, _]) eX6_shareOf_66 rfl (by first | exact nI_inc _ | exact rfl) (by decide) rfl ?_
            refine x_goto eX6_shareOf_69 ?_
            refine x_pick [0, 1, 2, 4, 5, 6, 7, 8] rfl ?_
            first
              | (have := ih (j + 1) (by omega) S1 ⟨hx, hw, fun q hq hac => by
                    have e : q ≠ j := fun e => na (e ▸ hac)
                    have := hr q hq hac
                    by_cases e2 : q < j
                    · rw [if_pos e2] at this; rw [if_pos (by omega)]; exact this
                    · rw [if_neg e2] at this; rw [if_neg (by omega)]; exact this⟩
                 rw [lf_n na, ow_n (fun z => na z.1)] at this; exact this)
              | (have := ih (j + 1) (by omega) S_39 nx; rw [lf_y ya, eo] at this; exact this)
  show XP _ _ [_, _, _, _, _] _ _ _
  refine x_iload eX6_shareOf_0 rfl ?_
  refine x_istore (lv' := [_, _, _, _, _, _]) eX6_shareOf_2 (by decide) rfl ?_
  refine x_iconst (v := nI 0) eX6_shareOf_4 (by decide) ?_
  refine x_istore (lv' := [_, _, _, _, _, _, _]) eX6_shareOf_5 (by decide) rfl ?_
  refine x_iconst (v := nI 0) eX6_shareOf_7 (by decide) ?_
  refine x_istore (lv' := [_, _, _, _, _, _, _, _]) eX6_shareOf_8 (by decide) rfl ?_
  refine x_pick [0, 1, 2, 3, 4, 5, 6, 7] rfl ?_
  exact loop1 (xNp X) 0 (by omega) _ ⟨Lx.rf _ _, hw0, fun q hq hac => by rw [if_neg (by omega)]; exact hr0 q hq hac⟩
