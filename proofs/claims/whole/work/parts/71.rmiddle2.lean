/-- what the reference's readers change: the middle's slot, stops, goesIn, isOff, onEdge, rows of sums -/
def Gx (S S' : xS) : Prop := (∀ p, p ≠ 0 → S'.1 p = S.1 p) ∧ (∀ f, f ≠ 29 → f ≠ 30 → f ≠ 32 → S'.1 0 f = S.1 0 f) ∧ (∀ p, p ≠ 22 → S'.2.1 p = S.2.1 p) ∧ S'.2.2.2 = S.2.2.2 ∧ (∀ p, p ∉ [3, 4, 5, 6, 7] → S'.2.2.1 p = S.2.2.1 p) ∧ ∀ p j, j < 1005 → p = 3 ∨ p = 4 → S'.2.2.1 p j = S.2.2.1 p j
theorem Gx.rf (S : xS) : Gx S S := ⟨fun _ _ => rfl, fun _ _ _ _ => rfl, fun _ _ => rfl, rfl, fun _ _ => rfl, fun _ _ _ _ => rfl⟩
theorem Gx.tr {S S1 S2 : xS} (h : Gx S S1) (g : Gx S1 S2) : Gx S S2 := ⟨fun p hp => (g.1 p hp).trans (h.1 p hp), fun f a b c => (g.2.1 f a b c).trans (h.2.1 f a b c), fun p hp => (g.2.2.1 p hp).trans (h.2.2.1 p hp), g.2.2.2.1.trans h.2.2.2.1, fun p hp => (g.2.2.2.2.1 p hp).trans (h.2.2.2.2.1 p hp), fun p j hj hp => (g.2.2.2.2.2 p j hj hp).trans (h.2.2.2.2.2 p j hj hp)⟩
theorem Lx.gx {S S1 : xS} (h : Lx [5, 6, 7] S S1) : Gx S S1 := ⟨fun p _ => by rw [h.1], fun f _ _ _ => by rw [h.1], fun p _ => by rw [h.2.1], h.2.2.1, fun p hp => h.2.2.2 p (fun q => hp (by simp at q ⊢; omega)), fun p j _ hp => by rw [h.2.2.2 p (by rcases hp with rfl | rfl <;> decide)]⟩
theorem pt.gx {S S1 : xS} {s : Nat} {P : Pt} (h : pt S s P) (g : Gx S S1) (hs : s < 201) : pt S1 s P := by
  obtain ⟨a, b, c, d, e⟩ := h
  refine ⟨fun i hi => ?_, fun i hi => ?_, c, d, e⟩
  · rw [g.2.2.2.2.2 3 _ (by omega) (Or.inl rfl)]; exact a i hi
  · rw [g.2.2.2.2.2 4 _ (by omega) (Or.inr rfl)]; exact b i hi
theorem can_bd {V : Int} (h : -(2 ^ 104) ≤ V ∧ V ≤ 2 ^ 104) {i : Nat} (hi : i < 5) : -(2 ^ 40) ≤ can (2 ^ 24) 5 V i ∧ can (2 ^ 24) 5 V i ≤ 2 ^ 40 := by
  by_cases q : i + 1 < 5
  · have := can_low_in (n := 5) (i := i) (V := V) q; omega
  · obtain rfl : i = 4 := by omega
    rw [can_hi (by omega), show ((2 : Int) ^ 24) ^ 4 = 79228162514264337593543950336 by decide]
    omega
def mdR (S : xS) (p u v k j : Nat) : Int64 := if 1005 ≤ j ∧ j < 1005 + k then S.2.2.1 p (5 * u + (j - 1005)) + S.2.2.1 p (5 * v + (j - 1005)) else S.2.2.1 p j
theorem mdR_s {S : xS} {p u v k : Nat} {g : Nat → Int64} (hg : ∀ j, g j = mdR S p u v k j) (j : Nat) : vp_updL g (1005 + k) (S.2.2.1 p (5 * u + k) + S.2.2.1 p (5 * v + k)) j = mdR S p u v (k + 1) j := by
  unfold vp_updL
  by_cases q : j = 1005 + k
  · rw [if_pos q]; subst q; unfold mdR; rw [if_pos (by omega), show 1005 + k - 1005 = k by omega]
  · rw [if_neg q, hg]; unfold mdR
    by_cases c : 1005 ≤ j ∧ j < 1005 + k
    · rw [if_pos c, if_pos (by omega)]
    · rw [if_neg c, if_neg (by omega)]
theorem mdR_lo {S : xS} {p u v k j : Nat} (h : j < 1005) : mdR S p u v k j = S.2.2.1 p j := if_neg (by omega)
/-- the middle's slot after the sums are carried and halved -/
def mdF (V : Int) (g : Nat → Int64) (j : Nat) : Int64 := if 1005 ≤ j ∧ j < 1010 then lI (can (2 ^ 24) 5 V (j - 1005)) else g j

theorem sp_X9_middle (S : xS) {u v : Nat} {A B : Pt} (ha : pt S u A) (hb : pt S v B) (hu : u < 201) (hw : v < 201) : Sp mX9_middle [.ref 0, .int (nI u), .int (nI v)] S (fun r S' => r = none ∧ Gx S S' ∧ pt S' 201 ((A.1 + B.1) / 2, (A.2 + B.2) / 2) ∧ S'.1 = S.1 ∧ S'.2.1 = S.2.1) := by
  have bA1 : -(2 ^ 104) ≤ A.1 ∧ A.1 ≤ 2 ^ 104 := by have := ha.2.2.1; omega
  have bB1 : -(2 ^ 104) ≤ B.1 ∧ B.1 ≤ 2 ^ 104 := by have := hb.2.2.1; omega
  have bA2 : -(2 ^ 104) ≤ A.2 ∧ A.2 ≤ 2 ^ 104 := by have := ha.2.2.2.1; omega
  have bB2 : -(2 ^ 104) ≤ B.2 ∧ B.2 ≤ 2 ^ 104 := by have := hb.2.2.2.1; omega
  have hv1 : hv (2 ^ 24) (fun i => can (2 ^ 24) 5 A.1 i + can (2 ^ 24) 5 B.1 i) 0 5 = A.1 + B.1 := by
    have := hv_lin (B := 2 ^ 24) (can (2 ^ 24) 5 A.1) (can (2 ^ 24) 5 B.1) 1 5 0
    rw [hv_can0 _ (by decide), hv_can0 _ (by decide), Int.one_mul] at this
    rw [← this]; exact hv_congr 5 0 (fun j _ _ => by rw [Int.one_mul])
  have hv2 : hv (2 ^ 24) (fun i => can (2 ^ 24) 5 A.2 i + can (2 ^ 24) 5 B.2 i) 0 5 = A.2 + B.2 := by
    have := hv_lin (B := 2 ^ 24) (can (2 ^ 24) 5 A.2) (can (2 ^ 24) 5 B.2) 1 5 0
    rw [hv_can0 _ (by decide), hv_can0 _ (by decide), Int.one_mul] at this
    rw [← this]; exact hv_congr 5 0 (fun j _ _ => by rw [Int.one_mul])
  have top : ∀ V : Int, -(2 ^ 104) ≤ V ∧ V ≤ 2 ^ 104 → inL (V / (2 ^ 24) ^ 4) := by
    intro V h
    rw [show ((2 : Int) ^ 24) ^ 4 = 79228162514264337593543950336 by decide]
    exact ⟨by omega, by omega⟩
  have loop : ∀ μ k, k + μ = 5 → ∀ S1, (Lx [3, 4] S S1 ∧ (∀ j, S1.2.2.1 3 j = mdR S 3 u v k j) ∧ ∀ j, S1.2.2.1 4 j = mdR S 4 u v k j) → XP mX9_middle 2 [(3, .int (nI k)), (0, .ref 0), (1, .int (nI u)), (2, .int (nI v))] [] (xwS S1) (sQ (fun r S' => r = none ∧ Gx S S' ∧ pt S' 201 ((A.1 + B.1) / 2, (A.2 + B.2) / 2) ∧ S'.1 = S.1 ∧ S'.2.1 = S.2.1)) := by
    intro μ
    induction μ with
    | zero =>
      intro k hk S1 h1
      obtain ⟨hx, r3, r4⟩ := h1
      refine x_iload_n eX9_middle_2 rfl ?_
      refine x_iconst (v := nI 5) eX9_middle_3 (by decide) ?_
      refine x_icmp_geN eX9_middle_4 (by omega) (by omega) (fun c_4 => ?_) (fun c_4 => ?_)
      · have ek : k = 5 := by omega
        subst ek
        have c3 : ∀ i, i < 5 → S1.2.2.1 3 (1005 + i) = lI (can (2 ^ 24) 5 A.1 i + can (2 ^ 24) 5 B.1 i) := fun i hi => by rw [r3]; unfold mdR; rw [if_pos (by omega), show 1005 + i - 1005 = i by omega, ha.1 i hi, hb.1 i hi, lI_add]
        have c4 : ∀ i, i < 5 → S1.2.2.1 4 (1005 + i) = lI (can (2 ^ 24) 5 A.2 i + can (2 ^ 24) 5 B.2 i) := fun i hi => by rw [r4]; unfold mdR; rw [if_pos (by omega), show 1005 + i - 1005 = i by omega, ha.2.1 i hi, hb.2.1 i hi, lI_add]
        refine x_aload_n eX9_middle_75 rfl ?_
        refine s_getR (k := 3) eX9_middle_76 fX9_16 rfl (by decide) (by decide) rfl ?_
        refine x_sipush (v := nI 1005) eX9_middle_79 (by decide) ?_
        refine x_iconst (v := nI 5) eX9_middle_82 (by decide) ?_
        refine s_callS0 (As := [_, _, _]) eX9_middle_83 kX9_128 ⟨by decide, by decide⟩ rfl rfl (Nat.le_of_ble_eq_true rfl) (Nat.le_of_ble_eq_true rfl) (sp_X9_carry (a := 3) rfl (by decide) (fr := 1005) (n := 5) (by decide) (by decide) S1 _ c3 (fun i hi => ⟨by have := can_bd bA1 hi; have := can_bd bB1 hi; omega, by have := can_bd bA1 hi; have := can_bd bB1 hi; omega⟩)) (fun S_83 h_83 => ?_)
        rw [hv1] at h_83
        refine x_aload_n eX9_middle_86 rfl ?_
        refine s_getR (k := 4) eX9_middle_87 fX9_19 rfl (by decide) (by decide) rfl ?_
        refine x_sipush (v := nI 1005) eX9_middle_90 (by decide) ?_
        refine x_iconst (v := nI 5) eX9_middle_93 (by decide) ?_
        refine s_callS0 (As := [_, _, _]) eX9_middle_94 kX9_128 ⟨by decide, by decide⟩ rfl rfl (Nat.le_of_ble_eq_true rfl) (Nat.le_of_ble_eq_true rfl) (sp_X9_carry (a := 4) rfl (by decide) (fr := 1005) (n := 5) (by decide) (by decide) S_83 _ (fun i hi => by rw [h_83, setL_ne _ _ (by decide)]; exact c4 i hi) (fun i hi => ⟨by have := can_bd bA2 hi; have := can_bd bB2 hi; omega, by have := can_bd bA2 hi; have := can_bd bB2 hi; omega⟩)) (fun S_94 h_94 => ?_)
        rw [hv2] at h_94
        refine x_aload_n eX9_middle_97 rfl ?_
        refine s_getR (k := 3) eX9_middle_98 fX9_16 rfl (by decide) (by decide) rfl ?_
        refine s_callS0 (As := [_]) eX9_middle_101 kX9_140 ⟨by decide, by decide⟩ rfl rfl (Nat.le_of_ble_eq_true rfl) (Nat.le_of_ble_eq_true rfl) (sp_X9_halve (p := 3) rfl (by decide) rfl S_94 (A.1 + B.1) (fun i hi => by rw [h_94, setL_ne _ _ (by decide), h_83, setL_at, if_pos (by omega), show 1005 + i - 1005 = i by omega]) (top _ (by have := ha.2.2.1; have := hb.2.2.1; omega))) (fun S_101 h_101 => ?_)
        refine x_aload_n eX9_middle_104 rfl ?_
        refine s_getR (k := 4) eX9_middle_105 fX9_19 rfl (by decide) (by decide) rfl ?_
        refine s_callS0 (As := [_]) eX9_middle_108 kX9_140 ⟨by decide, by decide⟩ rfl rfl (Nat.le_of_ble_eq_true rfl) (Nat.le_of_ble_eq_true rfl) (sp_X9_halve (p := 4) rfl (by decide) rfl S_101 (A.2 + B.2) (fun i hi => by rw [h_101, setL_ne _ _ (by decide), h_94, setL_at, if_pos (by omega), show 1005 + i - 1005 = i by omega]) (top _ (by have := ha.2.2.2.1; have := hb.2.2.2.1; omega))) (fun S_108 h_108 => ?_)
        have x1 : Lx [3, 4] S S_108 := by
          rw [h_108, h_101, h_94, h_83]
          exact (((hx.tr (Lx.set _ _ (by simp))).tr (Lx.set _ _ (by simp))).tr (Lx.set _ _ (by simp))).tr (Lx.set _ _ (by simp))
        have q3 : ∀ j, S_108.2.2.1 3 j = if 1005 ≤ j ∧ j < 1010 then lI (can (2 ^ 24) 5 ((A.1 + B.1) / 2) (j - 1005)) else S.2.2.1 3 j := by
          intro j
          rw [h_108, setL_ne _ _ (by decide), h_101, setL_at]
          unfold hfR
          by_cases z : 1005 ≤ j ∧ j < 1010
          · rw [if_pos z, if_pos z, if_pos (by omega)]
          · rw [if_neg z, if_neg z, h_94, setL_ne _ _ (by decide), h_83, setL_at, if_neg (by omega), r3]; exact if_neg (by omega)
        have q4 : ∀ j, S_108.2.2.1 4 j = if 1005 ≤ j ∧ j < 1010 then lI (can (2 ^ 24) 5 ((A.2 + B.2) / 2) (j - 1005)) else S.2.2.1 4 j := by
          intro j
          rw [h_108, setL_at]
          unfold hfR
          by_cases z : 1005 ≤ j ∧ j < 1010
          · rw [if_pos z, if_pos z, if_pos (by omega)]
          · rw [if_neg z, if_neg z, h_101, setL_ne _ _ (by decide), h_94, setL_at, if_neg (by omega), h_83, setL_ne _ _ (by decide), r4]; exact if_neg (by omega)
        have b1 := ha.2.2.1
        have b2 := hb.2.2.1
        have b3 := ha.2.2.2.1
        have b4 := hb.2.2.2.1
        refine s_vret eX9_middle_111 rfl ⟨rfl, ⟨fun p _ => by rw [x1.1], fun f _ _ _ => by rw [x1.1], fun p _ => by rw [x1.2.1], x1.2.2.1, fun p hp => x1.2.2.2 p (fun z => hp (by simp at z ⊢; omega)), fun p j hj hp => ?_⟩, ⟨fun i hi => ?_, fun i hi => ?_, ⟨by dsimp only; omega, by dsimp only; omega⟩, ⟨by dsimp only; omega, by dsimp only; omega⟩, by decide⟩, x1.1, x1.2.1⟩
        · rcases hp with rfl | rfl
          · rw [q3, if_neg (by omega)]
          · rw [q4, if_neg (by omega)]
        · rw [q3, if_pos (by omega), show 5 * 201 + i - 1005 = i by omega]
        · rw [q4, if_pos (by omega), show 5 * 201 + i - 1005 = i by omega]
      · omega
    | succ μ ih =>
      intro k hk S1 h1
      obtain ⟨hx, r3, r4⟩ := h1
      refine x_iload_n eX9_middle_2 rfl ?_
      refine x_iconst (v := nI 5) eX9_middle_3 (by decide) ?_
      refine x_icmp_geN eX9_middle_4 (by omega) (by omega) (fun c_4 => ?_) (fun c_4 => ?_)
      · omega
      · refine x_aload_n eX9_middle_7 rfl ?_
        refine s_getR (k := 3) eX9_middle_8 fX9_16 rfl (by decide) (by decide) rfl ?_
        refine x_sipush (v := nI 1005) eX9_middle_11 (by decide) ?_
        refine x_iload_n eX9_middle_14 rfl ?_
        first | refine x_iaddN eX9_middle_15 ?_ | refine x_iadd eX9_middle_15 ?_
        refine x_aload_n eX9_middle_16 rfl ?_
        refine s_getR (k := 3) eX9_middle_17 fX9_16 rfl (by decide) (by decide) rfl ?_
        refine x_iconst (v := nI 5) eX9_middle_20 (by decide) ?_
        refine x_iload_n eX9_middle_21 rfl ?_
        first | refine x_imulN eX9_middle_22 ?_ | refine x_imul eX9_middle_22 ?_
        refine x_iload_n eX9_middle_23 rfl ?_
        first | refine x_iaddN eX9_middle_24 ?_ | refine x_iadd eX9_middle_24 ?_
        refine s_lald eX9_middle_25 rfl (by decide) rfl (show _ < 1010 by omega) ?_
        rw [r3, mdR_lo (by omega)]
        refine x_aload_n eX9_middle_26 rfl ?_
        refine s_getR (k := 3) eX9_middle_27 fX9_16 rfl (by decide) (by decide) rfl ?_
        refine x_iconst (v := nI 5) eX9_middle_30 (by decide) ?_
        refine x_iload_n eX9_middle_31 rfl ?_
        first | refine x_imulN eX9_middle_32 ?_ | refine x_imul eX9_middle_32 ?_
        refine x_iload_n eX9_middle_33 rfl ?_
        first | refine x_iaddN eX9_middle_34 ?_ | refine x_iadd eX9_middle_34 ?_
        refine s_lald eX9_middle_35 rfl (by decide) rfl (show _ < 1010 by omega) ?_
        rw [r3, mdR_lo (by omega)]
        refine x_ladd eX9_middle_36 ?_
        refine s_last eX9_middle_37 rfl (by decide) rfl (show _ < 1010 by omega) ?_
        refine x_aload_n eX9_middle_38 rfl ?_
        refine s_getR (k := 4) eX9_middle_39 fX9_19 rfl (by decide) (by decide) rfl ?_
        refine x_sipush (v := nI 1005) eX9_middle_42 (by decide) ?_
        refine x_iload_n eX9_middle_45 rfl ?_
        first | refine x_iaddN eX9_middle_46 ?_ | refine x_iadd eX9_middle_46 ?_
        refine x_aload_n eX9_middle_47 rfl ?_
        refine s_getR (k := 4) eX9_middle_48 fX9_19 rfl (by decide) (by decide) rfl ?_
        refine x_iconst (v := nI 5) eX9_middle_51 (by decide) ?_
        refine x_iload_n eX9_middle_52 rfl ?_
        first | refine x_imulN eX9_middle_53 ?_ | refine x_imul eX9_middle_53 ?_
        refine x_iload_n eX9_middle_54 rfl ?_
        first | refine x_iaddN eX9_middle_55 ?_ | refine x_iadd eX9_middle_55 ?_
        refine s_lald eX9_middle_56 rfl (by decide) rfl (show _ < 1010 by omega) ?_
        rw [setL_ne _ _ (by decide), r4, mdR_lo (by omega)]
        refine x_aload_n eX9_middle_57 rfl ?_
        refine s_getR (k := 4) eX9_middle_58 fX9_19 rfl (by decide) (by decide) rfl ?_
        refine x_iconst (v := nI 5) eX9_middle_61 (by decide) ?_
        refine x_iload_n eX9_middle_62 rfl ?_
        first | refine x_imulN eX9_middle_63 ?_ | refine x_imul eX9_middle_63 ?_
        refine x_iload_n eX9_middle_64 rfl ?_
        first | refine x_iaddN eX9_middle_65 ?_ | refine x_iadd eX9_middle_65 ?_
        refine s_lald eX9_middle_66 rfl (by decide) rfl (show _ < 1010 by omega) ?_
        rw [setL_ne _ _ (by decide), r4, mdR_lo (by omega)]
        refine x_ladd eX9_middle_67 ?_
        refine s_last eX9_middle_68 rfl (by decide) rfl (show _ < 1010 by omega) ?_
        refine x_iinc (lv' := [_, _, _, _]) eX9_middle_69 rfl (by first | exact nI_inc _ | exact rfl) (by decide) rfl ?_
        refine x_goto eX9_middle_72 ?_
        refine x_pick [0, 1, 2, 3] rfl ?_
        refine ih (k + 1) (by omega) _ ⟨(hx.tr (Lx.set _ _ (by simp))).tr (Lx.set _ _ (by simp)), fun j => ?_, fun j => ?_⟩
        · rw [setL_ne _ _ (by decide), setL_at]; exact mdR_s r3 j
        · rw [setL_at, setL_ne _ _ (by decide)]; exact mdR_s r4 j
  show XP _ _ [_, _, _] _ _ _
  refine x_iconst (v := nI 0) eX9_middle_0 (by decide) ?_
  refine x_istore_n (lv' := [_, _, _, _]) eX9_middle_1 (by decide) rfl ?_
  refine x_pick [0, 1, 2, 3] rfl ?_
  exact loop 5 0 (by omega) _ ⟨Lx.rf _ _, fun j => (if_neg (by omega)).symm, fun j => (if_neg (by omega)).symm⟩
