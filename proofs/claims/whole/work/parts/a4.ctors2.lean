/-! ===== the constructors' contracts ===== -/
theorem y_icmp_geN {M : xM} {K : Nat × Nat × Nat × Nat} {pc pc' tgt a b : Nat} {off : Int} {lv : List (Nat × Value)} {st : List Value} {N sl : Nat} {w : xW} {E : Nat → List (Nat × Value) → List Value → Nat → Nat → xW → Prop} (hd : xBr M pc (.if_icmp .ge) off pc' tgt) (ha : a < 2 ^ 31) (hb : b < 2 ^ 31) (kt : b ≤ a → YP M K tgt lv st N sl w E) (kf : a < b → YP M K pc' lv st N sl w E) : YP M K pc lv (.int (nI b) :: .int (nI a) :: st) N sl w E := y_icmp_ge hd (fun h => kt ((nI_leI hb ha).mp h)) (fun h => kf (Nat.lt_of_not_le (fun h2 => h ((nI_leI hb ha).mpr h2))))
theorem w00_parcel {p : Nat} (h : p < 62) : w00 (175 + p) = .inr (1, [.ref (45 + 2 * p), .int 0, .int 0, .int 0]) := by
  have e : ∀ p, p < 62 → sFs 1 (175 + p) S00 = [.ref (45 + 2 * p), .int 0, .int 0, .int 0] := by decide +kernel
  show xwS S00 (175 + p) = _
  rw [xwS_obj (kd_parcel h) (by decide), e p h]
theorem w00_ring {p : Nat} (h : p < 65) : w00 (45 + 2 * p) = .inr (4, [.ref (46 + 2 * p), .int 0]) := by
  have e : ∀ p, p < 65 → sFs 4 (45 + 2 * p) S00 = [.ref (46 + 2 * p), .int 0] := by decide +kernel
  show xwS S00 (45 + 2 * p) = _
  rw [xwS_obj (kd_ring h) (by decide), e p h]
theorem w00_corner {p : Nat} (h : p < 65) : w00 (46 + 2 * p) = .inl (0, 24, .inl (fun _ => 0)) := by
  show xwS S00 (46 + 2 * p) = _
  rw [xwS_i (kd_corner h), ln_corner h]
  rfl
theorem w00_wide {p : Nat} (h : p < 64) : w00 (237 + 2 * p) = .inr (7, [.ref (238 + 2 * p)]) := by
  have e : ∀ p, p < 64 → sFs 7 (237 + 2 * p) S00 = [.ref (238 + 2 * p)] := by decide +kernel
  show xwS S00 (237 + 2 * p) = _
  rw [xwS_obj (kd_wide h) (by decide), e p h]
theorem w00_col {p : Nat} (h : p < 64) : w00 (238 + 2 * p) = .inl (1, 8, .inr (.inl (fun _ => 0))) := by
  show xwS S00 (238 + 2 * p) = _
  rw [xwS_l (kd_col h), ln_col h]
  rfl
theorem ro_tri : ∀ i, i < 60 → roN (16 + 3 * i) = 175 + i ∧ roN (16 + 3 * i + 1) = 45 + 2 * i ∧ roN (16 + 3 * i + 1 + 1) = 46 + 2 * i := by decide +kernel
theorem ro_two : ∀ i, i < 60 → roN (204 + 2 * i) = 237 + 2 * i ∧ roN (204 + 2 * i + 1) = 238 + 2 * i := by decide +kernel
theorem yc_X4 {n sl : Nat} {w : xW} (hn2 : n + 1 < 365) (e0 : w (roN n) = .inr (4, [.null, .int 0])) (t0 : w00 (roN n) = .inr (4, [.ref (roN (n + 1)), .int 0])) (t1 : w00 (roN (n + 1)) = .inl (0, 24, .inl (fun _ => 0))) : ySp mX4_init [.ref (roN n)] (n + 1) sl (n + 2) (sl + 24) w (fil w00 n (n + 2) w) := by
  have hn : n < 365 := by omega
  have hI := inc_start (G := w00) hn e0
  show YP _ _ 0 [(0, .ref (roN n))] [] _ _ w _
  refine y_aload_n eX4_init_0 rfl ?_
  refine y_objInit eX4_init_1 oX4 oi_i oi_c (by decide) (Nat.le_of_ble_eq_true rfl) ?_
  refine y_aload_n eX4_init_4 rfl ?_
  refine y_bipush (v := nI 24) eX4_init_5 (by decide) ?_
  refine y_newaI eX4_init_7 (ya_I (by decide)) rfl (by decide) hI (pi_ro n hn).2 (by rw [(pi_ro n hn).1]; omega) (by omega) (show _ ≤ n + 2 by omega) (show _ ≤ sl + 24 by omega) t1 (fun w hI => ?_)
  refine y_putI eX4_init_9 pX4_init_9 hI (pi_ro n hn).2 (by rw [(pi_ro n hn).1]; omega) (fun _ => rfl) (fun _ => rfl) (Nat.le_of_ble_eq_true rfl) (fun w hI => ?_)
  refine y_aload_n eX4_init_12 rfl ?_
  refine y_iconst (v := (0)) eX4_init_13 (by decide) ?_
  refine y_putI eX4_init_14 pX4_init_15 hI (pi_ro n hn).2 (by rw [(pi_ro n hn).1]; omega) (fun _ => rfl) (fun _ => rfl) (Nat.le_of_ble_eq_true rfl) (fun w hI => ?_)
  refine y_end ⟨by omega, by omega, rfl, eX4_init_17.1, ?_⟩
  have hf := inc_fil (pi_ro n hn).2 (by rw [(pi_ro n hn).1]; omega) hI t0
  rw [(pi_ro n hn).1] at hf
  exact hf
theorem yc_X7 {n sl : Nat} {w : xW} (hn2 : n + 1 < 365) (e0 : w (roN n) = .inr (7, [.null])) (t0 : w00 (roN n) = .inr (7, [.ref (roN (n + 1))])) (t1 : w00 (roN (n + 1)) = .inl (1, 8, .inr (.inl (fun _ => 0)))) : ySp mX7_init [.ref (roN n)] (n + 1) sl (n + 2) (sl + 8) w (fil w00 n (n + 2) w) := by
  have hn : n < 365 := by omega
  have hI := inc_start (G := w00) hn e0
  show YP _ _ 0 [(0, .ref (roN n))] [] _ _ w _
  refine y_aload_n eX7_init_0 rfl ?_
  refine y_objInit eX7_init_1 oX7 oi_i oi_c (by decide) (Nat.le_of_ble_eq_true rfl) ?_
  refine y_aload_n eX7_init_4 rfl ?_
  refine y_bipush (v := nI 8) eX7_init_5 (by decide) ?_
  refine y_newaI eX7_init_7 (ya_J (by decide)) rfl (by decide) hI (pi_ro n hn).2 (by rw [(pi_ro n hn).1]; omega) (by omega) (show _ ≤ n + 2 by omega) (show _ ≤ sl + 8 by omega) t1 (fun w hI => ?_)
  refine y_putI eX7_init_9 pX7_init_9 hI (pi_ro n hn).2 (by rw [(pi_ro n hn).1]; omega) (fun _ => rfl) (fun _ => rfl) (Nat.le_of_ble_eq_true rfl) (fun w hI => ?_)
  refine y_end ⟨by omega, by omega, rfl, eX7_init_12.1, ?_⟩
  have hf := inc_fil (pi_ro n hn).2 (by rw [(pi_ro n hn).1]; omega) hI t0
  rw [(pi_ro n hn).1] at hf
  exact hf
theorem yc_X1 {n sl : Nat} {w : xW} (hn2 : n + 2 < 365) (e0 : w (roN n) = .inr (1, [.null, .int 0, .int 0, .int 0])) (t0 : w00 (roN n) = .inr (1, [.ref (roN (n + 1)), .int 0, .int 0, .int 0])) (t1 : w00 (roN (n + 1)) = .inr (4, [.ref (roN (n + 1 + 1)), .int 0])) (t2 : w00 (roN (n + 1 + 1)) = .inl (0, 24, .inl (fun _ => 0))) : ySp mX1_init [.ref (roN n)] (n + 1) sl (n + 3) (sl + 26) w (fil w00 n (n + 3) w) := by
  have hn : n < 365 := by omega
  have hI := inc_start (G := w00) hn e0
  show YP _ _ 0 [(0, .ref (roN n))] [] _ _ w _
  refine y_aload_n eX1_init_0 rfl ?_
  refine y_objInit eX1_init_1 oX1 oi_i oi_c (by decide) (Nat.le_of_ble_eq_true rfl) ?_
  refine y_aload_n eX1_init_4 rfl ?_
  refine y_makeI eX1_init_5 eX1_init_8 eX1_init_9 nX1_init_7 yX1_9 i_X4_init rfl rfl ⟨by decide, by decide⟩ (Nat.le_of_ble_eq_true rfl) (by decide) hI (pi_ro n hn).2 (by rw [(pi_ro n hn).1]; omega) (by omega) ⟨by omega, by omega⟩ ⟨show _ ≤ n + 3 by omega, show _ ≤ sl + 26 by omega⟩ (by omega) (fun _ _ _ => rfl) (fun w1 h1 => yc_X4 (by omega) h1 t1 t2) (fun w hI => ?_)
  refine y_putI eX1_init_12 pX1_init_10 hI (pi_ro n hn).2 (by rw [(pi_ro n hn).1]; omega) (fun _ => rfl) (fun _ => rfl) (Nat.le_of_ble_eq_true rfl) (fun w hI => ?_)
  refine y_aload_n eX1_init_15 rfl ?_
  refine y_iconst (v := (0)) eX1_init_16 (by decide) ?_
  refine y_putI eX1_init_17 pX1_init_16 hI (pi_ro n hn).2 (by rw [(pi_ro n hn).1]; omega) (fun _ => rfl) (fun _ => rfl) (Nat.le_of_ble_eq_true rfl) (fun w hI => ?_)
  refine y_aload_n eX1_init_20 rfl ?_
  refine y_iconst (v := (0)) eX1_init_21 (by decide) ?_
  refine y_putI eX1_init_22 pX1_init_20 hI (pi_ro n hn).2 (by rw [(pi_ro n hn).1]; omega) (fun _ => rfl) (fun _ => rfl) (Nat.le_of_ble_eq_true rfl) (fun w hI => ?_)
  refine y_aload_n eX1_init_25 rfl ?_
  refine y_iconst (v := (0)) eX1_init_26 (by decide) ?_
  refine y_putI eX1_init_27 pX1_init_24 hI (pi_ro n hn).2 (by rw [(pi_ro n hn).1]; omega) (fun _ => rfl) (fun _ => rfl) (Nat.le_of_ble_eq_true rfl) (fun w hI => ?_)
  refine y_end ⟨by omega, by omega, rfl, eX1_init_30.1, ?_⟩
  have hf := inc_fil (pi_ro n hn).2 (by rw [(pi_ro n hn).1]; omega) hI t0
  rw [(pi_ro n hn).1] at hf
  exact hf
theorem yc_X0 {sl : Nat} {w : xW} (e0 : w (roN 324) = .inr (0, [.null, .null, .null, .int 0, .int 0])) : ySp mX0_init [.ref (roN 324)] (324 + 1) sl (328) (sl + 601) w (fil w00 324 (328) w) := by
  have hn : 324 < 365 := by omega
  have hI := inc_start (G := w00) hn e0
  show YP _ _ 0 [(0, .ref (roN 324))] [] _ _ w _
  refine y_aload_n eX0_init_0 rfl ?_
  refine y_objInit eX0_init_1 oX0 oi_i oi_c (by decide) (Nat.le_of_ble_eq_true rfl) ?_
  refine y_aload_n eX0_init_4 rfl ?_
  refine y_sipush (v := nI 200) eX0_init_5 (by decide) ?_
  refine y_newaI eX0_init_8 (ya_I (by decide)) rfl (by decide) hI (pi_ro 324 hn).2 (by rw [(pi_ro 324 hn).1]; omega) (by omega) (show _ ≤ 328 by omega) (show _ ≤ sl + 601 by omega) rfl (fun w hI => ?_)
  refine y_putI eX0_init_10 pX0_init_9 hI (pi_ro 324 hn).2 (by rw [(pi_ro 324 hn).1]; omega) (fun _ => rfl) (fun _ => rfl) (Nat.le_of_ble_eq_true rfl) (fun w hI => ?_)
  refine y_aload_n eX0_init_13 rfl ?_
  refine y_sipush (v := nI 200) eX0_init_14 (by decide) ?_
  refine y_newaI eX0_init_17 (ya_Z (by decide)) rfl (by decide) hI (pi_ro 324 hn).2 (by rw [(pi_ro 324 hn).1]; omega) (by omega) (show _ ≤ 328 by omega) (show _ ≤ sl + 601 by omega) rfl (fun w hI => ?_)
  refine y_putI eX0_init_19 pX0_init_15 hI (pi_ro 324 hn).2 (by rw [(pi_ro 324 hn).1]; omega) (fun _ => rfl) (fun _ => rfl) (Nat.le_of_ble_eq_true rfl) (fun w hI => ?_)
  refine y_aload_n eX0_init_22 rfl ?_
  refine y_sipush (v := nI 201) eX0_init_23 (by decide) ?_
  refine y_newaI eX0_init_26 (ya_I (by decide)) rfl (by decide) hI (pi_ro 324 hn).2 (by rw [(pi_ro 324 hn).1]; omega) (by omega) (show _ ≤ 328 by omega) (show _ ≤ sl + 601 by omega) rfl (fun w hI => ?_)
  refine y_putI eX0_init_28 pX0_init_19 hI (pi_ro 324 hn).2 (by rw [(pi_ro 324 hn).1]; omega) (fun _ => rfl) (fun _ => rfl) (Nat.le_of_ble_eq_true rfl) (fun w hI => ?_)
  refine y_aload_n eX0_init_31 rfl ?_
  refine y_iconst (v := (0)) eX0_init_32 (by decide) ?_
  refine y_putI eX0_init_33 pX0_init_22 hI (pi_ro 324 hn).2 (by rw [(pi_ro 324 hn).1]; omega) (fun _ => rfl) (fun _ => rfl) (Nat.le_of_ble_eq_true rfl) (fun w hI => ?_)
  refine y_aload_n eX0_init_36 rfl ?_
  refine y_iconst (v := (0)) eX0_init_37 (by decide) ?_
  refine y_putI eX0_init_38 pX0_init_26 hI (pi_ro 324 hn).2 (by rw [(pi_ro 324 hn).1]; omega) (fun _ => rfl) (fun _ => rfl) (Nat.le_of_ble_eq_true rfl) (fun w hI => ?_)
  refine y_end ⟨by omega, by omega, rfl, eX0_init_41.1, ?_⟩
  have hf := inc_fil (pi_ro 324 hn).2 (by rw [(pi_ro 324 hn).1]; omega) hI rfl
  rw [(pi_ro 324 hn).1] at hf
  exact hf
theorem yc_X2 {sl : Nat} {w : xW} (e0 : w (roN 1) = .inr (2, [.null, .null, .null, .null, .int 0])) : ySp mX2_init [.ref (roN 1)] (1 + 1) sl (7) (sl + 2421) w (fil w00 1 (7) w) := by
  have hn : 1 < 365 := by omega
  have hI := inc_start (G := w00) hn e0
  show YP _ _ 0 [(0, .ref (roN 1))] [] _ _ w _
  refine y_aload_n eX2_init_0 rfl ?_
  refine y_objInit eX2_init_1 oX2 oi_i oi_c (by decide) (Nat.le_of_ble_eq_true rfl) ?_
  refine y_aload_n eX2_init_4 rfl ?_
  refine y_sipush (v := nI 402) eX2_init_5 (by decide) ?_
  refine y_newaI eX2_init_8 (ya_J (by decide)) rfl (by decide) hI (pi_ro 1 hn).2 (by rw [(pi_ro 1 hn).1]; omega) (by omega) (show _ ≤ 7 by omega) (show _ ≤ sl + 2421 by omega) rfl (fun w hI => ?_)
  refine y_putI eX2_init_10 pX2_init_9 hI (pi_ro 1 hn).2 (by rw [(pi_ro 1 hn).1]; omega) (fun _ => rfl) (fun _ => rfl) (Nat.le_of_ble_eq_true rfl) (fun w hI => ?_)
  refine y_aload_n eX2_init_13 rfl ?_
  refine y_sipush (v := nI 402) eX2_init_14 (by decide) ?_
  refine y_newaI eX2_init_17 (ya_D (by decide)) rfl (by decide) hI (pi_ro 1 hn).2 (by rw [(pi_ro 1 hn).1]; omega) (by omega) (show _ ≤ 7 by omega) (show _ ≤ sl + 2421 by omega) rfl (fun w hI => ?_)
  refine y_putI eX2_init_19 pX2_init_15 hI (pi_ro 1 hn).2 (by rw [(pi_ro 1 hn).1]; omega) (fun _ => rfl) (fun _ => rfl) (Nat.le_of_ble_eq_true rfl) (fun w hI => ?_)
  refine y_aload_n eX2_init_22 rfl ?_
  refine y_sipush (v := nI 1608) eX2_init_23 (by decide) ?_
  refine y_newaI eX2_init_26 (ya_J (by decide)) rfl (by decide) hI (pi_ro 1 hn).2 (by rw [(pi_ro 1 hn).1]; omega) (by omega) (show _ ≤ 7 by omega) (show _ ≤ sl + 2421 by omega) rfl (fun w hI => ?_)
  refine y_putI eX2_init_28 pX2_init_19 hI (pi_ro 1 hn).2 (by rw [(pi_ro 1 hn).1]; omega) (fun _ => rfl) (fun _ => rfl) (Nat.le_of_ble_eq_true rfl) (fun w hI => ?_)
  refine y_aload_n eX2_init_31 rfl ?_
  refine y_makeI eX2_init_32 eX2_init_35 eX2_init_36 nX2_init_22 yX2_24 i_X7_init rfl rfl ⟨by decide, by decide⟩ (Nat.le_of_ble_eq_true rfl) (by decide) hI (pi_ro 1 hn).2 (by rw [(pi_ro 1 hn).1]; omega) (by omega) ⟨by omega, by omega⟩ ⟨show _ ≤ 7 by omega, show _ ≤ sl + 2421 by omega⟩ (by omega) (fun _ _ _ => rfl) (fun w1 h1 => yc_X7 (by omega) h1 rfl rfl) (fun w hI => ?_)
  refine y_putI eX2_init_39 pX2_init_25 hI (pi_ro 1 hn).2 (by rw [(pi_ro 1 hn).1]; omega) (fun _ => rfl) (fun _ => rfl) (Nat.le_of_ble_eq_true rfl) (fun w hI => ?_)
  refine y_aload_n eX2_init_42 rfl ?_
  refine y_iconst (v := (0)) eX2_init_43 (by decide) ?_
  refine y_putI eX2_init_44 pX2_init_29 hI (pi_ro 1 hn).2 (by rw [(pi_ro 1 hn).1]; omega) (fun _ => rfl) (fun _ => rfl) (Nat.le_of_ble_eq_true rfl) (fun w hI => ?_)
  refine y_end ⟨by omega, by omega, rfl, eX2_init_47.1, ?_⟩
  have hf := inc_fil (pi_ro 1 hn).2 (by rw [(pi_ro 1 hn).1]; omega) hI rfl
  rw [(pi_ro 1 hn).1] at hf
  exact hf
theorem yc_X5 {sl : Nat} {w : xW} (e0 : w (roN 7) = .inr (5, [.null, .int 0])) : ySp mX5_init [.ref (roN 7), .ref 32] (7 + 1) sl (8) (sl) w (fil w00 7 (8) w) := by
  have hn : 7 < 365 := by omega
  have hI := inc_start (G := w00) hn e0
  show YP _ _ 0 [(0, .ref (roN 7)), (1, .ref 32)] [] _ _ w _
  refine y_aload_n eX5_init_0 rfl ?_
  refine y_objInit eX5_init_1 oX5 oi_i oi_c (by decide) (Nat.le_of_ble_eq_true rfl) ?_
  refine y_aload_n eX5_init_4 rfl ?_
  refine y_iconst (v := (0)) eX5_init_5 (by decide) ?_
  refine y_putI eX5_init_6 pX5_init_9 hI (pi_ro 7 hn).2 (by rw [(pi_ro 7 hn).1]; omega) (fun _ => rfl) (fun _ => rfl) (Nat.le_of_ble_eq_true rfl) (fun w hI => ?_)
  refine y_aload_n eX5_init_9 rfl ?_
  refine y_aload_n eX5_init_10 rfl ?_
  refine y_putI eX5_init_11 pX5_init_15 hI (pi_ro 7 hn).2 (by rw [(pi_ro 7 hn).1]; omega) (fun _ => rfl) (fun _ => rfl) (Nat.le_of_ble_eq_true rfl) (fun w hI => ?_)
  refine y_end ⟨by omega, by omega, rfl, eX5_init_14.1, ?_⟩
  have hf := inc_fil (pi_ro 7 hn).2 (by rw [(pi_ro 7 hn).1]; omega) hI rfl
  rw [(pi_ro 7 hn).1] at hf
  exact hf
theorem yc_X3 {sl : Nat} {w : xW} (e0 : w (roN 8) = .inr (3, [.null, .null, .null, .int 0, .int 0, .int 0, .int 0])) : ySp mX3_init [.ref (roN 8)] (8 + 1) sl (196) (sl + 1920) w (fil w00 8 (196) w) := by
  have hn : 8 < 365 := by omega
  have hI := inc_start (G := xup w00 38 (.inl (4, 60, .inr (.inr (.inr (.inr (fun _ => none))))))) hn e0
  show YP _ _ 0 [(0, .ref (roN 8))] [] _ _ w _
  have pa : piN 38 = 9 := rfl
  have loop : ∀ μ i, i + μ = 60 → ∀ (f : Nat → Option Nat) (w' : xW), (∀ j, j < i → f j = some (175 + j)) → inc (xup w00 38 (.inl (4, 60, .inr (.inr (.inr (.inr f)))))) (roN 8) 3 [.ref 38, .ref 235, .ref 236, .int (-1), .int (-1), .int 0, .int 0] (16 + 3 * i) w w' → YP mX3_init (8 + 1, sl, 196, sl + 1920) 57 [(1, .int (nI i)), (0, .ref (roN 8))] [] (16 + 3 * i) (sl + 120 + 30 * i) w' (fun pc _ st N' sl' w2 => N' = 196 ∧ sl' = sl + 1920 ∧ st = [] ∧ decode mX3_init.2.1 pc = .ok (.return_, 1) ∧ fil w00 8 (196) w w2) := by
    intro μ
    induction μ with
    | zero =>
      intro i hi f w' hf hI
      obtain rfl : i = 60 := (by omega)
      refine y_iload_n eX3_init_57 rfl ?_
      refine y_bipush (v := nI 60) eX3_init_58 (by decide) ?_
      refine y_icmp_geN eX3_init_60 (by decide) (by decide) (fun _ => ?_) (fun c => by omega)
      have ea := inc_at hI (q := 38) (by decide) (by rw [(pi_ro 8 hn).1, pa]; omega) (by rw [pa]; omega)
      rw [xup_same] at ea
      refine y_row (g := fun j => some (175 + j)) (by decide) ea (fun j hj => hf j hj) ?_
      have hI := inc_row (a := 38) (.inl (4, 60, .inr (.inr (.inr (.inr (fun j => some (175 + j))))))) hI (by decide) (by rw [(pi_ro 8 hn).1, pa]; omega) (by rw [pa]; omega)
      have hI := inc_G (G' := w00) hI (fun q _ => by
        by_cases z : q = 38
        · subst z
          rw [xup_same]
          rfl
        · rw [xup_ne z, xup_ne z])
      refine y_end ⟨by omega, by omega, rfl, eX3_init_82.1, ?_⟩
      have hf := inc_fil (pi_ro 8 hn).2 (by rw [(pi_ro 8 hn).1]; omega) hI rfl
      rw [(pi_ro 8 hn).1] at hf
      exact hf
    | succ μ ih =>
      intro i hi f w' hf hI
      have r := ro_tri i (by omega)
      refine y_iload_n eX3_init_57 rfl ?_
      refine y_bipush (v := nI 60) eX3_init_58 (by decide) ?_
      refine y_icmp_geN eX3_init_60 (by omega) (by decide) (fun c => by omega) (fun _ => ?_)
      refine y_aload_n eX3_init_63 rfl ?_
      refine y_get eX3_init_64 fX3_11 (pi_ro 8 hn).2 (by rw [(pi_ro 8 hn).1]; omega) hI.1 rfl ?_
      refine y_iload_n eX3_init_67 rfl ?_
      refine y_makeI eX3_init_68 eX3_init_71 eX3_init_72 nX3_init_9 yX3_17 i_X1_init rfl rfl ⟨by decide, by decide⟩ (Nat.le_of_ble_eq_true rfl) (by decide) hI (pi_ro 8 hn).2 (by rw [(pi_ro 8 hn).1]; omega) (by omega) ⟨by omega, by omega⟩ ⟨show _ ≤ 196 by omega, show _ ≤ sl + 1920 by omega⟩ (by omega) (fun q _ h => xup_ne (fun e => by rw [e, pa] at h; omega)) (fun w1 h1 => yc_X1 (by omega) h1 (by rw [r.1, r.2.1]; exact w00_parcel (by omega)) (by rw [r.2.1, r.2.2]; exact w00_ring (by omega)) (by rw [r.2.2]; exact w00_corner (by omega))) (fun w hI => ?_)
      have ea := inc_at hI (q := 38) (by decide) (by rw [(pi_ro 8 hn).1, pa]; omega) (by rw [pa]; omega)
      rw [xup_same] at ea
      have pr := pi_ro (16 + 3 * i) (by omega)
      have ex := inc_at hI (q := roN (16 + 3 * i)) pr.2 (by rw [(pi_ro 8 hn).1, pr.1]; omega) (by rw [pr.1]; omega)
      rw [xup_ne (fun e => by have := pr.1; rw [e, pa] at this; omega), r.1, w00_parcel (by omega)] at ex
      rw [r.1] at pr ⊢
      refine y_astq eX3_init_75 (r := (RX1, TX1, 4)) rfl (by first | exact Or.inl ⟨rfl, rfl⟩ | exact Or.inr ⟨rfl, rfl⟩) (by decide) (by rw [pa]; omega) ea pr.2 (by rw [pr.1]; omega) ex rfl (by omega) (by decide) ?_
      have hI := inc_row (a := 38) (.inl (4, 60, .inr (.inr (.inr (.inr (va_up f i (some (175 + i)))))))) hI (by decide) (by rw [(pi_ro 8 hn).1, pa]; omega) (by rw [pa]; omega)
      have hI := inc_G (G' := xup w00 38 (.inl (4, 60, .inr (.inr (.inr (.inr (va_up f i (some (175 + i))))))))) hI (fun q _ => by
        by_cases z : q = 38
        · subst z
          rw [xup_same, xup_same]
        · rw [xup_ne z, xup_ne z, xup_ne z])
      refine y_iinc (lv' := [_, _]) eX3_init_76 rfl (nI_inc _) (by decide) rfl ?_
      refine y_goto eX3_init_79 ?_
      have e1 : 16 + 3 * i + 3 = 16 + 3 * (i + 1) := by omega
      rw [show 16 + 3 * i + 3 = 16 + 3 * (i + 1) by omega] at hI
      have fin := ih (i + 1) (by omega) _ _ (fun j hj => by
        unfold va_up
        by_cases z : j = i
        · subst z
          simp
        · simp only [z, if_false]
          exact hf j (by omega)) hI
      refine cast ?_ fin
      congr 1
  refine y_aload_n eX3_init_0 rfl ?_
  refine y_objInit eX3_init_1 oX3 oi_i oi_c (by decide) (Nat.le_of_ble_eq_true rfl) ?_
  refine y_aload_n eX3_init_4 rfl ?_
  refine y_bipush (v := nI 60) eX3_init_5 (by decide) ?_
  refine y_newqI eX3_init_7 qX3_init_9 (by first | exact Or.inl ⟨rfl, rfl⟩ | exact Or.inr ⟨rfl, rfl⟩) rfl (by decide) hI (pi_ro 8 hn).2 (by rw [(pi_ro 8 hn).1]; omega) (by omega) (show _ ≤ 196 by omega) (show _ ≤ sl + 1920 by omega) rfl (fun w hI => ?_)
  refine y_putI eX3_init_10 pX3_init_11 hI (pi_ro 8 hn).2 (by rw [(pi_ro 8 hn).1]; omega) (fun _ => rfl) (fun _ => rfl) (Nat.le_of_ble_eq_true rfl) (fun w hI => ?_)
  refine y_aload_n eX3_init_13 rfl ?_
  refine y_makeI eX3_init_14 eX3_init_17 eX3_init_18 nX3_init_9 yX3_17 i_X1_init rfl rfl ⟨by decide, by decide⟩ (Nat.le_of_ble_eq_true rfl) (by decide) hI (pi_ro 8 hn).2 (by rw [(pi_ro 8 hn).1]; omega) (by omega) ⟨by omega, by omega⟩ ⟨show _ ≤ 196 by omega, show _ ≤ sl + 1920 by omega⟩ (by omega) (fun q _ h => xup_ne (fun e => by rw [e, pa] at h; omega)) (fun w1 h1 => yc_X1 (by omega) h1 rfl rfl rfl) (fun w hI => ?_)
  refine y_putI eX3_init_21 pX3_init_18 hI (pi_ro 8 hn).2 (by rw [(pi_ro 8 hn).1]; omega) (fun _ => rfl) (fun _ => rfl) (Nat.le_of_ble_eq_true rfl) (fun w hI => ?_)
  refine y_aload_n eX3_init_24 rfl ?_
  refine y_makeI eX3_init_25 eX3_init_28 eX3_init_29 nX3_init_9 yX3_17 i_X1_init rfl rfl ⟨by decide, by decide⟩ (Nat.le_of_ble_eq_true rfl) (by decide) hI (pi_ro 8 hn).2 (by rw [(pi_ro 8 hn).1]; omega) (by omega) ⟨by omega, by omega⟩ ⟨show _ ≤ 196 by omega, show _ ≤ sl + 1920 by omega⟩ (by omega) (fun q _ h => xup_ne (fun e => by rw [e, pa] at h; omega)) (fun w1 h1 => yc_X1 (by omega) h1 rfl rfl rfl) (fun w hI => ?_)
  refine y_putI eX3_init_32 pX3_init_22 hI (pi_ro 8 hn).2 (by rw [(pi_ro 8 hn).1]; omega) (fun _ => rfl) (fun _ => rfl) (Nat.le_of_ble_eq_true rfl) (fun w hI => ?_)
  refine y_aload_n eX3_init_35 rfl ?_
  refine y_iconst (v := (-1)) eX3_init_36 (by decide) ?_
  refine y_putI eX3_init_37 pX3_init_25 hI (pi_ro 8 hn).2 (by rw [(pi_ro 8 hn).1]; omega) (fun _ => rfl) (fun _ => rfl) (Nat.le_of_ble_eq_true rfl) (fun w hI => ?_)
  refine y_aload_n eX3_init_40 rfl ?_
  refine y_iconst (v := (-1)) eX3_init_41 (by decide) ?_
  refine y_putI eX3_init_42 pX3_init_29 hI (pi_ro 8 hn).2 (by rw [(pi_ro 8 hn).1]; omega) (fun _ => rfl) (fun _ => rfl) (Nat.le_of_ble_eq_true rfl) (fun w hI => ?_)
  refine y_aload_n eX3_init_45 rfl ?_
  refine y_iconst (v := (0)) eX3_init_46 (by decide) ?_
  refine y_putI eX3_init_47 pX3_init_32 hI (pi_ro 8 hn).2 (by rw [(pi_ro 8 hn).1]; omega) (fun _ => rfl) (fun _ => rfl) (Nat.le_of_ble_eq_true rfl) (fun w hI => ?_)
  refine y_aload_n eX3_init_50 rfl ?_
  refine y_iconst (v := (0)) eX3_init_51 (by decide) ?_
  refine y_putI eX3_init_52 pX3_init_36 hI (pi_ro 8 hn).2 (by rw [(pi_ro 8 hn).1]; omega) (fun _ => rfl) (fun _ => rfl) (Nat.le_of_ble_eq_true rfl) (fun w hI => ?_)
  refine y_iconst (v := nI 0) eX3_init_55 (by decide) ?_
  refine y_istore_n (lv' := [_, _]) eX3_init_56 (by decide) rfl ?_
  exact loop 60 0 rfl _ _ (fun j hj => by omega) hI
theorem yc_X6 {sl : Nat} {w : xW} (e0 : w (roN 196) = .inr (6, [.null, .null, .null, .null])) : ySp mX6_init [.ref (roN 196)] (196 + 1) sl (324) (sl + 627) w (fil w00 196 (324) w) := by
  have hn : 196 < 365 := by omega
  have hI := inc_start (G := xup w00 40 (.inl (5, 60, .inr (.inr (.inr (.inr (fun _ => none))))))) hn e0
  show YP _ _ 0 [(0, .ref (roN 196))] [] _ _ w _
  have pa : piN 40 = 197 := rfl
  have loop : ∀ μ i, i + μ = 60 → ∀ (f : Nat → Option Nat) (w' : xW), (∀ j, j < i → f j = some (237 + 2 * j)) → inc (xup w00 40 (.inl (5, 60, .inr (.inr (.inr (.inr f)))))) (roN 196) 6 [.ref 40, .ref 357, .ref 359, .ref 361] (204 + 2 * i) w w' → YP mX6_init (196 + 1, sl, 324, sl + 627) 48 [(1, .int (nI i)), (0, .ref (roN 196))] [] (204 + 2 * i) (sl + 87 + 9 * i) w' (fun pc _ st N' sl' w2 => N' = 324 ∧ sl' = sl + 627 ∧ st = [] ∧ decode mX6_init.2.1 pc = .ok (.return_, 1) ∧ fil w00 196 (324) w w2) := by
    intro μ
    induction μ with
    | zero =>
      intro i hi f w' hf hI
      obtain rfl : i = 60 := (by omega)
      refine y_iload_n eX6_init_48 rfl ?_
      refine y_bipush (v := nI 60) eX6_init_49 (by decide) ?_
      refine y_icmp_geN eX6_init_51 (by decide) (by decide) (fun _ => ?_) (fun c => by omega)
      have ea := inc_at hI (q := 40) (by decide) (by rw [(pi_ro 196 hn).1, pa]; omega) (by rw [pa]; omega)
      rw [xup_same] at ea
      refine y_row (g := fun j => some (237 + 2 * j)) (by decide) ea (fun j hj => hf j hj) ?_
      have hI := inc_row (a := 40) (.inl (5, 60, .inr (.inr (.inr (.inr (fun j => some (237 + 2 * j))))))) hI (by decide) (by rw [(pi_ro 196 hn).1, pa]; omega) (by rw [pa]; omega)
      have hI := inc_G (G' := w00) hI (fun q _ => by
        by_cases z : q = 40
        · subst z
          rw [xup_same]
          rfl
        · rw [xup_ne z, xup_ne z])
      refine y_end ⟨by omega, by omega, rfl, eX6_init_73.1, ?_⟩
      have hf := inc_fil (pi_ro 196 hn).2 (by rw [(pi_ro 196 hn).1]; omega) hI rfl
      rw [(pi_ro 196 hn).1] at hf
      exact hf
    | succ μ ih =>
      intro i hi f w' hf hI
      have r := ro_two i (by omega)
      refine y_iload_n eX6_init_48 rfl ?_
      refine y_bipush (v := nI 60) eX6_init_49 (by decide) ?_
      refine y_icmp_geN eX6_init_51 (by omega) (by decide) (fun c => by omega) (fun _ => ?_)
      refine y_aload_n eX6_init_54 rfl ?_
      refine y_get eX6_init_55 fX6_11 (pi_ro 196 hn).2 (by rw [(pi_ro 196 hn).1]; omega) hI.1 rfl ?_
      refine y_iload_n eX6_init_58 rfl ?_
      refine y_makeI eX6_init_59 eX6_init_62 eX6_init_63 nX6_init_9 yX6_17 i_X7_init rfl rfl ⟨by decide, by decide⟩ (Nat.le_of_ble_eq_true rfl) (by decide) hI (pi_ro 196 hn).2 (by rw [(pi_ro 196 hn).1]; omega) (by omega) ⟨by omega, by omega⟩ ⟨show _ ≤ 324 by omega, show _ ≤ sl + 627 by omega⟩ (by omega) (fun q _ h => xup_ne (fun e => by rw [e, pa] at h; omega)) (fun w1 h1 => yc_X7 (by omega) h1 (by rw [r.1, r.2]; exact w00_wide (by omega)) (by rw [r.2]; exact w00_col (by omega))) (fun w hI => ?_)
      have ea := inc_at hI (q := 40) (by decide) (by rw [(pi_ro 196 hn).1, pa]; omega) (by rw [pa]; omega)
      rw [xup_same] at ea
      have pr := pi_ro (204 + 2 * i) (by omega)
      have ex := inc_at hI (q := roN (204 + 2 * i)) pr.2 (by rw [(pi_ro 196 hn).1, pr.1]; omega) (by rw [pr.1]; omega)
      rw [xup_ne (fun e => by have := pr.1; rw [e, pa] at this; omega), r.1, w00_wide (by omega)] at ex
      rw [r.1] at pr ⊢
      refine y_astq eX6_init_66 (r := (RX7, TX7, 1)) rfl (by first | exact Or.inl ⟨rfl, rfl⟩ | exact Or.inr ⟨rfl, rfl⟩) (by decide) (by rw [pa]; omega) ea pr.2 (by rw [pr.1]; omega) ex rfl (by omega) (by decide) ?_
      have hI := inc_row (a := 40) (.inl (5, 60, .inr (.inr (.inr (.inr (va_up f i (some (237 + 2 * i)))))))) hI (by decide) (by rw [(pi_ro 196 hn).1, pa]; omega) (by rw [pa]; omega)
      have hI := inc_G (G' := xup w00 40 (.inl (5, 60, .inr (.inr (.inr (.inr (va_up f i (some (237 + 2 * i))))))))) hI (fun q _ => by
        by_cases z : q = 40
        · subst z
          rw [xup_same, xup_same]
        · rw [xup_ne z, xup_ne z, xup_ne z])
      refine y_iinc (lv' := [_, _]) eX6_init_67 rfl (nI_inc _) (by decide) rfl ?_
      refine y_goto eX6_init_70 ?_
      have e1 : 204 + 2 * i + 2 = 204 + 2 * (i + 1) := by omega
      rw [show 204 + 2 * i + 2 = 204 + 2 * (i + 1) by omega] at hI
      have fin := ih (i + 1) (by omega) _ _ (fun j hj => by
        unfold va_up
        by_cases z : j = i
        · subst z
          simp
        · simp only [z, if_false]
          exact hf j (by omega)) hI
      refine cast ?_ fin
      congr 1
  refine y_aload_n eX6_init_0 rfl ?_
  refine y_objInit eX6_init_1 oX6 oi_i oi_c (by decide) (Nat.le_of_ble_eq_true rfl) ?_
  refine y_aload_n eX6_init_4 rfl ?_
  refine y_bipush (v := nI 60) eX6_init_5 (by decide) ?_
  refine y_newqI eX6_init_7 qX6_init_9 (by first | exact Or.inl ⟨rfl, rfl⟩ | exact Or.inr ⟨rfl, rfl⟩) rfl (by decide) hI (pi_ro 196 hn).2 (by rw [(pi_ro 196 hn).1]; omega) (by omega) (show _ ≤ 324 by omega) (show _ ≤ sl + 627 by omega) rfl (fun w hI => ?_)
  refine y_putI eX6_init_10 pX6_init_11 hI (pi_ro 196 hn).2 (by rw [(pi_ro 196 hn).1]; omega) (fun _ => rfl) (fun _ => rfl) (Nat.le_of_ble_eq_true rfl) (fun w hI => ?_)
  refine y_aload_n eX6_init_13 rfl ?_
  refine y_makeI eX6_init_14 eX6_init_17 eX6_init_18 nX6_init_9 yX6_17 i_X7_init rfl rfl ⟨by decide, by decide⟩ (Nat.le_of_ble_eq_true rfl) (by decide) hI (pi_ro 196 hn).2 (by rw [(pi_ro 196 hn).1]; omega) (by omega) ⟨by omega, by omega⟩ ⟨show _ ≤ 324 by omega, show _ ≤ sl + 627 by omega⟩ (by omega) (fun q _ h => xup_ne (fun e => by rw [e, pa] at h; omega)) (fun w1 h1 => yc_X7 (by omega) h1 rfl rfl) (fun w hI => ?_)
  refine y_putI eX6_init_21 pX6_init_18 hI (pi_ro 196 hn).2 (by rw [(pi_ro 196 hn).1]; omega) (fun _ => rfl) (fun _ => rfl) (Nat.le_of_ble_eq_true rfl) (fun w hI => ?_)
  refine y_aload_n eX6_init_24 rfl ?_
  refine y_makeI eX6_init_25 eX6_init_28 eX6_init_29 nX6_init_9 yX6_17 i_X7_init rfl rfl ⟨by decide, by decide⟩ (Nat.le_of_ble_eq_true rfl) (by decide) hI (pi_ro 196 hn).2 (by rw [(pi_ro 196 hn).1]; omega) (by omega) ⟨by omega, by omega⟩ ⟨show _ ≤ 324 by omega, show _ ≤ sl + 627 by omega⟩ (by omega) (fun q _ h => xup_ne (fun e => by rw [e, pa] at h; omega)) (fun w1 h1 => yc_X7 (by omega) h1 rfl rfl) (fun w hI => ?_)
  refine y_putI eX6_init_32 pX6_init_22 hI (pi_ro 196 hn).2 (by rw [(pi_ro 196 hn).1]; omega) (fun _ => rfl) (fun _ => rfl) (Nat.le_of_ble_eq_true rfl) (fun w hI => ?_)
  refine y_aload_n eX6_init_35 rfl ?_
  refine y_makeI eX6_init_36 eX6_init_39 eX6_init_40 nX6_init_9 yX6_17 i_X7_init rfl rfl ⟨by decide, by decide⟩ (Nat.le_of_ble_eq_true rfl) (by decide) hI (pi_ro 196 hn).2 (by rw [(pi_ro 196 hn).1]; omega) (by omega) ⟨by omega, by omega⟩ ⟨show _ ≤ 324 by omega, show _ ≤ sl + 627 by omega⟩ (by omega) (fun q _ h => xup_ne (fun e => by rw [e, pa] at h; omega)) (fun w1 h1 => yc_X7 (by omega) h1 rfl rfl) (fun w hI => ?_)
  refine y_putI eX6_init_43 pX6_init_25 hI (pi_ro 196 hn).2 (by rw [(pi_ro 196 hn).1]; omega) (fun _ => rfl) (fun _ => rfl) (Nat.le_of_ble_eq_true rfl) (fun w hI => ?_)
  refine y_iconst (v := nI 0) eX6_init_46 (by decide) ?_
  refine y_istore_n (lv' := [_, _]) eX6_init_47 (by decide) rfl ?_
  exact loop 60 0 rfl _ _ (fun j hj => by omega) hI
theorem yc_X8 {sl : Nat} {w : xW} (e0 : w (roN 0) = .inr (8, [.null, .null, .null, .null, .null, .null, .null, .null, .int 0, .int (0), .int (0)])) : ySp mX8_init [.ref (roN 0)] (0 + 1) sl (334) (sl + 5670) w (fil w00 0 (334) w) := by
  have hn : 0 < 365 := by omega
  have hI := inc_start (G := w00) hn e0
  show YP _ _ 0 [(0, .ref (roN 0))] [] _ _ w _
  refine y_aload_n eX8_init_0 rfl ?_
  refine y_objInit eX8_init_1 oX8 oi_i oi_c (by decide) (Nat.le_of_ble_eq_true rfl) ?_
  refine y_makeI eX8_init_4 eX8_init_7 eX8_init_8 nX8_init_9 yX8_11 i_X2_init rfl rfl ⟨by decide, by decide⟩ (Nat.le_of_ble_eq_true rfl) (by decide) hI (pi_ro 0 hn).2 (by rw [(pi_ro 0 hn).1]; omega) (by omega) ⟨by omega, by omega⟩ ⟨show _ ≤ 334 by omega, show _ ≤ sl + 5670 by omega⟩ (by omega) (fun _ _ _ => rfl) (fun w1 h1 => yc_X2 h1) (fun w hI => ?_)
  refine y_astore_n (lv' := [_, _]) eX8_init_11 (by decide) rfl ?_
  refine y_aload_n eX8_init_12 rfl ?_
  refine y_aload_n eX8_init_13 rfl ?_
  refine y_putI eX8_init_14 pX8_init_12 hI (pi_ro 0 hn).2 (by rw [(pi_ro 0 hn).1]; omega) (fun _ => rfl) (fun _ => rfl) (Nat.le_of_ble_eq_true rfl) (fun w hI => ?_)
  refine y_aload_n eX8_init_17 rfl ?_
  refine y_new eX8_init_18 nX8_init_16 (by omega) (show _ ≤ 334 by omega) (show _ ≤ sl + 5670 by omega) ?_
  refine y_dup eX8_init_21 rfl ?_
  refine y_aload_n eX8_init_22 rfl ?_
  refine y_callI (As := [_]) eX8_init_23 yX8_18 i_X5_init rfl rfl ⟨by decide, by decide⟩ rfl rfl (Nat.le_of_ble_eq_true rfl) (by decide) ⟨by omega, by omega⟩ ⟨show _ ≤ 334 by omega, show _ ≤ sl + 5670 by omega⟩ (by omega) (by omega) (yc_X5 xup_same) (fun w' hw' => ?_)
  have hI := inc_call hI (pi_ro 0 hn).2 (by rw [(pi_ro 0 hn).1]; omega) (by omega) (by omega) (fun _ _ _ => rfl) hw'
  clear hw'
  refine y_putI eX8_init_26 pX8_init_21 hI (pi_ro 0 hn).2 (by rw [(pi_ro 0 hn).1]; omega) (fun _ => rfl) (fun _ => rfl) (Nat.le_of_ble_eq_true rfl) (fun w hI => ?_)
  refine y_aload_n eX8_init_29 rfl ?_
  refine y_makeI eX8_init_30 eX8_init_33 eX8_init_34 nX8_init_25 yX8_27 i_X3_init rfl rfl ⟨by decide, by decide⟩ (Nat.le_of_ble_eq_true rfl) (by decide) hI (pi_ro 0 hn).2 (by rw [(pi_ro 0 hn).1]; omega) (by omega) ⟨by omega, by omega⟩ ⟨show _ ≤ 334 by omega, show _ ≤ sl + 5670 by omega⟩ (by omega) (fun _ _ _ => rfl) (fun w1 h1 => yc_X3 h1) (fun w hI => ?_)
  refine y_putI eX8_init_37 pX8_init_28 hI (pi_ro 0 hn).2 (by rw [(pi_ro 0 hn).1]; omega) (fun _ => rfl) (fun _ => rfl) (Nat.le_of_ble_eq_true rfl) (fun w hI => ?_)
  refine y_aload_n eX8_init_40 rfl ?_
  refine y_makeI eX8_init_41 eX8_init_44 eX8_init_45 nX8_init_32 yX8_34 i_X6_init rfl rfl ⟨by decide, by decide⟩ (Nat.le_of_ble_eq_true rfl) (by decide) hI (pi_ro 0 hn).2 (by rw [(pi_ro 0 hn).1]; omega) (by omega) ⟨by omega, by omega⟩ ⟨show _ ≤ 334 by omega, show _ ≤ sl + 5670 by omega⟩ (by omega) (fun _ _ _ => rfl) (fun w1 h1 => yc_X6 h1) (fun w hI => ?_)
  refine y_putI eX8_init_48 pX8_init_35 hI (pi_ro 0 hn).2 (by rw [(pi_ro 0 hn).1]; omega) (fun _ => rfl) (fun _ => rfl) (Nat.le_of_ble_eq_true rfl) (fun w hI => ?_)
  refine y_aload_n eX8_init_51 rfl ?_
  refine y_makeI eX8_init_52 eX8_init_55 eX8_init_56 nX8_init_39 yX8_41 i_X0_init rfl rfl ⟨by decide, by decide⟩ (Nat.le_of_ble_eq_true rfl) (by decide) hI (pi_ro 0 hn).2 (by rw [(pi_ro 0 hn).1]; omega) (by omega) ⟨by omega, by omega⟩ ⟨show _ ≤ 334 by omega, show _ ≤ sl + 5670 by omega⟩ (by omega) (fun _ _ _ => rfl) (fun w1 h1 => yc_X0 h1) (fun w hI => ?_)
  refine y_putI eX8_init_59 pX8_init_42 hI (pi_ro 0 hn).2 (by rw [(pi_ro 0 hn).1]; omega) (fun _ => rfl) (fun _ => rfl) (Nat.le_of_ble_eq_true rfl) (fun w hI => ?_)
  refine y_aload_n eX8_init_62 rfl ?_
  refine y_makeI eX8_init_63 eX8_init_66 eX8_init_67 nX8_init_46 yX8_48 i_X4_init rfl rfl ⟨by decide, by decide⟩ (Nat.le_of_ble_eq_true rfl) (by decide) hI (pi_ro 0 hn).2 (by rw [(pi_ro 0 hn).1]; omega) (by omega) ⟨by omega, by omega⟩ ⟨show _ ≤ 334 by omega, show _ ≤ sl + 5670 by omega⟩ (by omega) (fun _ _ _ => rfl) (fun w1 h1 => yc_X4 (by omega) h1 rfl rfl) (fun w hI => ?_)
  refine y_putI eX8_init_70 pX8_init_49 hI (pi_ro 0 hn).2 (by rw [(pi_ro 0 hn).1]; omega) (fun _ => rfl) (fun _ => rfl) (Nat.le_of_ble_eq_true rfl) (fun w hI => ?_)
  refine y_aload_n eX8_init_73 rfl ?_
  refine y_makeI eX8_init_74 eX8_init_77 eX8_init_78 nX8_init_46 yX8_48 i_X4_init rfl rfl ⟨by decide, by decide⟩ (Nat.le_of_ble_eq_true rfl) (by decide) hI (pi_ro 0 hn).2 (by rw [(pi_ro 0 hn).1]; omega) (by omega) ⟨by omega, by omega⟩ ⟨show _ ≤ 334 by omega, show _ ≤ sl + 5670 by omega⟩ (by omega) (fun _ _ _ => rfl) (fun w1 h1 => yc_X4 (by omega) h1 rfl rfl) (fun w hI => ?_)
  refine y_putI eX8_init_81 pX8_init_53 hI (pi_ro 0 hn).2 (by rw [(pi_ro 0 hn).1]; omega) (fun _ => rfl) (fun _ => rfl) (Nat.le_of_ble_eq_true rfl) (fun w hI => ?_)
  refine y_aload_n eX8_init_84 rfl ?_
  refine y_makeI eX8_init_85 eX8_init_88 eX8_init_89 nX8_init_46 yX8_48 i_X4_init rfl rfl ⟨by decide, by decide⟩ (Nat.le_of_ble_eq_true rfl) (by decide) hI (pi_ro 0 hn).2 (by rw [(pi_ro 0 hn).1]; omega) (by omega) ⟨by omega, by omega⟩ ⟨show _ ≤ 334 by omega, show _ ≤ sl + 5670 by omega⟩ (by omega) (fun _ _ _ => rfl) (fun w1 h1 => yc_X4 (by omega) h1 rfl rfl) (fun w hI => ?_)
  refine y_putI eX8_init_92 pX8_init_56 hI (pi_ro 0 hn).2 (by rw [(pi_ro 0 hn).1]; omega) (fun _ => rfl) (fun _ => rfl) (Nat.le_of_ble_eq_true rfl) (fun w hI => ?_)
  refine y_aload_n eX8_init_95 rfl ?_
  refine y_iconst (v := (0)) eX8_init_96 (by decide) ?_
  refine y_putI eX8_init_97 pX8_init_59 hI (pi_ro 0 hn).2 (by rw [(pi_ro 0 hn).1]; omega) (fun _ => rfl) (fun _ => rfl) (Nat.le_of_ble_eq_true rfl) (fun w hI => ?_)
  refine y_aload_n eX8_init_100 rfl ?_
  refine y_iconst (v := (-1)) eX8_init_101 (by decide) ?_
  refine y_putI eX8_init_102 pX8_init_63 hI (pi_ro 0 hn).2 (by rw [(pi_ro 0 hn).1]; omega) (fun _ => rfl) (fun _ => rfl) (Nat.le_of_ble_eq_true rfl) (fun w hI => ?_)
  refine y_aload_n eX8_init_105 rfl ?_
  refine y_iconst (v := (-1)) eX8_init_106 (by decide) ?_
  refine y_putI eX8_init_107 pX8_init_66 hI (pi_ro 0 hn).2 (by rw [(pi_ro 0 hn).1]; omega) (fun _ => rfl) (fun _ => rfl) (Nat.le_of_ble_eq_true rfl) (fun w hI => ?_)
  refine y_end ⟨by omega, by omega, rfl, eX8_init_110.1, ?_⟩
  have hf := inc_fil (pi_ro 0 hn).2 (by rw [(pi_ro 0 hn).1]; omega) hI rfl
  rw [(pi_ro 0 hn).1] at hf
  exact hf
