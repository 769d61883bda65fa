/-- slot s of the class's rows holds the point P: its doubles, and its limbs of 26 bits -/
def cpt (S : xS) (s : Nat) (P : Pt) : Prop := s < 201 ∧ vz 72 (S.2.2.2 34 (2 * s)) P.1 ∧ vz 72 (S.2.2.2 34 (2 * s + 1)) P.2 ∧ (-(2 ^ 101) ≤ P.1 ∧ P.1 ≤ 2 ^ 101) ∧ (-(2 ^ 101) ≤ P.2 ∧ P.2 ≤ 2 ^ 101) ∧ ∃ f g : Nat → Int, (∀ k, k < 4 → (S.2.2.1 35 (8 * s + k) = lI (f k) ∧ -(2 ^ 26) < f k ∧ f k < 2 ^ 26) ∧ S.2.2.1 35 (8 * s + 4 + k) = lI (g k) ∧ -(2 ^ 26) < g k ∧ g k < 2 ^ 26) ∧ hv (2 ^ 26) f 0 4 = P.1 ∧ hv (2 ^ 26) g 0 4 = P.2
theorem cpt.mv {ps : List Nat} {S S' : xS} {s : Nat} {P : Pt} (h : cpt S s P) (hx : Lx ps S S') (h3 : 35 ∉ ps) : cpt S' s P := by
  obtain ⟨a, b, c, d, e, f, g, h1, h2⟩ := h
  refine ⟨a, by rw [hx.2.2.1]; exact b, by rw [hx.2.2.1]; exact c, d, e, f, g, fun k hk => ?_, h2⟩
  rw [hx.2.2.2 35 h3]
  exact h1 k hk
def ltP (a b : Pt) : Bool := decide (a.1 < b.1 ∨ (a.1 = b.1 ∧ a.2 < b.2))
theorem sp_X2_x (S : xS) {s : Nat} (h : s < 201) : Sp mX2_x [.ref 32, .int (nI s)] S (fun r S' => r = some (.double (S.2.2.2 34 (2 * s))) ∧ S' = S) := by
  show XP _ _ [_, _] _ _ _
  refine x_aload_n eX2_x_0 rfl ?_
  refine s_getR (k := 34) eX2_x_1 fX2_15 rfl (by decide) (by decide) rfl ?_
  refine x_iconst (v := nI 2) eX2_x_4 (by decide) ?_
  refine x_iload_n eX2_x_5 rfl ?_
  first | refine x_imulN eX2_x_6 ?_ | refine x_imul eX2_x_6 ?_
  refine s_dald eX2_x_7 rfl (by decide) rfl (show _ < 402 by omega) ?_
  exact s_dret eX2_x_8 rfl ⟨rfl, rfl⟩
theorem sp_X2_y (S : xS) {s : Nat} (h : s < 201) : Sp mX2_y [.ref 32, .int (nI s)] S (fun r S' => r = some (.double (S.2.2.2 34 (2 * s + 1))) ∧ S' = S) := by
  show XP _ _ [_, _] _ _ _
  refine x_aload_n eX2_y_0 rfl ?_
  refine s_getR (k := 34) eX2_y_1 fX2_15 rfl (by decide) (by decide) rfl ?_
  refine x_iconst (v := nI 2) eX2_y_4 (by decide) ?_
  refine x_iload_n eX2_y_5 rfl ?_
  first | refine x_imulN eX2_y_6 ?_ | refine x_imul eX2_y_6 ?_
  refine x_iconst (v := nI 1) eX2_y_7 (by decide) ?_
  first | refine x_iaddN eX2_y_8 ?_ | refine x_iadd eX2_y_8 ?_
  refine s_dald eX2_y_9 rfl (by decide) rfl (show _ < 402 by omega) ?_
  exact s_dret eX2_y_10 rfl ⟨rfl, rfl⟩
theorem sp_X2_isAhead (S : xS) {a b : Nat} {A B : Pt} (ha : cpt S a A) (hb : cpt S b B) : Sp mX2_isAhead [.ref 32, .int (nI a), .int (nI b)] S (fun r S' => r = some (.int (bI (ltP A B))) ∧ S' = S) := by
  show XP _ _ [_, _, _] _ _ _
  refine x_aload_n eX2_isAhead_0 rfl ?_
  refine x_iload_n eX2_isAhead_1 rfl ?_
  refine s_callV1 (As := [_]) eX2_isAhead_2 kX2_55 ⟨by decide, by decide⟩ rfl (by decide) (by decide) rfl rfl (Nat.le_of_ble_eq_true rfl) (Nat.le_of_ble_eq_true rfl) (sp_X2_x _ ha.1) (fun S_2 h_2 => ?_)
  subst h_2
  refine x_aload_n eX2_isAhead_5 rfl ?_
  refine x_iload_n eX2_isAhead_6 rfl ?_
  refine s_callV1 (As := [_]) eX2_isAhead_7 kX2_55 ⟨by decide, by decide⟩ rfl (by decide) (by decide) rfl rfl (Nat.le_of_ble_eq_true rfl) (Nat.le_of_ble_eq_true rfl) (sp_X2_x _ hb.1) (fun S_7 h_7 => ?_)
  subst h_7
  refine x_dcmp eX2_isAhead_10 ?_
  rw [cmpV ha.2.1 hb.2.1]
  refine x_if_ltS eX2_isAhead_11 (fun c_11 => ?_) (fun c_11 => ?_)
  · refine x_iconst (v := nI 1) eX2_isAhead_42 (by decide) ?_
    refine x_goto eX2_isAhead_43 ?_
    first
      | (refine s_iret eX2_isAhead_47 rfl rfl ⟨congrArg (fun v => some (Value.int v)) (bI_t ?_), rfl⟩; omega)
      | (refine s_iret eX2_isAhead_47 rfl rfl ⟨congrArg (fun v => some (Value.int v)) (bI_f ?_), rfl⟩; omega)
  · refine x_aload_n eX2_isAhead_14 rfl ?_
    refine x_iload_n eX2_isAhead_15 rfl ?_
    refine s_callV1 (As := [_]) eX2_isAhead_16 kX2_55 ⟨by decide, by decide⟩ rfl (by decide) (by decide) rfl rfl (Nat.le_of_ble_eq_true rfl) (Nat.le_of_ble_eq_true rfl) (sp_X2_x _ ha.1) (fun S_16 h_16 => ?_)
    subst h_16
    refine x_aload_n eX2_isAhead_19 rfl ?_
    refine x_iload_n eX2_isAhead_20 rfl ?_
    refine s_callV1 (As := [_]) eX2_isAhead_21 kX2_55 ⟨by decide, by decide⟩ rfl (by decide) (by decide) rfl rfl (Nat.le_of_ble_eq_true rfl) (Nat.le_of_ble_eq_true rfl) (sp_X2_x _ hb.1) (fun S_21 h_21 => ?_)
    subst h_21
    refine x_dcmp eX2_isAhead_24 ?_
    rw [cmpV ha.2.1 hb.2.1]
    refine x_if_neS eX2_isAhead_25 (fun c_25 => ?_) (fun c_25 => ?_)
    · refine x_iconst (v := nI 0) eX2_isAhead_46 (by decide) ?_
      first
        | (refine s_iret eX2_isAhead_47 rfl rfl ⟨congrArg (fun v => some (Value.int v)) (bI_t ?_), rfl⟩; omega)
        | (refine s_iret eX2_isAhead_47 rfl rfl ⟨congrArg (fun v => some (Value.int v)) (bI_f ?_), rfl⟩; omega)
    · refine x_aload_n eX2_isAhead_28 rfl ?_
      refine x_iload_n eX2_isAhead_29 rfl ?_
      refine s_callV1 (As := [_]) eX2_isAhead_30 kX2_59 ⟨by decide, by decide⟩ rfl (by decide) (by decide) rfl rfl (Nat.le_of_ble_eq_true rfl) (Nat.le_of_ble_eq_true rfl) (sp_X2_y _ ha.1) (fun S_30 h_30 => ?_)
      subst h_30
      refine x_aload_n eX2_isAhead_33 rfl ?_
      refine x_iload_n eX2_isAhead_34 rfl ?_
      refine s_callV1 (As := [_]) eX2_isAhead_35 kX2_59 ⟨by decide, by decide⟩ rfl (by decide) (by decide) rfl rfl (Nat.le_of_ble_eq_true rfl) (Nat.le_of_ble_eq_true rfl) (sp_X2_y _ hb.1) (fun S_35 h_35 => ?_)
      subst h_35
      refine x_dcmp eX2_isAhead_38 ?_
      rw [cmpV ha.2.2.1 hb.2.2.1]
      refine x_if_geS eX2_isAhead_39 (fun c_39 => ?_) (fun c_39 => ?_)
      · refine x_iconst (v := nI 0) eX2_isAhead_46 (by decide) ?_
        first
          | (refine s_iret eX2_isAhead_47 rfl rfl ⟨congrArg (fun v => some (Value.int v)) (bI_t ?_), rfl⟩; omega)
          | (refine s_iret eX2_isAhead_47 rfl rfl ⟨congrArg (fun v => some (Value.int v)) (bI_f ?_), rfl⟩; omega)
      · refine x_iconst (v := nI 1) eX2_isAhead_42 (by decide) ?_
        refine x_goto eX2_isAhead_43 ?_
        first
          | (refine s_iret eX2_isAhead_47 rfl rfl ⟨congrArg (fun v => some (Value.int v)) (bI_t ?_), rfl⟩; omega)
          | (refine s_iret eX2_isAhead_47 rfl rfl ⟨congrArg (fun v => some (Value.int v)) (bI_f ?_), rfl⟩; omega)
def spZ (a b c d : Int) : Bool := decide ((if a < b then a else b) ≤ (if c < d then d else c) ∧ (if c < d then c else d) ≤ (if a < b then b else a))
theorem sp_X2_spansMeet (S : xS) {u : Nat} {da db dc dd : UInt64} {a b c d : Int} (ha : vz u da a) (hb : vz u db b) (hc : vz u dc c) (hd : vz u dd d) : Sp mX2_spansMeet [.double da, .double db, .double dc, .double dd] S (fun r S' => r = some (.int (bI (spZ a b c d))) ∧ S' = S) := by
  have fin : ∀ (l1 h1 l2 h2 : UInt64), vz u l1 (if a < b then a else b) → vz u h1 (if a < b then b else a) → vz u l2 (if c < d then c else d) → vz u h2 (if c < d then d else c) → XP mX2_spansMeet 60 [(14, .double h2), (12, .double l2), (10, .double h1), (8, .double l1)] [] (xwS S) (sQ (fun r S' => r = some (.int (bI (spZ a b c d))) ∧ S' = S)) := by
    intro l1 h1 l2 h2 q1 q2 q3 q4
    refine x_dload eX2_spansMeet_60 rfl ?_
    refine x_dload eX2_spansMeet_62 rfl ?_
    refine x_dcmp eX2_spansMeet_64 ?_
    rw [cmpV q1 q4]
    refine x_if_gtS eX2_spansMeet_65 (fun c_65 => ?_) (fun c_65 => ?_)
    · refine x_iconst (v := nI 0) eX2_spansMeet_80 (by decide) ?_
      first
        | (refine s_iret eX2_spansMeet_81 rfl rfl ⟨congrArg (fun v => some (Value.int v)) (bI_t ?_), rfl⟩; omega)
        | (refine s_iret eX2_spansMeet_81 rfl rfl ⟨congrArg (fun v => some (Value.int v)) (bI_f ?_), rfl⟩; omega)
    · refine x_dload eX2_spansMeet_68 rfl ?_
      refine x_dload eX2_spansMeet_70 rfl ?_
      refine x_dcmp eX2_spansMeet_72 ?_
      rw [cmpV q3 q2]
      refine x_if_gtS eX2_spansMeet_73 (fun c_73 => ?_) (fun c_73 => ?_)
      · refine x_iconst (v := nI 0) eX2_spansMeet_80 (by decide) ?_
        first
          | (refine s_iret eX2_spansMeet_81 rfl rfl ⟨congrArg (fun v => some (Value.int v)) (bI_t ?_), rfl⟩; omega)
          | (refine s_iret eX2_spansMeet_81 rfl rfl ⟨congrArg (fun v => some (Value.int v)) (bI_f ?_), rfl⟩; omega)
      · refine x_iconst (v := nI 1) eX2_spansMeet_76 (by decide) ?_
        refine x_goto eX2_spansMeet_77 ?_
        first
          | (refine s_iret eX2_spansMeet_81 rfl rfl ⟨congrArg (fun v => some (Value.int v)) (bI_t ?_), rfl⟩; omega)
          | (refine s_iret eX2_spansMeet_81 rfl rfl ⟨congrArg (fun v => some (Value.int v)) (bI_f ?_), rfl⟩; omega)
  have j26 : ∀ (l1 h1 : UInt64), vz u l1 (if a < b then a else b) → vz u h1 (if a < b then b else a) → XP mX2_spansMeet 26 [(10, .double h1), (8, .double l1), (4, .double dc), (6, .double dd)] [] (xwS S) (sQ (fun r S' => r = some (.int (bI (spZ a b c d))) ∧ S' = S)) := by
    intro l1 h1 q1 q2
    refine x_dload eX2_spansMeet_26 rfl ?_
    refine x_dload eX2_spansMeet_28 rfl ?_
    refine x_dcmp eX2_spansMeet_30 ?_
    rw [cmpV hc hd]
    refine x_if_geS eX2_spansMeet_31 (fun c_31 => ?_) (fun c_31 => ?_)
    · refine x_dload eX2_spansMeet_39 rfl ?_
      refine x_dstore (lv' := [_, _, _, _, _]) eX2_spansMeet_41 (by decide) rfl ?_
      refine x_dload eX2_spansMeet_43 rfl ?_
      refine x_dload eX2_spansMeet_45 rfl ?_
      refine x_dcmp eX2_spansMeet_47 ?_
      rw [cmpV hc hd]
      refine x_if_geS eX2_spansMeet_48 (fun c_48 => ?_) (fun c_48 => ?_)
      · refine x_dload eX2_spansMeet_56 rfl ?_
        refine x_dstore (lv' := [_, _, _, _, _, _]) eX2_spansMeet_58 (by decide) rfl ?_
        refine x_pick [0, 1, 2, 3] rfl ?_
        first
          | exact absurd c_31 (by omega)
          | (refine fin _ _ _ _ q1 q2 ?_ ?_ <;> first | (rw [if_pos (by omega)]; assumption) | (rw [if_neg (by omega)]; assumption))
      · refine x_dload eX2_spansMeet_51 rfl ?_
        refine x_goto eX2_spansMeet_53 ?_
        refine x_dstore (lv' := [_, _, _, _, _, _]) eX2_spansMeet_58 (by decide) rfl ?_
        refine x_pick [0, 1, 2, 3] rfl ?_
        first
          | exact absurd c_31 (by omega)
          | (refine fin _ _ _ _ q1 q2 ?_ ?_ <;> first | (rw [if_pos (by omega)]; assumption) | (rw [if_neg (by omega)]; assumption))
    · refine x_dload eX2_spansMeet_34 rfl ?_
      refine x_goto eX2_spansMeet_36 ?_
      refine x_dstore (lv' := [_, _, _, _, _]) eX2_spansMeet_41 (by decide) rfl ?_
      refine x_dload eX2_spansMeet_43 rfl ?_
      refine x_dload eX2_spansMeet_45 rfl ?_
      refine x_dcmp eX2_spansMeet_47 ?_
      rw [cmpV hc hd]
      refine x_if_geS eX2_spansMeet_48 (fun c_48 => ?_) (fun c_48 => ?_)
      · refine x_dload eX2_spansMeet_56 rfl ?_
        refine x_dstore (lv' := [_, _, _, _, _, _]) eX2_spansMeet_58 (by decide) rfl ?_
        refine x_pick [0, 1, 2, 3] rfl ?_
        first
          | exact absurd c_31 (by omega)
          | (refine fin _ _ _ _ q1 q2 ?_ ?_ <;> first | (rw [if_pos (by omega)]; assumption) | (rw [if_neg (by omega)]; assumption))
      · refine x_dload eX2_spansMeet_51 rfl ?_
        refine x_goto eX2_spansMeet_53 ?_
        refine x_dstore (lv' := [_, _, _, _, _, _]) eX2_spansMeet_58 (by decide) rfl ?_
        refine x_pick [0, 1, 2, 3] rfl ?_
        first
          | exact absurd c_31 (by omega)
          | (refine fin _ _ _ _ q1 q2 ?_ ?_ <;> first | (rw [if_pos (by omega)]; assumption) | (rw [if_neg (by omega)]; assumption))
  show XP _ _ [_, _, _, _] _ _ _
  refine x_dload_n eX2_spansMeet_0 rfl ?_
  refine x_dload_n eX2_spansMeet_1 rfl ?_
  refine x_dcmp eX2_spansMeet_2 ?_
  rw [cmpV ha hb]
  refine x_if_geS eX2_spansMeet_3 (fun c_3 => ?_) (fun c_3 => ?_)
  · refine x_dload_n eX2_spansMeet_10 rfl ?_
    refine x_dstore (lv' := [_, _, _, _, _]) eX2_spansMeet_11 (by decide) rfl ?_
    refine x_dload_n eX2_spansMeet_13 rfl ?_
    refine x_dload_n eX2_spansMeet_14 rfl ?_
    refine x_dcmp eX2_spansMeet_15 ?_
    rw [cmpV ha hb]
    refine x_if_geS eX2_spansMeet_16 (fun c_16 => ?_) (fun c_16 => ?_)
    · refine x_dload_n eX2_spansMeet_23 rfl ?_
      refine x_dstore (lv' := [_, _, _, _, _, _]) eX2_spansMeet_24 (by decide) rfl ?_
      refine x_pick [0, 1, 4, 5] rfl ?_
      first
        | exact absurd c_3 (by omega)
        | (refine j26 _ _ ?_ ?_ <;> first | (rw [if_pos (by omega)]; assumption) | (rw [if_neg (by omega)]; assumption))
    · refine x_dload_n eX2_spansMeet_19 rfl ?_
      refine x_goto eX2_spansMeet_20 ?_
      refine x_dstore (lv' := [_, _, _, _, _, _]) eX2_spansMeet_24 (by decide) rfl ?_
      refine x_pick [0, 1, 4, 5] rfl ?_
      first
        | exact absurd c_3 (by omega)
        | (refine j26 _ _ ?_ ?_ <;> first | (rw [if_pos (by omega)]; assumption) | (rw [if_neg (by omega)]; assumption))
  · refine x_dload_n eX2_spansMeet_6 rfl ?_
    refine x_goto eX2_spansMeet_7 ?_
    refine x_dstore (lv' := [_, _, _, _, _]) eX2_spansMeet_11 (by decide) rfl ?_
    refine x_dload_n eX2_spansMeet_13 rfl ?_
    refine x_dload_n eX2_spansMeet_14 rfl ?_
    refine x_dcmp eX2_spansMeet_15 ?_
    rw [cmpV ha hb]
    refine x_if_geS eX2_spansMeet_16 (fun c_16 => ?_) (fun c_16 => ?_)
    · refine x_dload_n eX2_spansMeet_23 rfl ?_
      refine x_dstore (lv' := [_, _, _, _, _, _]) eX2_spansMeet_24 (by decide) rfl ?_
      refine x_pick [0, 1, 4, 5] rfl ?_
      first
        | exact absurd c_3 (by omega)
        | (refine j26 _ _ ?_ ?_ <;> first | (rw [if_pos (by omega)]; assumption) | (rw [if_neg (by omega)]; assumption))
    · refine x_dload_n eX2_spansMeet_19 rfl ?_
      refine x_goto eX2_spansMeet_20 ?_
      refine x_dstore (lv' := [_, _, _, _, _, _]) eX2_spansMeet_24 (by decide) rfl ?_
      refine x_pick [0, 1, 4, 5] rfl ?_
      first
        | exact absurd c_3 (by omega)
        | (refine j26 _ _ ?_ ?_ <;> first | (rw [if_pos (by omega)]; assumption) | (rw [if_neg (by omega)]; assumption))
def sureZ (E F : Int) : Bool := decide (rn ((E.natAbs : Int) + F.natAbs) < rn (E - F).natAbs * 2 ^ 50)
theorem rnN_le (n : Nat) : FP.Core.nearest n (2 ^ (n.log2 - 52)) ≤ 2 ^ 53 := by
  apply FP.Core.nearest_le (Nat.two_pow_pos _)
  have l2 : n < 2 ^ (n.log2 + 1) := Nat.lt_log2_self
  rw [← Nat.pow_add]
  have := Nat.pow_le_pow_right (n := 2) (by decide) (show n.log2 + 1 ≤ 53 + (n.log2 - 52) by omega)
  omega
theorem rnN_idem (n : Nat) : rnN (rnN n) = rnN n := rnN_pow (rnN_le n)
theorem rn_idem (z : Int) : rn (rn z) = rn z := by
  by_cases h0 : z = 0
  · subst h0; decide
  · have h1 := rn_natAbs z
    have h2 : rn z < 0 ↔ z < 0 := by
      constructor
      · intro h
        rcases Int.lt_trichotomy z 0 with h3 | h3 | h3
        · exact h3
        · exact absurd h3 h0
        · have := rn_pos h3; omega
      · exact rn_negz
    unfold rn at h2 ⊢
    rw [show (if z < 0 then -(rnN z.natAbs : Int) else (rnN z.natAbs : Int)).natAbs = rnN z.natAbs from h1, rnN_idem]
    by_cases h : z < 0
    · rw [if_pos h, if_pos (by rw [if_pos h] at h2; exact h2.mpr h)]
    · rw [if_neg h, if_neg (by rw [if_neg h] at h2; exact fun h5 => h (h2.mp h5))]
theorem vz_0 (u : Nat) : vz u FP.dconst0 0 := ⟨false, 0, -1074, by decide, by simp, fun h => absurd rfl h⟩
theorem vz_2p50 : vz 0 4832362400168542208 (2 ^ 50) := by
  have := vz_l2d (z := 2 ^ 50) (by decide)
  have e : FP.l2d (lI (2 ^ 50)) = 4832362400168542208 := by decide +kernel
  rwa [e] at this
theorem sp_X2_isSureOf (S : xS) {e f : UInt64} {E F : Int} (he : vz 144 e E) (hf : vz 144 f F) (bE : E.natAbs < 2 ^ 300) (bF : F.natAbs < 2 ^ 300) : Sp mX2_isSureOf [.double e, .double f] S (fun r S' => r = some (.int (bI (sureZ E F))) ∧ S' = S) := by
  have fin : ∀ s ap : UInt64, vz 144 s (rn ((E.natAbs : Int) + F.natAbs)) → vz 144 ap (rn (E - F).natAbs) → XP mX2_isSureOf 44 [(6, .double ap), (4, .double s)] [] (xwS S) (sQ (fun r S' => r = some (.int (bI (sureZ E F))) ∧ S' = S)) := by
    intro s ap hs hap
    have er := rn_err ((E.natAbs : Int) + F.natAbs)
    have hq := vz_ddiv (k := 50) (by decide) hs vz_2p50 (by have : 2 ^ 302 ≤ 2 ^ (144 + 50 + 900) := Nat.pow_le_pow_right (by decide) (by decide); omega)
    rw [rn_idem] at hq
    have hr := vz_rep (k := 50) hap
    refine x_dload eX2_isSureOf_44 rfl ?_
    refine x_dload eX2_isSureOf_46 rfl ?_
    refine x_ldc2d (v := 4832362400168542208) eX2_isSureOf_48 (xT 307 (by decide +kernel) rfl) ?_
    refine x_ddiv eX2_isSureOf_51 (vz_n64 hq) ?_
    refine x_dcmp eX2_isSureOf_52 ?_
    rw [cmpV hr hq]
    refine x_if_leS eX2_isSureOf_53 (fun c_53 => ?_) (fun c_53 => ?_)
    · refine x_iconst (v := nI 0) eX2_isSureOf_60 (by decide) ?_
      first
        | (refine s_iret eX2_isSureOf_61 rfl rfl ⟨congrArg (fun v => some (Value.int v)) (bI_t ?_), rfl⟩; omega)
        | (refine s_iret eX2_isSureOf_61 rfl rfl ⟨congrArg (fun v => some (Value.int v)) (bI_f ?_), rfl⟩; omega)
    · refine x_iconst (v := nI 1) eX2_isSureOf_56 (by decide) ?_
      refine x_goto eX2_isSureOf_57 ?_
      first
        | (refine s_iret eX2_isSureOf_61 rfl rfl ⟨congrArg (fun v => some (Value.int v)) (bI_t ?_), rfl⟩; omega)
        | (refine s_iret eX2_isSureOf_61 rfl rfl ⟨congrArg (fun v => some (Value.int v)) (bI_f ?_), rfl⟩; omega)
  have j27 : ∀ s : UInt64, vz 144 s (rn ((E.natAbs : Int) + F.natAbs)) → XP mX2_isSureOf 27 [(4, .double s), (0, .double e), (2, .double f)] [] (xwS S) (sQ (fun r S' => r = some (.int (bI (sureZ E F))) ∧ S' = S)) := by
    intro s hs
    have hp : 2 ^ 302 ≤ 2 ^ (144 + 900) := Nat.pow_le_pow_right (by decide) (by decide)
    have d1 := vz_dsub (by decide) hf he (show (F - E).natAbs < _ by omega)
    have d2 := vz_dsub (by decide) he hf (show (E - F).natAbs < _ by omega)
    refine x_dload_n eX2_isSureOf_27 rfl ?_
    refine x_dload_n eX2_isSureOf_28 rfl ?_
    refine x_dcmp eX2_isSureOf_29 ?_
    rw [cmpV he hf]
    refine x_if_geS eX2_isSureOf_30 (fun c_30 => ?_) (fun c_30 => ?_)
    · refine x_dload_n eX2_isSureOf_39 rfl ?_
      refine x_dload_n eX2_isSureOf_40 rfl ?_
      refine x_dsub eX2_isSureOf_41 (vz_n64 d2) ?_
      refine x_dstore (lv' := [_, _, _, _]) eX2_isSureOf_42 (by decide) rfl ?_
      refine x_pick [0, 1] rfl ?_
      first
        | (rw [show F - E = ((E - F).natAbs : Int) by omega] at d1; exact fin _ _ hs d1)
        | (rw [show E - F = ((E - F).natAbs : Int) by omega] at d2; exact fin _ _ hs d2)
    · refine x_dload_n eX2_isSureOf_33 rfl ?_
      refine x_dload_n eX2_isSureOf_34 rfl ?_
      refine x_dsub eX2_isSureOf_35 (vz_n64 d1) ?_
      refine x_goto eX2_isSureOf_36 ?_
      refine x_dstore (lv' := [_, _, _, _]) eX2_isSureOf_42 (by decide) rfl ?_
      refine x_pick [0, 1] rfl ?_
      first
        | (rw [show F - E = ((E - F).natAbs : Int) by omega] at d1; exact fin _ _ hs d1)
        | (rw [show E - F = ((E - F).natAbs : Int) by omega] at d2; exact fin _ _ hs d2)
  have j24 : ∀ ae af : UInt64, vz 144 ae (E.natAbs : Int) → vz 144 af (F.natAbs : Int) → XP mX2_isSureOf 24 [(0, .double e), (2, .double f)] [.double af, .double ae] (xwS S) (sQ (fun r S' => r = some (.int (bI (sureZ E F))) ∧ S' = S)) := by
    intro ae af h1 h2
    have hp : 2 ^ 302 ≤ 2 ^ (144 + 900) := Nat.pow_le_pow_right (by decide) (by decide)
    have d1 := vz_dadd (by decide) h1 h2 (show ((E.natAbs : Int) + F.natAbs).natAbs < _ by omega)
    refine x_dadd eX2_isSureOf_24 (vz_n64 d1) ?_
    refine x_dstore (lv' := [_, _, _]) eX2_isSureOf_25 (by decide) rfl ?_
    refine x_pick [0, 1, 2] rfl ?_
    exact j27 _ d1
  have ne := vz_neg he
  have nf := vz_neg hf
  have j12 : ∀ ae : UInt64, vz 144 ae (E.natAbs : Int) → XP mX2_isSureOf 12 [(0, .double e), (2, .double f)] [.double ae] (xwS S) (sQ (fun r S' => r = some (.int (bI (sureZ E F))) ∧ S' = S)) := by
    intro ae h1
    refine x_dload_n eX2_isSureOf_12 rfl ?_
    refine x_dconst0 eX2_isSureOf_13 ?_
    refine x_dcmp eX2_isSureOf_14 ?_
    rw [cmpV hf (vz_0 144)]
    refine x_if_geS eX2_isSureOf_15 (fun c_15 => ?_) (fun c_15 => ?_)
    · refine x_dload_n eX2_isSureOf_23 rfl ?_
      first
        | (rw [show -F = (F.natAbs : Int) by omega] at nf; exact j24 _ _ h1 nf)
        | (rw [show F = (F.natAbs : Int) by omega] at hf; exact j24 _ _ h1 hf)
    · refine x_dload_n eX2_isSureOf_18 rfl ?_
      refine x_dneg eX2_isSureOf_19 ?_
      refine x_goto eX2_isSureOf_20 ?_
      first
        | (rw [show -F = (F.natAbs : Int) by omega] at nf; exact j24 _ _ h1 nf)
        | (rw [show F = (F.natAbs : Int) by omega] at hf; exact j24 _ _ h1 hf)
  show XP _ _ [_, _] _ _ _
  refine x_dload_n eX2_isSureOf_0 rfl ?_
  refine x_dconst0 eX2_isSureOf_1 ?_
  refine x_dcmp eX2_isSureOf_2 ?_
  rw [cmpV he (vz_0 144)]
  refine x_if_geS eX2_isSureOf_3 (fun c_3 => ?_) (fun c_3 => ?_)
  · refine x_dload_n eX2_isSureOf_11 rfl ?_
    first
      | (rw [show -E = (E.natAbs : Int) by omega] at ne; exact j12 _ ne)
      | (rw [show E = (E.natAbs : Int) by omega] at he; exact j12 _ he)
  · refine x_dload_n eX2_isSureOf_6 rfl ?_
    refine x_dneg eX2_isSureOf_7 ?_
    refine x_goto eX2_isSureOf_8 ?_
    first
      | (rw [show -E = (E.natAbs : Int) by omega] at ne; exact j12 _ ne)
      | (rw [show E = (E.natAbs : Int) by omega] at he; exact j12 _ he)
