/-! ===== points; which side, which comes ahead, between ===== -/
theorem bI_t {p : Prop} [Decidable p] (h : p) : nI 1 = bI (decide p) := by rw [decide_eq_true h]; rfl
theorem bI_f {p : Prop} [Decidable p] (h : ¬ p) : nI 0 = bI (decide p) := by rw [decide_eq_false h]; rfl
abbrev Pt : Type := Int × Int
def orP (a b c : Pt) : Int := (a.1 - c.1) * (b.2 - c.2) - (a.2 - c.2) * (b.1 - c.1)
def ahP (a b : Pt) : Int32 := if sg (a.1 - b.1) = 0 then sg (a.2 - b.2) else sg (a.1 - b.1)
def btP (a b c : Pt) : Bool := decide ((ahP a c ≤ 0 ∧ ahP c b ≤ 0) ∨ (0 ≤ ahP a c ∧ 0 ≤ ahP c b))
def onP (a b c : Pt) : Bool := decide (sg (orP a b c) = 0) && btP a b c
/-- slot s of the reference's rows holds the point P -/
def pt (S : xS) (s : Nat) (P : Pt) : Prop := lim S 3 s P.1 ∧ lim S 4 s P.2 ∧ (-(2 ^ 102) ≤ P.1 ∧ P.1 ≤ 2 ^ 102) ∧ (-(2 ^ 102) ≤ P.2 ∧ P.2 ≤ 2 ^ 102) ∧ s < 202
theorem pt.mv {ps : List Nat} {S S' : xS} {s : Nat} {P : Pt} (h : pt S s P) (hx : Lx ps S S') (h3 : 3 ∉ ps) (h4 : 4 ∉ ps) : pt S' s P := by
  obtain ⟨a, b, c, d, e⟩ := h
  refine ⟨fun i hi => ?_, fun i hi => ?_, c, d, e⟩
  · rw [hx.2.2.2 3 h3]; exact a i hi
  · rw [hx.2.2.2 4 h4]; exact b i hi
theorem mulB {a b A B : Int} (ha : -A ≤ a ∧ a ≤ A) (hb : -B ≤ b ∧ b ≤ B) : -(A * B) ≤ a * b ∧ a * b ≤ A * B := by
  have h1 : a.natAbs ≤ A.toNat := by omega
  have h2 : b.natAbs ≤ B.toNat := by omega
  have h3 : (a * b).natAbs ≤ A.toNat * B.toNat := by rw [Int.natAbs_mul]; exact Nat.mul_le_mul h1 h2
  have h4 : ((A.toNat * B.toNat : Nat) : Int) = A * B := by rw [Int.natCast_mul, Int.toNat_of_nonneg (by omega), Int.toNat_of_nonneg (by omega)]
  omega
theorem sg_nar (z : Int) : narrow .int (.int (sg z)) = .int (sg z) := rfl
theorem sp_X9_turn (S : xS) {a b c : Nat} {A B C : Pt} (ha : pt S a A) (hb : pt S b B) (hc : pt S c C) : Sp mX9_turn [.ref 0, .int (nI a), .int (nI b), .int (nI c)] S (fun r S' => r = some (.int (sg (orP A B C))) ∧ Lx [5, 6, 7] S S') := by
  obtain ⟨a3, a4, ax, ay, al⟩ := id ha
  obtain ⟨b3, b4, bx, bY, bl⟩ := id hb
  obtain ⟨c3, c4, cx, cy, cl⟩ := id hc
  have p1 := mulB (a := A.1 - C.1) (b := B.2 - C.2) (A := 2 ^ 103) (B := 2 ^ 103) ⟨by omega, by omega⟩ ⟨by omega, by omega⟩
  have p2 := mulB (a := A.2 - C.2) (b := B.1 - C.1) (A := 2 ^ 103) (B := 2 ^ 103) ⟨by omega, by omega⟩ ⟨by omega, by omega⟩
  show XP _ _ [_, _, _, _] _ _ _
  refine x_aload_n eX9_turn_0 rfl ?_
  refine s_getR (k := 7) eX9_turn_1 fX9_28 rfl (by decide) (by decide) rfl ?_
  refine x_iconst (v := nI 0) eX9_turn_4 (by decide) ?_
  refine x_bipush (v := nI 10) eX9_turn_5 (by decide) ?_
  refine s_callS0 (As := [_, _, _]) eX9_turn_7 kX9_144 ⟨by decide, by decide⟩ rfl rfl (Nat.le_of_ble_eq_true rfl) (Nat.le_of_ble_eq_true rfl) (sp_X9_clear (a := 7) rfl (by decide) (fr := 0) (n := 10) (by decide) S) (fun S_7 h_7 => ?_)
  have x1 : Lx [5, 6, 7] S S_7 := by rw [h_7]; exact Lx.set _ _ (by simp)
  refine x_aload_n eX9_turn_10 rfl ?_
  refine x_aload_n eX9_turn_11 rfl ?_
  refine s_getR (k := 3) eX9_turn_12 fX9_16 rfl (by decide) (by decide) rfl ?_
  refine x_iload_n eX9_turn_15 rfl ?_
  refine x_iload_n eX9_turn_16 rfl ?_
  refine x_aload_n eX9_turn_17 rfl ?_
  refine s_getR (k := 4) eX9_turn_18 fX9_19 rfl (by decide) (by decide) rfl ?_
  refine x_iload_n eX9_turn_21 rfl ?_
  refine x_iload_n eX9_turn_22 rfl ?_
  refine x_aload_n eX9_turn_23 rfl ?_
  refine s_getR (k := 7) eX9_turn_24 fX9_28 rfl (by decide) (by decide) rfl ?_
  refine x_iconst (v := nI 0) eX9_turn_27 (by decide) ?_
  refine x_lconst (v := lI 1) eX9_turn_28 (by decide) ?_
  refine s_callV0 (As := [_, _, _, _, _, _, _, _, _]) eX9_turn_29 kX9_147 ⟨by decide, by decide⟩ rfl (by decide) (by decide) rfl rfl (Nat.le_of_ble_eq_true rfl) (Nat.le_of_ble_eq_true rfl) (sp_X9_times S_7 (p1 := 3) (p2 := 4) (p3 := 7) rfl (by decide) rfl (by decide) rfl (by decide) (by decide) (by decide) (by decide) (VA := A.1) (VB := C.1) (VC := B.2) (VD := C.2) (T := 0) (s := 1) (show _ ≤ 1010 by omega) (show _ ≤ 1010 by omega) (by decide) (ha.mv x1 (by decide) (by decide)).1 (hb.mv x1 (by decide) (by decide)).2.1 (Or.inr ⟨c, rfl, show _ ≤ 1010 by omega, (hc.mv x1 (by decide) (by decide)).1⟩) (Or.inr ⟨c, rfl, show _ ≤ 1010 by omega, (hc.mv x1 (by decide) (by decide)).2.1⟩) (by omega) (by omega) (by omega) (by omega) (Or.inl rfl) (fun i hi => by rw [h_7, setL_at, if_pos (by omega), can_of_zero]; rfl) (by decide)) (fun S_29 h_29 => ?_)
  have x2 : Lx [5, 6, 7] S S_29 := x1.tr h_29.1
  refine x_aload_n eX9_turn_32 rfl ?_
  refine x_aload_n eX9_turn_33 rfl ?_
  refine s_getR (k := 4) eX9_turn_34 fX9_19 rfl (by decide) (by decide) rfl ?_
  refine x_iload_n eX9_turn_37 rfl ?_
  refine x_iload_n eX9_turn_38 rfl ?_
  refine x_aload_n eX9_turn_39 rfl ?_
  refine s_getR (k := 3) eX9_turn_40 fX9_16 rfl (by decide) (by decide) rfl ?_
  refine x_iload_n eX9_turn_43 rfl ?_
  refine x_iload_n eX9_turn_44 rfl ?_
  refine x_aload_n eX9_turn_45 rfl ?_
  refine s_getR (k := 7) eX9_turn_46 fX9_28 rfl (by decide) (by decide) rfl ?_
  refine x_iconst (v := nI 0) eX9_turn_49 (by decide) ?_
  refine x_ldc2 (v := lI (-1)) eX9_turn_50 (xT 842 (by decide +kernel) rfl) ?_
  refine s_callV0 (As := [_, _, _, _, _, _, _, _, _]) eX9_turn_53 kX9_147 ⟨by decide, by decide⟩ rfl (by decide) (by decide) rfl rfl (Nat.le_of_ble_eq_true rfl) (Nat.le_of_ble_eq_true rfl) (sp_X9_times S_29 (p1 := 4) (p2 := 3) (p3 := 7) rfl (by decide) rfl (by decide) rfl (by decide) (by decide) (by decide) (by decide) (VA := A.2) (VB := C.2) (VC := B.1) (VD := C.1) (T := 0 + 1 * ((A.1 - C.1) * (B.2 - C.2))) (s := -1) (show _ ≤ 1010 by omega) (show _ ≤ 1010 by omega) (by decide) (ha.mv x2 (by decide) (by decide)).2.1 (hb.mv x2 (by decide) (by decide)).1 (Or.inr ⟨c, rfl, show _ ≤ 1010 by omega, (hc.mv x2 (by decide) (by decide)).2.1⟩) (Or.inr ⟨c, rfl, show _ ≤ 1010 by omega, (hc.mv x2 (by decide) (by decide)).1⟩) (by omega) (by omega) (by omega) (by omega) (Or.inr rfl) (fun i hi => by rw [h_29.2, if_pos (by omega), show 0 + i - 0 = i by omega]) (by generalize (A.1 - C.1) * (B.2 - C.2) = u at *; omega)) (fun S_53 h_53 => ?_)
  have x3 : Lx [5, 6, 7] S S_53 := x2.tr h_53.1
  refine x_aload_n eX9_turn_56 rfl ?_
  refine s_getR (k := 7) eX9_turn_57 fX9_28 rfl (by decide) (by decide) rfl ?_
  refine x_iconst (v := nI 0) eX9_turn_60 (by decide) ?_
  refine x_bipush (v := nI 10) eX9_turn_61 (by decide) ?_
  refine s_callS1 (As := [_, _, _]) eX9_turn_63 kX9_151 ⟨by decide, by decide⟩ rfl rfl (Nat.le_of_ble_eq_true rfl) (Nat.le_of_ble_eq_true rfl) (sp_X9_signOf (a := 7) rfl (by decide) (fr := 0) (n := 10) (by decide) (by decide) S_53 (orP A B C) (fun i hi => by rw [h_53.2, if_pos (by omega), show 0 + i - 0 = i by omega]; congr 2; unfold orP; grind) (by unfold orP; generalize (A.1 - C.1) * (B.2 - C.2) = u at *; generalize (A.2 - C.2) * (B.1 - C.1) = v at *; exact ⟨by omega, by omega⟩)) (fun S_63 h_63 => ?_)
  subst h_63
  exact s_iret eX9_turn_66 rfl rfl ⟨rfl, x3⟩
theorem sp_X9_ahead (S : xS) {a b : Nat} {A B : Pt} (ha : pt S a A) (hb : pt S b B) : Sp mX9_ahead [.ref 0, .int (nI a), .int (nI b)] S (fun r S' => r = some (.int (ahP A B)) ∧ S' = S) := by
  obtain ⟨a3, a4, ax, ay, al⟩ := id ha
  obtain ⟨b3, b4, bx, bY, bl⟩ := id hb
  show XP _ _ [_, _, _] _ _ _
  refine x_aload_n eX9_ahead_0 rfl ?_
  refine s_getR (k := 3) eX9_ahead_1 fX9_16 rfl (by decide) (by decide) rfl ?_
  refine x_iload_n eX9_ahead_4 rfl ?_
  refine x_iload_n eX9_ahead_5 rfl ?_
  refine s_callS1 (As := [_, _, _]) eX9_ahead_6 kX9_155 ⟨by decide, by decide⟩ rfl rfl (Nat.le_of_ble_eq_true rfl) (Nat.le_of_ble_eq_true rfl) (sp_X9_order (p := 3) rfl (by decide) (show _ ≤ 1010 by omega) (show _ ≤ 1010 by omega) S A.1 B.1 ha.1 hb.1 ⟨by omega, by omega⟩ ⟨by omega, by omega⟩) (fun S_6 h_6 => ?_)
  subst h_6
  refine x_istore_n (lv' := [_, _, _, _]) eX9_ahead_9 (by decide) rfl ?_
  refine x_iload_n eX9_ahead_10 rfl ?_
  refine x_if_eq eX9_ahead_11 (fun c_11 => ?_) (fun c_11 => ?_)
  · refine x_aload_n eX9_ahead_18 rfl ?_
    refine s_getR (k := 4) eX9_ahead_19 fX9_19 rfl (by decide) (by decide) rfl ?_
    refine x_iload_n eX9_ahead_22 rfl ?_
    refine x_iload_n eX9_ahead_23 rfl ?_
    refine s_callS1 (As := [_, _, _]) eX9_ahead_24 kX9_155 ⟨by decide, by decide⟩ rfl rfl (Nat.le_of_ble_eq_true rfl) (Nat.le_of_ble_eq_true rfl) (sp_X9_order (p := 4) rfl (by decide) (show _ ≤ 1010 by omega) (show _ ≤ 1010 by omega) S_6 A.2 B.2 ha.2.1 hb.2.1 ⟨by omega, by omega⟩ ⟨by omega, by omega⟩) (fun S_24 h_24 => ?_)
    subst h_24
    first
      | exact s_iret eX9_ahead_27 rfl rfl ⟨by unfold ahP; rw [if_neg c_11], rfl⟩
      | exact s_iret eX9_ahead_27 rfl rfl ⟨by unfold ahP; rw [if_pos c_11], rfl⟩
  · refine x_iload_n eX9_ahead_14 rfl ?_
    refine x_goto eX9_ahead_15 ?_
    first
      | exact s_iret eX9_ahead_27 rfl rfl ⟨by unfold ahP; rw [if_neg c_11], rfl⟩
      | exact s_iret eX9_ahead_27 rfl rfl ⟨by unfold ahP; rw [if_pos c_11], rfl⟩
theorem sp_X9_isBetween (S : xS) {a b c : Nat} {A B C : Pt} (ha : pt S a A) (hb : pt S b B) (hc : pt S c C) : Sp mX9_isBetween [.ref 0, .int (nI a), .int (nI b), .int (nI c)] S (fun r S' => r = some (.int (bI (btP A B C))) ∧ S' = S) := by
  show XP _ _ [_, _, _, _] _ _ _
  refine x_aload_n eX9_isBetween_0 rfl ?_
  refine x_iload_n eX9_isBetween_1 rfl ?_
  refine x_iload_n eX9_isBetween_2 rfl ?_
  refine s_callV1 (As := [_, _]) eX9_isBetween_3 kX9_158 ⟨by decide, by decide⟩ rfl (by decide) (by decide) rfl rfl (Nat.le_of_ble_eq_true rfl) (Nat.le_of_ble_eq_true rfl) (sp_X9_ahead S ha hc) (fun S_3 h_3 => ?_)
  subst h_3
  refine x_istore (lv' := [_, _, _, _, _]) eX9_isBetween_6 (by decide) rfl ?_
  refine x_aload_n eX9_isBetween_8 rfl ?_
  refine x_iload_n eX9_isBetween_9 rfl ?_
  refine x_iload_n eX9_isBetween_10 rfl ?_
  refine s_callV1 (As := [_, _]) eX9_isBetween_11 kX9_158 ⟨by decide, by decide⟩ rfl (by decide) (by decide) rfl rfl (Nat.le_of_ble_eq_true rfl) (Nat.le_of_ble_eq_true rfl) (sp_X9_ahead S_3 hc hb) (fun S_11 h_11 => ?_)
  subst h_11
  refine x_istore (lv' := [_, _, _, _, _, _]) eX9_isBetween_14 (by decide) rfl ?_
  refine x_iload eX9_isBetween_16 rfl ?_
  refine x_if_gt eX9_isBetween_18 (fun c_18 => ?_) (fun c_18 => ?_)
  · refine x_iload eX9_isBetween_26 rfl ?_
    refine x_if_lt eX9_isBetween_28 (fun c_28 => ?_) (fun c_28 => ?_)
    · refine x_iconst (v := nI 0) eX9_isBetween_40 (by decide) ?_
      first
        | (refine s_iret eX9_isBetween_41 rfl rfl ⟨congrArg (fun v => some (Value.int v)) (bI_t ?_), rfl⟩; simp only [Int32.le_iff_toInt_le, Int32.lt_iff_toInt_lt, Int32.toInt_zero] at *; omega)
        | (refine s_iret eX9_isBetween_41 rfl rfl ⟨congrArg (fun v => some (Value.int v)) (bI_f ?_), rfl⟩; simp only [Int32.le_iff_toInt_le, Int32.lt_iff_toInt_lt, Int32.toInt_zero] at *; omega)
    · refine x_iload eX9_isBetween_31 rfl ?_
      refine x_if_lt eX9_isBetween_33 (fun c_33 => ?_) (fun c_33 => ?_)
      · refine x_iconst (v := nI 0) eX9_isBetween_40 (by decide) ?_
        first
          | (refine s_iret eX9_isBetween_41 rfl rfl ⟨congrArg (fun v => some (Value.int v)) (bI_t ?_), rfl⟩; simp only [Int32.le_iff_toInt_le, Int32.lt_iff_toInt_lt, Int32.toInt_zero] at *; omega)
          | (refine s_iret eX9_isBetween_41 rfl rfl ⟨congrArg (fun v => some (Value.int v)) (bI_f ?_), rfl⟩; simp only [Int32.le_iff_toInt_le, Int32.lt_iff_toInt_lt, Int32.toInt_zero] at *; omega)
      · refine x_iconst (v := nI 1) eX9_isBetween_36 (by decide) ?_
        refine x_goto eX9_isBetween_37 ?_
        first
          | (refine s_iret eX9_isBetween_41 rfl rfl ⟨congrArg (fun v => some (Value.int v)) (bI_t ?_), rfl⟩; simp only [Int32.le_iff_toInt_le, Int32.lt_iff_toInt_lt, Int32.toInt_zero] at *; omega)
          | (refine s_iret eX9_isBetween_41 rfl rfl ⟨congrArg (fun v => some (Value.int v)) (bI_f ?_), rfl⟩; simp only [Int32.le_iff_toInt_le, Int32.lt_iff_toInt_lt, Int32.toInt_zero] at *; omega)
  · refine x_iload eX9_isBetween_21 rfl ?_
    refine x_if_le eX9_isBetween_23 (fun c_23 => ?_) (fun c_23 => ?_)
    · refine x_iconst (v := nI 1) eX9_isBetween_36 (by decide) ?_
      refine x_goto eX9_isBetween_37 ?_
      first
        | (refine s_iret eX9_isBetween_41 rfl rfl ⟨congrArg (fun v => some (Value.int v)) (bI_t ?_), rfl⟩; simp only [Int32.le_iff_toInt_le, Int32.lt_iff_toInt_lt, Int32.toInt_zero] at *; omega)
        | (refine s_iret eX9_isBetween_41 rfl rfl ⟨congrArg (fun v => some (Value.int v)) (bI_f ?_), rfl⟩; simp only [Int32.le_iff_toInt_le, Int32.lt_iff_toInt_lt, Int32.toInt_zero] at *; omega)
    · refine x_iload eX9_isBetween_26 rfl ?_
      refine x_if_lt eX9_isBetween_28 (fun c_28 => ?_) (fun c_28 => ?_)
      · refine x_iconst (v := nI 0) eX9_isBetween_40 (by decide) ?_
        first
          | (refine s_iret eX9_isBetween_41 rfl rfl ⟨congrArg (fun v => some (Value.int v)) (bI_t ?_), rfl⟩; simp only [Int32.le_iff_toInt_le, Int32.lt_iff_toInt_lt, Int32.toInt_zero] at *; omega)
          | (refine s_iret eX9_isBetween_41 rfl rfl ⟨congrArg (fun v => some (Value.int v)) (bI_f ?_), rfl⟩; simp only [Int32.le_iff_toInt_le, Int32.lt_iff_toInt_lt, Int32.toInt_zero] at *; omega)
      · refine x_iload eX9_isBetween_31 rfl ?_
        refine x_if_lt eX9_isBetween_33 (fun c_33 => ?_) (fun c_33 => ?_)
        · refine x_iconst (v := nI 0) eX9_isBetween_40 (by decide) ?_
          first
            | (refine s_iret eX9_isBetween_41 rfl rfl ⟨congrArg (fun v => some (Value.int v)) (bI_t ?_), rfl⟩; simp only [Int32.le_iff_toInt_le, Int32.lt_iff_toInt_lt, Int32.toInt_zero] at *; omega)
            | (refine s_iret eX9_isBetween_41 rfl rfl ⟨congrArg (fun v => some (Value.int v)) (bI_f ?_), rfl⟩; simp only [Int32.le_iff_toInt_le, Int32.lt_iff_toInt_lt, Int32.toInt_zero] at *; omega)
        · refine x_iconst (v := nI 1) eX9_isBetween_36 (by decide) ?_
          refine x_goto eX9_isBetween_37 ?_
          first
            | (refine s_iret eX9_isBetween_41 rfl rfl ⟨congrArg (fun v => some (Value.int v)) (bI_t ?_), rfl⟩; simp only [Int32.le_iff_toInt_le, Int32.lt_iff_toInt_lt, Int32.toInt_zero] at *; omega)
            | (refine s_iret eX9_isBetween_41 rfl rfl ⟨congrArg (fun v => some (Value.int v)) (bI_f ?_), rfl⟩; simp only [Int32.le_iff_toInt_le, Int32.lt_iff_toInt_lt, Int32.toInt_zero] at *; omega)
theorem sp_X9_isOn (S : xS) {a b c : Nat} {A B C : Pt} (ha : pt S a A) (hb : pt S b B) (hc : pt S c C) : Sp mX9_isOn [.ref 0, .int (nI a), .int (nI b), .int (nI c)] S (fun r S' => r = some (.int (bI (onP A B C))) ∧ Lx [5, 6, 7] S S') := by
  show XP _ _ [_, _, _, _] _ _ _
  refine x_aload_n eX9_isOn_0 rfl ?_
  refine x_iload_n eX9_isOn_1 rfl ?_
  refine x_iload_n eX9_isOn_2 rfl ?_
  refine x_iload_n eX9_isOn_3 rfl ?_
  refine s_callV1 (As := [_, _, _]) eX9_isOn_4 kX9_162 ⟨by decide, by decide⟩ rfl (by decide) (by decide) rfl rfl (Nat.le_of_ble_eq_true rfl) (Nat.le_of_ble_eq_true rfl) (sp_X9_turn S ha hb hc) (fun S_4 h_4 => ?_)
  have ha := ha.mv h_4 (by decide) (by decide)
  have hb := hb.mv h_4 (by decide) (by decide)
  have hc := hc.mv h_4 (by decide) (by decide)
  refine x_if_ne eX9_isOn_7 (fun c_7 => ?_) (fun c_7 => ?_)
  · refine x_iconst (v := nI 0) eX9_isOn_24 (by decide) ?_
    first
      | exact s_iret eX9_isOn_25 rfl rfl ⟨by unfold onP; rw [decide_eq_false c_7]; rfl, h_4⟩
      | exact s_iret eX9_isOn_25 rfl rfl ⟨by unfold onP; rw [decide_eq_true c_7, c_17]; rfl, h_4⟩
  · refine x_aload_n eX9_isOn_10 rfl ?_
    refine x_iload_n eX9_isOn_11 rfl ?_
    refine x_iload_n eX9_isOn_12 rfl ?_
    refine x_iload_n eX9_isOn_13 rfl ?_
    refine s_callV1 (As := [_, _, _]) eX9_isOn_14 kX9_166 ⟨by decide, by decide⟩ rfl (by decide) (by decide) rfl rfl (Nat.le_of_ble_eq_true rfl) (Nat.le_of_ble_eq_true rfl) (sp_X9_isBetween S_4 ha hb hc) (fun S_14 h_14 => ?_)
    subst h_14
    refine x_if_eqB eX9_isOn_17 (fun c_17 => ?_) (fun c_17 => ?_)
    · refine x_iconst (v := nI 0) eX9_isOn_24 (by decide) ?_
      first
        | exact s_iret eX9_isOn_25 rfl rfl ⟨by unfold onP; rw [decide_eq_false c_7]; rfl, h_4⟩
        | exact s_iret eX9_isOn_25 rfl rfl ⟨by unfold onP; rw [decide_eq_true c_7, c_17]; rfl, h_4⟩
    · refine x_iconst (v := nI 1) eX9_isOn_20 (by decide) ?_
      refine x_goto eX9_isOn_21 ?_
      first
        | exact s_iret eX9_isOn_25 rfl rfl ⟨by unfold onP; rw [decide_eq_false c_7]; rfl, h_4⟩
        | exact s_iret eX9_isOn_25 rfl rfl ⟨by unfold onP; rw [decide_eq_true c_7, c_17]; rfl, h_4⟩
theorem sp_X9_isCorner (S : xS) {n : Nat} (hn : S.1 0 4 = nI n) (h2 : n ≤ 200) (c : Int32) : Sp mX9_isCorner [.ref 0, .int c] S (fun r S' => r = some (.int (bI (decide (∃ k, k < n ∧ c = nI k)))) ∧ S' = S) := by
  have key : decide (nI 0 ≤ c ∧ c ≤ nI n - nI 1) = decide (∃ k, k < n ∧ c = nI k) := by
    by_cases h : ∃ k, k < n ∧ c = nI k
    · rw [decide_eq_true h]
      obtain ⟨k, hk, rfl⟩ := h
      rw [pk_sub (by omega)]
      exact decide_eq_true ⟨nI_le (by omega) (by omega), nI_le (by omega) (by omega)⟩
    · rw [decide_eq_false h]
      apply decide_eq_false
      intro h3
      apply h
      have h4 : ¬ c < 0 := Int32.not_lt.mpr h3.1
      obtain ⟨j, hj, rfl⟩ := nI_of h4
      refine ⟨j, ?_, rfl⟩
      have h5 := h3.2
      by_cases hn0 : n = 0
      · subst hn0
        have h6 : nI 0 ≤ nI 0 - nI 1 := Int32.le_trans h3.1 h5
        exact absurd h6 (by decide)
      · rw [pk_sub (by omega), nI_leI hj (by omega)] at h5
        omega
  show XP _ _ [_, _] _ _ _
  refine x_iload_n eX9_isCorner_0 rfl ?_
  refine x_iconst (v := nI 0) eX9_isCorner_1 (by decide) ?_
  refine x_aload_n eX9_isCorner_2 rfl ?_
  refine s_geti eX9_isCorner_3 fX9_170 rfl (by decide) (by decide) ?_
  rw [hn]
  refine x_iconst (v := nI 1) eX9_isCorner_6 (by decide) ?_
  refine x_isub eX9_isCorner_7 ?_
  refine s_callS1 (As := [_, _, _]) eX9_isCorner_8 kX9_173 ⟨by decide, by decide⟩ rfl rfl (Nat.le_of_ble_eq_true rfl) (Nat.le_of_ble_eq_true rfl) (sp_X9_in S c (nI 0) (nI n - nI 1)) (fun S_8 h_8 => ?_)
  subst h_8
  rw [key]
  exact s_iret eX9_isCorner_11 rfl (by first | rfl | exact bI_nar _) ⟨rfl, rfl⟩
