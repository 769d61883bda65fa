/-! ===== points; which side, which comes ahead, between ===== -/
abbrev Pt : Type := Int × Int
def orP (a b c : Pt) : Int := (a.1 - c.1) * (b.2 - c.2) - (a.2 - c.2) * (b.1 - c.1)
def ahP (a b : Pt) : Int32 := if sg (a.1 - b.1) = 0 then sg (a.2 - b.2) else sg (a.1 - b.1)
def btP (a b c : Pt) : Bool := decide ((ahP a c ≤ 0 ∧ ahP c b ≤ 0) ∨ (0 ≤ ahP a c ∧ 0 ≤ ahP c b))
def onP (a b c : Pt) : Bool := decide (sg (orP a b c) = 0) && btP a b c
/-- slot s of the reference's rows holds the point P -/
def pt (S : xS) (s : Nat) (P : Pt) : Prop := lim S 3 s P.1 ∧ lim S 4 s P.2 ∧ (-(2 ^ 102) ≤ P.1 ∧ P.1 ≤ 2 ^ 102) ∧ (-(2 ^ 102) ≤ P.2 ∧ P.2 ≤ 2 ^ 102) ∧ s < 202
theorem pt.mv {ps : List Nat} {S S' : xS} {s : Nat} {P : Pt} (h : pt S s P) (hx : Lx ps S S') (h3 : 3 ∉ ps) (h4 : 4 ∉ ps) : pt S' s P := by
  obtain ⟨a, b, c, d, e⟩ := h
  refine ⟨fun i hi => ?_, fun i hi => ?_, c, d, e⟩
  · rw [hx.2.2.2 3 h3]; exact a i hi
  · rw [hx.2.2.2 4 h4]; exact b i hi
theorem mulB {a b A B : Int} (ha : -A ≤ a ∧ a ≤ A) (hb : -B ≤ b ∧ b ≤ B) : -(A * B) ≤ a * b ∧ a * b ≤ A * B := by
  have h1 : a.natAbs ≤ A.toNat := by omega
  have h2 : b.natAbs ≤ B.toNat := by omega
  have h3 : (a * b).natAbs ≤ A.toNat * B.toNat := by rw [Int.natAbs_mul]; exact Nat.mul_le_mul h1 h2
  have h4 : ((A.toNat * B.toNat : Nat) : Int) = A * B := by rw [Int.natCast_mul, Int.toNat_of_nonneg (by omega), Int.toNat_of_nonneg (by omega)]
  omega
theorem sg_nar (z : Int) : narrow .int (.int (sg z)) = .int (sg z) := rfl
theorem sp_X9_turn (S : xS) {a b c : Nat} {A B C : Pt} (ha : pt S a A) (hb : pt S b B) (hc : pt S c C) : Sp mX9_turn [.ref 0, .int (nI a), .int (nI b), .int (nI c)] S (fun r S' => r = some (.int (sg (orP A B C))) ∧ Lx [5, 6, 7] S S') := by
  obtain ⟨a3, a4, ax, ay, al⟩ := id ha
  obtain ⟨b3, b4, bx, bY, bl⟩ := id hb
  obtain ⟨c3, c4, cx, cy, cl⟩ := id hc
  have p1 := mulB (a := A.1 - C.1) (b := B.2 - C.2) (A := 2 ^ 103) (B := 2 ^ 103) ⟨by omega, by omega⟩ ⟨by omega, by omega⟩
  have p2 := mulB (a := A.2 - C.2) (b := B.1 - C.1) (A := 2 ^ 103) (B := 2 ^ 103) ⟨by omega, by omega⟩ ⟨by omega, by omega⟩
  show XP _ _ [_, _, _, _] _ _ _
  refine x_aload_n eX9_turn_0 rfl ?_
  refine s_getR (k := 7) eX9_turn_1 fX9_28 rfl (by decide) (by decide) rfl ?_
  refine x_iconst (v := nI 0) eX9_turn_4 (by decide) ?_
  refine x_bipush (v := nI 10) eX9_turn_5 (by decide) ?_
  refine s_callS0 (As := [_, _, _]) eX9_turn_7 kX9_144 ⟨by decide, by decide⟩ rfl rfl (Nat.le_of_ble_eq_true rfl) (Nat.le_of_ble_eq_true rfl) (sp_X9_clear (a := 7) rfl (by decide) (fr := 0) (n := 10) (by decide) S) (fun S_7 h_7 => ?_)
  have x1 : Lx [5, 6, 7] S S_7 := by rw [h_7]; exact Lx.set _ _ (by simp)
  refine x_aload_n eX9_turn_10 rfl ?_
  refine x_aload_n eX9_turn_11 rfl ?_
  refine s_getR (k := 3) eX9_turn_12 fX9_16 rfl (by decide) (by decide) rfl ?_
  refine x_iload_n eX9_turn_15 rfl ?_
  refine x_iload_n eX9_turn_16 rfl ?_
  refine x_aload_n eX9_turn_17 rfl ?_
  refine s_getR (k := 4) eX9_turn_18 fX9_19 rfl (by decide) (by decide) rfl ?_
  refine x_iload_n eX9_turn_21 rfl ?_
  refine x_iload_n eX9_turn_22 rfl ?_
  refine x_aload_n eX9_turn_23 rfl ?_
  refine s_getR (k := 7) eX9_turn_24 fX9_28 rfl (by decide) (by decide) rfl ?_
  refine x_iconst (v := nI 0) eX9_turn_27 (by decide) ?_
  refine x_lconst (v := lI 1) eX9_turn_28 (by decide) ?_
  refine s_callV0 (As := [_, _, _, _, _, _, _, _, _]) eX9_turn_29 kX9_147 ⟨by decide, by decide⟩ rfl (by decide) (by decide) rfl rfl (Nat.le_of_ble_eq_true rfl) (Nat.le_of_ble_eq_true rfl) (sp_X9_times S_7 (p1 := 3) (p2 := 4) (p3 := 7) rfl (by decide) rfl (by decide) rfl (by decide) (by decide) (by decide) (by decide) (VA := A.1) (VB := C.1) (VC := B.2) (VD := C.2) (T := 0) (s := 1) (show _ ≤ 1010 by omega) (show _ ≤ 1010 by omega) (by decide) (ha.mv x1 (by decide) (by decide)).1 (hb.mv x1 (by decide) (by decide)).2.1 (Or.inr ⟨c, rfl, show _ ≤ 1010 by omega, (hc.mv x1 (by decide) (by decide)).1⟩) (Or.inr ⟨c, rfl, show _ ≤ 1010 by omega, (hc.mv x1 (by decide) (by decide)).2.1⟩) (by omega) (by omega) (by omega) (by omega) (Or.inl rfl) (fun i hi => by rw [h_7, setL_at, if_pos (by omega), can_of_zero]; rfl) (by decide)) (fun S_29 h_29 => ?_)
  have x2 : Lx [5, 6, 7] S S_29 := x1.tr h_29.1
  refine x_aload_n eX9_turn_32 rfl ?_
  refine x_aload_n eX9_turn_33 rfl ?_
  refine s_getR (k := 4) eX9_turn_34 fX9_19 rfl (by decide) (by decide) rfl ?_
  refine x_iload_n eX9_turn_37 rfl ?_
  refine x_iload_n eX9_turn_38 rfl ?_
  refine x_aload_n eX9_turn_39 rfl ?_
  refine s_getR (k := 3) eX9_turn_40 fX9_16 rfl (by decide) (by decide) rfl ?_
  refine x_iload_n eX9_turn_43 rfl ?_
  refine x_iload_n eX9_turn_44 rfl ?_
  refine x_aload_n eX9_turn_45 rfl ?_
  refine s_getR (k := 7) eX9_turn_46 fX9_28 rfl (by decide) (by decide) rfl ?_
  refine x_iconst (v := nI 0) eX9_turn_49 (by decide) ?_
  refine x_ldc2 (v := lI (-1)) eX9_turn_50 (xT 842 (by decide +kernel) rfl) ?_
  refine s_callV0 (As := [_, _, _, _, _, _, _, _, _]) eX9_turn_53 kX9_147 ⟨by decide, by decide⟩ rfl (by decide) (by decide) rfl rfl (Nat.le_of_ble_eq_true rfl) (Nat.le_of_ble_eq_true rfl) (sp_X9_times S_29 (p1 := 4) (p2 := 3) (p3 := 7) rfl (by decide) rfl (by decide) rfl (by decide) (by decide) (by decide) (by decide) (VA := A.2) (VB := C.2) (VC := B.1) (VD := C.1) (T := 0 + 1 * ((A.1 - C.1) * (B.2 - C.2))) (s := -1) (show _ ≤ 1010 by omega) (show _ ≤ 1010 by omega) (by decide) (ha.mv x2 (by decide) (by decide)).2.1 (hb.mv x2 (by decide) (by decide)).1 (Or.inr ⟨c, rfl, show _ ≤ 1010 by omega, (hc.mv x2 (by decide) (by decide)).2.1⟩) (Or.inr ⟨c, rfl, show _ ≤ 1010 by omega, (hc.mv x2 (by decide) (by decide)).1⟩) (by omega) (by omega) (by omega) (by omega) (Or.inr rfl) (fun i hi => by rw [h_29.2, if_pos (by omega), show 0 + i - 0 = i by omega]) (by generalize (A.1 - C.1) * (B.2 - C.2) = u at *; omega)) (fun S_53 h_53 => ?_)
  have x3 : Lx [5, 6, 7] S S_53 := x2.tr h_53.1
  refine x_aload_n eX9_turn_56 rfl ?_
  refine s_getR (k := 7) eX9_turn_57 fX9_28 rfl (by decide) (by decide) rfl ?_
  refine x_iconst (v := nI 0) eX9_turn_60 (by decide) ?_
  refine x_bipush (v := nI 10) eX9_turn_61 (by decide) ?_
  refine s_callS1 (As := [_, _, _]) eX9_turn_63 kX9_151 ⟨by decide, by decide⟩ rfl rfl (Nat.le_of_ble_eq_true rfl) (Nat.le_of_ble_eq_true rfl) (sp_X9_signOf (a := 7) rfl (by decide) (fr := 0) (n := 10) (by decide) (by decide) S_53 (orP A B C) (fun i hi => by rw [h_53.2, if_pos (by omega), show 0 + i - 0 = i by omega]; congr 2; unfold orP; grind) (by unfold orP; generalize (A.1 - C.1) * (B.2 - C.2) = u at *; generalize (A.2 - C.2) * (B.1 - C.1) = v at *; exact ⟨by omega, by omega⟩)) (fun S_63 h_63 => ?_)
  subst h_63
  exact s_iret eX9_turn_66 rfl rfl ⟨rfl, x3⟩
