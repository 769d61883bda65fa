/-! ===== the class's Points: a number laid into its slot ===== -/
theorem lI_ushr {z : Int} {k : Nat} (h0 : 0 ≤ z) (h1 : z < 2 ^ 63) (hk : k < 64) : ((lI z).toUInt64 >>> ((nI k).toInt64.toUInt64 &&& Int64.toUInt64 63)).toInt64 = lI (z / 2 ^ k) := by
  have hb : ((nI k).toInt64.toUInt64 &&& Int64.toUInt64 63).toNat = k := (by decide +kernel : ∀ k, k < 64 → ((nI k).toInt64.toUInt64 &&& Int64.toUInt64 63).toNat = k) k hk
  have e1 : ((lI z).toUInt64.toNat : Int) = z := by rw [toU_nat, lI_toInt ⟨by omega, h1⟩]; omega
  have q0 : 0 ≤ z / 2 ^ k := Int.ediv_nonneg h0 (Int.le_of_lt (Int.pow_pos (by decide)))
  have q1 : z / 2 ^ k ≤ z := Int.ediv_le_self _ h0
  have e2 : ((lI (z / 2 ^ k)).toUInt64.toNat : Int) = z / 2 ^ k := by rw [toU_nat, lI_toInt ⟨by omega, by omega⟩]; omega
  have e3 : (lI z).toUInt64 >>> ((nI k).toInt64.toUInt64 &&& Int64.toUInt64 63) = (lI (z / 2 ^ k)).toUInt64 := by
    apply UInt64.toNat_inj.mp
    rw [UInt64.toNat_shiftRight, hb, Nat.mod_eq_of_lt hk, Nat.shiftRight_eq_div_pow]
    have : (((lI z).toUInt64.toNat / 2 ^ k : Nat) : Int) = ((lI (z / 2 ^ k)).toUInt64.toNat : Int) := by
      rw [e2, Int.natCast_ediv, e1, two_pow_N]
    exact Int.ofNat_inj.mp this
  rw [e3]
  exact Int64.toInt64_toUInt64 _
theorem pow26 (k : Nat) : ((2 : Int) ^ 26) ^ k = 2 ^ (26 * k) := Int.pow_mul.symm
theorem dn26 {m : Int} {s k : Nat} (h : s ≤ 26 * k) : m * 2 ^ s / (2 ^ 26) ^ k = m / 2 ^ (26 * k - s) := by
  rw [pow26, show (2 : Int) ^ (26 * k) = 2 ^ s * 2 ^ (26 * k - s) by rw [← Int.pow_add]; congr 1; omega, Int.mul_comm m, Int.mul_ediv_mul_of_pos _ _ (Int.pow_pos (by decide))]
theorem up26 {m : Int} {s k : Nat} (h : 26 * k ≤ s) : m * 2 ^ s / (2 ^ 26) ^ k = m * 2 ^ (s - 26 * k) := by
  rw [pow26, show (2 : Int) ^ s = 2 ^ (s - 26 * k) * 2 ^ (26 * k) by rw [← Int.pow_add]; congr 1; omega, ← Int.mul_assoc, Int.mul_ediv_cancel _ (Int.ne_of_gt (Int.pow_pos (by decide)))]
theorem neg26 : ∀ e, e < 50 → 0 < e → (-(nI e) < 0 ∧ (-26 < -(nI e) ↔ e < 26) ∧ ¬ nI 53 ≤ -(nI e) ∧ - -(nI e) = nI e) := by decide +kernel

theorem sp_X2_limbOfN (S : xS) {d : Int} {f : Nat} (h0 : 0 ≤ d) (h1 : d < 2 ^ 53) (hf : f < 200) : Sp mX2_limbOf [.long (lI d), .int (nI f)] S (fun r S' => r = some (.long (lI (d / 2 ^ f % 2 ^ 26))) ∧ S' = S) := by
  have m26 : ¬ nI f ≤ -26 := fun z => (by decide +kernel : ∀ f, f < 200 → ¬ nI f ≤ -26) f hf z
  show XP _ _ [_, _] _ _ _
  refine x_iload_n eX2_limbOf_0 rfl ?_
  refine x_bipush (v := nI 53) eX2_limbOf_1 (by decide) ?_
  refine x_icmp_geN eX2_limbOf_3 (by omega) (by omega) (fun c_3 => ?_) (fun c_3 => ?_)
  · refine x_lconst (v := 0) eX2_limbOf_12 (by decide) ?_
    refine s_lret eX2_limbOf_13 rfl ⟨?_, rfl⟩
    have z : d / 2 ^ f = 0 := Int.ediv_eq_zero_of_lt h0 (Int.lt_of_lt_of_le h1 (by have := Nat.pow_le_pow_right (n := 2) (by decide) c_3; have e := two_pow_N f; have e2 := two_pow_N 53; omega))
    rw [z]; rfl
  · refine x_iload_n eX2_limbOf_6 rfl ?_
    refine x_bipush (v := -26) eX2_limbOf_7 (by decide) ?_
    refine x_icmp_gt eX2_limbOf_9 (fun c_9 => ?_) (fun c_9 => ?_)
    · refine x_iload_n eX2_limbOf_14 rfl ?_
      refine x_if_ltN eX2_limbOf_15 (by omega) ?_
      refine x_lload_n eX2_limbOf_18 rfl ?_
      refine x_iload_n eX2_limbOf_19 rfl ?_
      refine x_lushr eX2_limbOf_20 rfl ?_
      rw [lI_ushr h0 (by omega) (by omega)]
      refine x_goto eX2_limbOf_21 ?_
      refine x_ldc2 (v := 67108863) eX2_limbOf_28 (xT 268 (by decide +kernel) rfl) ?_
      refine x_land eX2_limbOf_31 ?_
      rw [lI_mask (k := 26) (by decide) (by decide)]
      exact s_lret eX2_limbOf_32 rfl ⟨rfl, rfl⟩
    · exact absurd (Int32.not_lt.mp c_9) m26
theorem sp_X2_limbOfM (S : xS) {d : Int} {g : Nat} (hg : g < 50) (g0 : 0 < g) : Sp mX2_limbOf [.long (lI d), .int (-(nI g))] S (fun r S' => r = some (.long (lI (d * 2 ^ g % 2 ^ 26))) ∧ S' = S) := by
  obtain ⟨n1, n2, n3, n4⟩ := neg26 g hg g0
  show XP _ _ [_, _] _ _ _
  refine x_iload_n eX2_limbOf_0 rfl ?_
  refine x_bipush (v := nI 53) eX2_limbOf_1 (by decide) ?_
  refine x_icmp_ge eX2_limbOf_3 (fun c_3 => ?_) (fun c_3 => ?_)
  · exact absurd c_3 n3
  · refine x_iload_n eX2_limbOf_6 rfl ?_
    refine x_bipush (v := -26) eX2_limbOf_7 (by decide) ?_
    refine x_icmp_gt eX2_limbOf_9 (fun c_9 => ?_) (fun c_9 => ?_)
    · refine x_iload_n eX2_limbOf_14 rfl ?_
      refine x_if_lt eX2_limbOf_15 (fun c_15 => ?_) (fun c_15 => ?_)
      · refine x_lload_n eX2_limbOf_24 rfl ?_
        refine x_iload_n eX2_limbOf_25 rfl ?_
        refine x_ineg eX2_limbOf_26 ?_
        rw [n4]
        refine x_lshl eX2_limbOf_27 rfl ?_
        rw [lI_shl _ (shc (show g < 64 by omega))]
        refine x_ldc2 (v := 67108863) eX2_limbOf_28 (xT 268 (by decide +kernel) rfl) ?_
        refine x_land eX2_limbOf_31 ?_
        rw [lI_mask (k := 26) (by decide) (by decide)]
        exact s_lret eX2_limbOf_32 rfl ⟨rfl, rfl⟩
      · exact absurd n1 c_15
    · refine x_lconst (v := 0) eX2_limbOf_12 (by decide) ?_
      refine s_lret eX2_limbOf_13 rfl ⟨?_, rfl⟩
      have g26 : 26 ≤ g := Nat.le_of_not_lt (fun z => c_9 (n2.mpr z))
      have z : d * 2 ^ g % 2 ^ 26 = 0 := by rw [show g = g - 26 + 26 by omega, Int.pow_add, ← Int.mul_assoc]; exact Int.mul_emod_left _ _
      rw [z]; rfl
/-- the limb of 26 bits, of d * 2^e -/
theorem sp_X2_limbOf (S : xS) {d : Int} {e k : Nat} (h0 : 0 ≤ d) (h1 : d < 2 ^ 53) (he : e ≤ 48) (hk : k < 4) : Sp mX2_limbOf [.long (lI d), .int (nI (k * 26) - nI e)] S (fun r S' => r = some (.long (lI (d * 2 ^ e / (2 ^ 26) ^ k % 2 ^ 26))) ∧ S' = S) := by
  by_cases q : e ≤ 26 * k
  · rw [dn26 q, pk_sub (by omega), show k * 26 - e = 26 * k - e by omega]
    exact sp_X2_limbOfN S h0 h1 (by omega)
  · rw [up26 (by omega), nI_negsub (by omega), show e - k * 26 = e - 26 * k by omega]
    exact sp_X2_limbOfM S (by omega) (by omega)

