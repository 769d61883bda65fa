/-! ===== a number by its bits: size, power, digits, sign; zc: its value in units of 2^-72 ===== -/
def szZ (x : Int64) : Int := x.toInt % 2 ^ 63
def pwN (x : Int64) : Nat := (szZ x / 2 ^ 52).toNat
def mtZ (x : Int64) : Int := if szZ x = 0 then 0 else szZ x % 2 ^ 52 + 2 ^ 52
def sgZ (x : Int64) : Int := if x.toInt < 0 then -1 else 1
def zc (x : Int64) : Int := sgZ x * (mtZ x * 2 ^ (pwN x - 1003))
theorem and_size (x : Int64) : x &&& 9223372036854775807 = lI (szZ x) := by
  rw [lI_of x, lI_mask (k := 63) (by decide) (by decide), ← lI_of x]
  rfl
theorem szZ_nn (x : Int64) : 0 ≤ szZ x := Int.emod_nonneg _ (by decide)
theorem szZ_lt (x : Int64) : szZ x < 2 ^ 63 := Int.emod_lt_of_pos _ (by decide)
theorem szZ_in (x : Int64) : inL (szZ x) := ⟨by have := szZ_nn x; omega, szZ_lt x⟩
theorem isNum_iff (x : Int64) : isNum x = true ↔ szZ x = 0 ∨ (1003 * 2 ^ 52 ≤ szZ x ∧ szZ x ≤ 1051 * 2 ^ 52) := by
  unfold isNum
  rw [and_size]
  have h0 : (lI (szZ x) = 0) ↔ szZ x = 0 := lI_inj (szZ_in x) inL_0
  have h1 : (lI (szZ x) < 4517110426252607488) ↔ szZ x < 4517110426252607488 := lI_lt (b := 4517110426252607488) (szZ_in x) ⟨by decide, by decide⟩
  have h2 : (4733283208366391296 < lI (szZ x)) ↔ 4733283208366391296 < szZ x := lI_lt (a := 4733283208366391296) ⟨by decide, by decide⟩ (szZ_in x)
  rw [Bool.or_eq_true, Bool.and_eq_true, Bool.not_eq_true', Bool.not_eq_true', decide_eq_true_iff, decide_eq_false_iff_not, decide_eq_false_iff_not, h0, h1, h2]
  omega
theorem pw_bounds {x : Int64} (h : isNum x = true) (h0 : szZ x ≠ 0) : 1003 ≤ pwN x ∧ pwN x ≤ 1051 := by
  rcases (isNum_iff x).mp h with h1 | h1
  · exact absurd h1 h0
  · unfold pwN
    omega
theorem mt_bounds (x : Int64) : 0 ≤ mtZ x ∧ mtZ x < 2 ^ 53 := by
  unfold mtZ
  split
  · decide
  · omega
/-- the exponent's bits -/
theorem pw_bits (x : Int64) : x.toInt / 2 ^ 52 % 2048 = (pwN x : Int) := by
  unfold pwN szZ
  omega
theorem mt_bits (x : Int64) : x.toInt % 2 ^ 52 = szZ x % 2 ^ 52 := by unfold szZ; omega
theorem plainB_num {x : Int64} (h : isNum x = true) : isNum (plainB x) = true := by
  unfold plainB
  split
  · decide
  · exact h
theorem szZ_0 : szZ 0 = 0 := by decide
theorem zc_0 : zc 0 = 0 := by decide
theorem plainB_zero {x : Int64} (h : szZ (plainB x) = 0) : plainB x = 0 := by
  unfold plainB at h ⊢
  split
  · rfl
  · rename_i h1
    rw [if_neg h1] at h
    rw [and_size, h] at h1
    exact absurd rfl h1
theorem shc {d : Nat} (h : d < 64) : (((nI d).toInt64 &&& 63).toBitVec.smod 64).toNat = d := by
  have : ∀ d, d < 64 → (((nI d).toInt64 &&& 63).toBitVec.smod 64).toNat = d := by decide +kernel
  exact this d h
theorem lI_or {a : Int} {k : Nat} (hk : k < 63) (h0 : 0 ≤ a) (h : a < 2 ^ k) : lI a ||| lI (2 ^ k) = lI (a + 2 ^ k) := by
  obtain ⟨n, rfl⟩ : ∃ n : Nat, a = n := ⟨a.toNat, by omega⟩
  have hn : n < 2 ^ k := by
    have e2 : (((2 ^ k : Nat)) : Int) = 2 ^ k := by simp
    omega
  have hp : 2 ^ k < 2 ^ 63 := Nat.pow_lt_pow_right (by decide) hk
  rw [← Int64.toBitVec_inj, Int64.toBitVec_or, lI_bv, lI_bv, lI_bv]
  apply BitVec.eq_of_toNat_eq
  have e1 : ∀ m : Nat, m < 2 ^ 64 → (BitVec.ofInt 64 (m : Int)).toNat = m := by
    intro m hm
    rw [BitVec.toNat_ofInt]
    omega
  have e2 : (2 ^ k : Int) = ((2 ^ k : Nat) : Int) := by simp
  rw [BitVec.toNat_or, e2, ← Int.natCast_add, e1 n (by omega), e1 (2 ^ k) (by omega), e1 (n + 2 ^ k) (by omega)]
  have := Nat.two_pow_add_eq_or_of_lt hn 1
  rw [Nat.mul_one] at this
  rw [Nat.or_comm, ← this, Nat.add_comm]
theorem zc_bound {x : Int64} (h : isNum x = true) : -(2 ^ 101) < zc x ∧ zc x < 2 ^ 101 := by
  have h1 := mt_bounds x
  have h2 : mtZ x * 2 ^ (pwN x - 1003) < 2 ^ 101 := by
    by_cases h0 : szZ x = 0
    · have : mtZ x = 0 := by unfold mtZ; rw [if_pos h0]
      rw [this]; simp
    · have h3 := pw_bounds h h0
      have h4 : (2 : Int) ^ (pwN x - 1003) ≤ 2 ^ 48 := by
        have := Nat.pow_le_pow_right (n := 2) (by decide) (show pwN x - 1003 ≤ 48 by omega)
        have e : ∀ k : Nat, ((2 ^ k : Nat) : Int) = 2 ^ k := by intro k; simp
        rw [← e, ← e]; omega
      have h5 : (0 : Int) < 2 ^ (pwN x - 1003) := Int.pow_pos (by decide)
      have h6 : mtZ x * 2 ^ (pwN x - 1003) ≤ mtZ x * 2 ^ 48 := Int.mul_le_mul_of_nonneg_left h4 h1.1
      omega
  have h3 : 0 ≤ mtZ x * 2 ^ (pwN x - 1003) := Int.mul_nonneg h1.1 (Int.le_of_lt (Int.pow_pos (by decide)))
  unfold zc sgZ
  split <;> omega
/-- M cut into limbs of b bits gives M back -/
theorem hv_digits {B : Int} (hB : 0 < B) (M s : Int) : ∀ n i, hv B (fun j => s * (M / B ^ j % B)) i n = s * (M / B ^ i) - s * (B ^ n * (M / B ^ (i + n))) := by
  intro n
  induction n with
  | zero => intro i; simp [hv]
  | succ n ih =>
    intro i
    show s * (M / B ^ i % B) + B * hv B _ (i + 1) n = _
    rw [ih]
    have h1 : M / B ^ (i + 1) = M / B ^ i / B := by rw [Int.pow_succ, Int.ediv_ediv_of_nonneg (Int.le_of_lt (Int.pow_pos hB))]
    have h2 := Int.emod_add_mul_ediv (M / B ^ i) B
    have h3 : i + 1 + n = i + (n + 1) := by omega
    rw [h3, h1, Int.pow_succ]
    generalize M / B ^ i = u at *
    generalize M / B ^ (i + (n + 1)) = t
    generalize u / B = q at *
    generalize u % B = r at *
    generalize B ^ n = P
    subst h2
    grind

theorem lI_nat (n : Nat) : lI (n : Int) = lN n := by
  unfold lI lN
  rw [Int64.ofInt_eq_ofNat]
theorem lI_toInt32 (n : Nat) : (lI (n : Int)).toInt32 = nI n := by rw [lI_nat, lN_i]
def MxZ (x : Int64) : Int := mtZ x * 2 ^ (pwN x - 1002)
theorem two_pow_N (k : Nat) : ((2 ^ k : Nat) : Int) = 2 ^ k := by simp
theorem MxZ_two {x : Int64} (h : isNum x = true) : sgZ x * MxZ x = 2 * zc x := by
  unfold MxZ zc
  by_cases h0 : szZ x = 0
  · have : mtZ x = 0 := by unfold mtZ; rw [if_pos h0]
    rw [this]; simp
  · have h3 := pw_bounds h h0
    have : pwN x - 1002 = (pwN x - 1003) + 1 := by omega
    rw [this, Int.pow_succ]
    grind
theorem MxZ_nn (x : Int64) : 0 ≤ MxZ x := Int.mul_nonneg (mt_bounds x).1 (Int.le_of_lt (Int.pow_pos (by decide)))
theorem MxZ_lt {x : Int64} (h : isNum x = true) : MxZ x < 2 ^ 102 := by
  have h1 := MxZ_two h
  have h2 := zc_bound h
  unfold sgZ at h1
  split at h1 <;> omega
theorem pow24 (k : Nat) : ((2 : Int) ^ 24) ^ k = 2 ^ (24 * k) := Int.pow_mul.symm
theorem part_down {m : Int} {s k : Nat} (h : s ≤ 24 * k) : m * 2 ^ s / (2 ^ 24) ^ k = m / 2 ^ (24 * k - s) := by
  rw [pow24]
  have : (2 : Int) ^ (24 * k) = 2 ^ (24 * k - s) * 2 ^ s := by rw [← Int.pow_add]; congr 1; omega
  rw [this, Int.mul_ediv_mul_of_pos_left _ _ (Int.pow_pos (by decide))]
theorem part_up {m : Int} {s k : Nat} (h : 24 * k ≤ s) : m * 2 ^ s / (2 ^ 24) ^ k = m * 2 ^ (s - 24 * k) := by
  rw [pow24]
  have : (2 : Int) ^ s = 2 ^ (s - 24 * k) * 2 ^ (24 * k) := by rw [← Int.pow_add]; congr 1; omega
  rw [this, ← Int.mul_assoc, Int.mul_ediv_cancel _ (Int.ne_of_gt (Int.pow_pos (by decide)))]
theorem nI_negsub {a b : Nat} (h : a ≤ b) : nI a - nI b = -(nI (b - a)) := by
  rw [← pk_sub h, Int32.neg_sub]
theorem negI_lt : ∀ e, e < 50 → 0 < e → -(nI e) < 0 := by decide
theorem negI_le : ∀ e, e < 50 → (-(nI e) ≤ -24 ↔ 24 ≤ e) := by decide
theorem nI_sub_neg (a b : Nat) : nI a - -(nI b) = nI (a + b) := by
  rw [Int32.sub_neg, nI_add]
theorem sp_X9_whole {p : Nat} (hk0 : kd p = 11) (ha : p < 365) {t : Nat} (hn : t + 5 ≤ ln p) (S : xS) (x : Int64) (hx : isNum x = true) : Sp mX9_whole [.long x, .ref p, .int (nI t)] S (fun r S' => r = none ∧ S' = setL S p (fun j => if t ≤ j ∧ j < t + 5 then lI (can (2 ^ 24) 5 (2 * zc x) (j - t)) else S.2.2.1 p j)) := by
  have hs := ln_small p
  have hpb := pw_bounds hx
  have hmb := mt_bounds x
  have hpos : ¬ szZ x = 0 ↔ 0 < pwN x := by
    constructor
    · intro h; have := hpb h; omega
    · intro h h2; unfold pwN at h; rw [h2] at h; exact absurd h (by decide)
  have hm0 : szZ x = 0 → mtZ x = 0 := fun h => by unfold mtZ; rw [if_pos h]
  have hpw : ((x >>> ((nI 52).toInt64 &&& 63)) &&& 2047).toInt32 = nI (pwN x) := by
    have h1 : x >>> ((nI 52).toInt64 &&& 63) = lI (x.toInt / 2 ^ 52) := by
      have := lI_shr (inL_toInt x) (shc (d := 52) (by decide))
      rwa [← lI_of x] at this
    rw [h1, lI_mask (k := 11) (by decide) (by decide)]
    have h2 := pw_bits x
    have e : (2 : Int) ^ 11 = 2048 := by decide
    rw [e, h2, lI_toInt32]
  have hmt : ¬ szZ x = 0 → (x &&& 4503599627370495) ||| 4503599627370496 = lI (mtZ x) := by
    intro h
    have h1 : x &&& 4503599627370495 = lI (x.toInt % 2 ^ 52) := by
      have := lI_mask (z := x.toInt) (m := 4503599627370495) (k := 52) (by decide) (by decide)
      rwa [← lI_of x] at this
    have h2 : (4503599627370496 : Int64) = lI (2 ^ 52) := by decide
    rw [h1, h2, lI_or (by decide) (Int.emod_nonneg _ (by decide)) (Int.emod_lt_of_pos _ (by decide)), mt_bits]
    unfold mtZ
    rw [if_neg h]
  have hpwlt : pwN x < 4096 := by
    by_cases h : szZ x = 0
    · have : ¬ 0 < pwN x := fun h2 => hpos.mpr h2 h
      omega
    · have := hpb h; omega
  have fin : ∀ S1, S1 = setL S p (fun j => if t ≤ j ∧ j < t + 5 then lI (sgZ x * (MxZ x / (2 ^ 24) ^ (j - t) % 2 ^ 24)) else S.2.2.1 p j) → ∀ lv, xget lv 2 = some (.ref p) → xget lv 3 = some (.int (nI t)) → XP mX9_whole 133 lv [] (xwS S1) (sQ (fun r S' => r = none ∧ S' = setL S p (fun j => if t ≤ j ∧ j < t + 5 then lI (can (2 ^ 24) 5 (2 * zc x) (j - t)) else S.2.2.1 p j))) := by
    intro S1 h1 lv g2 g3
    refine x_aload_n eX9_whole_133 g2 ?_
    refine x_iload_n eX9_whole_134 g3 ?_
    refine x_iconst (v := nI 5) eX9_whole_135 (by decide) ?_
    have hsg : sgZ x = 1 ∨ sgZ x = -1 := by unfold sgZ; split <;> simp
    refine s_callS0 (As := [_, _, _]) eX9_whole_136 kX9_128 ⟨by decide, by decide⟩ rfl rfl (Nat.le_of_ble_eq_true rfl) (Nat.le_of_ble_eq_true rfl) (sp_X9_carry hk0 ha (fr := t) (n := 5) hn (by decide) S1 (fun i => sgZ x * (MxZ x / (2 ^ 24) ^ i % 2 ^ 24)) ?_ ?_) (fun S2 h2 => ?_)
    · intro i hi
      rw [h1, setL_at]
      rw [if_pos (by omega), show t + i - t = i by omega]
    · intro i hi
      have u1 := Int.emod_nonneg (MxZ x / (2 ^ 24) ^ i) (show (2 ^ 24 : Int) ≠ 0 by decide)
      have u2 := Int.emod_lt_of_pos (MxZ x / (2 ^ 24) ^ i) (show (0 : Int) < 2 ^ 24 by decide)
      rcases hsg with h | h <;> rw [h] <;> omega
    · refine s_vret eX9_whole_139 rfl ⟨rfl, ?_⟩
      rw [h2, h1, setL_setL, setL_at]
      congr 1
      funext j
      by_cases hj : t ≤ j ∧ j < t + 5
      · rw [if_pos hj, if_pos hj]
        congr 2
        have := hv_digits (B := 2 ^ 24) (by decide) (MxZ x) (sgZ x) 5 0
        rw [this, ← MxZ_two hx]
        have h5 : MxZ x / (2 ^ 24) ^ (0 + 5) = 0 := Int.ediv_eq_zero_of_lt (MxZ_nn x) (by have := MxZ_lt hx; omega)
        rw [h5]
        simp
      · rw [if_neg hj, if_neg hj, if_neg hj]
  have jsg : ∀ k, k < 5 → ∀ S1, S1 = setL S p (fun j => if t ≤ j ∧ j < t + k then lI (sgZ x * (MxZ x / (2 ^ 24) ^ (j - t) % 2 ^ 24)) else S.2.2.1 p j) → ∀ (lv : List (Nat × Value)) (d : Int64), d &&& 16777215 = lI (MxZ x / (2 ^ 24) ^ k % 2 ^ 24) → xget lv 10 = some (.long d) → ∀ u, u = lI (sgZ x) → (∀ S2, S2 = setL S p (fun j => if t ≤ j ∧ j < t + (k + 1) then lI (sgZ x * (MxZ x / (2 ^ 24) ^ (j - t) % 2 ^ 24)) else S.2.2.1 p j) → XP mX9_whole 127 lv [] (xwS S2) (sQ (fun r S' => r = none ∧ S' = setL S p (fun j => if t ≤ j ∧ j < t + 5 then lI (can (2 ^ 24) 5 (2 * zc x) (j - t)) else S.2.2.1 p j)))) → XP mX9_whole 119 lv [.long u, .int (nI (t + k)), .ref p] (xwS S1) (sQ (fun r S' => r = none ∧ S' = setL S p (fun j => if t ≤ j ∧ j < t + 5 then lI (can (2 ^ 24) 5 (2 * zc x) (j - t)) else S.2.2.1 p j))) := by
    intro k hk S1 h1 lv d hd g10 u hu kk
    subst hu
    refine x_lload eX9_whole_119 g10 ?_
    refine x_ldc2 (v := 16777215) eX9_whole_121 (xT 843 (by decide +kernel) rfl) ?_
    refine x_land eX9_whole_124 ?_
    rw [hd]
    refine x_lmul eX9_whole_125 ?_
    rw [lI_mul]
    refine s_last eX9_whole_126 hk0 ha rfl (by omega) ?_
    refine kk _ ?_
    rw [h1, setL_setL, setL_at]
    congr 1
    funext j
    unfold vp_updL
    dsimp only
    by_cases hj : j = t + k
    · rw [if_pos hj, if_pos (by omega), show j - t = k by omega]
    · rw [if_neg hj]
      by_cases hj2 : t ≤ j ∧ j < t + k
      · rw [if_pos hj2, if_pos (by omega)]
      · rw [if_neg hj2, if_neg (by omega)]
  have j99 : ∀ k, k < 5 → ∀ S1, S1 = setL S p (fun j => if t ≤ j ∧ j < t + k then lI (sgZ x * (MxZ x / (2 ^ 24) ^ (j - t) % 2 ^ 24)) else S.2.2.1 p j) → ∀ (dn sv : Int32) (d : Int64), d &&& 16777215 = lI (MxZ x / (2 ^ 24) ^ k % 2 ^ 24) → (∀ S2, S2 = setL S p (fun j => if t ≤ j ∧ j < t + (k + 1) then lI (sgZ x * (MxZ x / (2 ^ 24) ^ (j - t) % 2 ^ 24)) else S.2.2.1 p j) → XP mX9_whole 42 [(8, .int (nI (k + 1))), (7, .int sv), (5, .long (lI (mtZ x))), (0, .long x), (2, .ref p), (3, .int (nI t))] [] (xwS S2) (sQ (fun r S' => r = none ∧ S' = setL S p (fun j => if t ≤ j ∧ j < t + 5 then lI (can (2 ^ 24) 5 (2 * zc x) (j - t)) else S.2.2.1 p j)))) → XP mX9_whole 99 [(9, .int dn), (8, .int (nI k)), (7, .int sv), (5, .long (lI (mtZ x))), (0, .long x), (2, .ref p), (3, .int (nI t))] [.long d] (xwS S1) (sQ (fun r S' => r = none ∧ S' = setL S p (fun j => if t ≤ j ∧ j < t + 5 then lI (can (2 ^ 24) 5 (2 * zc x) (j - t)) else S.2.2.1 p j))) := by
    intro k hk S1 h1 dn sv d hd kk
    have hsgn : x.toInt < 0 ↔ x < 0 := by rw [Int64.lt_iff_toInt_lt]; rfl
    refine x_lstore (lv' := [_, _, _, _, _, _, _, _]) eX9_whole_99 (by decide) rfl ?_
    refine x_aload_n eX9_whole_101 rfl ?_
    refine x_iload_n eX9_whole_102 rfl ?_
    refine x_iload eX9_whole_103 rfl ?_
    first | refine x_iaddN eX9_whole_105 ?_ | refine x_iadd eX9_whole_105 ?_
    refine x_lload_n eX9_whole_106 rfl ?_
    refine x_lconst (v := 0) eX9_whole_107 (by decide) ?_
    refine x_lcmp eX9_whole_108 ?_
    refine x_if_geL eX9_whole_109 (fun c_109 => ?_) (fun c_109 => ?_)
    · refine x_lconst (v := 1) eX9_whole_118 (by decide) ?_
      refine jsg k hk S1 h1 _ d hd rfl _ (by unfold sgZ; first | rw [if_neg (fun h => c_109 (hsgn.mp h))]; rfl | rw [if_pos (hsgn.mpr c_109)]; rfl) (fun S2 h2 => ?_)
      refine x_iinc (lv' := [_, _, _, _, _, _, _, _]) eX9_whole_127 rfl (by first | exact nI_inc _ | exact rfl) (by decide) rfl ?_
      refine x_goto eX9_whole_130 ?_
      refine x_pick [0, 3, 4, 5, 6, 7] rfl ?_
      exact kk S2 h2
    · refine x_ldc2 (v := -1) eX9_whole_112 (xT 842 (by decide +kernel) rfl) ?_
      refine x_goto eX9_whole_115 ?_
      refine jsg k hk S1 h1 _ d hd rfl _ (by unfold sgZ; first | rw [if_neg (fun h => c_109 (hsgn.mp h))]; rfl | rw [if_pos (hsgn.mpr c_109)]; rfl) (fun S2 h2 => ?_)
      refine x_iinc (lv' := [_, _, _, _, _, _, _, _]) eX9_whole_127 rfl (by first | exact nI_inc _ | exact rfl) (by decide) rfl ?_
      refine x_goto eX9_whole_130 ?_
      refine x_pick [0, 3, 4, 5, 6, 7] rfl ?_
      exact kk S2 h2
  have j56 : ∀ k, k < 5 → ∀ S1, S1 = setL S p (fun j => if t ≤ j ∧ j < t + k then lI (sgZ x * (MxZ x / (2 ^ 24) ^ (j - t) % 2 ^ 24)) else S.2.2.1 p j) → ∀ (dn sv : Int32), ((∃ d, d < 2000 ∧ dn = nI d ∧ mtZ x / 2 ^ d % 2 ^ 24 = MxZ x / (2 ^ 24) ^ k % 2 ^ 24) ∨ (∃ e, 0 < e ∧ e < 50 ∧ dn = -(nI e) ∧ mtZ x * 2 ^ e % 2 ^ 24 = MxZ x / (2 ^ 24) ^ k % 2 ^ 24)) → (∀ S2, S2 = setL S p (fun j => if t ≤ j ∧ j < t + (k + 1) then lI (sgZ x * (MxZ x / (2 ^ 24) ^ (j - t) % 2 ^ 24)) else S.2.2.1 p j) → XP mX9_whole 42 [(8, .int (nI (k + 1))), (7, .int sv), (5, .long (lI (mtZ x))), (0, .long x), (2, .ref p), (3, .int (nI t))] [] (xwS S2) (sQ (fun r S' => r = none ∧ S' = setL S p (fun j => if t ≤ j ∧ j < t + 5 then lI (can (2 ^ 24) 5 (2 * zc x) (j - t)) else S.2.2.1 p j)))) → XP mX9_whole 56 [(8, .int (nI k)), (7, .int sv), (5, .long (lI (mtZ x))), (0, .long x), (2, .ref p), (3, .int (nI t))] [.int dn] (xwS S1) (sQ (fun r S' => r = none ∧ S' = setL S p (fun j => if t ≤ j ∧ j < t + 5 then lI (can (2 ^ 24) 5 (2 * zc x) (j - t)) else S.2.2.1 p j))) := by
    intro k hk S1 h1 dn sv hdn kk
    have hmin : inL (mtZ x) := ⟨by omega, by omega⟩
    rcases hdn with ⟨d, hd, rfl, hv⟩ | ⟨e, he0, he, rfl, hv⟩
    · refine x_istore (lv' := [_, _, _, _, _, _, _]) eX9_whole_56 (by decide) rfl ?_
      refine x_iload eX9_whole_58 rfl ?_
      refine x_if_ltN eX9_whole_60 (by omega) ?_
      refine x_iload eX9_whole_63 rfl ?_
      refine x_bipush (v := nI 64) eX9_whole_65 (by decide) ?_
      refine x_icmp_geN eX9_whole_67 (by omega) (by omega) (fun c_67 => ?_) (fun c_67 => ?_)
      · refine x_lconst (v := 0) eX9_whole_78 (by decide) ?_
        refine x_goto eX9_whole_79 ?_
        first
          | exact j99 k hk S1 h1 _ _ _ (by rw [lI_mask (k := 24) (by decide) (by decide), hv]) kk
          | exact j99 k hk S1 h1 _ _ _ (by
              have h0 : mtZ x / 2 ^ d = 0 := Int.ediv_eq_zero_of_lt hmb.1 (by
                have h6 := Nat.pow_le_pow_right (n := 2) (by decide) c_67
                have h7 := two_pow_N 64
                have h8 := two_pow_N d
                omega)
              rw [← hv, h0]; rfl) kk
      · refine x_lload eX9_whole_70 rfl ?_
        refine x_iload eX9_whole_72 rfl ?_
        refine x_lshr eX9_whole_74 rfl ?_
        rw [lI_shr hmin (shc c_67)]
        refine x_goto eX9_whole_75 ?_
        first
          | exact j99 k hk S1 h1 _ _ _ (by rw [lI_mask (k := 24) (by decide) (by decide), hv]) kk
          | exact j99 k hk S1 h1 _ _ _ (by
              have h0 : mtZ x / 2 ^ d = 0 := Int.ediv_eq_zero_of_lt hmb.1 (by
                have h6 := Nat.pow_le_pow_right (n := 2) (by decide) c_67
                have h7 := two_pow_N 64
                have h8 := two_pow_N d
                omega)
              rw [← hv, h0]; rfl) kk
    · refine x_istore (lv' := [_, _, _, _, _, _, _]) eX9_whole_56 (by decide) rfl ?_
      refine x_iload eX9_whole_58 rfl ?_
      refine x_if_lt eX9_whole_60 (fun c_60 => ?_) (fun c_60 => ?_)
      · refine x_iload eX9_whole_82 rfl ?_
        refine x_bipush (v := -24) eX9_whole_84 (by decide) ?_
        refine x_icmp_le eX9_whole_86 (fun c_86 => ?_) (fun c_86 => ?_)
        · refine x_lconst (v := 0) eX9_whole_98 (by decide) ?_
          first
            | exact j99 k hk S1 h1 _ _ _ (by rw [lI_mask (k := 24) (by decide) (by decide), hv]) kk
            | exact j99 k hk S1 h1 _ _ _ (by
                have h24 := (negI_le e he).mp c_86
                have h0 : mtZ x * 2 ^ e % 2 ^ 24 = 0 := by
                  have : (2 : Int) ^ e = 2 ^ (e - 24) * 2 ^ 24 := by rw [← Int.pow_add]; congr 1; omega
                  rw [this, ← Int.mul_assoc, Int.mul_emod_left]
                rw [← hv, h0]; rfl) kk
        · refine x_lload eX9_whole_89 rfl ?_
          refine x_iload eX9_whole_91 rfl ?_
          refine x_ineg eX9_whole_93 ?_
          rw [Int32.neg_neg]
          refine x_lshl eX9_whole_94 rfl ?_
          rw [lI_shl (mtZ x) (shc (show e < 64 by omega))]
          refine x_goto eX9_whole_95 ?_
          first
            | exact j99 k hk S1 h1 _ _ _ (by rw [lI_mask (k := 24) (by decide) (by decide), hv]) kk
            | exact j99 k hk S1 h1 _ _ _ (by
                have h24 := (negI_le e he).mp c_86
                have h0 : mtZ x * 2 ^ e % 2 ^ 24 = 0 := by
                  have : (2 : Int) ^ e = 2 ^ (e - 24) * 2 ^ 24 := by rw [← Int.pow_add]; congr 1; omega
                  rw [this, ← Int.mul_assoc, Int.mul_emod_left]
                rw [← hv, h0]; rfl) kk
      · exact absurd (negI_lt e he he0) c_60
  have loop : ∀ sv, ((szZ x = 0 ∧ sv = -(nI 1002)) ∨ (¬ szZ x = 0 ∧ sv = nI (pwN x - 1002))) → ∀ m k, k + m = 5 → ∀ S1, S1 = setL S p (fun j => if t ≤ j ∧ j < t + k then lI (sgZ x * (MxZ x / (2 ^ 24) ^ (j - t) % 2 ^ 24)) else S.2.2.1 p j) → XP mX9_whole 42 [(8, .int (nI k)), (7, .int sv), (5, .long (lI (mtZ x))), (0, .long x), (2, .ref p), (3, .int (nI t))] [] (xwS S1) (sQ (fun r S' => r = none ∧ S' = setL S p (fun j => if t ≤ j ∧ j < t + 5 then lI (can (2 ^ 24) 5 (2 * zc x) (j - t)) else S.2.2.1 p j))) := by
    intro sv hsv m
    induction m with
    | zero =>
      intro k hk S1 h1
      obtain rfl : k = 5 := by omega
      refine x_iload eX9_whole_42 rfl ?_
      refine x_iconst (v := nI 5) eX9_whole_44 (by decide) ?_
      refine x_icmp_geN eX9_whole_45 (by omega) (by omega) (fun c_45 => ?_) (fun c_45 => ?_)
      · exact fin S1 h1 _ rfl rfl
      · omega
    | succ m ih =>
      intro k hk S1 h1
      refine x_iload eX9_whole_42 rfl ?_
      refine x_iconst (v := nI 5) eX9_whole_44 (by decide) ?_
      refine x_icmp_geN eX9_whole_45 (by omega) (by omega) (fun c_45 => ?_) (fun c_45 => ?_)
      · omega
      · refine x_bipush (v := nI 24) eX9_whole_48 (by decide) ?_
        refine x_iload eX9_whole_50 rfl ?_
        first | refine x_imulN eX9_whole_52 ?_ | refine x_imul eX9_whole_52 ?_
        refine x_iload eX9_whole_53 rfl ?_
        refine x_isub eX9_whole_55 ?_
        refine j56 k (by omega) S1 h1 _ _ ?_ (fun S2 h2 => ih (k + 1) (by omega) S2 h2)
        rcases hsv with ⟨hz, rfl⟩ | ⟨hz, rfl⟩
        · refine Or.inl ⟨24 * k + 1002, by omega, nI_sub_neg _ _, ?_⟩
          rw [hm0 hz]; unfold MxZ; rw [hm0 hz]; simp
        · have hb := hpb hz
          by_cases hle : pwN x - 1002 ≤ 24 * k
          · refine Or.inl ⟨24 * k - (pwN x - 1002), by omega, pk_sub hle, ?_⟩
            unfold MxZ; rw [part_down hle]
          · refine Or.inr ⟨pwN x - 1002 - 24 * k, by omega, by omega, nI_negsub (by omega), ?_⟩
            unfold MxZ; rw [part_up (by omega)]
  have j29 : ∀ v, v = lI (mtZ x) → XP mX9_whole 29 [(4, .int (nI (pwN x))), (0, .long x), (2, .ref p), (3, .int (nI t))] [.long v] (xwS S) (sQ (fun r S' => r = none ∧ S' = setL S p (fun j => if t ≤ j ∧ j < t + 5 then lI (can (2 ^ 24) 5 (2 * zc x) (j - t)) else S.2.2.1 p j))) := by
    intro v hv
    subst hv
    refine x_lstore (lv' := [_, _, _, _, _]) eX9_whole_29 (by decide) rfl ?_
    refine x_iload eX9_whole_31 rfl ?_
    refine x_sipush (v := nI 1002) eX9_whole_33 (by decide) ?_
    refine x_isub eX9_whole_36 ?_
    refine x_istore (lv' := [_, _, _, _, _, _]) eX9_whole_37 (by decide) rfl ?_
    refine x_iconst (v := nI 0) eX9_whole_39 (by decide) ?_
    refine x_istore (lv' := [_, _, _, _, _, _, _]) eX9_whole_40 (by decide) rfl ?_
    refine x_pick [0, 1, 2, 4, 5, 6] rfl ?_
    refine loop _ ?_ 5 0 rfl S ?_
    · by_cases hz : szZ x = 0
      · have : pwN x = 0 := Nat.eq_zero_of_not_pos (fun h2 => hpos.mpr h2 hz)
        exact Or.inl ⟨hz, by rw [this]; decide⟩
      · exact Or.inr ⟨hz, pk_sub (by have := hpb hz; omega)⟩
    · have : (fun j => if t ≤ j ∧ j < t + 0 then lI (sgZ x * (MxZ x / (2 ^ 24) ^ (j - t) % 2 ^ 24)) else S.2.2.1 p j) = S.2.2.1 p := by funext j; rw [if_neg (by omega)]
      rw [this, setL_self]
  show XP _ _ [_, _, _] _ _ _
  refine x_lload_n eX9_whole_0 rfl ?_
  refine x_bipush (v := nI 52) eX9_whole_1 (by decide) ?_
  refine x_lshr eX9_whole_3 rfl ?_
  refine x_ldc2 (v := 2047) eX9_whole_4 (xT 839 (by decide +kernel) rfl) ?_
  refine x_land eX9_whole_7 ?_
  refine x_l2i eX9_whole_8 ?_
  rw [hpw]
  refine x_istore (lv' := [_, _, _, _]) eX9_whole_9 (by decide) rfl ?_
  refine x_iload eX9_whole_11 rfl ?_
  refine x_if_neN eX9_whole_13 (by omega) (fun c_13 => ?_) (fun c_13 => ?_)
  · refine x_lload_n eX9_whole_20 rfl ?_
    refine x_ldc2 (v := 4503599627370495) eX9_whole_21 (xT 840 (by decide +kernel) rfl) ?_
    refine x_land eX9_whole_24 ?_
    refine x_ldc2 (v := 4503599627370496) eX9_whole_25 (xT 841 (by decide +kernel) rfl) ?_
    refine x_lor eX9_whole_28 ?_
    first
      | exact j29 _ (hmt (hpos.mpr c_13))
      | exact j29 _ (by rw [hm0 (Decidable.not_not.mp (fun h => absurd (hpos.mp h) (by omega)))]; rfl)
  · refine x_lconst (v := 0) eX9_whole_16 (by decide) ?_
    refine x_goto eX9_whole_17 ?_
    first
      | exact j29 _ (hmt (hpos.mpr c_13))
      | exact j29 _ (by rw [hm0 (Decidable.not_not.mp (fun h => absurd (hpos.mp h) (by omega)))]; rfl)
