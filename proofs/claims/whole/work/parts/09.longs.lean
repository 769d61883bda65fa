/-! ===== longs as whole numbers: lI z is z cut to 64 bits; sums and products go through, order and shifts within bounds ===== -/
def lI (z : Int) : Int64 := Int64.ofInt z
theorem lI_add (a b : Int) : lI a + lI b = lI (a + b) := (Int64.ofInt_add a b).symm
theorem lI_sub (a b : Int) : lI a - lI b = lI (a - b) := (Int64.ofInt_sub a b).symm
theorem lI_mul (a b : Int) : lI a * lI b = lI (a * b) := (Int64.ofInt_mul a b).symm
theorem lI_neg (a : Int) : - lI a = lI (-a) := (Int64.ofInt_neg a).symm
theorem lI_of (x : Int64) : x = lI x.toInt := (Int64.ofInt_toInt x).symm
def inL (z : Int) : Prop := -(2 ^ 63) ≤ z ∧ z < 2 ^ 63
theorem lI_toInt {z : Int} (h : inL z) : (lI z).toInt = z := Int64.toInt_ofInt_of_le (by have := h.1; omega) (by have := h.2; omega)
theorem inL_toInt (x : Int64) : inL x.toInt := ⟨Int64.le_toInt x, Int64.toInt_lt x⟩
theorem lI_lt {a b : Int} (ha : inL a) (hb : inL b) : lI a < lI b ↔ a < b := by rw [Int64.lt_iff_toInt_lt, lI_toInt ha, lI_toInt hb]
theorem lI_inj {a b : Int} (ha : inL a) (hb : inL b) : lI a = lI b ↔ a = b := by rw [← Int64.toInt_inj, lI_toInt ha, lI_toInt hb]
theorem lI_0 : lI 0 = 0 := rfl
theorem lI_1 : lI 1 = 1 := rfl
theorem lI_bv (z : Int) : (lI z).toBitVec = BitVec.ofInt 64 z := rfl
theorem lI_shr {z : Int} (hz : inL z) {y : Int64} {k : Nat} (hy : (y.toBitVec.smod 64).toNat = k) : lI z >>> y = lI (z / 2 ^ k) := by
  have h2 : inL (z / 2 ^ k) := by
    have hp : (0 : Int) < 2 ^ k := Int.pow_pos (by decide)
    have h1 : (1 : Int) ≤ 2 ^ k := hp
    obtain ⟨a, b⟩ := hz
    constructor
    · apply Int.le_ediv_of_mul_le hp
      have : -(2 ^ 63) * 2 ^ k ≤ -(2 ^ 63) * (1 : Int) := Int.mul_le_mul_of_nonpos_left (by decide) h1
      omega
    · apply Int.ediv_lt_of_lt_mul hp
      have : (2 ^ 63 : Int) * 1 ≤ 2 ^ 63 * 2 ^ k := Int.mul_le_mul_of_nonneg_left h1 (by decide)
      omega
  rw [← Int64.toInt_inj, lI_toInt h2]
  show (lI z >>> y).toBitVec.toInt = _
  rw [Int64.toBitVec_shiftRight, BitVec.toInt_sshiftRight', hy]
  show (lI z).toInt >>> k = _
  rw [lI_toInt hz, Int.shiftRight_eq_div_pow]
  rfl
theorem lI_mask {z : Int} {m : Int64} {k : Nat} (hm : m.toBitVec.toNat = 2 ^ k - 1) (hk : k ≤ 64) : lI z &&& m = lI (z % 2 ^ k) := by
  rw [← Int64.toBitVec_inj, Int64.toBitVec_and, lI_bv, lI_bv]
  apply BitVec.eq_of_toNat_eq
  rw [BitVec.toNat_and, hm, Nat.and_two_pow_sub_one_eq_mod, BitVec.toNat_ofInt, BitVec.toNat_ofInt]
  have hd : ((2 : Int) ^ k) ∣ 2 ^ 64 := ⟨2 ^ (64 - k), by rw [← Int.pow_add]; congr 1; omega⟩
  have hp : (0 : Int) < 2 ^ k := Int.pow_pos (by decide)
  apply Int.ofNat.inj
  show ((((z % ((2 ^ 64 : Nat) : Int)).toNat % 2 ^ k : Nat)) : Int) = (((z % 2 ^ k % ((2 ^ 64 : Nat) : Int)).toNat : Nat) : Int)
  have e1 : (((2 ^ 64 : Nat) : Int)) = 2 ^ 64 := by decide
  have n1 : 0 ≤ z % 2 ^ 64 := Int.emod_nonneg _ (by decide)
  have n2 : 0 ≤ z % 2 ^ k % 2 ^ 64 := Int.emod_nonneg _ (by decide)
  rw [e1, Int.natCast_emod, Int.toNat_of_nonneg n1, Int.toNat_of_nonneg n2]
  have e2 : (((2 ^ k : Nat)) : Int) = 2 ^ k := by simp
  rw [e2, Int.emod_emod_of_dvd _ hd]
  have h3 : z % 2 ^ k < 2 ^ k := Int.emod_lt_of_pos _ hp
  have h4 : 0 ≤ z % 2 ^ k := Int.emod_nonneg _ (by omega)
  have h5 : (2 : Int) ^ k ≤ 2 ^ 64 := Int.le_of_dvd (by decide) hd
  rw [Int.emod_eq_of_lt h4 (by omega)]
theorem lI_shl (z : Int) {y : Int64} {k : Nat} (hy : (y.toBitVec.smod 64).toNat = k) : lI z <<< y = lI (z * 2 ^ k) := by
  rw [← Int64.toBitVec_inj, Int64.toBitVec_shiftLeft, lI_bv, lI_bv]
  apply BitVec.eq_of_toNat_eq
  rw [BitVec.shiftLeft_eq', BitVec.toNat_shiftLeft, hy, BitVec.toNat_ofInt, BitVec.toNat_ofInt]
  apply Int.ofNat.inj
  show ((((z % ((2 ^ 64 : Nat) : Int)).toNat <<< k % 2 ^ 64 : Nat)) : Int) = (((z * 2 ^ k % ((2 ^ 64 : Nat) : Int)).toNat : Nat) : Int)
  have e1 : (((2 ^ 64 : Nat) : Int)) = 2 ^ 64 := by decide
  have n1 : 0 ≤ z % 2 ^ 64 := Int.emod_nonneg _ (by decide)
  have n2 : 0 ≤ z * 2 ^ k % 2 ^ 64 := Int.emod_nonneg _ (by decide)
  rw [Nat.shiftLeft_eq, e1, Int.natCast_emod, Int.natCast_mul, Int.toNat_of_nonneg n1, Int.toNat_of_nonneg n2, e1]
  have e2 : (((2 ^ k : Nat)) : Int) = 2 ^ k := by simp
  rw [e2, Int.mul_emod, Int.emod_emod_of_dvd _ (Int.dvd_refl _), ← Int.mul_emod]
theorem i2l_nI {k : Nat} (h : k < 2 ^ 31) : (nI k).toInt64 = lI k := by rw [nI_l h]; rfl
/-! ===== digits: limbs f i, f (i+1), .. n of them, by Horner; carrying keeps the value ===== -/
def hv (B : Int) (f : Nat → Int) : Nat → Nat → Int
  | _, 0 => 0
  | i, n + 1 => f i + B * hv B f (i + 1) n
def can (B : Int) (n : Nat) (V : Int) (i : Nat) : Int := if i + 1 < n then V / B ^ i % B else V / B ^ i
/-- what carrying brings to limb k -/
def cy (B : Int) (f : Nat → Int) (n k : Nat) : Int := hv B f 0 n / B ^ k - hv B f k (n - k)
theorem cy_0 (B : Int) (f : Nat → Int) (n : Nat) : cy B f n 0 = 0 := by simp [cy]
theorem cy_limb {B : Int} {f : Nat → Int} {n k : Nat} (h : k < n) : hv B f 0 n / B ^ k = f k + cy B f n k + B * hv B f (k + 1) (n - (k + 1)) := by
  unfold cy
  have : n - k = (n - (k + 1)) + 1 := by omega
  rw [this]
  show _ = f k + (_ - (f k + B * hv B f (k + 1) (n - (k + 1)))) + _
  omega
theorem cy_step {B : Int} (hB : 0 < B) {f : Nat → Int} {n k : Nat} (h : k < n) : cy B f n (k + 1) = (f k + cy B f n k) / B := by
  have h1 := cy_limb (B := B) (f := f) h
  have h2 : hv B f 0 n / B ^ (k + 1) = (f k + cy B f n k) / B + hv B f (k + 1) (n - (k + 1)) := by
    rw [Int.pow_succ, ← Int.ediv_ediv_of_nonneg (Int.le_of_lt (Int.pow_pos hB)), h1, Int.add_mul_ediv_left _ _ (by omega)]
  unfold cy at h2 ⊢
  omega
theorem cy_mod {B : Int} {f : Nat → Int} {n k : Nat} (h : k < n) : hv B f 0 n / B ^ k % B = (f k + cy B f n k) % B := by
  rw [cy_limb h, Int.add_mul_emod_self_left]
theorem cy_last {B : Int} {f : Nat → Int} {n : Nat} (h : 0 < n) : hv B f 0 n / B ^ (n - 1) = f (n - 1) + cy B f n (n - 1) := by
  rw [cy_limb (B := B) (f := f) (n := n) (k := n - 1) (by omega)]
  have : n - (n - 1 + 1) = 0 := by omega
  rw [this]
  show _ + B * 0 = _
  omega
theorem cy_bound {B : Int} (hB : 4 ≤ B) {f : Nat → Int} {n : Nat} (hf : ∀ i, i < n → -(2 ^ 62) ≤ f i ∧ f i ≤ 2 ^ 62) : ∀ k, k ≤ n → -(2 ^ 61) ≤ cy B f n k ∧ cy B f n k ≤ 2 ^ 61 := by
  intro k
  induction k with
  | zero => intro _; rw [cy_0]; decide
  | succ k ih =>
    intro hk
    obtain ⟨a, b⟩ := ih (by omega)
    obtain ⟨c, d⟩ := hf k (by omega)
    rw [cy_step (by omega) (by omega)]
    have hm : (2 ^ 61 : Int) * 4 ≤ 2 ^ 61 * B := Int.mul_le_mul_of_nonneg_left hB (by decide)
    constructor
    · apply Int.le_ediv_of_mul_le (by omega)
      rw [Int.neg_mul]
      omega
    · apply Int.le_of_lt_add_one
      apply Int.ediv_lt_of_lt_mul (by omega)
      rw [Int.add_mul]
      omega
