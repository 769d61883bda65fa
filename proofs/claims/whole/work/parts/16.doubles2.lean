/-! ===== more of doubles: quotients by powers of 2, other units, bits, longs; what rn does ===== -/
theorem vz_ratio {u : Nat} {s : Bool} {A B : Nat} {e z : Int} {d : UInt64} (hB : 0 < B) (hu : u ≤ 1000) (hz : z.natAbs < 2 ^ (u + 900)) (hval : A * 2 ^ (e + u).toNat = z.natAbs * B * 2 ^ (-(e + u)).toNat) (hs : z ≠ 0 → s = decide (z < 0)) (hd : FP.Core.val64 d = FP.Core.roundRatio FP.Core.b64 s A B e) : vz u d (rn z) := by
  have e1 : FP.Core.roundRatio FP.Core.b64 s A B e = FP.Core.roundRatio FP.Core.b64 s z.natAbs 1 (-(u : Int)) := by
    refine FP.Core.roundRatio_congr hB (by decide) ?_
    rw [Nat.mul_one, show e - -(u : Int) = e + u by omega, show -(u : Int) - e = -(e + u) by omega]
    exact hval
  refine vz_round (s := s) (c := z.natAbs) (q := -(u : Int)) hu hz ?_ hs (by rw [hd, e1]; rfl)
  rw [show -(u : Int) + u = 0 by omega]
  simp
theorem vz_ddiv {u k : Nat} {a b : UInt64} {x : Int} (hu : u + k ≤ 1000) (ha : vz u a x) (hb : vz 0 b (2 ^ k)) (hz : x.natAbs < 2 ^ (u + k + 900)) : vz (u + k) (FP.ddiv a b) (rn x) := by
  obtain ⟨s, c, q, e1, h1, s1⟩ := ha
  obtain ⟨t, d, r, e2, h2, s2⟩ := hb
  have hp : (0 : Int) < 2 ^ k := Int.pow_pos (by decide)
  have ht : t = false := by rw [s2 (by omega), decide_eq_false (by omega)]
  have hn : ((2 : Int) ^ k).natAbs = 2 ^ k := by have := two_pow_N k; omega
  rw [hn] at h2
  have hd0 : d ≠ 0 := by
    intro h
    rw [h, Nat.zero_mul] at h2
    have := Nat.mul_pos (Nat.two_pow_pos k) (Nat.two_pow_pos (-(r + ((0 : Nat) : Int))).toNat)
    omega
  refine vz_ratio (s := s) (A := c) (B := d) (e := q - r) (by omega) hu hz ?_ s1 ?_
  · have hm : c * 2 ^ (q + u).toNat * (2 ^ k * 2 ^ (-(r + ((0 : Nat) : Int))).toNat) = x.natAbs * 2 ^ (-(q + u)).toNat * (d * 2 ^ (r + ((0 : Nat) : Int)).toNat) := by rw [h1, h2]
    have r1 : c * 2 ^ (q + u).toNat * (2 ^ k * 2 ^ (-(r + ((0 : Nat) : Int))).toNat) = c * 2 ^ ((q + u).toNat + (k + (-(r + ((0 : Nat) : Int))).toNat)) := by rw [Nat.pow_add, Nat.pow_add]; grind
    have r2 : x.natAbs * 2 ^ (-(q + u)).toNat * (d * 2 ^ (r + ((0 : Nat) : Int)).toNat) = x.natAbs * d * 2 ^ ((-(q + u)).toNat + (r + ((0 : Nat) : Int)).toNat) := by rw [Nat.pow_add]; grind
    rw [r1, r2] at hm
    obtain ⟨m, k1, k2⟩ : ∃ m : Nat, (q + u).toNat + (k + (-(r + ((0 : Nat) : Int))).toNat) = (q - r + ((u + k : Nat) : Int)).toNat + m ∧ (-(q + u)).toNat + (r + ((0 : Nat) : Int)).toNat = (-(q - r + ((u + k : Nat) : Int))).toNat + m := ⟨(q + u).toNat + (k + (-(r + ((0 : Nat) : Int))).toNat) - (q - r + ((u + k : Nat) : Int)).toNat, by omega, by omega⟩
    rw [k1, k2, Nat.pow_add, Nat.pow_add, ← Nat.mul_assoc, ← Nat.mul_assoc] at hm
    exact Nat.eq_of_mul_eq_mul_right (Nat.two_pow_pos m) hm
  · rw [show FP.Core.val64 (FP.ddiv a b) = _ from FP.Core.val64_ddiv a b, e1, e2, ht]
    show (if d = 0 then _ else FP.Core.roundRatio FP.Core.b64 (s != false) c d (q - r)) = _
    rw [if_neg hd0]
    congr 1
    cases s <;> rfl
theorem vz_rep {u k : Nat} {a : UInt64} {x : Int} (ha : vz u a x) : vz (u + k) a (x * 2 ^ k) := by
  obtain ⟨s, c, q, e1, h1, s1⟩ := ha
  have hp : (0 : Int) < 2 ^ k := Int.pow_pos (by decide)
  have hn : ((2 : Int) ^ k).natAbs = 2 ^ k := by have := two_pow_N k; omega
  refine ⟨s, c, q, e1, ?_, ?_⟩
  · rw [Int.natAbs_mul, hn]
    have hm : c * 2 ^ (q + u).toNat * 2 ^ k = x.natAbs * 2 ^ (-(q + u)).toNat * 2 ^ k := by rw [h1]
    have r1 : c * 2 ^ (q + u).toNat * 2 ^ k = c * 2 ^ ((q + u).toNat + k) := by rw [Nat.pow_add]; grind
    have r2 : x.natAbs * 2 ^ (-(q + u)).toNat * 2 ^ k = x.natAbs * 2 ^ k * 2 ^ (-(q + u)).toNat := by grind
    rw [r1, r2] at hm
    obtain ⟨m, k1, k2⟩ : ∃ m : Nat, (q + u).toNat + k = (q + ((u + k : Nat) : Int)).toNat + m ∧ (-(q + u)).toNat = (-(q + ((u + k : Nat) : Int))).toNat + m := ⟨(q + u).toNat + k - (q + ((u + k : Nat) : Int)).toNat, by omega, by omega⟩
    rw [k1, k2, Nat.pow_add, Nat.pow_add, ← Nat.mul_assoc, ← Nat.mul_assoc] at hm
    exact Nat.eq_of_mul_eq_mul_right (Nat.two_pow_pos m) hm
  · intro h
    have hx : x ≠ 0 := fun h2 => h (by rw [h2, Int.zero_mul])
    rw [s1 hx]
    by_cases h3 : x < 0
    · rw [decide_eq_true h3, decide_eq_true (Int.mul_neg_of_neg_of_pos h3 hp)]
    · rw [decide_eq_false h3, decide_eq_false (by have := Int.mul_nonneg (show 0 ≤ x by omega) (Int.le_of_lt hp); omega)]
theorem vz_n64 {u : Nat} {a : UInt64} {x : Int} (ha : vz u a x) : vf_n64 a := by
  obtain ⟨s, c, q, e1, -⟩ := ha
  unfold vf_n64
  rw [UInt64.le_iff_toNat_le, UInt64.toNat_and]
  show a.toNat &&& (2 ^ 63 - 1) ≤ 0x7ff0000000000000
  rw [Nat.and_two_pow_sub_one_eq_mod]
  have hE : ¬ FP.Core.fieldE FP.Core.b64 a.toNat = 2047 := by
    intro h
    unfold FP.Core.val64 FP.Core.decode at e1
    rw [if_pos (by rw [h]; rfl)] at e1
    split at e1 <;> cases e1
  have hE' : FP.Core.fieldE FP.Core.b64 a.toNat = a.toNat / 2 ^ 52 % 2048 := rfl
  rw [hE'] at hE
  omega
theorem vz_neg {u : Nat} {a : UInt64} {x : Int} (ha : vz u a x) : vz u (FP.dneg a) (-x) := by
  obtain ⟨s, c, q, e1, h1, s1⟩ := ha
  have hx : (a ^^^ 0x8000000000000000).toNat = if a.toNat < 2 ^ 63 then a.toNat + 2 ^ 63 else a.toNat - 2 ^ 63 := by
    rw [UInt64.toNat_xor]
    show a.toNat ^^^ 2 ^ 63 = _
    have hlt : a.toNat < 2 ^ 64 := a.toNat_lt
    split
    · rename_i h
      have := Nat.two_pow_add_eq_or_of_lt h 1
      rw [Nat.mul_one] at this
      apply Nat.eq_of_testBit_eq
      intro i
      rw [Nat.testBit_xor, Nat.add_comm, this, Nat.testBit_or, Nat.testBit_two_pow]
      by_cases hi : 63 = i
      · subst hi
        rw [Nat.testBit_lt_two_pow h]; rfl
      · simp [hi]
    · rename_i h
      obtain ⟨b, hb, hbl⟩ : ∃ b, a.toNat = 2 ^ 63 + b ∧ b < 2 ^ 63 := ⟨a.toNat - 2 ^ 63, by omega, by omega⟩
      rw [hb]
      have := Nat.two_pow_add_eq_or_of_lt hbl 1
      rw [Nat.mul_one] at this
      rw [show 2 ^ 63 + b - 2 ^ 63 = b by omega, this]
      apply Nat.eq_of_testBit_eq
      intro i
      rw [Nat.testBit_xor, Nat.testBit_or, Nat.testBit_two_pow]
      by_cases hi : 63 = i
      · subst hi
        rw [Nat.testBit_lt_two_pow hbl]; rfl
      · simp [hi]
  have hf : FP.Core.val64 (FP.dneg a) = .fin (!s) c q := by
    have hlt : a.toNat < 2 ^ 64 := a.toNat_lt
    have t1 : FP.Core.fieldT FP.Core.b64 (FP.dneg a).toNat = FP.Core.fieldT FP.Core.b64 a.toNat := by
      show (a ^^^ 0x8000000000000000).toNat % 2 ^ 52 = a.toNat % 2 ^ 52
      rw [hx]; split <;> omega
    have t2 : FP.Core.fieldE FP.Core.b64 (FP.dneg a).toNat = FP.Core.fieldE FP.Core.b64 a.toNat := by
      show (a ^^^ 0x8000000000000000).toNat / 2 ^ 52 % 2 ^ 11 = a.toNat / 2 ^ 52 % 2 ^ 11
      rw [hx]; split <;> omega
    have t3 : FP.Core.fieldS FP.Core.b64 (FP.dneg a).toNat = !FP.Core.fieldS FP.Core.b64 a.toNat := by
      show ((a ^^^ 0x8000000000000000).toNat / 2 ^ 52 / 2 ^ 11 % 2 == 1) = !(a.toNat / 2 ^ 52 / 2 ^ 11 % 2 == 1)
      rw [hx]
      split
      · rename_i h
        have w1 : (a.toNat + 2 ^ 63) / 2 ^ 52 / 2 ^ 11 % 2 = 1 := by omega
        have w2 : a.toNat / 2 ^ 52 / 2 ^ 11 % 2 = 0 := by omega
        rw [w1, w2]; rfl
      · rename_i h
        have w1 : (a.toNat - 2 ^ 63) / 2 ^ 52 / 2 ^ 11 % 2 = 0 := by omega
        have w2 : a.toNat / 2 ^ 52 / 2 ^ 11 % 2 = 1 := by omega
        rw [w1, w2]; rfl
    unfold FP.Core.val64 FP.Core.decode at e1 ⊢
    rw [t1, t2, t3]
    split at e1
    · split at e1 <;> cases e1
    · rename_i h5
      rw [if_neg h5]
      split at e1
      · rename_i h6
        rw [if_pos h6]
        cases e1
        rfl
      · rename_i h6
        rw [if_neg h6]
        cases e1
        rfl
  refine ⟨!s, c, q, hf, by rw [Int.natAbs_neg]; exact h1, fun h => ?_⟩
  have hx0 : x ≠ 0 := by omega
  rw [s1 hx0]
  by_cases h3 : x < 0
  · rw [decide_eq_true h3, decide_eq_false (by omega)]; rfl
  · rw [decide_eq_false h3, decide_eq_true (by omega)]; rfl
theorem toU_nat (x : Int64) : (x.toUInt64.toNat : Int) = x.toInt % 2 ^ 64 := by
  show (x.toBitVec.toNat : Int) = x.toBitVec.toInt % 2 ^ 64
  rw [BitVec.toInt_eq_toNat_cond]
  have := x.toBitVec.isLt
  split <;> omega
/-- a number's own bits, as a double -/
theorem vz_bits {x : Int64} (h : isNum x = true) (hp : szZ x = 0 → x = 0) : vz 72 x.toUInt64 (zc x) := by
  by_cases h0 : szZ x = 0
  · rw [hp h0, zc_0]
    exact ⟨false, 0, -1074, by decide, by simp, fun h => absurd rfl h⟩
  · have hb := pw_bounds h h0
    have hn := toU_nat x
    have hi := inL_toInt x
    obtain ⟨i1, i2⟩ := hi
    have hsz : szZ x = x.toInt % 2 ^ 63 := rfl
    have hpw : (pwN x : Int) = szZ x / 2 ^ 52 := by
      unfold pwN
      have := szZ_nn x
      omega
    have t2 : FP.Core.fieldE FP.Core.b64 x.toUInt64.toNat = pwN x := by
      show x.toUInt64.toNat / 2 ^ 52 % 2 ^ 11 = pwN x
      omega
    have t1 : (FP.Core.fieldT FP.Core.b64 x.toUInt64.toNat : Int) = szZ x % 2 ^ 52 := by
      show ((x.toUInt64.toNat % 2 ^ 52 : Nat) : Int) = _
      omega
    have t3 : FP.Core.fieldS FP.Core.b64 x.toUInt64.toNat = decide (x.toInt < 0) := by
      show (x.toUInt64.toNat / 2 ^ 52 / 2 ^ 11 % 2 == 1) = _
      by_cases hx : x.toInt < 0
      · have w : x.toUInt64.toNat / 2 ^ 52 / 2 ^ 11 % 2 = 1 := by omega
        rw [w, decide_eq_true hx]; rfl
      · have w : x.toUInt64.toNat / 2 ^ 52 / 2 ^ 11 % 2 = 0 := by omega
        rw [w, decide_eq_false hx]; rfl
    have hd : FP.Core.val64 x.toUInt64 = .fin (decide (x.toInt < 0)) (2 ^ 52 + FP.Core.fieldT FP.Core.b64 x.toUInt64.toNat) ((pwN x : Int) - 1075) := by
      unfold FP.Core.val64 FP.Core.decode
      rw [t2, t3, show FP.Core.b64.exps - 1 = 2047 from by decide, if_neg (show ¬ pwN x = 2047 by omega), if_neg (by omega), b64_qmin, b64_tails]
      congr 1
      omega
    have hmt : mtZ x = ((2 ^ 52 + FP.Core.fieldT FP.Core.b64 x.toUInt64.toNat : Nat) : Int) := by
      unfold mtZ
      rw [if_neg h0]
      omega
    have hza : (zc x).natAbs = (2 ^ 52 + FP.Core.fieldT FP.Core.b64 x.toUInt64.toNat) * 2 ^ (pwN x - 1003) := by
      unfold zc sgZ
      rw [hmt, ← two_pow_N, ← Int.natCast_mul]
      split <;> omega
    have hzs : zc x < 0 ↔ x.toInt < 0 := by
      have hpos : 0 < (2 ^ 52 + FP.Core.fieldT FP.Core.b64 x.toUInt64.toNat) * 2 ^ (pwN x - 1003) := Nat.mul_pos (by omega) (Nat.two_pow_pos _)
      unfold zc sgZ
      rw [hmt, ← two_pow_N, ← Int.natCast_mul]
      split <;> omega
    refine ⟨_, _, _, hd, ?_, fun _ => by simp only [hzs]⟩
    rw [hza, show ((pwN x : Int) - 1075 + ((72 : Nat) : Int)).toNat = pwN x - 1003 by omega, show (-((pwN x : Int) - 1075 + ((72 : Nat) : Int))).toNat = 0 by omega, Nat.pow_zero, Nat.mul_one]
theorem rnN_pow {m k : Nat} (hm : m ≤ 2 ^ 53) : rnN (m * 2 ^ k) = m * 2 ^ k := by
  unfold rnN
  by_cases h0 : m * 2 ^ k = 0
  · rw [h0]; decide
  · have hpos : 0 < m * 2 ^ k := Nat.pos_of_ne_zero h0
    have hlog : (m * 2 ^ k).log2 - 52 ≤ k ∨ m = 2 ^ 53 := by
      by_cases h53 : m = 2 ^ 53
      · exact Or.inr h53
      · left
        have : m * 2 ^ k < 2 ^ 53 * 2 ^ k := Nat.mul_lt_mul_of_pos_right (by omega) (Nat.two_pow_pos k)
        rw [← Nat.pow_add] at this
        have := log2_lt' hpos this
        omega
    rcases hlog with h | h
    · have e : m * 2 ^ k = (m * 2 ^ (k - ((m * 2 ^ k).log2 - 52))) * 2 ^ ((m * 2 ^ k).log2 - 52) := by
        rw [Nat.mul_assoc, ← Nat.pow_add, show k - ((m * 2 ^ k).log2 - 52) + ((m * 2 ^ k).log2 - 52) = k by omega]
      generalize hj : (m * 2 ^ k).log2 - 52 = j at *
      rw [e, FP.Core.nearest_exact _ (Nat.two_pow_pos _)]
    · subst h
      have hl : (2 ^ 53 * 2 ^ k).log2 = 53 + k := by rw [← Nat.pow_add, Nat.log2_two_pow]
      rw [hl, show 53 + k - 52 = k + 1 by omega]
      have e : 2 ^ 53 * 2 ^ k = 2 ^ 52 * 2 ^ (k + 1) := by rw [← Nat.pow_add, ← Nat.pow_add]; congr 1; omega
      rw [e, FP.Core.nearest_exact _ (Nat.two_pow_pos _)]
theorem rnN_small {n : Nat} (h : n ≤ 2 ^ 53) : rnN n = n := by
  have := rnN_pow (k := 0) h
  simpa using this
theorem rn_small {z : Int} (h : z.natAbs ≤ 2 ^ 53) : rn z = z := by
  unfold rn
  rw [rnN_small h]
  split <;> omega
theorem rn_neg (z : Int) : rn (-z) = -rn z := by
  unfold rn
  rw [Int.natAbs_neg]
  by_cases h0 : z = 0
  · subst h0; decide
  · by_cases h : z < 0
    · rw [if_neg (by omega), if_pos h, Int.neg_neg]
    · rw [if_pos (by omega), if_neg h]
theorem rnN_err (n : Nat) : (rnN n - n : Int).natAbs * 2 ^ 53 ≤ n := by
  by_cases h0 : n = 0
  · subst h0; decide
  · by_cases hL : n.log2 ≤ 52
    · have : n ≤ 2 ^ 53 := by
        have h1 : n < 2 ^ (n.log2 + 1) := Nat.lt_log2_self
        have h2 := Nat.pow_le_pow_right (n := 2) (by decide) (show n.log2 + 1 ≤ 53 by omega)
        omega
      rw [rnN_small this]
      simp
    · obtain ⟨a, b, -⟩ := FP.Core.nearest_spec n (2 ^ (n.log2 - 52)) (Nat.two_pow_pos _)
      have l1 : 2 ^ n.log2 ≤ n := Nat.log2_self_le (by omega)
      unfold rnN
      have e : 2 ^ n.log2 = 2 ^ (n.log2 - 52) * 2 ^ 52 := by rw [← Nat.pow_add]; congr 1; omega
      generalize 2 ^ (n.log2 - 52) = B at *
      generalize FP.Core.nearest n B = N at *
      rw [Nat.add_mul, Nat.one_mul, Nat.mul_assoc] at a
      rw [Nat.mul_assoc] at b
      generalize hNB : N * B = P at *
      omega
theorem rn_err (z : Int) : (rn z - z).natAbs * 2 ^ 53 ≤ z.natAbs := by
  have h := rnN_err z.natAbs
  have : (rn z - z).natAbs = ((rnN z.natAbs : Int) - (z.natAbs : Int)).natAbs := by
    unfold rn
    split <;> omega
  rw [this]
  exact h
theorem rn_pos {z : Int} (h : 0 < z) : 0 < rn z := by
  have := rn_err z
  omega
theorem rn_negz {z : Int} (h : z < 0) : rn z < 0 := by
  have := rn_err z
  omega
theorem vz_l2d {z : Int} (h : z.natAbs ≤ 2 ^ 53) : vz 0 (FP.l2d (lI z)) z := by
  have hi : inL z := ⟨by omega, by omega⟩
  have := vz_round (u := 0) (s := decide (z < 0)) (c := z.natAbs) (q := 0) (z := z) (d := FP.l2d (lI z)) (by decide) (by omega) (by simp) (fun _ => rfl) (by rw [show FP.Core.val64 (FP.l2d (lI z)) = _ from FP.Core.val64_l2d (lI z), lI_toInt hi]; rfl)
  rwa [rn_small h] at this
