/-! ===== doubles by whole numbers: vz u d z says that d is the number z * 2^-u; rn is the rounding to 53 digits ===== -/
def vz (u : Nat) (d : UInt64) (z : Int) : Prop := ∃ (s : Bool) (c : Nat) (q : Int), FP.Core.val64 d = .fin s c q ∧ c * 2 ^ (q + u).toNat = z.natAbs * 2 ^ (-(q + u)).toNat ∧ (z ≠ 0 → s = decide (z < 0))
def rnN (n : Nat) : Nat := FP.Core.nearest n (2 ^ (n.log2 - 52)) * 2 ^ (n.log2 - 52)
def rn (z : Int) : Int := if z < 0 then -(rnN z.natAbs : Int) else (rnN z.natAbs : Int)
theorem b64_qmin : FP.Core.b64.qmin = -1074 := by decide
theorem b64_qmax : FP.Core.b64.qmax = 971 := by decide
theorem b64_p : FP.Core.b64.p = 53 := rfl
theorem b64_tails : FP.Core.b64.tails = 2 ^ 52 := rfl
theorem leading_one {n : Nat} (h : 0 < n) : FP.Core.leading n 1 = (n.log2 : Int) := by
  unfold FP.Core.leading
  have h1 : Nat.log2 1 = 0 := by decide
  have h2 : 2 ^ n.log2 ≤ n := Nat.log2_self_le (by omega)
  simp only [h1]
  have e1 : ((n.log2 : Int) - ((0 : Nat) : Int)).toNat = n.log2 := by omega
  have e2 : (-((n.log2 : Int) - ((0 : Nat) : Int))).toNat = 0 := by omega
  rw [e1, e2, if_pos (by omega)]
  omega
theorem log2_lt' {n k : Nat} (h0 : 0 < n) (h : n < 2 ^ k) : n.log2 < k := by
  rcases Nat.lt_or_ge n.log2 k with h1 | h1
  · exact h1
  · have h2 : 2 ^ n.log2 ≤ n := Nat.log2_self_le (by omega)
    have h3 := Nat.pow_le_pow_right (n := 2) (by decide) h1
    omega
theorem rr_value (s : Bool) {n u : Nat} (h0 : 0 < n) (hu : u ≤ 1000) (hn : n < 2 ^ (u + 900)) : ∃ (c : Nat) (q : Int), FP.Core.roundRatio FP.Core.b64 s n 1 (-(u : Int)) = .fin s c q ∧ c * 2 ^ (q + u).toNat = rnN n * 2 ^ (-(q + u)).toNat := by
  have hL := log2_lt' h0 hn
  have l1 : 2 ^ n.log2 ≤ n := Nat.log2_self_le (by omega)
  have l2 : n < 2 ^ (n.log2 + 1) := Nat.lt_log2_self
  have hq : FP.Core.quantum FP.Core.b64 n 1 (-(u : Int)) = (n.log2 : Int) - u - 52 := by
    unfold FP.Core.quantum
    rw [leading_one h0, b64_qmin, b64_p]
    omega
  unfold FP.Core.roundRatio
  rw [if_neg (by omega), hq]
  unfold FP.Core.roundAt FP.Core.unitsNum FP.Core.unitsDen rnN
  have e1 : (-(u : Int) - ((n.log2 : Int) - u - 52)).toNat = 52 - n.log2 := by omega
  have e2 : ((n.log2 : Int) - u - 52 - -(u : Int)).toNat = n.log2 - 52 := by omega
  rw [e1, e2, Nat.one_mul]
  have key : FP.Core.nearest (n * 2 ^ (52 - n.log2)) (2 ^ (n.log2 - 52)) ≤ 2 ^ 53 := by
    apply FP.Core.nearest_le (Nat.two_pow_pos _)
    by_cases h : 52 ≤ n.log2
    · rw [show 52 - n.log2 = 0 by omega, ← Nat.pow_add, show 53 + (n.log2 - 52) = n.log2 + 1 by omega]
      omega
    · rw [show n.log2 - 52 = 0 by omega]
      have h3 : n * 2 ^ (52 - n.log2) < 2 ^ (n.log2 + 1) * 2 ^ (52 - n.log2) := Nat.mul_lt_mul_of_pos_right l2 (Nat.two_pow_pos _)
      rw [← Nat.pow_add, show n.log2 + 1 + (52 - n.log2) = 53 by omega] at h3
      omega
  generalize hm : FP.Core.nearest (n * 2 ^ (52 - n.log2)) (2 ^ (n.log2 - 52)) = m at key
  have hval : m * 2 ^ ((n.log2 : Int) - u - 52 + u).toNat = FP.Core.nearest n (2 ^ (n.log2 - 52)) * 2 ^ (n.log2 - 52) * 2 ^ (-((n.log2 : Int) - u - 52 + u)).toNat := by
    have e3 : ((n.log2 : Int) - u - 52 + u).toNat = n.log2 - 52 := by omega
    have e4 : (-((n.log2 : Int) - u - 52 + u)).toNat = 52 - n.log2 := by omega
    rw [e3, e4]
    by_cases h : 52 ≤ n.log2
    · rw [show 52 - n.log2 = 0 by omega] at hm ⊢
      rw [Nat.pow_zero, Nat.mul_one] at hm
      rw [hm, Nat.pow_zero, Nat.mul_one]
    · rw [show n.log2 - 52 = 0 by omega] at hm ⊢
      have h5 : ∀ k, FP.Core.nearest k (2 ^ 0) = k := by
        intro k
        have := FP.Core.nearest_exact (B := 1) k (by decide)
        rwa [Nat.mul_one] at this
      rw [h5] at hm ⊢
      rw [← hm]
      simp
  unfold FP.Core.settle FP.Core.bound
  rw [b64_p, b64_qmax, b64_tails]
  by_cases hlt : m < 2 ^ 53
  · rw [if_pos hlt, if_pos (by omega)]
    exact ⟨m, _, rfl, hval⟩
  · rw [if_neg hlt, if_pos (by omega)]
    refine ⟨2 ^ 52, _, rfl, ?_⟩
    obtain rfl : m = 2 ^ 53 := by omega
    by_cases h : 52 ≤ n.log2
    · have e5 : ((n.log2 : Int) - u - 52 + 1 + u).toNat = n.log2 - 52 + 1 := by omega
      have e6 : (-((n.log2 : Int) - u - 52 + 1 + u)).toNat = 0 := by omega
      have e7 : ((n.log2 : Int) - u - 52 + u).toNat = n.log2 - 52 := by omega
      have e8 : (-((n.log2 : Int) - u - 52 + u)).toNat = 0 := by omega
      rw [e7, e8] at hval
      rw [e5, e6, ← hval, ← Nat.pow_add, ← Nat.pow_add]
      congr 1
      omega
    · have e5 : ((n.log2 : Int) - u - 52 + 1 + u).toNat = 0 := by omega
      have e6 : (-((n.log2 : Int) - u - 52 + 1 + u)).toNat = 51 - n.log2 := by omega
      have e7 : ((n.log2 : Int) - u - 52 + u).toNat = 0 := by omega
      have e8 : (-((n.log2 : Int) - u - 52 + u)).toNat = 51 - n.log2 + 1 := by omega
      have e9 : 2 ^ (51 - n.log2 + 1) = 2 ^ (51 - n.log2) * 2 := Nat.pow_succ 2 _
      rw [e7, e8, e9, ← Nat.mul_assoc] at hval
      rw [e5, e6]
      omega
theorem rnN_zero : rnN 0 = 0 := by decide
theorem rn_zero : rn 0 = 0 := by decide
theorem rn_natAbs (z : Int) : (rn z).natAbs = rnN z.natAbs := by
  unfold rn
  split <;> omega
theorem vz_round {u : Nat} {s : Bool} {c : Nat} {q z : Int} {d : UInt64} (hu : u ≤ 1000) (hz : z.natAbs < 2 ^ (u + 900)) (hval : c * 2 ^ (q + u).toNat = z.natAbs * 2 ^ (-(q + u)).toNat) (hs : z ≠ 0 → s = decide (z < 0)) (hd : FP.Core.val64 d = FP.Core.round FP.Core.b64 (.fin s c q)) : vz u d (rn z) := by
  have hd : FP.Core.val64 d = FP.Core.roundRatio FP.Core.b64 s c 1 q := hd
  by_cases h0 : z = 0
  · subst h0
    have hc : c = 0 := by
      have h1 : c * 2 ^ (q + u).toNat = 0 := by simpa using hval
      rcases Nat.mul_eq_zero.mp h1 with h2 | h2
      · exact h2
      · exact absurd h2 (Nat.pos_iff_ne_zero.mp (Nat.two_pow_pos _))
    subst hc
    unfold FP.Core.roundRatio at hd
    rw [if_pos rfl] at hd
    exact ⟨s, 0, _, hd, by rw [rn_zero]; simp, fun h => absurd rn_zero h⟩
  · have hn : 0 < z.natAbs := by omega
    have e1 : FP.Core.roundRatio FP.Core.b64 s c 1 q = FP.Core.roundRatio FP.Core.b64 s z.natAbs 1 (-(u : Int)) := by
      refine FP.Core.roundRatio_congr (by decide) (by decide) ?_
      rw [Nat.mul_one, Nat.mul_one, show q - -(u : Int) = q + u by omega, show -(u : Int) - q = -(q + u) by omega]
      exact hval
    obtain ⟨c', q', h1, h2⟩ := rr_value s hn hu hz
    rw [e1, h1] at hd
    refine ⟨s, c', q', hd, ?_, ?_⟩
    · rw [rn_natAbs]; exact h2
    · intro h3
      rw [hs h0]
      unfold rn at h3 ⊢
      by_cases hz0 : z < 0
      · rw [if_pos hz0] at h3 ⊢
        rw [decide_eq_true hz0, decide_eq_true (by omega)]
      · rw [if_neg hz0] at h3 ⊢
        rw [decide_eq_false hz0, decide_eq_false (by omega)]
theorem signed_mul (s : Bool) (c k : Nat) : FP.Core.signed s c * (k : Int) = FP.Core.signed s (c * k) := by
  unfold FP.Core.signed
  cases s
  · simp
  · simp [Int.neg_mul]
theorem vz_units {u : Nat} {s : Bool} {c : Nat} {q x e : Int} (hval : c * 2 ^ (q + u).toNat = x.natAbs * 2 ^ (-(q + u)).toNat) (hs : x ≠ 0 → s = decide (x < 0)) (he : e ≤ q) : FP.Core.signed s (FP.Core.inUnits c q e) * ((2 ^ (e + u).toNat : Nat) : Int) = x * ((2 ^ (-(e + u)).toNat : Nat) : Int) := by
  have hN : FP.Core.inUnits c q e * 2 ^ (e + u).toNat = x.natAbs * 2 ^ (-(e + u)).toNat := by
    unfold FP.Core.inUnits
    by_cases h1 : 0 ≤ e + u
    · rw [show (-(e + u)).toNat = 0 by omega, Nat.mul_assoc, ← Nat.pow_add, show (q - e).toNat + (e + u).toNat = (q + u).toNat by omega, hval, show (-(q + u)).toNat = 0 by omega]
    · rw [show (e + u).toNat = 0 by omega]
      by_cases h2 : 0 ≤ q + u
      · rw [show (-(q + u)).toNat = 0 by omega] at hval
        rw [Nat.pow_zero, Nat.mul_one, show (q - e).toNat = (q + u).toNat + (-(e + u)).toNat by omega, Nat.pow_add, ← Nat.mul_assoc, hval, Nat.pow_zero, Nat.mul_one]
      · rw [show (q + u).toNat = 0 by omega, Nat.pow_zero, Nat.mul_one] at hval
        rw [hval, Nat.pow_zero, Nat.mul_one, Nat.mul_assoc, ← Nat.pow_add, show (-(q + u)).toNat + (q - e).toNat = (-(e + u)).toNat by omega]
  rw [signed_mul, hN]
  by_cases h0 : x = 0
  · subst h0
    unfold FP.Core.signed
    cases s <;> simp
  · rw [hs h0]
    unfold FP.Core.signed
    by_cases hx : x < 0
    · rw [decide_eq_true hx]
      simp only [if_true, Int.natCast_mul]
      rw [show ((x.natAbs : Nat) : Int) = -x by omega, Int.neg_mul, Int.neg_neg]
    · rw [decide_eq_false hx]
      simp only [Bool.false_eq_true, if_false, Int.natCast_mul]
      rw [show ((x.natAbs : Nat) : Int) = x by omega]
theorem two_pow_cast_pos (k : Nat) : (0 : Int) < ((2 ^ k : Nat) : Int) := by
  have := Nat.two_pow_pos k
  omega
theorem neg_of_mulP {a b : Int} (h : a * b < 0) (hb : 0 < b) : a < 0 := by
  rcases Int.lt_or_le a 0 with h1 | h1
  · exact h1
  · exact absurd (Int.mul_nonneg h1 (Int.le_of_lt hb)) (by omega)
theorem pos_of_mulP {a b : Int} (h : 0 < a * b) (hb : 0 < b) : 0 < a := by
  rcases Int.lt_or_le 0 a with h1 | h1
  · exact h1
  · exact absurd (Int.mul_nonpos_of_nonpos_of_nonneg h1 (Int.le_of_lt hb)) (by omega)
theorem vz_sum {u : Nat} {a b : UInt64} {s t : Bool} {c d : Nat} {q r x y : Int} (hu : u ≤ 1000) (hz : (x + y).natAbs < 2 ^ (u + 900)) (h1 : c * 2 ^ (q + u).toNat = x.natAbs * 2 ^ (-(q + u)).toNat) (s1 : x ≠ 0 → s = decide (x < 0)) (h2 : d * 2 ^ (r + u).toNat = y.natAbs * 2 ^ (-(r + u)).toNat) (s2 : y ≠ 0 → t = decide (y < 0)) (hd : FP.Core.val64 a = FP.Core.round FP.Core.b64 (FP.Core.exactSum (.fin s c q) (.fin t d r))) : vz u a (rn (x + y)) := by
  have hX := vz_units h1 s1 (show min q r ≤ q by omega)
  have hY := vz_units h2 s2 (show min q r ≤ r by omega)
  have hd : FP.Core.val64 a = FP.Core.round FP.Core.b64 (.fin (FP.Core.sumSign s t (FP.Core.sumUnits s c q t d r (min q r))) (FP.Core.sumUnits s c q t d r (min q r)).natAbs (min q r)) := hd
  have hS : FP.Core.sumUnits s c q t d r (min q r) * ((2 ^ (min q r + u).toNat : Nat) : Int) = (x + y) * ((2 ^ (-(min q r + u)).toNat : Nat) : Int) := by
    unfold FP.Core.sumUnits
    rw [Int.add_mul, Int.add_mul, hX, hY]
  generalize FP.Core.sumUnits s c q t d r (min q r) = v at hd hS
  refine vz_round hu hz ?_ ?_ hd
  · have := congrArg Int.natAbs hS
    rwa [Int.natAbs_mul, Int.natAbs_mul, Int.natAbs_natCast, Int.natAbs_natCast] at this
  · intro h0
    unfold FP.Core.sumSign
    have p1 := two_pow_cast_pos (min q r + u).toNat
    have p2 := two_pow_cast_pos (-(min q r + u)).toNat
    have hv : v ≠ 0 := by
      intro h
      rw [h, Int.zero_mul] at hS
      rcases Int.mul_eq_zero.mp hS.symm with h5 | h5
      · exact h0 h5
      · omega
    rw [if_neg hv]
    by_cases hxy : x + y < 0
    · rw [decide_eq_true hxy]
      apply decide_eq_true
      have h6 := Int.mul_neg_of_neg_of_pos hxy p2
      rw [← hS] at h6
      exact neg_of_mulP h6 p1
    · rw [decide_eq_false hxy]
      apply decide_eq_false
      intro h7
      have h6 := Int.mul_neg_of_neg_of_pos h7 p1
      rw [hS] at h6
      exact hxy (neg_of_mulP h6 p2)
theorem vz_dadd {u : Nat} {a b : UInt64} {x y : Int} (hu : u ≤ 1000) (ha : vz u a x) (hb : vz u b y) (hz : (x + y).natAbs < 2 ^ (u + 900)) : vz u (FP.dadd a b) (rn (x + y)) := by
  obtain ⟨s, c, q, e1, h1, s1⟩ := ha
  obtain ⟨t, d, r, e2, h2, s2⟩ := hb
  exact vz_sum hu hz h1 s1 h2 s2 (b := b) (by rw [← e1, ← e2]; exact FP.Core.val64_dadd a b)
theorem vz_dsub {u : Nat} {a b : UInt64} {x y : Int} (hu : u ≤ 1000) (ha : vz u a x) (hb : vz u b y) (hz : (x - y).natAbs < 2 ^ (u + 900)) : vz u (FP.dsub a b) (rn (x - y)) := by
  obtain ⟨s, c, q, e1, h1, s1⟩ := ha
  obtain ⟨t, d, r, e2, h2, s2⟩ := hb
  have hneg : FP.Core.negate (FP.Core.val64 b) = .fin (!t) d r := by rw [e2]; rfl
  rw [Int.sub_eq_add_neg] at hz ⊢
  refine vz_sum hu hz h1 s1 (t := !t) (d := d) (r := r) (by rw [Int.natAbs_neg]; exact h2) ?_ (b := b) (by rw [← e1, ← hneg]; exact FP.Core.val64_dsub a b)
  intro hy
  have hy' : y ≠ 0 := by omega
  rw [s2 hy']
  by_cases h : y < 0
  · rw [decide_eq_true h, decide_eq_false (by omega)]; rfl
  · rw [decide_eq_false h, decide_eq_true (by omega)]; rfl
theorem vz_dmul {u v : Nat} {a b : UInt64} {x y : Int} (hu : u + v ≤ 1000) (ha : vz u a x) (hb : vz v b y) (hz : (x * y).natAbs < 2 ^ (u + v + 900)) : vz (u + v) (FP.dmul a b) (rn (x * y)) := by
  obtain ⟨s, c, q, e1, h1, s1⟩ := ha
  obtain ⟨t, d, r, e2, h2, s2⟩ := hb
  refine vz_round (s := s != t) (c := c * d) (q := q + r) hu hz ?_ ?_ (by rw [show FP.Core.val64 (FP.dmul a b) = _ from FP.Core.val64_dmul a b, e1, e2]; rfl)
  · have hm : c * 2 ^ (q + u).toNat * (d * 2 ^ (r + v).toNat) = x.natAbs * 2 ^ (-(q + u)).toNat * (y.natAbs * 2 ^ (-(r + v)).toNat) := by rw [h1, h2]
    have r1 : c * 2 ^ (q + u).toNat * (d * 2 ^ (r + v).toNat) = c * d * 2 ^ ((q + u).toNat + (r + v).toNat) := by rw [Nat.pow_add]; grind
    have r2 : x.natAbs * 2 ^ (-(q + u)).toNat * (y.natAbs * 2 ^ (-(r + v)).toNat) = (x * y).natAbs * 2 ^ ((-(q + u)).toNat + (-(r + v)).toNat) := by rw [Nat.pow_add, Int.natAbs_mul]; grind
    rw [r1, r2] at hm
    obtain ⟨k, k1, k2⟩ : ∃ k : Nat, (q + u).toNat + (r + v).toNat = (q + r + ((u + v : Nat) : Int)).toNat + k ∧ (-(q + u)).toNat + (-(r + v)).toNat = (-(q + r + ((u + v : Nat) : Int))).toNat + k := by
      refine ⟨(q + u).toNat + (r + v).toNat - (q + r + ((u + v : Nat) : Int)).toNat, by omega, by omega⟩
    rw [k1, k2, Nat.pow_add, Nat.pow_add, ← Nat.mul_assoc, ← Nat.mul_assoc] at hm
    exact Nat.eq_of_mul_eq_mul_right (Nat.two_pow_pos k) hm
  · intro hxy
    have hx : x ≠ 0 := fun h => hxy (by rw [h, Int.zero_mul])
    have hy : y ≠ 0 := fun h => hxy (by rw [h, Int.mul_zero])
    rw [s1 hx, s2 hy]
    by_cases h3 : x < 0
    · by_cases h4 : y < 0
      · rw [decide_eq_true h3, decide_eq_true h4, decide_eq_false (by have := Int.mul_pos_of_neg_of_neg h3 h4; omega)]; rfl
      · rw [decide_eq_true h3, decide_eq_false h4, decide_eq_true (Int.mul_neg_of_neg_of_pos h3 (by omega))]; rfl
    · by_cases h4 : y < 0
      · rw [decide_eq_false h3, decide_eq_true h4, decide_eq_true (Int.mul_neg_of_pos_of_neg (by omega) h4)]; rfl
      · rw [decide_eq_false h3, decide_eq_false h4, decide_eq_false (by have := Int.mul_pos (show 0 < x by omega) (show 0 < y by omega); omega)]; rfl
theorem compare_scale {X Y x y K K' : Int} (hK : 0 < K) (hK' : 0 < K') (hX : X * K = x * K') (hY : Y * K = y * K') : compare X Y = compare x y := by
  have key : ∀ A B a b : Int, A * K = a * K' → B * K = b * K' → (A < B ↔ a < b) := by
    intro A B a b h1 h2
    constructor
    · intro h
      have h3 : (A - B) * K < 0 := Int.mul_neg_of_neg_of_pos (by omega) hK
      rw [Int.sub_mul, h1, h2, ← Int.sub_mul] at h3
      have := neg_of_mulP h3 hK'
      omega
    · intro h
      have h3 : (a - b) * K' < 0 := Int.mul_neg_of_neg_of_pos (by omega) hK'
      rw [Int.sub_mul, ← h1, ← h2, ← Int.sub_mul] at h3
      have := neg_of_mulP h3 hK
      omega
  have k1 := key X Y x y hX hY
  have k2 := key Y X y x hY hX
  rcases Int.lt_trichotomy x y with h | h | h
  · rw [Int.compare_eq_lt.mpr h, Int.compare_eq_lt.mpr (k1.mpr h)]
  · have : X = Y := by
      rcases Int.lt_trichotomy X Y with h2 | h2 | h2
      · exact absurd (k1.mp h2) (by omega)
      · exact h2
      · exact absurd (k2.mp h2) (by omega)
    rw [h, this, Int.compare_eq_eq.mpr rfl, Int.compare_eq_eq.mpr rfl]
  · rw [Int.compare_eq_gt.mpr h, Int.compare_eq_gt.mpr (k2.mpr h)]
theorem vz_dcmp {u : Nat} {a b : UInt64} {x y : Int} (ha : vz u a x) (hb : vz u b y) : FP.dcmp a b = some (compare x y) := by
  obtain ⟨s, c, q, e1, h1, s1⟩ := ha
  obtain ⟨t, d, r, e2, h2, s2⟩ := hb
  have hX := vz_units h1 s1 (show min q r ≤ q by omega)
  have hY := vz_units h2 s2 (show min q r ≤ r by omega)
  show FP.Core.order (FP.Core.val64 a) (FP.Core.val64 b) = _
  rw [e1, e2]
  show some (compare _ _) = _
  rw [compare_scale (two_pow_cast_pos _) (two_pow_cast_pos _) hX hY]
