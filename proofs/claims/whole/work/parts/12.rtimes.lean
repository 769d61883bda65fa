/-! ===== states that differ in some long rows alone ===== -/
theorem setL_comm (S : xS) {a b : Nat} (f g : Nat → Int64) (h : a ≠ b) : setL (setL S b f) a g = setL (setL S a g) b f := by
  unfold setL
  congr 3
  funext p
  unfold rw1
  dsimp only
  by_cases h1 : p = a
  · rw [if_pos h1, if_neg (by omega), if_pos h1]
  · rw [if_neg h1]
    by_cases h2 : p = b
    · rw [if_pos h2, if_pos h2]
    · rw [if_neg h2, if_neg h2, if_neg h1]
theorem nI_ne_m1 {a : Nat} (h : a < 2 ^ 31) : ¬ nI a = -1 := by
  intro h2
  have h3 := congrArg Int32.toInt h2
  rw [nI_toInt h] at h3
  simp at h3
def Lx (ps : List Nat) (S S' : xS) : Prop := S'.1 = S.1 ∧ S'.2.1 = S.2.1 ∧ S'.2.2.2 = S.2.2.2 ∧ ∀ p, p ∉ ps → S'.2.2.1 p = S.2.2.1 p
theorem Lx.rf (ps : List Nat) (S : xS) : Lx ps S S := ⟨rfl, rfl, rfl, fun _ _ => rfl⟩
theorem Lx.tr {ps : List Nat} {S S1 S2 : xS} (h1 : Lx ps S S1) (h2 : Lx ps S1 S2) : Lx ps S S2 := ⟨h2.1.trans h1.1, h2.2.1.trans h1.2.1, h2.2.2.1.trans h1.2.2.1, fun p hp => (h2.2.2.2 p hp).trans (h1.2.2.2 p hp)⟩
theorem Lx.set {ps : List Nat} {a : Nat} (S : xS) (g : Nat → Int64) (h : a ∈ ps) : Lx ps S (setL S a g) := ⟨rfl, rfl, rfl, fun p hp => setL_ne S g (fun e => hp (e ▸ h))⟩
theorem Lx.mono {ps qs : List Nat} {S S1 : xS} (h1 : Lx ps S S1) (h : ∀ p, p ∈ ps → p ∈ qs) : Lx qs S S1 := ⟨h1.1, h1.2.1, h1.2.2.1, fun p hp => h1.2.2.2 p (fun h2 => hp (h p h2))⟩
/-- five limbs, ten limbs, in their places -/
def lim (S : xS) (p s : Nat) (V : Int) : Prop := ∀ i, i < 5 → S.2.2.1 p (5 * s + i) = lI (can (2 ^ 24) 5 V i)
def sum10 (S : xS) (p t : Nat) (V : Int) : Prop := ∀ i, i < 10 → S.2.2.1 p (t + i) = lI (can (2 ^ 24) 10 V i)
theorem hv_can {B : Int} {n : Nat} (V : Int) : ∀ m i, i + m + 1 = n → hv B (can B n V) i (m + 1) = V / B ^ i ∨ ¬ 0 < B := by
  intro m
  induction m with
  | zero =>
    intro i hi
    left
    show can B n V i + B * 0 = _
    rw [can_hi (by omega)]
    omega
  | succ m ih =>
    intro i hi
    by_cases hB : 0 < B
    · left
      show can B n V i + B * hv B (can B n V) (i + 1) (m + 1) = _
      rcases ih (i + 1) (by omega) with h | h
      · rw [h, can_lo (by omega), Int.pow_succ, ← Int.ediv_ediv_of_nonneg (Int.le_of_lt (Int.pow_pos hB)), Int.emod_add_mul_ediv]
      · exact absurd hB h
    · exact Or.inr hB
theorem hv_can0 {n : Nat} (V : Int) (h : 0 < n) : hv (2 ^ 24) (can (2 ^ 24) n V) 0 n = V := by
  rcases hv_can (B := 2 ^ 24) (n := n) V (n - 1) 0 (by omega) with h1 | h1
  · rw [show n - 1 + 1 = n by omega] at h1
    simpa using h1
  · exact absurd (by decide) h1
theorem hv_lin {B : Int} (f g : Nat → Int) (x : Int) : ∀ n i, hv B (fun j => f j + x * g j) i n = hv B f i n + x * hv B g i n := by
  intro n
  induction n with
  | zero => intro i; simp [hv]
  | succ n ih =>
    intro i
    show f i + x * g i + B * hv B _ (i + 1) n = (f i + B * hv B f (i + 1) n) + x * (g i + B * hv B g (i + 1) n)
    rw [ih]
    grind
theorem hv_congr {B : Int} {f g : Nat → Int} : ∀ n i, (∀ j, i ≤ j → j < i + n → f j = g j) → hv B f i n = hv B g i n := by
  intro n
  induction n with
  | zero => intro i _; rfl
  | succ n ih =>
    intro i h
    show f i + B * hv B f (i + 1) n = g i + B * hv B g (i + 1) n
    rw [h i (by omega) (by omega), ih (i + 1) (fun j h1 h2 => h j (by omega) (by omega))]
theorem hv_snoc {B : Int} (f : Nat → Int) : ∀ n i, hv B f i (n + 1) = hv B f i n + f (i + n) * B ^ n := by
  intro n
  induction n with
  | zero => intro i; simp [hv]
  | succ n ih =>
    intro i
    show f i + B * hv B f (i + 1) (n + 1) = (f i + B * hv B f (i + 1) n) + _
    rw [ih, Int.pow_succ, show i + 1 + n = i + (n + 1) by omega]
    grind
def updZ (f : Nat → Int) (m : Nat) (x : Int) : Nat → Int := fun j => if j = m then x else f j
theorem hv_upd {B : Int} (f : Nat → Int) (m : Nat) (x : Int) : ∀ n, m < n → hv B (updZ f m x) 0 n = hv B f 0 n + (x - f m) * B ^ m := by
  intro n
  induction n with
  | zero => intro h; omega
  | succ n ih =>
    intro h
    rw [hv_snoc, hv_snoc]
    by_cases hm : m = n
    · subst hm
      have h1 : hv B (updZ f m x) 0 m = hv B f 0 m := hv_congr m 0 (fun j _ h2 => by unfold updZ; rw [if_neg (by omega)])
      rw [h1]
      have h2 : updZ f m x (0 + m) = x := by unfold updZ; rw [if_pos (by omega)]
      rw [h2, show 0 + m = m by omega]
      grind
    · rw [ih (by omega)]
      have h2 : updZ f m x (0 + n) = f (0 + n) := by unfold updZ; rw [if_neg (by omega)]
      rw [h2]
      grind
theorem can5_in {V : Int} (h : -(2 ^ 104) ≤ V ∧ V ≤ 2 ^ 104) {i : Nat} (hi : i < 5) : -(2 ^ 24) ≤ can (2 ^ 24) 5 V i ∧ can (2 ^ 24) 5 V i ≤ 2 ^ 24 := by
  by_cases h1 : i + 1 < 5
  · have := can_low_in (V := V) h1
    omega
  · have e : i = 4 := by omega
    subst e
    rw [can_hi (by omega)]
    omega
theorem can10_in {V : Int} (h : -(2 ^ 24) ≤ V / (2 ^ 24) ^ 9 ∧ V / (2 ^ 24) ^ 9 ≤ 2 ^ 24) {i : Nat} (hi : i < 10) : -(2 ^ 24) ≤ can (2 ^ 24) 10 V i ∧ can (2 ^ 24) 10 V i ≤ 2 ^ 24 := by
  by_cases h1 : i + 1 < 10
  · have := can_low_in (V := V) h1
    omega
  · have e : i = 9 := by omega
    subst e
    rw [can_hi (by omega)]
    exact h
/-- behind times: scratch rows 5 and 6, and the sum in row p3 -/
def tmT (S : xS) (p1 p2 p3 t : Nat) (T : Int) (S' : xS) : Prop := Lx [5, 6, p3] S S' ∧ ∀ j, S'.2.2.1 p3 j = if t ≤ j ∧ j < t + 10 then lI (can (2 ^ 24) 10 T (j - t)) else S.2.2.1 p3 j
/-- while the products are being added: limb i of the one number, limb k of the other -/
def tmJ (S : xS) (p3 t : Nat) (DA DC T s : Int) (i k : Nat) (S1 : xS) : Prop := Lx [5, 6, p3] S S1 ∧ (∀ j, j < 5 → S1.2.2.1 5 j = lI (can (2 ^ 24) 5 DA j)) ∧ (∀ j, j < 5 → S1.2.2.1 6 j = lI (can (2 ^ 24) 5 DC j)) ∧ ∃ F : Nat → Int, (∀ j, S1.2.2.1 p3 j = if t ≤ j ∧ j < t + 10 then lI (F (j - t)) else S.2.2.1 p3 j) ∧ hv (2 ^ 24) F 0 10 = T + s * (hv (2 ^ 24) (can (2 ^ 24) 5 DA) 0 i * DC) + s * (can (2 ^ 24) 5 DA i * (2 ^ 24) ^ i * hv (2 ^ 24) (can (2 ^ 24) 5 DC) 0 k) ∧ ∀ j, j < 10 → -(2 ^ 25 + (5 * i + k) * 2 ^ 48) ≤ F j ∧ F j ≤ 2 ^ 25 + (5 * i + k) * 2 ^ 48
theorem mul_bound {a b : Int} (ha : -(2 ^ 24) ≤ a ∧ a ≤ 2 ^ 24) (hb : -(2 ^ 24) ≤ b ∧ b ≤ 2 ^ 24) : -(2 ^ 48) ≤ a * b ∧ a * b ≤ 2 ^ 48 := by
  have h1 : a.natAbs ≤ 2 ^ 24 := by omega
  have h2 : b.natAbs ≤ 2 ^ 24 := by omega
  have h3 : (a * b).natAbs ≤ 2 ^ 24 * 2 ^ 24 := by rw [Int.natAbs_mul]; exact Nat.mul_le_mul h1 h2
  omega

theorem sp_X9_times (S : xS) {p1 p2 p3 : Nat} (hk1 : kd p1 = 11) (ha1 : p1 < 365) (hk2 : kd p2 = 11) (ha2 : p2 < 365) (hk3 : kd p3 = 11) (ha3 : p3 < 365) (hn1 : p1 ≠ 5 ∧ p1 ≠ 6) (hn2 : p2 ≠ 5 ∧ p2 ≠ 6) (hn3 : p3 ≠ 5 ∧ p3 ≠ 6) {a c t : Nat} {bv dv : Int32} {VA VB VC VD T s : Int}
    (la : 5 * a + 5 ≤ ln p1) (lc : 5 * c + 5 ≤ ln p2) (lt : t + 10 ≤ ln p3) (hA : lim S p1 a VA) (hC : lim S p2 c VC) (hB : (bv = -1 ∧ VB = 0) ∨ ∃ b, bv = nI b ∧ 5 * b + 5 ≤ ln p1 ∧ lim S p1 b VB) (hD : (dv = -1 ∧ VD = 0) ∨ ∃ d, dv = nI d ∧ 5 * d + 5 ≤ ln p2 ∧ lim S p2 d VD)
    (bA : -(2 ^ 103) ≤ VA ∧ VA ≤ 2 ^ 103) (bB : -(2 ^ 103) ≤ VB ∧ VB ≤ 2 ^ 103) (bC : -(2 ^ 103) ≤ VC ∧ VC ≤ 2 ^ 103) (bD : -(2 ^ 103) ≤ VD ∧ VD ≤ 2 ^ 103) (hs : s = 1 ∨ s = -1) (hT : sum10 S p3 t T) (bT : -(2 ^ 24) ≤ T / (2 ^ 24) ^ 9 ∧ T / (2 ^ 24) ^ 9 ≤ 2 ^ 24) :
    Sp mX9_times [.ref 0, .ref p1, .int (nI a), .int bv, .ref p2, .int (nI c), .int dv, .ref p3, .int (nI t), .long (lI s)] S (fun r S' => r = none ∧ tmT S p1 p2 p3 t (T + s * ((VA - VB) * (VC - VD))) S') := by
  have s1 := ln_small p1
  have s2 := ln_small p2
  have s3 := ln_small p3
  have cA : ∀ i, i < 5 → -(2 ^ 24) ≤ can (2 ^ 24) 5 VA i ∧ can (2 ^ 24) 5 VA i ≤ 2 ^ 24 := fun i hi => can5_in ⟨by omega, by omega⟩ hi
  have cB : ∀ i, i < 5 → -(2 ^ 24) ≤ can (2 ^ 24) 5 VB i ∧ can (2 ^ 24) 5 VB i ≤ 2 ^ 24 := fun i hi => can5_in ⟨by omega, by omega⟩ hi
  have cC : ∀ i, i < 5 → -(2 ^ 24) ≤ can (2 ^ 24) 5 VC i ∧ can (2 ^ 24) 5 VC i ≤ 2 ^ 24 := fun i hi => can5_in ⟨by omega, by omega⟩ hi
  have cD : ∀ i, i < 5 → -(2 ^ 24) ≤ can (2 ^ 24) 5 VD i ∧ can (2 ^ 24) 5 VD i ≤ 2 ^ 24 := fun i hi => can5_in ⟨by omega, by omega⟩ hi
  have cO : ∀ i, i < 5 → -(2 ^ 24) ≤ can (2 ^ 24) 5 (VA - VB) i ∧ can (2 ^ 24) 5 (VA - VB) i ≤ 2 ^ 24 := fun i hi => can5_in ⟨by omega, by omega⟩ hi
  have cW : ∀ i, i < 5 → -(2 ^ 24) ≤ can (2 ^ 24) 5 (VC - VD) i ∧ can (2 ^ 24) 5 (VC - VD) i ≤ 2 ^ 24 := fun i hi => can5_in ⟨by omega, by omega⟩ hi
  have hdiff : ∀ V U : Int, hv (2 ^ 24) (fun i => can (2 ^ 24) 5 V i - can (2 ^ 24) 5 U i) 0 5 = V - U := by
    intro V U
    have h := hv_lin (B := 2 ^ 24) (can (2 ^ 24) 5 V) (can (2 ^ 24) 5 U) (-1) 5 0
    rw [hv_can0 V (by decide), hv_can0 U (by decide)] at h
    rw [show (fun i => can (2 ^ 24) 5 V i - can (2 ^ 24) 5 U i) = (fun i => can (2 ^ 24) 5 V i + -1 * can (2 ^ 24) 5 U i) from by funext i; omega, h]
    omega
  generalize hR5 : (fun (k j : Nat) => if j < k then lI (can (2 ^ 24) 5 VA j - can (2 ^ 24) 5 VB j) else S.2.2.1 5 j) = R5
  generalize hR6 : (fun (k j : Nat) => if j < k then lI (can (2 ^ 24) 5 VC j - can (2 ^ 24) 5 VD j) else S.2.2.1 6 j) = R6
  have r5 : ∀ k, vp_updL (R5 k) k (lI (can (2 ^ 24) 5 VA k - can (2 ^ 24) 5 VB k)) = R5 (k + 1) := by
    intro k
    subst hR5
    funext j
    unfold vp_updL
    dsimp only
    by_cases h : j = k
    · rw [if_pos h, if_pos (by omega), h]
    · rw [if_neg h]
      by_cases h2 : j < k
      · rw [if_pos h2, if_pos (by omega)]
      · rw [if_neg h2, if_neg (by omega)]
  have r6 : ∀ k, vp_updL (R6 k) k (lI (can (2 ^ 24) 5 VC k - can (2 ^ 24) 5 VD k)) = R6 (k + 1) := by
    intro k
    subst hR6
    funext j
    unfold vp_updL
    dsimp only
    by_cases h : j = k
    · rw [if_pos h, if_pos (by omega), h]
    · rw [if_neg h]
      by_cases h2 : j < k
      · rw [if_pos h2, if_pos (by omega)]
      · rw [if_neg h2, if_neg (by omega)]
  have rd : ∀ (f g : Nat → Int64) (q : Nat), q ≠ 5 → q ≠ 6 → (setL (setL S 5 f) 6 g).2.2.1 q = S.2.2.1 q := by
    intro f g q h5 h6
    rw [setL_ne _ _ h6, setL_ne _ _ h5]
  have phB : ∀ k, k < 5 → ∀ S1, S1 = setL (setL S 5 (R5 (k + 1))) 6 (R6 k) → (∀ S2, S2 = setL (setL S 5 (R5 (k + 1))) 6 (R6 (k + 1)) → XP mX9_times 3 [(11, .int (nI (k + 1))), (0, .ref 0), (1, .ref p1), (2, .int (nI a)), (3, .int bv), (4, .ref p2), (5, .int (nI c)), (6, .int dv), (7, .ref p3), (8, .int (nI t)), (9, .long (lI s))] [] (xwS S2) (sQ (fun r S' => r = none ∧ tmT S p1 p2 p3 t (T + s * ((VA - VB) * (VC - VD))) S'))) → XP mX9_times 42 [(11, .int (nI k)), (0, .ref 0), (1, .ref p1), (2, .int (nI a)), (3, .int bv), (4, .ref p2), (5, .int (nI c)), (6, .int dv), (7, .ref p3), (8, .int (nI t)), (9, .long (lI s))] [] (xwS S1) (sQ (fun r S' => r = none ∧ tmT S p1 p2 p3 t (T + s * ((VA - VB) * (VC - VD))) S')) := by
    intro k hk S1 h1 kk
    have hrd : S1.2.2.1 p2 = S.2.2.1 p2 := by rw [h1]; exact rd _ _ p2 hn2.1 hn2.2
    have j78 : ∀ v, v = lI (can (2 ^ 24) 5 VD k) → XP mX9_times 78 [(11, .int (nI k)), (0, .ref 0), (1, .ref p1), (2, .int (nI a)), (3, .int bv), (4, .ref p2), (5, .int (nI c)), (6, .int dv), (7, .ref p3), (8, .int (nI t)), (9, .long (lI s))] [.long v, .long (lI (can (2 ^ 24) 5 VC k)), .int (nI k), .ref 6] (xwS S1) (sQ (fun r S' => r = none ∧ tmT S p1 p2 p3 t (T + s * ((VA - VB) * (VC - VD))) S')) := by
      intro v hv
      subst hv
      refine x_lsub eX9_times_78 ?_
      rw [lI_sub]
      refine s_last eX9_times_79 rfl (by decide) rfl (show _ < 5 by omega) ?_
      refine x_iinc (lv' := [_, _, _, _, _, _, _, _, _, _, _]) eX9_times_80 rfl (by first | exact nI_inc _ | exact rfl) (by decide) rfl ?_
      refine x_goto eX9_times_83 ?_
      refine kk _ ?_
      rw [h1, setL_at, setL_setL, r6]
    refine x_aload_n eX9_times_42 rfl ?_
    refine s_getR (k := 6) eX9_times_43 fX9_25 rfl (by decide) (by decide) rfl ?_
    refine x_iload eX9_times_46 rfl ?_
    refine x_aload eX9_times_48 rfl ?_
    refine x_iconst (v := nI 5) eX9_times_50 (by decide) ?_
    refine x_iload eX9_times_51 rfl ?_
    first | refine x_imulN eX9_times_53 ?_ | refine x_imul eX9_times_53 ?_
    refine x_iload eX9_times_54 rfl ?_
    first | refine x_iaddN eX9_times_56 ?_ | refine x_iadd eX9_times_56 ?_
    refine s_lald eX9_times_57 hk2 ha2 rfl (by omega) ?_
    rw [hrd, hC k hk]
    refine x_iload eX9_times_58 rfl ?_
    refine x_iconst (v := -1) eX9_times_60 (by decide) ?_
    refine x_icmp_ne eX9_times_61 (fun c_61 => ?_) (fun c_61 => ?_)
    · obtain ⟨d, hdv, hld, hDD⟩ : ∃ d, dv = nI d ∧ 5 * d + 5 ≤ ln p2 ∧ lim S p2 d VD := by
        rcases hD with ⟨h, _⟩ | h
        · exact absurd h c_61
        · exact h
      have j78 := j78
      rw [hdv] at j78
      rw [hdv]
      refine x_aload eX9_times_68 rfl ?_
      refine x_iconst (v := nI 5) eX9_times_70 (by decide) ?_
      refine x_iload eX9_times_71 rfl ?_
      first | refine x_imulN eX9_times_73 ?_ | refine x_imul eX9_times_73 ?_
      refine x_iload eX9_times_74 rfl ?_
      first | refine x_iaddN eX9_times_76 ?_ | refine x_iadd eX9_times_76 ?_
      refine s_lald eX9_times_77 hk2 ha2 rfl (by omega) ?_
      rw [hrd, hDD k hk]
      first
        | exact j78 _ (by rw [hbd, can_of_zero]; rfl)
        | exact j78 _ rfl
    · have hbd : VD = 0 := by
        rcases hD with ⟨_, h⟩ | ⟨d, h, hl, _⟩
        · exact h
        · rw [h] at c_61
          exact absurd c_61 (nI_ne_m1 (by omega))
      refine x_lconst (v := 0) eX9_times_64 (by decide) ?_
      refine x_goto eX9_times_65 ?_
      first
        | exact j78 _ (by rw [hbd, can_of_zero]; rfl)
        | exact j78 _ rfl
  have phA : ∀ k, k < 5 → ∀ S1, S1 = setL (setL S 5 (R5 k)) 6 (R6 k) → (∀ S2, S2 = setL (setL S 5 (R5 (k + 1))) 6 (R6 k) → XP mX9_times 42 [(11, .int (nI k)), (0, .ref 0), (1, .ref p1), (2, .int (nI a)), (3, .int bv), (4, .ref p2), (5, .int (nI c)), (6, .int dv), (7, .ref p3), (8, .int (nI t)), (9, .long (lI s))] [] (xwS S2) (sQ (fun r S' => r = none ∧ tmT S p1 p2 p3 t (T + s * ((VA - VB) * (VC - VD))) S'))) → XP mX9_times 9 [(11, .int (nI k)), (0, .ref 0), (1, .ref p1), (2, .int (nI a)), (3, .int bv), (4, .ref p2), (5, .int (nI c)), (6, .int dv), (7, .ref p3), (8, .int (nI t)), (9, .long (lI s))] [] (xwS S1) (sQ (fun r S' => r = none ∧ tmT S p1 p2 p3 t (T + s * ((VA - VB) * (VC - VD))) S')) := by
    intro k hk S1 h1 kk
    have hrd : S1.2.2.1 p1 = S.2.2.1 p1 := by rw [h1]; exact rd _ _ p1 hn1.1 hn1.2
    have j40 : ∀ v, v = lI (can (2 ^ 24) 5 VB k) → XP mX9_times 40 [(11, .int (nI k)), (0, .ref 0), (1, .ref p1), (2, .int (nI a)), (3, .int bv), (4, .ref p2), (5, .int (nI c)), (6, .int dv), (7, .ref p3), (8, .int (nI t)), (9, .long (lI s))] [.long v, .long (lI (can (2 ^ 24) 5 VA k)), .int (nI k), .ref 5] (xwS S1) (sQ (fun r S' => r = none ∧ tmT S p1 p2 p3 t (T + s * ((VA - VB) * (VC - VD))) S')) := by
      intro v hv
      subst hv
      refine x_lsub eX9_times_40 ?_
      rw [lI_sub]
      refine s_last eX9_times_41 rfl (by decide) rfl (show _ < 5 by omega) ?_
      refine kk _ ?_
      rw [h1, setL_ne _ _ (show (5 : Nat) ≠ 6 by decide), setL_at, setL_comm _ _ _ (show (5 : Nat) ≠ 6 by decide), setL_setL, r5]
    refine x_aload_n eX9_times_9 rfl ?_
    refine s_getR (k := 5) eX9_times_10 fX9_22 rfl (by decide) (by decide) rfl ?_
    refine x_iload eX9_times_13 rfl ?_
    refine x_aload_n eX9_times_15 rfl ?_
    refine x_iconst (v := nI 5) eX9_times_16 (by decide) ?_
    refine x_iload_n eX9_times_17 rfl ?_
    first | refine x_imulN eX9_times_18 ?_ | refine x_imul eX9_times_18 ?_
    refine x_iload eX9_times_19 rfl ?_
    first | refine x_iaddN eX9_times_21 ?_ | refine x_iadd eX9_times_21 ?_
    refine s_lald eX9_times_22 hk1 ha1 rfl (by omega) ?_
    rw [hrd, hA k hk]
    refine x_iload_n eX9_times_23 rfl ?_
    refine x_iconst (v := -1) eX9_times_24 (by decide) ?_
    refine x_icmp_ne eX9_times_25 (fun c_25 => ?_) (fun c_25 => ?_)
    · obtain ⟨b, hbv, hlb, hBB⟩ : ∃ d, bv = nI d ∧ 5 * d + 5 ≤ ln p1 ∧ lim S p1 d VB := by
        rcases hB with ⟨h, _⟩ | h
        · exact absurd h c_25
        · exact h
      have j40 := j40
      rw [hbv] at j40
      rw [hbv]
      refine x_aload_n eX9_times_32 rfl ?_
      refine x_iconst (v := nI 5) eX9_times_33 (by decide) ?_
      refine x_iload_n eX9_times_34 rfl ?_
      first | refine x_imulN eX9_times_35 ?_ | refine x_imul eX9_times_35 ?_
      refine x_iload eX9_times_36 rfl ?_
      first | refine x_iaddN eX9_times_38 ?_ | refine x_iadd eX9_times_38 ?_
      refine s_lald eX9_times_39 hk1 ha1 rfl (by omega) ?_
      rw [hrd, hBB k hk]
      first
        | exact j40 _ (by rw [hbd, can_of_zero]; rfl)
        | exact j40 _ rfl
    · have hbd : VB = 0 := by
        rcases hB with ⟨_, h⟩ | ⟨d, h, hl, _⟩
        · exact h
        · rw [h] at c_25
          exact absurd c_25 (nI_ne_m1 (by omega))
      refine x_lconst (v := 0) eX9_times_28 (by decide) ?_
      refine x_goto eX9_times_29 ?_
      first
        | exact j40 _ (by rw [hbd, can_of_zero]; rfl)
        | exact j40 _ rfl
  have fin : ∀ S1, tmJ S p3 t (VA - VB) (VC - VD) T s 5 0 S1 → ∀ lv, xget lv 7 = some (.ref p3) → xget lv 8 = some (.int (nI t)) → XP mX9_times 166 lv [] (xwS S1) (sQ (fun r S' => r = none ∧ tmT S p1 p2 p3 t (T + s * ((VA - VB) * (VC - VD))) S')) := by
    intro S1 h1 lv g7 g8
    obtain ⟨hx, h5, h6, F, hF, hh, hb⟩ := h1
    refine x_aload eX9_times_166 g7 ?_
    refine x_iload eX9_times_168 g8 ?_
    refine x_bipush (v := nI 10) eX9_times_170 (by decide) ?_
    refine s_callS0 (As := [_, _, _]) eX9_times_172 kX9_128 ⟨by decide, by decide⟩ rfl rfl (Nat.le_of_ble_eq_true rfl) (Nat.le_of_ble_eq_true rfl) (sp_X9_carry hk3 ha3 (fr := t) (n := 10) lt (by decide) S1 F ?_ ?_) (fun S2 h2 => ?_)
    · intro i hi
      rw [hF, if_pos (by omega), show t + i - t = i by omega]
    · intro i hi
      have := hb i hi
      omega
    · refine s_vret eX9_times_175 rfl ⟨rfl, ?_⟩
      have e1 : hv (2 ^ 24) F 0 10 = T + s * ((VA - VB) * (VC - VD)) := by
        rw [hh, hv_can0 _ (by decide)]
        simp [hv]
      rw [e1] at h2
      subst h2
      refine ⟨hx.tr (Lx.set _ _ (by simp)), fun j => ?_⟩
      rw [setL_at]
      by_cases hj : t ≤ j ∧ j < t + 10
      · rw [if_pos hj, if_pos hj]
      · rw [if_neg hj, if_neg hj, hF, if_neg hj]
  have inner : ∀ i, i < 5 → (∀ S2, tmJ S p3 t (VA - VB) (VC - VD) T s (i + 1) 0 S2 → XP mX9_times 107 [(11, .int (nI (i + 1))), (0, .ref 0), (1, .ref p1), (2, .int (nI a)), (3, .int bv), (4, .ref p2), (5, .int (nI c)), (6, .int dv), (7, .ref p3), (8, .int (nI t)), (9, .long (lI s))] [] (xwS S2) (sQ (fun r S' => r = none ∧ tmT S p1 p2 p3 t (T + s * ((VA - VB) * (VC - VD))) S'))) → ∀ m k, k + m = 5 → ∀ S1, tmJ S p3 t (VA - VB) (VC - VD) T s i k S1 → XP mX9_times 116 [(12, .int (nI k)), (11, .int (nI i)), (0, .ref 0), (1, .ref p1), (2, .int (nI a)), (3, .int bv), (4, .ref p2), (5, .int (nI c)), (6, .int dv), (7, .ref p3), (8, .int (nI t)), (9, .long (lI s))] [] (xwS S1) (sQ (fun r S' => r = none ∧ tmT S p1 p2 p3 t (T + s * ((VA - VB) * (VC - VD))) S')) := by
    intro i hi kk m
    induction m with
    | zero =>
      intro k hk S1 h1
      obtain rfl : k = 5 := by omega
      refine x_iload eX9_times_116 rfl ?_
      refine x_iconst (v := nI 5) eX9_times_118 (by decide) ?_
      refine x_icmp_geN eX9_times_119 (by omega) (by omega) (fun c_119 => ?_) (fun c_119 => ?_)
      · refine x_iinc (lv' := [_, _, _, _, _, _, _, _, _, _, _, _]) eX9_times_160 rfl (by first | exact nI_inc _ | exact rfl) (by decide) rfl ?_
        refine x_goto eX9_times_163 ?_
        refine x_pick [0, 2, 3, 4, 5, 6, 7, 8, 9, 10, 11] rfl ?_
        refine kk S1 ?_
        obtain ⟨hx, h5, h6, F, hF, hh, hb⟩ := h1
        refine ⟨hx, h5, h6, F, hF, ?_, fun j hj => by have := hb j hj; omega⟩
        rw [hh, hv_can0 (VC - VD) (show 0 < 5 by decide), hv_snoc _ i 0, show 0 + i = i by omega]
        show _ = T + s * ((_ + _) * _) + s * (_ * 0)
        grind
      · omega
    | succ m ih =>
      intro k hk S1 h1
      obtain ⟨hx, h5, h6, F, hF, hh, hb⟩ := id h1
      have e3 : S1.2.2.1 p3 (t + i + k) = lI (F (i + k)) := by rw [hF, if_pos (by omega)]; congr 2; omega
      refine x_iload eX9_times_116 rfl ?_
      refine x_iconst (v := nI 5) eX9_times_118 (by decide) ?_
      refine x_icmp_geN eX9_times_119 (by omega) (by omega) (fun c_119 => ?_) (fun c_119 => ?_)
      · omega
      · refine x_aload eX9_times_122 rfl ?_
        refine x_iload eX9_times_124 rfl ?_
        refine x_iload eX9_times_126 rfl ?_
        first | refine x_iaddN eX9_times_128 ?_ | refine x_iadd eX9_times_128 ?_
        refine x_iload eX9_times_129 rfl ?_
        first | refine x_iaddN eX9_times_131 ?_ | refine x_iadd eX9_times_131 ?_
        refine x_dup2_11 eX9_times_132 rfl rfl ?_
        refine s_lald eX9_times_133 hk3 ha3 rfl (by omega) ?_
        rw [e3]
        refine x_lload eX9_times_134 rfl ?_
        refine x_aload_n eX9_times_136 rfl ?_
        refine s_getR (k := 5) eX9_times_137 fX9_22 rfl (by decide) (by decide) rfl ?_
        refine x_iload eX9_times_140 rfl ?_
        refine s_lald eX9_times_142 rfl (by decide) rfl (show _ < 5 by omega) ?_
        rw [h5 i hi]
        refine x_lmul eX9_times_143 ?_
        rw [lI_mul]
        refine x_aload_n eX9_times_144 rfl ?_
        refine s_getR (k := 6) eX9_times_145 fX9_25 rfl (by decide) (by decide) rfl ?_
        refine x_iload eX9_times_148 rfl ?_
        refine s_lald eX9_times_150 rfl (by decide) rfl (show _ < 5 by omega) ?_
        rw [h6 k (by omega)]
        refine x_lmul eX9_times_151 ?_
        rw [lI_mul]
        refine x_ladd eX9_times_152 ?_
        rw [lI_add]
        refine s_last eX9_times_153 hk3 ha3 rfl (by omega) ?_
        refine x_iinc (lv' := [_, _, _, _, _, _, _, _, _, _, _, _]) eX9_times_154 rfl (by first | exact nI_inc _ | exact rfl) (by decide) rfl ?_
        refine x_goto eX9_times_157 ?_
        refine x_pick [0, 1, 2, 3, 4, 5, 6, 7, 8, 9, 10, 11] rfl ?_
        refine ih (k + 1) (by omega) _ ?_
        have hpb := mul_bound (cO i hi) (cW k (by omega))
        refine ⟨hx.tr (Lx.set _ _ (by simp)), ?_, ?_, updZ F (i + k) (F (i + k) + s * can (2 ^ 24) 5 (VA - VB) i * can (2 ^ 24) 5 (VC - VD) k), ?_, ?_, ?_⟩
        · intro j hj; rw [setL_ne _ _ (fun h => hn3.1 h.symm)]; exact h5 j hj
        · intro j hj; rw [setL_ne _ _ (fun h => hn3.2 h.symm)]; exact h6 j hj
        · intro j
          rw [setL_at]
          unfold vp_updL
          by_cases hj : j = t + i + k
          · rw [if_pos hj, if_pos (by omega)]
            unfold updZ
            rw [if_pos (by omega)]
          · rw [if_neg hj, hF]
            by_cases hj2 : t ≤ j ∧ j < t + 10
            · rw [if_pos hj2, if_pos hj2]
              unfold updZ
              rw [if_neg (by omega)]
            · rw [if_neg hj2, if_neg hj2]
        · rw [hv_upd _ _ _ _ (by omega), hh, hv_snoc _ k, Int.pow_add, show 0 + k = k by omega]
          grind
        · intro j hj
          have := hb j hj
          unfold updZ
          split
          · rename_i he
            subst he
            have hsp : s * can (2 ^ 24) 5 (VA - VB) i * can (2 ^ 24) 5 (VC - VD) k = s * (can (2 ^ 24) 5 (VA - VB) i * can (2 ^ 24) 5 (VC - VD) k) := Int.mul_assoc _ _ _
            rw [hsp]
            generalize can (2 ^ 24) 5 (VA - VB) i * can (2 ^ 24) 5 (VC - VD) k = u at *
            rcases hs with rfl | rfl <;> omega
          · omega
  have outer : ∀ m i, i + m = 5 → ∀ S1, tmJ S p3 t (VA - VB) (VC - VD) T s i 0 S1 → XP mX9_times 107 [(11, .int (nI i)), (0, .ref 0), (1, .ref p1), (2, .int (nI a)), (3, .int bv), (4, .ref p2), (5, .int (nI c)), (6, .int dv), (7, .ref p3), (8, .int (nI t)), (9, .long (lI s))] [] (xwS S1) (sQ (fun r S' => r = none ∧ tmT S p1 p2 p3 t (T + s * ((VA - VB) * (VC - VD))) S')) := by
    intro m
    induction m with
    | zero =>
      intro i hi S1 h1
      obtain rfl : i = 5 := by omega
      refine x_iload eX9_times_107 rfl ?_
      refine x_iconst (v := nI 5) eX9_times_109 (by decide) ?_
      refine x_icmp_geN eX9_times_110 (by omega) (by omega) (fun c_110 => ?_) (fun c_110 => ?_)
      · exact fin S1 h1 _ rfl rfl
      · omega
    | succ m ih =>
      intro i hi S1 h1
      refine x_iload eX9_times_107 rfl ?_
      refine x_iconst (v := nI 5) eX9_times_109 (by decide) ?_
      refine x_icmp_geN eX9_times_110 (by omega) (by omega) (fun c_110 => ?_) (fun c_110 => ?_)
      · omega
      · refine x_iconst (v := nI 0) eX9_times_113 (by decide) ?_
        refine x_istore (lv' := [_, _, _, _, _, _, _, _, _, _, _, _]) eX9_times_114 (by decide) rfl ?_
        refine x_pick [0, 1, 2, 3, 4, 5, 6, 7, 8, 9, 10, 11] rfl ?_
        exact inner i (by omega) (fun S2 h2 => ih (i + 1) (by omega) S2 h2) 5 0 rfl S1 h1
  have mid : ∀ S1, S1 = setL (setL S 5 (R5 5)) 6 (R6 5) → XP mX9_times 86 [(11, .int (nI 5)), (0, .ref 0), (1, .ref p1), (2, .int (nI a)), (3, .int bv), (4, .ref p2), (5, .int (nI c)), (6, .int dv), (7, .ref p3), (8, .int (nI t)), (9, .long (lI s))] [] (xwS S1) (sQ (fun r S' => r = none ∧ tmT S p1 p2 p3 t (T + s * ((VA - VB) * (VC - VD))) S')) := by
    intro S1 h1
    have q5 : ∀ i, i < 5 → S1.2.2.1 5 (0 + i) = lI (can (2 ^ 24) 5 VA i - can (2 ^ 24) 5 VB i) := by
      intro i hi
      rw [h1, setL_ne _ _ (show (5 : Nat) ≠ 6 by decide), setL_at, ← hR5, show 0 + i = i by omega]
      exact if_pos hi
    have q6 : ∀ i, i < 5 → S1.2.2.1 6 (0 + i) = lI (can (2 ^ 24) 5 VC i - can (2 ^ 24) 5 VD i) := by
      intro i hi
      rw [h1, setL_at, ← hR6, show 0 + i = i by omega]
      exact if_pos hi
    refine x_aload_n eX9_times_86 rfl ?_
    refine s_getR (k := 5) eX9_times_87 fX9_22 rfl (by decide) (by decide) rfl ?_
    refine x_iconst (v := nI 0) eX9_times_90 (by decide) ?_
    refine x_iconst (v := nI 5) eX9_times_91 (by decide) ?_
    refine s_callS0 (As := [_, _, _]) eX9_times_92 kX9_128 ⟨by decide, by decide⟩ rfl rfl (Nat.le_of_ble_eq_true rfl) (Nat.le_of_ble_eq_true rfl) (sp_X9_carry (a := 5) rfl (by decide) (fr := 0) (n := 5) (by decide) (by decide) S1 (fun i => can (2 ^ 24) 5 VA i - can (2 ^ 24) 5 VB i) q5 (fun i hi => by have := cA i hi; have := cB i hi; omega)) (fun S_92 h_92 => ?_)
    refine x_aload_n eX9_times_95 rfl ?_
    refine s_getR (k := 6) eX9_times_96 fX9_25 rfl (by decide) (by decide) rfl ?_
    refine x_iconst (v := nI 0) eX9_times_99 (by decide) ?_
    refine x_iconst (v := nI 5) eX9_times_100 (by decide) ?_
    refine s_callS0 (As := [_, _, _]) eX9_times_101 kX9_128 ⟨by decide, by decide⟩ rfl rfl (Nat.le_of_ble_eq_true rfl) (Nat.le_of_ble_eq_true rfl) (sp_X9_carry (a := 6) rfl (by decide) (fr := 0) (n := 5) (by decide) (by decide) S_92 (fun i => can (2 ^ 24) 5 VC i - can (2 ^ 24) 5 VD i) (fun i hi => by rw [h_92, setL_ne _ _ (show (6 : Nat) ≠ 5 by decide)]; exact q6 i hi) (fun i hi => by have := cC i hi; have := cD i hi; omega)) (fun S_101 h_101 => ?_)
    refine x_iconst (v := nI 0) eX9_times_104 (by decide) ?_
    refine x_istore (lv' := [_, _, _, _, _, _, _, _, _, _, _]) eX9_times_105 (by decide) rfl ?_
    refine x_pick [0, 1, 2, 3, 4, 5, 6, 7, 8, 9, 10] rfl ?_
    refine outer 5 0 rfl S_101 ?_
    rw [hdiff] at h_92 h_101
    have hx1 : Lx [5, 6, p3] S S1 := by rw [h1]; exact (Lx.set S _ (by simp)).tr (Lx.set _ _ (by simp))
    have hx2 : Lx [5, 6, p3] S S_101 := by
      rw [h_101]
      refine Lx.tr ?_ (Lx.set _ _ (by simp))
      rw [h_92]
      exact hx1.tr (Lx.set _ _ (by simp))
    refine ⟨hx2, ?_, ?_, can (2 ^ 24) 10 T, ?_, ?_, ?_⟩
    · intro j hj
      rw [h_101, setL_ne _ _ (show (5 : Nat) ≠ 6 by decide), h_92, setL_at, if_pos (by omega)]
      rfl
    · intro j hj
      rw [h_101, setL_at, if_pos (by omega)]
      rfl
    · intro j
      have e1 : S_101.2.2.1 p3 = S.2.2.1 p3 := by
        rw [h_101, setL_ne _ _ hn3.2, h_92, setL_ne _ _ hn3.1, h1]
        exact rd _ _ p3 hn3.1 hn3.2
      rw [e1]
      by_cases hj : t ≤ j ∧ j < t + 10
      · rw [if_pos hj, ← hT (j - t) (by omega), show t + (j - t) = j by omega]
      · rw [if_neg hj]
    · rw [hv_can0 _ (by decide)]
      simp [hv]
    · intro j hj
      have := can10_in bT hj
      omega
  have loop : ∀ m k, k + m = 5 → ∀ S1, S1 = setL (setL S 5 (R5 k)) 6 (R6 k) → XP mX9_times 3 [(11, .int (nI k)), (0, .ref 0), (1, .ref p1), (2, .int (nI a)), (3, .int bv), (4, .ref p2), (5, .int (nI c)), (6, .int dv), (7, .ref p3), (8, .int (nI t)), (9, .long (lI s))] [] (xwS S1) (sQ (fun r S' => r = none ∧ tmT S p1 p2 p3 t (T + s * ((VA - VB) * (VC - VD))) S')) := by
    intro m
    induction m with
    | zero =>
      intro k hk S1 h1
      obtain rfl : k = 5 := by omega
      refine x_iload eX9_times_3 rfl ?_
      refine x_iconst (v := nI 5) eX9_times_5 (by decide) ?_
      refine x_icmp_geN eX9_times_6 (by omega) (by omega) (fun c_6 => ?_) (fun c_6 => ?_)
      · exact mid S1 h1
      · omega
    | succ m ih =>
      intro k hk S1 h1
      refine x_iload eX9_times_3 rfl ?_
      refine x_iconst (v := nI 5) eX9_times_5 (by decide) ?_
      refine x_icmp_geN eX9_times_6 (by omega) (by omega) (fun c_6 => ?_) (fun c_6 => ?_)
      · omega
      · exact phA k (by omega) S1 h1 (fun S2 h2 => phB k (by omega) S2 h2 (fun S3 h3 => ih (k + 1) (by omega) S3 h3))
  show XP _ _ [_, _, _, _, _, _, _, _, _, _] _ _ _
  refine x_iconst (v := nI 0) eX9_times_0 (by decide) ?_
  refine x_istore (lv' := [_, _, _, _, _, _, _, _, _, _, _]) eX9_times_1 (by decide) rfl ?_
  refine x_pick [0, 1, 2, 3, 4, 5, 6, 7, 8, 9, 10] rfl ?_
  refine loop 5 0 rfl S ?_
  have e5 : R5 0 = S.2.2.1 5 := by rw [← hR5]; funext j; dsimp only; rw [if_neg (by omega)]
  have e6 : R6 0 = S.2.2.1 6 := by rw [← hR6]; funext j; dsimp only; rw [if_neg (by omega)]
  rw [e5, setL_self, e6, setL_self]

