/-! ===== AREA: a sound ring that turns left has an area above 0 ===== -/
theorem sumZ_swap (f : Nat → Nat → Int) (m : Nat) : ∀ n, sumZ (fun i => sumZ (f i) m) n = sumZ (fun j => sumZ (fun i => f i j) n) m := by
  intro n
  induction n with
  | zero =>
    show 0 = sumZ (fun _ => 0) m
    induction m with
    | zero => rfl
    | succ m ih => show 0 = sumZ (fun _ => 0) m + 0; omega
  | succ n ih =>
    show sumZ (fun i => sumZ (f i) m) n + sumZ (f n) m = sumZ (fun j => sumZ (fun i => f i j) n + f n j) m
    rw [ih]
    clear ih
    induction m with
    | zero => rfl
    | succ m ih =>
      show sumZ (fun j => sumZ (fun i => f i j) n) m + sumZ (fun i => f i m) n + (sumZ (f n) m + f n m) = sumZ (fun j => sumZ (fun i => f i j) n + f n j) m + (sumZ (fun i => f i m) n + f n m)
      omega
theorem sumZ_addf (f g : Nat → Int) : ∀ n, sumZ (fun i => f i + g i) n = sumZ f n + sumZ g n := by
  intro n
  induction n with
  | zero => rfl
  | succ n ih => show sumZ (fun i => f i + g i) n + (f n + g n) = sumZ f n + f n + (sumZ g n + g n); omega
theorem sumZ_mulc (f : Nat → Int) (K : Int) : ∀ n, sumZ (fun i => K * f i) n = K * sumZ f n := by
  intro n
  induction n with
  | zero => exact (Int.mul_zero K).symm
  | succ n ih => show sumZ (fun i => K * f i) n + K * f n = K * (sumZ f n + f n); rw [ih, Int.mul_add]
theorem sumZ_nn {f : Nat → Int} : ∀ n, (∀ i, i < n → 0 ≤ f i) → 0 ≤ sumZ f n := by
  intro n
  induction n with
  | zero => intro _; exact Int.le_refl 0
  | succ n ih =>
    intro h
    have := ih (fun i hi => h i (by omega))
    have := h n (by omega)
    show 0 ≤ sumZ f n + f n
    omega
theorem sumZ_pos {f : Nat → Int} {k : Nat} : ∀ n, k < n → (∀ i, i < n → 0 ≤ f i) → 0 < f k → 0 < sumZ f n := by
  intro n
  induction n with
  | zero => intro h; omega
  | succ n ih =>
    intro hk h hp
    show 0 < sumZ f n + f n
    by_cases e : k = n
    · subst e
      have := sumZ_nn k (fun i hi => h i (by omega))
      omega
    · have := ih (by omega) (fun i hi => h i (by omega)) hp
      have := h n (by omega)
      omega
def stp (y m : Int) : Int := if y ≤ m then 1 else 0
theorem sum_stp (F Z : Int → Int) (hF : ∀ m, F (m + 1) - F m = Z m) {y : Int} {B : Nat} (h1 : -(B : Int) ≤ y) (h2 : y ≤ B) : sumZ (fun j => stp y ((j : Int) - B) * Z ((j : Int) - B)) (2 * B) = F B - F y := by
  have key : ∀ J : Nat, sumZ (fun j => stp y ((j : Int) - B) * Z ((j : Int) - B)) J = if y ≤ (J : Int) - B then F ((J : Int) - B) - F y else 0 := by
    intro J
    induction J with
    | zero =>
      show 0 = _
      split
      · rename_i q
        have : ((0 : Nat) : Int) - B = y := by omega
        rw [this]; omega
      · rfl
    | succ J ih =>
      show sumZ (fun j => stp y ((j : Int) - B) * Z ((j : Int) - B)) J + stp y ((J : Int) - B) * Z ((J : Int) - B) = _
      rw [ih]
      have hf := hF ((J : Int) - B)
      have e : ((J + 1 : Nat) : Int) - B = (J : Int) - B + 1 := by omega
      rw [e]
      unfold stp
      by_cases q : y ≤ (J : Int) - B
      · rw [if_pos q, if_pos q, if_pos (by omega), Int.one_mul]; omega
      · rw [if_neg q, if_neg q, Int.zero_mul]
        by_cases q2 : y ≤ (J : Int) - B + 1
        · rw [if_pos q2]
          have : y = (J : Int) - B + 1 := by omega
          rw [this]; omega
        · rw [if_neg q2]; rfl
  rw [key, if_pos (by omega)]
  rw [show ((2 * B : Nat) : Int) - B = B by omega]
theorem sum_cnt {z : Int} {B : Nat} (h1 : -(B : Int) ≤ z) (h2 : z ≤ B) : sumZ (fun j => if (j : Int) - B < z then 1 else 0) (2 * B) = z + B := by
  have key : ∀ J : Nat, sumZ (fun j => if (j : Int) - B < z then (1 : Int) else 0) J = if (J : Int) - B ≤ z then (J : Int) else z + B := by
    intro J
    induction J with
    | zero => show 0 = _; rw [if_pos (by omega)]; rfl
    | succ J ih =>
      show sumZ (fun j => if (j : Int) - B < z then (1 : Int) else 0) J + (if (J : Int) - B < z then (1 : Int) else 0) = _
      rw [ih]
      repeat' split
      all_goals omega
  rw [key]
  split <;> omega
theorem bnd_ex (f : Nat → Int) : ∀ n, ∃ B : Nat, ∀ k, k < n → -(B : Int) < f k ∧ f k < B := by
  intro n
  induction n with
  | zero => exact ⟨0, fun k hk => absurd hk (by omega)⟩
  | succ n ih =>
    obtain ⟨B, h⟩ := ih
    refine ⟨B + (f n).natAbs + 1, fun k hk => ?_⟩
    by_cases e : k = n
    · subst e; omega
    · have := h k (by omega); omega
/-- twice the area -/
def are (v : Nat → Pt) (n : Nat) : Int := sumZ (fun k => (v k).1 * (v (k + 1)).2 - (v k).2 * (v (k + 1)).1) n
theorem are_tr (v : Nat → Pt) (n : Nat) (e0 : v n = v 0) : are v n = sumZ (fun k => ((v k).1 + (v (k + 1)).1) * ((v (k + 1)).2 - (v k).2)) n := by
  have t := sumZ_tel (fun k => (v k).1 * (v k).2) n
  have t : sumZ (fun i => (v (i + 1)).1 * (v (i + 1)).2 - (v i).1 * (v i).2) n = 0 := by rw [t, e0]; omega
  unfold are
  have e : sumZ (fun k => ((v k).1 + (v (k + 1)).1) * ((v (k + 1)).2 - (v k).2)) n = sumZ (fun k => ((v k).1 * (v (k + 1)).2 - (v k).2 * (v (k + 1)).1) + ((v (k + 1)).1 * (v (k + 1)).2 - (v k).1 * (v k).2)) n := sumZ_congr n (fun k _ => by grind)
  rw [e, sumZ_addf, t, Int.add_zero]
theorem hl1 {K : Int} (hK : 0 < K) (a m : Int) : 4 * K * a ≤ 4 * K * m + 2 * K ↔ a ≤ m := by
  constructor
  · intro h
    rcases Int.lt_or_le m a with q | q
    · have := Int.mul_le_mul_of_nonneg_left (show m + 1 ≤ a by omega) (show 0 ≤ 4 * K by omega)
      rw [Int.mul_add, Int.mul_one] at this
      omega
    · exact q
  · intro h
    have := Int.mul_le_mul_of_nonneg_left h (show 0 ≤ 4 * K by omega)
    omega
theorem hl2 {K : Int} (hK : 0 < K) (b m : Int) : 4 * K * m + 2 * K < 4 * K * b ↔ m < b := by
  constructor
  · intro h
    rcases Int.lt_or_le m b with q | q
    · exact q
    · have := Int.mul_le_mul_of_nonneg_left q (show 0 ≤ 4 * K by omega)
      omega
  · intro h
    have := Int.mul_le_mul_of_nonneg_left (show m + 1 ≤ b by omega) (show 0 ≤ 4 * K by omega)
    rw [Int.mul_add, Int.mul_one] at this
    omega
section AREA
variable {v : Nat → Pt} {n : Nat} {K : Int} {q : Nat → Int}
def zz (v : Nat → Pt) (K : Int) (q : Nat → Int) (k : Nat) (m : Int) : Int := 2 * K * (v k).1 + q k * (2 * m + 1 - 2 * (v k).2) * ((v (k + 1)).1 - (v k).1)
def sgk (v : Nat → Pt) (k : Nat) (m : Int) : Int := stp (v k).2 m - stp (v (k + 1)).2 m
theorem zz_or (hq : ∀ k, k < n → (v (k + 1)).2 - (v k).2 ≠ 0 → q k * ((v (k + 1)).2 - (v k).2) = K) {k : Nat} (hk : k < n) {m : Int} (hs : sgk v k m ≠ 0) : orP (scP (4 * K) (v k)) (scP (4 * K) (v (k + 1))) (2 * zz v K q k m, 4 * K * m + 2 * K) = 0 := by
  have hd : (v (k + 1)).2 - (v k).2 ≠ 0 := by
    intro e
    apply hs
    unfold sgk
    rw [show (v (k + 1)).2 = (v k).2 by omega]; omega
  have e := hq k hk hd
  unfold zz
  generalize v k = a at *
  generalize v (k + 1) = b at *
  unfold orP scP
  dsimp only
  rw [← e]
  grind
theorem zz_bet (hK : 0 < K) (hq : ∀ k, k < n → (v (k + 1)).2 - (v k).2 ≠ 0 → q k * ((v (k + 1)).2 - (v k).2) = K) {k : Nat} (hk : k < n) {m : Int} (hs : sgk v k m ≠ 0) : bet (scP (4 * K) (v k)) (scP (4 * K) (v (k + 1))) (2 * zz v K q k m, 4 * K * m + 2 * K) := by
  have hd : (v (k + 1)).2 - (v k).2 ≠ 0 := by
    intro e
    apply hs
    unfold sgk
    rw [show (v (k + 1)).2 = (v k).2 by omega]; omega
  have e := hq k hk hd
  have hcr : ((v k).2 ≤ m ∧ m < (v (k + 1)).2) ∨ ((v (k + 1)).2 ≤ m ∧ m < (v k).2) := by
    unfold sgk stp at hs
    by_cases a : (v k).2 ≤ m <;> by_cases b : (v (k + 1)).2 ≤ m
    · rw [if_pos a, if_pos b] at hs; omega
    · left; omega
    · right; omega
    · rw [if_neg a, if_neg b] at hs; omega
  unfold zz
  generalize v k = a at *
  generalize v (k + 1) = b at *
  rcases hcr with ⟨p, r⟩ | ⟨p, r⟩
  · refine comb_bet (s := 2 * (b.2 - m) - 1) (t := 2 * (m - a.2) + 1) ⟨by omega, by omega, by omega, ?_, ?_⟩
    · unfold scP; dsimp only; rw [← e]; grind
    · unfold scP; dsimp only; grind
  · refine comb_bet (s := 2 * (m - b.2) + 1) (t := 2 * (a.2 - m) - 1) ⟨by omega, by omega, by omega, ?_, ?_⟩
    · unfold scP; dsimp only; rw [← e]; grind
    · unfold scP; dsimp only; grind
theorem chi_zz (hK : 0 < K) (hq : ∀ k, k < n → (v (k + 1)).2 - (v k).2 ≠ 0 → q k * ((v (k + 1)).2 - (v k).2) = K) {k : Nat} (hk : k < n) (m t : Int) : chi (scP (4 * K) (v k)) (scP (4 * K) (v (k + 1))) (2 * t + 1, 4 * K * m + 2 * K) = sgk v k m * (if t < zz v K q k m then 1 else 0) := by
  by_cases hs : sgk v k m = 0
  · rw [hs, Int.zero_mul]
    unfold sgk stp at hs
    unfold chi scP
    dsimp only
    have l1 : 4 * K * (v k).2 ≤ 4 * K * m + 2 * K ↔ (v k).2 ≤ m := hl1 hK _ _
    have l2 : 4 * K * m + 2 * K < 4 * K * (v (k + 1)).2 ↔ m < (v (k + 1)).2 := hl2 hK _ _
    have l3 : 4 * K * m + 2 * K < 4 * K * (v k).2 ↔ m < (v k).2 := hl2 hK _ _
    have l4 : 4 * K * (v (k + 1)).2 ≤ 4 * K * m + 2 * K ↔ (v (k + 1)).2 ≤ m := hl1 hK _ _
    simp only [l1, l2, l3, l4]
    by_cases a : (v k).2 ≤ m <;> by_cases b : (v (k + 1)).2 ≤ m
    · rw [if_neg (by omega), if_neg (by omega)]
    · rw [if_pos a, if_neg b] at hs; omega
    · rw [if_neg a, if_pos b] at hs; omega
    · rw [if_neg (by omega), if_neg (by omega)]
  · have o := or_lev (scP (4 * K) (v k)) (scP (4 * K) (v (k + 1))) (2 * t + 1) (2 * zz v K q k m) (4 * K * m + 2 * K)
    rw [zz_or hq hk hs, Int.zero_add] at o
    generalize zz v K q k m = z at *
    unfold chi
    rw [o]
    have e : (scP (4 * K) (v (k + 1))).2 - (scP (4 * K) (v k)).2 = 4 * K * ((v (k + 1)).2 - (v k).2) := by unfold scP; dsimp only; rw [Int.mul_sub]
    rw [e]
    have l1 : (scP (4 * K) (v k)).2 ≤ 4 * K * m + 2 * K ↔ (v k).2 ≤ m := hl1 hK _ _
    have l2 : 4 * K * m + 2 * K < (scP (4 * K) (v (k + 1))).2 ↔ m < (v (k + 1)).2 := hl2 hK _ _
    have l3 : 4 * K * m + 2 * K < (scP (4 * K) (v k)).2 ↔ m < (v k).2 := hl2 hK _ _
    have l4 : (scP (4 * K) (v (k + 1))).2 ≤ 4 * K * m + 2 * K ↔ (v (k + 1)).2 ≤ m := hl1 hK _ _
    dsimp only
    simp only [l1, l2, l3, l4]
    unfold sgk stp at hs ⊢
    by_cases a : (v k).2 ≤ m <;> by_cases b : (v (k + 1)).2 ≤ m
    · rw [if_pos a, if_pos b] at hs; omega
    · rw [if_pos a, if_neg b]
      have w := pp (show 0 < 4 * K by omega) (show 0 < (v (k + 1)).2 - (v k).2 by omega)
      by_cases c : t < z
      · have := pp (show 0 < 2 * z - (2 * t + 1) by omega) w
        rw [if_pos ⟨a, by omega, this⟩, if_pos c]; rfl
      · have := np (show 2 * z - (2 * t + 1) < 0 by omega) w
        rw [if_neg (by omega), if_neg (by omega), if_neg c]; rfl
    · rw [if_neg a, if_pos b]
      have w := pn (show 0 < 4 * K by omega) (show (v (k + 1)).2 - (v k).2 < 0 by omega)
      by_cases c : t < z
      · have := pn (show 0 < 2 * z - (2 * t + 1) by omega) w
        rw [if_neg (by omega), if_pos ⟨by omega, b, this⟩, if_pos c]; rfl
      · have := nn (show 2 * z - (2 * t + 1) < 0 by omega) w
        rw [if_neg (by omega), if_neg (by omega), if_neg c]; rfl
    · rw [if_neg a, if_neg b] at hs; omega
/-- the sum over an edge's levels -/
theorem edge_sum (hq : ∀ k, k < n → (v (k + 1)).2 - (v k).2 ≠ 0 → q k * ((v (k + 1)).2 - (v k).2) = K) {k : Nat} (hk : k < n) {B : Nat} (b1 : -(B : Int) ≤ (v k).2 ∧ (v k).2 ≤ B) (b2 : -(B : Int) ≤ (v (k + 1)).2 ∧ (v (k + 1)).2 ≤ B) :
    sumZ (fun j => sgk v k ((j : Int) - B) * zz v K q k ((j : Int) - B)) (2 * B) = K * (((v k).1 + (v (k + 1)).1) * ((v (k + 1)).2 - (v k).2)) := by
  obtain ⟨F, hFd⟩ : ∃ F : Int → Int, F = fun y => 2 * K * (v k).1 * y + q k * ((v (k + 1)).1 - (v k).1) * (y * y - 2 * (v k).2 * y) := ⟨_, rfl⟩
  have hF : ∀ m, F (m + 1) - F m = zz v K q k m := by
    intro m
    rw [hFd]
    unfold zz
    grind
  have s1 := sum_stp F (zz v K q k) hF b1.1 b1.2
  have s2 := sum_stp F (zz v K q k) hF b2.1 b2.2
  have e : sumZ (fun j => sgk v k ((j : Int) - B) * zz v K q k ((j : Int) - B)) (2 * B) = sumZ (fun j => stp (v k).2 ((j : Int) - B) * zz v K q k ((j : Int) - B) - stp (v (k + 1)).2 ((j : Int) - B) * zz v K q k ((j : Int) - B)) (2 * B) := sumZ_congr _ (fun j _ => by unfold sgk; rw [Int.sub_mul])
  rw [e, sumZ_sub, s1, s2, hFd]
  dsimp only
  by_cases hd : (v (k + 1)).2 - (v k).2 = 0
  · have : (v (k + 1)).2 = (v k).2 := by omega
    rw [this]; grind
  · have := hq k hk hd
    generalize v k = a at *
    generalize v (k + 1) = b at *
    rw [← this]
    grind
end AREA
/-- AREA -/
theorem are_pos {v : Nat → Pt} {n : Nat} (h : soundS v n) (hl : lefty v) : 0 < are v n := by
  have h3 := h.1
  have e0 := v_n h.2.1
  obtain ⟨K, hK, hd⟩ := mult_ex (fun k => (v (k + 1)).2 - (v k).2) n
  have exq : ∀ k, ∃ q : Int, k < n → (v (k + 1)).2 - (v k).2 ≠ 0 → q * ((v (k + 1)).2 - (v k).2) = K := by
    intro k
    by_cases c : k < n ∧ (v (k + 1)).2 - (v k).2 ≠ 0
    · obtain ⟨q, hq⟩ := hd k c.1 c.2
      exact ⟨q, fun _ _ => hq⟩
    · exact ⟨0, fun a b => absurd ⟨a, b⟩ c⟩
  obtain ⟨q, hq⟩ := Classical.axiomOfChoice exq
  obtain ⟨B, hB⟩ := bnd_ex (fun k => (v k).2) (n + 1)
  have hw := sc_S (show 0 < 4 * K by omega) h
  have lw := sc_lefty (show 0 < 4 * K by omega) hl
  -- the levels
  have lev : ∀ m : Int, ∃ C : Nat, (∀ k, k < n → -(C : Int) < zz v K q k m ∧ zz v K q k m < C) := fun m => bnd_ex (fun k => zz v K q k m) n
  have sg0 : ∀ m : Int, sumZ (fun k => sgk v k m) n = 0 := by
    intro m
    have := sumZ_tel (fun k => stp (v k).2 m) n
    have e : sumZ (fun k => sgk v k m) n = sumZ (fun k => -1 * (stp (v (k + 1)).2 m - stp (v k).2 m)) n := sumZ_congr n (fun k _ => by unfold sgk; omega)
    rw [e, sumZ_mulc, this, e0]; omega
  have offc : ∀ m t : Int, off (fun i => scP (4 * K) (v i)) n (2 * t + 1, 4 * K * m + 2 * K) := by
    intro m t k hk hb
    have hb : bet (scP (4 * K) (v k)) (scP (4 * K) (v (k + 1))) (2 * t + 1, 4 * K * m + 2 * K) := hb
    have bx := hb.2.2
    have l1 : (scP (4 * K) (v k)).2 ≤ 4 * K * m + 2 * K ↔ (v k).2 ≤ m := hl1 hK _ _
    have l2 : 4 * K * m + 2 * K < (scP (4 * K) (v (k + 1))).2 ↔ m < (v (k + 1)).2 := hl2 hK _ _
    have l3 : 4 * K * m + 2 * K < (scP (4 * K) (v k)).2 ↔ m < (v k).2 := hl2 hK _ _
    have l4 : (scP (4 * K) (v (k + 1))).2 ≤ 4 * K * m + 2 * K ↔ (v (k + 1)).2 ≤ m := hl1 hK _ _
    have n1 : ∀ y : Int, 4 * K * y ≠ 4 * K * m + 2 * K := by
      intro y e
      have := (hl1 hK y m).mp (by omega)
      rcases Int.lt_or_le m y with r | r
      · omega
      · have := Int.mul_le_mul_of_nonneg_left this (show 0 ≤ 4 * K by omega)
        omega
    have n2 := n1 (v k).2
    have n3 := n1 (v (k + 1)).2
    have n2 : (scP (4 * K) (v k)).2 ≠ 4 * K * m + 2 * K := n2
    have n3 : (scP (4 * K) (v (k + 1))).2 ≠ 4 * K * m + 2 * K := n3
    dsimp only at bx
    have hs : sgk v k m ≠ 0 := by
      unfold sgk stp
      rcases bx with ⟨p, r⟩ | ⟨p, r⟩
      · rw [if_pos (l1.mp p), if_neg (by have := l2.mp (by omega); omega)]; decide
      · rw [if_neg (by have := l3.mp (by omega); omega), if_pos (l4.mp p)]; decide
    have := bet_lev (by omega) hb.1 (zz_or hq hk hs)
    omega
  have w01 : ∀ m t : Int, 0 ≤ wnd (fun i => scP (4 * K) (v i)) n (2 * t + 1, 4 * K * m + 2 * K) := by
    intro m t
    rcases wnd01 hw lw (offc m t) with e | e <;> omega
  have wz : ∀ m t : Int, wnd (fun i => scP (4 * K) (v i)) n (2 * t + 1, 4 * K * m + 2 * K) = sumZ (fun k => sgk v k m * (if t < zz v K q k m then 1 else 0)) n := fun m t => sumZ_congr n (fun k hk => chi_zz hK hq hk m t)
  have row : ∀ m : Int, ∀ C : Nat, (∀ k, k < n → -(C : Int) < zz v K q k m ∧ zz v K q k m < C) → sumZ (fun k => sgk v k m * zz v K q k m) n = sumZ (fun j => wnd (fun i => scP (4 * K) (v i)) n (2 * ((j : Int) - C) + 1, 4 * K * m + 2 * K)) (2 * C) := by
    intro m C hC
    have e1 : sumZ (fun j => wnd (fun i => scP (4 * K) (v i)) n (2 * ((j : Int) - C) + 1, 4 * K * m + 2 * K)) (2 * C) = sumZ (fun (j : Nat) => sumZ (fun k => sgk v k m * (if (j : Int) - C < zz v K q k m then 1 else 0)) n) (2 * C) := sumZ_congr _ (fun j _ => wz m _)
    rw [e1, ← sumZ_swap (fun k (j : Nat) => sgk v k m * (if (j : Int) - C < zz v K q k m then 1 else 0))]
    have e2 : sumZ (fun k => sumZ (fun (j : Nat) => sgk v k m * (if (j : Int) - C < zz v K q k m then 1 else 0)) (2 * C)) n = sumZ (fun k => sgk v k m * zz v K q k m + C * sgk v k m) n := by
      refine sumZ_congr n (fun k hk => ?_)
      have := hC k hk
      rw [sumZ_mulc, sum_cnt (by omega) (by omega)]
      grind
    rw [e2, sumZ_addf, sumZ_mulc, sg0, Int.mul_zero, Int.add_zero]
  have rnn : ∀ m : Int, 0 ≤ sumZ (fun k => sgk v k m * zz v K q k m) n := by
    intro m
    obtain ⟨C, hC⟩ := lev m
    rw [row m C hC]
    exact sumZ_nn _ (fun j _ => w01 m _)
  have tot : K * are v n = sumZ (fun j => sumZ (fun k => sgk v k ((j : Int) - B) * zz v K q k ((j : Int) - B)) n) (2 * B) := by
    rw [← sumZ_swap (fun k (j : Nat) => sgk v k ((j : Int) - B) * zz v K q k ((j : Int) - B)), are_tr v n e0, ← sumZ_mulc]
    refine sumZ_congr n (fun k hk => ?_)
    have b1 := hB k (by omega)
    have b2 := hB (k + 1) (by omega)
    exact (edge_sum hq hk ⟨by omega, by omega⟩ ⟨by omega, by omega⟩).symm
  -- an edge that rises or falls
  have some : ∃ k, k < n ∧ (v k).2 ≠ (v (k + 1)).2 := by
    refine Classical.byContradiction fun c => ?_
    have all : ∀ k, k < n → (v k).2 = (v (k + 1)).2 := fun k hk => Classical.byContradiction fun c2 => c ⟨k, hk, c2⟩
    have c0 : ∀ k, k ≤ n → (v k).2 = (v 0).2 := by
      intro k
      induction k with
      | zero => intro _; rfl
      | succ k ih => intro hk; rw [← all k (by omega)]; exact ih (by omega)
    have per := sound_per (S_sound h)
    have c1 : ∀ k, (v k).2 = (v 0).2 := by
      intro k
      rw [per k]
      exact c0 _ (Nat.le_of_lt (Nat.mod_lt _ (by omega)))
    obtain ⟨i, -, h2⟩ := hl
    unfold orP at h2
    rw [c1 i, c1 (i + 1), c1 (i + 2)] at h2
    simp at h2
  obtain ⟨k, hk, hne⟩ := some
  have b1 := hB k (by omega)
  have b2 := hB (k + 1) (by omega)
  have exm : ∃ m : Int, -(B : Int) ≤ m ∧ m < B ∧ sgk v k m ≠ 0 := by
    unfold sgk stp
    rcases Int.lt_or_le (v k).2 (v (k + 1)).2 with c | c
    · exact ⟨(v k).2, by omega, by omega, by rw [if_pos (by omega), if_neg (by omega)]; decide⟩
    · exact ⟨(v (k + 1)).2, by omega, by omega, by rw [if_neg (by omega), if_pos (by omega)]; decide⟩
  obtain ⟨m, m1, m2, hs⟩ := exm
  have rpos : 0 < sumZ (fun k => sgk v k m * zz v K q k m) n := by
    obtain ⟨C, hC⟩ := lev m
    rw [row m C hC]
    have hCk := hC k hk
    have df : wnd (fun i => scP (4 * K) (v i)) n (2 * (zz v K q k m - 1) + 1, 4 * K * m + 2 * K) - wnd (fun i => scP (4 * K) (v i)) n (2 * zz v K q k m + 1, 4 * K * m + 2 * K) = sgk v k m := by
      rw [wz, wz, ← sumZ_sub]
      refine sumZ_one (k := k) n hk (fun j hj => ?_)
      by_cases ejk : j = k
      · subst ejk
        rw [if_pos rfl, if_pos (by omega), if_neg (by omega)]; omega
      · rw [if_neg ejk]
        by_cases sj : sgk v j m = 0
        · rw [sj]; omega
        · have ne : zz v K q j m ≠ zz v K q k m := by
            intro e
            have a1 := zz_bet hK hq hj sj
            have a2 := zz_bet hK hq hk hs
            rw [e] at a1
            have := soundS_all hw hj hk ejk 1 _ (by decide) (by rw [sc_one, sc_one]; exact a1) (by rw [sc_one, sc_one]; exact a2)
            have n1 : ∀ y : Int, 4 * K * y ≠ 4 * K * m + 2 * K := by
              intro y e
              have := (hl1 hK y m).mp (by omega)
              rcases Int.lt_or_le m y with r | r
              · omega
              · have := Int.mul_le_mul_of_nonneg_left this (show 0 ≤ 4 * K by omega)
                omega
            rw [sc_one, sc_one] at this
            rcases this with ⟨-, e2⟩ | ⟨-, e2⟩
            · exact n1 (v j).2 (congrArg Prod.snd e2).symm
            · exact n1 (v k).2 (congrArg Prod.snd e2).symm
          by_cases c : zz v K q k m < zz v K q j m
          · rw [if_pos (by omega), if_pos c]; omega
          · rw [if_neg (by omega), if_neg c]; omega
    have ev : ∀ t : Int, -(C : Int) ≤ t → t < C → 0 < wnd (fun i => scP (4 * K) (v i)) n (2 * t + 1, 4 * K * m + 2 * K) → 0 < sumZ (fun j => wnd (fun i => scP (4 * K) (v i)) n (2 * ((j : Int) - C) + 1, 4 * K * m + 2 * K)) (2 * C) := by
      intro t t1 t2 tp
      refine sumZ_pos (k := (t + C).toNat) _ (by omega) (fun j _ => w01 m _) ?_
      rw [show ((t + C).toNat : Int) - C = t by omega]
      exact tp
    have p1 := w01 m (zz v K q k m - 1)
    have p2 := w01 m (zz v K q k m)
    by_cases c : 0 < wnd (fun i => scP (4 * K) (v i)) n (2 * zz v K q k m + 1, 4 * K * m + 2 * K)
    · exact ev _ (by omega) (by omega) c
    · exact ev (zz v K q k m - 1) (by omega) (by omega) (by omega)
  have : 0 < K * are v n := by
    rw [tot]
    refine sumZ_pos (k := (m + B).toNat) _ (by omega) (fun j _ => rnn _) ?_
    rw [show ((m + B).toNat : Int) - B = m by omega]
    exact rpos
  rcases mul_pos_cases this with c | c <;> omega
