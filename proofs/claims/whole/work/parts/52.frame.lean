/-! ===== frames ===== -/
def lin (l z : Pt) : Int := l.1 * z.1 + l.2 * z.2
theorem lin_sc (l : Pt) (N : Int) (z : Pt) : lin l (scP N z) = N * lin l z := by unfold lin scP; grind
theorem lin_comb {a b x : Pt} {s t : Int} (l : Pt) (h : comb a b x s t) : (s + t) * lin l x = s * lin l a + t * lin l b := by
  obtain ⟨-, -, -, e1, e2⟩ := h
  unfold lin
  calc (s + t) * (l.1 * x.1 + l.2 * x.2) = l.1 * ((s + t) * x.1) + l.2 * ((s + t) * x.2) := by grind
    _ = s * (l.1 * a.1 + l.2 * a.2) + t * (l.1 * b.1 + l.2 * b.2) := by rw [e1, e2]; grind
theorem wle {s t A B X : Int} (hs : 0 ≤ s) (ht : 0 ≤ t) (h0 : 0 < s + t) (e : (s + t) * X = s * A + t * B) {U : Int} (ha : A ≤ U) (hb : B ≤ U) : X ≤ U := by
  rcases Int.lt_or_le U X with c | c
  · exfalso
    have k1 := Int.mul_nonneg hs (show 0 ≤ U - A by omega)
    have k2 := Int.mul_nonneg ht (show 0 ≤ U - B by omega)
    have k3 := Int.mul_pos h0 (show 0 < X - U by omega)
    have : (s + t) * (X - U) = -(s * (U - A)) - t * (U - B) := by grind
    omega
  · exact c
theorem wge {s t A B X : Int} (hs : 0 ≤ s) (ht : 0 ≤ t) (h0 : 0 < s + t) (e : (s + t) * X = s * A + t * B) {U : Int} (ha : U ≤ A) (hb : U ≤ B) : U ≤ X := by
  have := wle hs ht h0 (show (s + t) * (-X) = s * (-A) + t * (-B) by rw [Int.mul_neg, e]; grind) (U := -U) (by omega) (by omega)
  omega
theorem wlt {s t A B X : Int} (hs : 0 ≤ s) (ht : 0 < t) (e : (s + t) * X = s * A + t * B) {U : Int} (ha : A ≤ U) (hb : B < U) : X < U := by
  rcases Int.lt_or_le X U with c | c
  · exact c
  · exfalso
    have k1 := Int.mul_nonneg hs (show 0 ≤ U - A by omega)
    have k2 := Int.mul_pos ht (show 0 < U - B by omega)
    have k3 := Int.mul_nonneg (show 0 ≤ s + t by omega) (show 0 ≤ X - U by omega)
    have : (s + t) * (X - U) = -(s * (U - A)) - t * (U - B) := by grind
    omega
theorem lin_le {a b x l : Pt} (h : bet a b x) {U : Int} (ha : lin l a ≤ U) (hb : lin l b ≤ U) : lin l x ≤ U := by
  obtain ⟨s, t, hc⟩ := bet_comb h
  exact wle hc.1 hc.2.1 hc.2.2.1 (lin_comb l hc) ha hb
theorem lin_ge {a b x l : Pt} (h : bet a b x) {U : Int} (ha : U ≤ lin l a) (hb : U ≤ lin l b) : U ≤ lin l x := by
  obtain ⟨s, t, hc⟩ := bet_comb h
  exact wge hc.1 hc.2.1 hc.2.2.1 (lin_comb l hc) ha hb
theorem out_wnd {q : Nat → Pt} {m : Nat} (h : soundS q m) {c d l : Pt} (ho : off q m c) {U : Int} (hq : ∀ k, U ≤ lin l (q k)) (hc : lin l c ≤ U) (hd : lin l d < U) : wnd q m c = wnd q m d := by
  by_cases e : c = d
  · rw [e]
  refine wnd_move (fun i hi => soundS_next h hi) (v_n h.2.1) (fun i hi => ?_)
  apply clr_com
  rcases Classical.em (comP (q i) (q (i + 1)) c d = 0) with k | k
  · exact k
  exfalso
  obtain ⟨N, x, hN, b1, b2⟩ := com_hit (soundS_next h hi) e k
  have g : N * U ≤ lin l x := by
    refine lin_ge b1 ?_ ?_ <;> rw [lin_sc]
    · exact Int.mul_le_mul_of_nonneg_left (hq i) (Int.le_of_lt hN)
    · exact Int.mul_le_mul_of_nonneg_left (hq (i + 1)) (Int.le_of_lt hN)
  obtain ⟨s, t, hcm⟩ := bet_comb b2
  by_cases z : t = 0
  · subst z
    obtain ⟨s1, -, s0, e1, e2⟩ := hcm
    have : x = scP N c := by
      apply Prod.ext
      · exact mul_z (q := s) (by omega) (by grind)
      · exact mul_z (q := s) (by omega) (by grind)
    rw [this] at b1
    exact ho i hi ((bet_sc hN).mp b1)
  · have := wlt hcm.1 (by have := hcm.2.1; omega) (lin_comb l hcm) (U := N * U) (by rw [lin_sc]; exact Int.mul_le_mul_of_nonneg_left hc (Int.le_of_lt hN)) (by rw [lin_sc]; exact Int.mul_lt_mul_of_pos_left hd hN)
    omega
def four (l : Pt) : Prop := l = (1, 0) ∨ l = (-1, 0) ∨ l = (0, 1) ∨ l = (0, -1)
theorem sumZ_z (f : Nat → Int) : ∀ n, (∀ i, i < n → f i = 0) → sumZ f n = 0 := by
  intro n
  induction n with
  | zero => intro _; rfl
  | succ n ih => intro h; simp only [sumZ, ih (fun i hi => h i (by omega)), h n (by omega)]; rfl
theorem far {q : Nat → Pt} {m : Nat} (h : soundS q m) {l : Pt} (hl : four l) : ∃ d, (∀ k, lin l d < lin l (q k)) ∧ wnd q m d = 0 := by
  obtain ⟨M, hM, hb, -⟩ := bdd_ex q m (by have := h.1; omega) h.2.1 (0, 0)
  have low : ∀ x : Int, wnd q m (x, -M - 1) = 0 := by
    intro x
    refine sumZ_z _ m (fun i _ => ?_)
    have k1 := hb i
    have k2 := hb (i + 1)
    unfold bdd at k1 k2
    unfold chi
    dsimp only
    rw [if_neg (by omega), if_neg (by omega)]
  have high : ∀ x : Int, wnd q m (x, M + 1) = 0 := by
    intro x
    refine sumZ_z _ m (fun i _ => ?_)
    have k1 := hb i
    have k2 := hb (i + 1)
    unfold bdd at k1 k2
    unfold chi
    dsimp only
    rw [if_neg (by omega), if_neg (by omega)]
  rcases hl with rfl | rfl | rfl | rfl
  · exact ⟨(-M - 1, -M - 1), fun k => by have := hb k; unfold bdd at this; unfold lin; dsimp only; omega, low _⟩
  · exact ⟨(M + 1, -M - 1), fun k => by have := hb k; unfold bdd at this; unfold lin; dsimp only; omega, low _⟩
  · exact ⟨(-M - 1, -M - 1), fun k => by have := hb k; unfold bdd at this; unfold lin; dsimp only; omega, low _⟩
  · exact ⟨(M + 1, M + 1), fun k => by have := hb k; unfold bdd at this; unfold lin; dsimp only; omega, high _⟩
theorem int_min (f : Nat → Int) : ∀ n, ∃ j, j ≤ n ∧ ∀ k, k ≤ n → f j ≤ f k := by
  intro n
  induction n with
  | zero => exact ⟨0, Nat.le_refl _, fun k hk => by obtain rfl : k = 0 := (by omega); exact Int.le_refl _⟩
  | succ n ih =>
    obtain ⟨j, hj, hk⟩ := ih
    by_cases c : f j ≤ f (n + 1)
    · refine ⟨j, by omega, fun k h => ?_⟩
      by_cases q : k = n + 1
      · subst q; exact c
      · exact hk k (by omega)
    · refine ⟨n + 1, by omega, fun k h => ?_⟩
      by_cases q : k = n + 1
      · subst q; exact Int.le_refl _
      · have := hk k (by omega); omega
theorem not_inn {q : Nat → Pt} {m : Nat} (h : soundS q m) {l : Pt} (hl : four l) {c : Pt} (hc : ∀ k, lin l c ≤ lin l (q k)) : ¬ inn q m c := by
  rintro ⟨ho, hw⟩
  obtain ⟨d, hd, h0⟩ := far h hl
  have h3 := h.1
  obtain ⟨j, hj, mn⟩ := int_min (fun k => lin l (q k)) m
  have mn2 : ∀ k, lin l (q j) ≤ lin l (q k) := by
    intro k
    obtain ⟨i, hi, e, -⟩ := per_edge h k
    rw [e]; exact mn i (by omega)
  have := out_wnd h ho (U := lin l (q j)) mn2 (hc j) (hd j)
  omega
theorem cross_sep {a b c d l : Pt} (hl : four l) (h : comP a b c d = 1) (h1 : lin l a ≤ lin l c) (h2 : lin l a ≤ lin l d) (h3 : lin l b ≤ lin l c) (h4 : lin l b ≤ lin l d) : False := by
  have k := com1.mp h
  have ab : a ≠ b := fun e => by
    have := k.2; rw [e] at this
    have := Int.mul_nonneg_of_nonpos_of_nonpos (a := orP c d b) (b := orP c d b)
    rcases Int.lt_or_le 0 (orP c d b) with w | w
    · have := Int.mul_pos w w; omega
    · have := this w w; omega
  have cd : c ≠ d := fun e => by
    have := k.1; rw [e] at this
    have := Int.mul_nonneg_of_nonpos_of_nonpos (a := orP a b d) (b := orP a b d)
    rcases Int.lt_or_le 0 (orP a b d) with w | w
    · have := Int.mul_pos w w; omega
    · have := this w w; omega
  obtain ⟨N, x, hN, b1, b2⟩ := com_hit ab cd (by rw [h]; decide)
  have nz : ∀ {u w : Int}, u * w < 0 → u ≠ 0 ∧ w ≠ 0 := fun {u w} e => ⟨fun z => by subst z; rw [Int.zero_mul] at e; omega, fun z => by subst z; rw [Int.mul_zero] at e; omega⟩
  obtain ⟨a1, a2⟩ := nz k.2
  obtain ⟨c1, c2⟩ := nz k.1
  have osc : ∀ p q r : Pt, orP (scP N p) (scP N q) (scP N r) = N * N * orP p q r := fun p q r => by unfold orP scP; grind
  have nn : N * N ≠ 0 := by have := Int.mul_pos hN hN; omega
  have xa : x ≠ scP N a := fun e => by have := b2.1; rw [e, osc] at this; rcases Int.mul_eq_zero.mp this with w | w; exact nn w; exact a1 w
  have xb : x ≠ scP N b := fun e => by have := b2.1; rw [e, osc] at this; rcases Int.mul_eq_zero.mp this with w | w; exact nn w; exact a2 w
  have xc : x ≠ scP N c := fun e => by have := b1.1; rw [e, osc] at this; rcases Int.mul_eq_zero.mp this with w | w; exact nn w; exact c1 w
  have xd : x ≠ scP N d := fun e => by have := b1.1; rw [e, osc] at this; rcases Int.mul_eq_zero.mp this with w | w; exact nn w; exact c2 w
  obtain ⟨s, t, hs, ht, cm⟩ := comb_pos b1 xa xb
  obtain ⟨s', t', hs', ht', cm'⟩ := comb_pos b2 xc xd
  have e1 := lin_comb l cm
  have e2 := lin_comb l cm'
  rw [lin_sc, lin_sc] at e1 e2
  have mono : ∀ {u w : Int}, u ≤ w → N * u ≤ N * w := fun e => Int.mul_le_mul_of_nonneg_left e (Int.le_of_lt hN)
  have smono : ∀ {u w : Int}, u < w → N * u < N * w := fun e => Int.mul_lt_mul_of_pos_left e hN
  have A1 : ¬ lin l a < lin l b := fun c => by
    have u1 := wlt (Int.le_of_lt ht) hs (show (t + s) * lin l x = t * (N * lin l b) + s * (N * lin l a) by rw [Int.add_comm t s, e1]; omega) (U := N * lin l b) (Int.le_refl _) (smono c)
    have u2 := wge (Int.le_of_lt hs') (Int.le_of_lt ht') (by omega) e2 (U := N * lin l b) (mono h3) (mono h4)
    omega
  have A2 : ¬ lin l b < lin l a := fun c => by
    have u1 := wlt (Int.le_of_lt hs) ht e1 (U := N * lin l a) (Int.le_refl _) (smono c)
    have u2 := wge (Int.le_of_lt hs') (Int.le_of_lt ht') (by omega) e2 (U := N * lin l a) (mono h1) (mono h2)
    omega
  have A3 : lin l c ≤ lin l a ∨ lin l d ≤ lin l a := by
    rcases Int.lt_or_le (lin l a) (lin l c) with w | w
    · right
      rcases Int.lt_or_le (lin l a) (lin l d) with w2 | w2
      · exfalso
        have u1 := wle (Int.le_of_lt hs) (Int.le_of_lt ht) (by omega) e1 (U := N * lin l a) (Int.le_refl _) (mono (by omega))
        have u2 := wge (Int.le_of_lt hs') (Int.le_of_lt ht') (by omega) e2 (U := N * (lin l a + 1)) (mono (by omega)) (mono (by omega))
        have := smono (show lin l a < lin l a + 1 by omega)
        omega
      · exact w2
    · exact Or.inl w
  have par : ∀ z : Pt, lin l z = lin l a → orP a b z = 0 := by
    intro z hz
    have eb : lin l b = lin l a := by omega
    unfold lin at hz eb
    unfold orP
    rcases hl with rfl | rfl | rfl | rfl <;> dsimp only at hz eb
    · have q1 : z.1 = a.1 := by omega
      have q2 : b.1 = a.1 := by omega
      rw [q1, q2]; grind
    · have q1 : z.1 = a.1 := by omega
      have q2 : b.1 = a.1 := by omega
      rw [q1, q2]; grind
    · have q1 : z.2 = a.2 := by omega
      have q2 : b.2 = a.2 := by omega
      rw [q1, q2]; grind
    · have q1 : z.2 = a.2 := by omega
      have q2 : b.2 = a.2 := by omega
      rw [q1, q2]; grind
  rcases A3 with w | w
  · exact c1 (par c (by omega))
  · exact c2 (par d (by omega))
/-! stops -/
def srt (U W : Pt) (m : Nat) (s : Nat → Pt) : Prop := s 0 = U ∧ (∀ j k, j < k → k ≤ m → bet U (s k) (s j) ∧ s j ≠ s k) ∧ ∀ k, k ≤ m → bet U W (s k) ∧ s k ≠ W
def insAt (s : Nat → Pt) (k : Nat) (a : Pt) : Nat → Pt := fun j => if j < k then s j else if j = k then a else s (j - 1)
theorem insAt_lt {s : Nat → Pt} {k j : Nat} {a : Pt} (h : j < k) : insAt s k a j = s j := if_pos h
theorem insAt_eq {s : Nat → Pt} {k : Nat} {a : Pt} : insAt s k a k = a := by unfold insAt; rw [if_neg (by omega), if_pos rfl]
theorem insAt_gt {s : Nat → Pt} {k j : Nat} {a : Pt} (h : k < j) : insAt s k a j = s (j - 1) := by unfold insAt; rw [if_neg (by omega), if_neg (by omega)]
theorem srt_ins {U W a : Pt} {m k : Nat} {s : Nat → Pt} (h : srt U W m s) (ha : bet U W a) (h2 : a ≠ W) (hd : ∀ j, j ≤ m → a ≠ s j) (k0 : 0 < k) (km : k ≤ m + 1) (lo : ∀ j, j < k → bet U a (s j)) (hi : ∀ j, k ≤ j → j ≤ m → bet U (s j) a) : srt U W (m + 1) (insAt s k a) := by
  obtain ⟨s0, ord, on⟩ := h
  refine ⟨by rw [insAt_lt k0, s0], fun i j hij hj => ?_, fun j hj => ?_⟩
  · by_cases c1 : j < k
    · rw [insAt_lt c1, insAt_lt (show i < k by omega)]; exact ord i j hij (by omega)
    · by_cases c2 : j = k
      · subst c2
        rw [insAt_eq, insAt_lt hij]; exact ⟨lo i hij, (hd i (by omega)).symm⟩
      · rw [insAt_gt (show k < j by omega)]
        by_cases c3 : i < k
        · rw [insAt_lt c3]; exact ord i (j - 1) (by omega) (by omega)
        · by_cases c4 : i = k
          · subst c4; rw [insAt_eq]; exact ⟨hi (j - 1) (by omega) (by omega), hd (j - 1) (by omega)⟩
          · rw [insAt_gt (show k < i by omega)]; exact ord (i - 1) (j - 1) (by omega) (by omega)
  · by_cases c1 : j < k
    · rw [insAt_lt c1]; exact on j (by omega)
    · by_cases c2 : j = k
      · subst c2; rw [insAt_eq]; exact ⟨ha, h2⟩
      · rw [insAt_gt (show k < j by omega)]; exact on (j - 1) (by omega)
theorem bet_tot {U W x y : Pt} (hx : bet U W x) (hy : bet U W y) : bet U x y ∨ bet U y x := by
  rcases bet_split hx hy with h | h
  · exact Or.inl h
  · right
    rcases bet_split hy hx with k | k
    · exact k
    · have : x = y := by
        by_cases e : U = W
        · subst e; rw [bet_eq hx, bet_eq hy]
        · rcases bet_split (bet_rev hx) (bet_rev hy) with r | r
          · rcases bet_split (bet_rev hy) (bet_rev hx) with r2 | r2
            · have a1 := r.2
              have a2 := r2.2
              have a3 := hx.2
              have a4 := hy.2
              unfold boxP at a1 a2 a3 a4
              apply Prod.ext <;> omega
            · exact (bet_mid hy (bet_rev r2) k)
          · exact (bet_mid hx (bet_rev r) h).symm
      rw [this]; exact bet_b _ _
/-- the places before a and behind it -/
theorem srt_place {U W a : Pt} {m k : Nat} {s : Nat → Pt} (h : srt U W m s) (ha : bet U W a) (k0 : 0 < k) (km : k ≤ m + 1) (hk : k = 1 ∨ ¬ bet U (s (k - 1)) a) : ∀ j, j < k → bet U a (s j) := by
  obtain ⟨s0, ord, on⟩ := h
  rcases hk with rfl | hk
  · intro j hj
    obtain rfl : j = 0 := by omega
    rw [s0]; exact bet_a _ _
  · have c : bet U a (s (k - 1)) := by
      rcases bet_tot ha (on (k - 1) (by omega)).1 with r | r
      · exact r
      · exact absurd r hk
    intro j hj
    by_cases q : j = k - 1
    · subst q; exact c
    · exact bet_tr c (ord j (k - 1) (by omega) (by omega)).1
theorem srt_end {v : Nat → Pt} {U W : Pt} {m : Nat} {s : Nat → Pt} (h : srt U W m s) (hin : ∀ j, 0 < j → j ≤ m → ∃ i, s j = v i) (hall : ∀ i, bet U W (v i) → v i ≠ U → v i ≠ W → ∃ j, j ≤ m ∧ s j = v i) {s' : Nat → Pt} (e : ∀ j, j ≤ m → s' j = s j) (e2 : s' (m + 1) = W) : stopsOf v U W (m + 1) s' := by
  obtain ⟨s0, ord, on⟩ := h
  refine ⟨by omega, by rw [e 0 (by omega), s0], e2, fun j k hj hk => ?_, fun j h1 h2 => ?_, fun i hb => ?_⟩
  · by_cases q : k = m + 1
    · subst q; rw [e2, e j (by omega)]; exact on j (by omega)
    · rw [e j (by omega), e k (by omega)]; exact ord j k hj (by omega)
  · rw [e j (by omega)]; exact hin j h1 (by omega)
  · by_cases c1 : v i = U
    · exact ⟨0, by omega, by rw [e 0 (by omega), s0, c1]⟩
    · by_cases c2 : v i = W
      · exact ⟨m + 1, by omega, by rw [e2, c2]⟩
      · obtain ⟨j, hj, ej⟩ := hall i hb c1 c2
        exact ⟨j, by omega, by rw [e j hj, ej]⟩
theorem stops_ex {v : Nat → Pt} {n : Nat} (h : soundS v n) {U W : Pt} (hne : U ≠ W) : ∃ m s, stopsOf v U W m s := by
  have key : ∀ r, ∃ m s, srt U W m s ∧ (∀ j, 0 < j → j ≤ m → ∃ i, i < r ∧ s j = v i) ∧ ∀ i, i < r → bet U W (v i) → v i ≠ U → v i ≠ W → ∃ j, j ≤ m ∧ s j = v i := by
    intro r
    induction r with
    | zero => exact ⟨0, fun _ => U, ⟨rfl, fun j k h1 h2 => by omega, fun k _ => ⟨bet_a _ _, hne⟩⟩, fun j h1 h2 => by omega, fun i hi => by omega⟩
    | succ r ih =>
      obtain ⟨m, s, hs, hin, hall⟩ := ih
      by_cases c : bet U W (v r) ∧ v r ≠ U ∧ v r ≠ W ∧ ∀ j, j ≤ m → v r ≠ s j
      · obtain ⟨c1, c2, c3, c4⟩ := c
        have pl : ∃ k, 0 < k ∧ k ≤ m + 1 ∧ (k = 1 ∨ ¬ bet U (s (k - 1)) (v r)) ∧ ∀ j, k ≤ j → j ≤ m → bet U (s j) (v r) := by
          refine Classical.byContradiction fun no => ?_
          have down : ∀ t, t ≤ m → ∀ j, m + 1 - t ≤ j → j ≤ m → bet U (s j) (v r) := by
            intro t
            induction t with
            | zero => intro _ j h1 h2; omega
            | succ t iht =>
              intro ht j h1 h2
              by_cases q : m + 1 - t ≤ j
              · exact iht (by omega) j q h2
              · obtain rfl : j = m - t := by omega
                exact Classical.byContradiction fun nb => no ⟨m - t + 1, by omega, by omega, Or.inr (by rw [show m - t + 1 - 1 = m - t by omega]; exact nb), fun j h1 h2 => iht (by omega) j (by omega) h2⟩
          exact no ⟨1, by omega, by omega, Or.inl rfl, fun j h1 h2 => down m (Nat.le_refl _) j (by omega) h2⟩
        obtain ⟨k, k0, km, kk, khi⟩ := pl
        have ns := srt_ins hs c1 c3 c4 k0 km (srt_place hs c1 k0 km kk) khi
        refine ⟨m + 1, insAt s k (v r), ns, fun j h1 h2 => ?_, fun i hi b n1 n2 => ?_⟩
        · by_cases q1 : j < k
          · rw [insAt_lt q1]; obtain ⟨i, hi, e⟩ := hin j h1 (by omega); exact ⟨i, by omega, e⟩
          · by_cases q2 : j = k
            · subst q2; exact ⟨r, by omega, insAt_eq⟩
            · rw [insAt_gt (show k < j by omega)]
              obtain ⟨i, hi, e⟩ := hin (j - 1) (by omega) (by omega); exact ⟨i, by omega, e⟩
        · by_cases q : i = r
          · subst q; exact ⟨k, by omega, insAt_eq⟩
          · obtain ⟨j, hj, e⟩ := hall i (by omega) b n1 n2
            by_cases q1 : j < k
            · exact ⟨j, by omega, by rw [insAt_lt q1, e]⟩
            · exact ⟨j + 1, by omega, by rw [insAt_gt (show k < j + 1 by omega)]; exact e⟩
      · refine ⟨m, s, hs, fun j h1 h2 => by obtain ⟨i, hi, e⟩ := hin j h1 h2; exact ⟨i, by omega, e⟩, fun i hi b n1 n2 => ?_⟩
        by_cases q : i = r
        · subst q
          refine Classical.byContradiction fun no => c ⟨b, n1, n2, fun j hj e => no ⟨j, hj, e.symm⟩⟩
        · exact hall i (by omega) b n1 n2
  obtain ⟨m, s, hs, hin, hall⟩ := key n
  refine ⟨m + 1, fun j => if j = m + 1 then W else s j, srt_end hs (fun j h1 h2 => by obtain ⟨i, -, e⟩ := hin j h1 h2; exact ⟨i, e⟩) (fun i b n1 n2 => ?_) (fun j hj => if_neg (by omega)) (if_pos rfl)⟩
  obtain ⟨i', hi, e, -⟩ := per_edge h i
  rw [e] at b n1 n2 ⊢
  exact hall i' hi b n1 n2
