/-! ===== join: shared edges ===== -/
def uniq (R : Nat → Prop) (n b : Nat) : Prop := b < n ∧ R b ∧ ∀ j, j < n → R j → j = b
theorem cnt_zero {R : Nat → Prop} {n : Nat} (h : cnt R n = 0) : ∀ j, j < n → ¬ R j := by
  induction n with
  | zero => intro j hj; omega
  | succ n ih =>
    intro j hj r
    by_cases q : R n
    · rw [cnt_t q] at h; omega
    · rw [cnt_f q] at h
      by_cases e : j = n
      · subst e; exact q r
      · exact ih h j (by omega) r
theorem cnt_none {R : Nat → Prop} {n : Nat} (h : ∀ j, j < n → ¬ R j) : cnt R n = 0 := by
  induction n with
  | zero => rfl
  | succ n ih => rw [cnt_f (h n (by omega))]; exact ih (fun j hj => h j (by omega))
theorem cnt_one {R : Nat → Prop} {n : Nat} (h : cnt R n = 1) : ∃ b, uniq R n b := by
  induction n with
  | zero => exact absurd (show (0 : Nat) = 1 from h) (by decide)
  | succ n ih =>
    by_cases q : R n
    · rw [cnt_t q] at h
      have z := cnt_zero (R := R) (n := n) (by omega)
      exact ⟨n, by omega, q, fun j hj r => by
        by_cases e : j = n
        · exact e
        · exact absurd r (z j (by omega))⟩
    · rw [cnt_f q] at h
      obtain ⟨b, h1, h2, h3⟩ := ih h
      exact ⟨b, by omega, h2, fun j hj r => by
        by_cases e : j = n
        · subst e; exact absurd r q
        · exact h3 j (by omega) r⟩
theorem uniq_cnt {R : Nat → Prop} {n b : Nat} (h : uniq R n b) : cnt R n = 1 := by
  induction n with
  | zero => exact absurd h.1 (by omega)
  | succ n ih =>
    by_cases q : R n
    · rw [cnt_t q, cnt_none (fun j hj r => by have := h.2.2 j (by omega) r; have := h.2.2 n (by omega) q; omega)]
    · rw [cnt_f q]
      have : b ≠ n := fun e => q (e ▸ h.2.1)
      exact ih ⟨by have := h.1; omega, h.2.1, fun j hj r => h.2.2 j (by omega) r⟩
theorem one_uniq {R : Nat → Prop} {n b : Nat} (h : uniq R n b) : oneI R n = nI b := by
  unfold oneI
  rw [fst1_some (R := R) h.1 h.2.1 (fun j hj r => by have := h.1; have := h.2.2 j (by omega) r; omega)]
  exact if_neg (fun ⟨j, h1, h2, h3⟩ => by have := h.2.2 j h2 h3; omega)
theorem one_none {R : Nat → Prop} {n : Nat} (h : ¬ cnt R n = 1) : oneI R n = -1 := by
  unfold oneI
  rcases fst1_cases R n with ⟨k, hk, r, mn, e⟩ | ⟨-, e⟩
  · rw [e]
    refine if_pos (Classical.byContradiction fun z => h ?_)
    refine uniq_cnt (b := k) ⟨hk, r, fun j hj rj => ?_⟩
    have a : ¬ j < k := fun q => mn j q rj
    have b : ¬ k < j := fun q => z ⟨j, q, hj, rj⟩
    omega
  · rw [e]
/-- the last one so far, or 0 -/
noncomputable def lastS (R : Nat → Prop) : Nat → Nat
  | 0 => 0
  | n + 1 => @ite _ (R n) (Classical.propDecidable _) n (lastS R n)
theorem lastS_t {R : Nat → Prop} {n : Nat} (h : R n) : lastS R (n + 1) = n := by
  show @ite _ (R n) (Classical.propDecidable _) n (lastS R n) = n
  rw [if_pos h]
theorem lastS_f {R : Nat → Prop} {n : Nat} (h : ¬ R n) : lastS R (n + 1) = lastS R n := by
  show @ite _ (R n) (Classical.propDecidable _) n (lastS R n) = _
  rw [if_neg h]
theorem lastS_le (R : Nat → Prop) : ∀ n, lastS R n ≤ n := by
  intro n
  induction n with
  | zero => exact Nat.le_refl _
  | succ n ih =>
    by_cases q : R n
    · rw [lastS_t q]; omega
    · rw [lastS_f q]; omega
theorem lastS_uniq {R : Nat → Prop} {n b : Nat} (h : uniq R n b) : lastS R n = b := by
  induction n with
  | zero => exact absurd h.1 (by omega)
  | succ n ih =>
    by_cases q : R n
    · rw [lastS_t q]; exact h.2.2 n (by omega) q
    · rw [lastS_f q]
      have : b ≠ n := fun e => q (e ▸ h.2.1)
      exact ih ⟨by have := h.1; omega, h.2.1, fun j hj r => h.2.2 j (by omega) r⟩
theorem cnt_front (R : Nat → Prop) : ∀ n, cnt R (n + 1) = cnt (fun t => R (t + 1)) n + cnt R 1 := by
  intro n
  induction n with
  | zero => show cnt R 1 = 0 + cnt R 1; omega
  | succ n ih =>
    by_cases q : R (n + 1)
    · rw [cnt_t q, ih, cnt_t (R := fun t => R (t + 1)) q]; omega
    · rw [cnt_f q, ih, cnt_f (R := fun t => R (t + 1)) q]
theorem cnt_rot {R : Nat → Prop} {n : Nat} (per : ∀ i, R (i + n) ↔ R i) : ∀ b, cnt (fun t => R (b + t)) n = cnt R n := by
  intro b
  induction b with
  | zero => exact cnt_congr _ (fun k _ => by rw [Nat.zero_add])
  | succ b ih =>
    have f := cnt_front (fun t => R (b + t)) n
    have e : cnt (fun t => R (b + (t + 1))) n = cnt (fun t => R (b + 1 + t)) n := cnt_congr _ (fun k _ => by rw [show b + (k + 1) = b + 1 + k by omega])
    have e1 : cnt (fun t => R (b + t)) (n + 1) = cnt (fun t => R (b + t)) n + cnt (fun t => R (b + t)) 1 := by
      by_cases q : R b
      · have q2 : R (b + n) := (per b).mpr q
        rw [cnt_t (R := fun t => R (b + t)) q2, cnt_t (R := fun t => R (b + t)) (n := 0) (by show R (b + 0); exact q)]; rfl
      · have q2 : ¬ R (b + n) := fun z => q ((per b).mp z)
        rw [cnt_f (R := fun t => R (b + t)) q2, cnt_f (R := fun t => R (b + t)) (n := 0) (by show ¬ R (b + 0); exact q)]; rfl
    rw [← e, ← ih]
    have f : cnt (fun t => R (b + t)) (n + 1) = cnt (fun t => R (b + (t + 1))) n + cnt (fun t => R (b + t)) 1 := f
    omega
theorem cnt_below {D : Nat → Prop} {n : Nat} (dn : ∀ t, t + 1 < n → D (t + 1) → D t) : ∀ t, t < n → (D t ↔ t < cnt D n) := by
  have key : ∀ m, m ≤ n → (∀ t, t < m → (D t ↔ t < cnt D m)) := by
    intro m
    induction m with
    | zero => intro _ t ht; omega
    | succ m ih =>
      intro hm t ht
      have ihm := ih (by omega)
      by_cases q : D m
      · have all : ∀ u, u ≤ m → D (m - u) := by
          intro u
          induction u with
          | zero => intro _; exact q
          | succ u ihu =>
            intro hu
            have := ihu (by omega)
            rw [show m - u = m - (u + 1) + 1 by omega] at this
            exact dn _ (by omega) this
        have c : cnt D m = m := by
          by_cases z : cnt D m < m
          · have h1 := all (m - cnt D m) (by omega)
            rw [show m - (m - cnt D m) = cnt D m by omega] at h1
            have := (ihm _ z).mp h1
            omega
          · have := cnt_le D m; omega
        rw [cnt_t q, c]
        refine ⟨fun _ => ht, fun _ => ?_⟩
        have := all (m - t) (by omega)
        rw [show m - (m - t) = t by omega] at this
        exact this
      · rw [cnt_f q]
        by_cases e : t = m
        · subst e
          have := cnt_le D t
          exact ⟨fun z => absurd z q, fun z => by omega⟩
        · exact ihm t (by omega)
  exact key n (Nat.le_refl _)
/-- edge k of d is edge i of c the other way round -/
def rev (c : Nat → Nat) (n : Nat) (d : Nat → Nat) (m i k : Nat) : Prop := d (k % m) = c ((i + 1) % n) ∧ d ((k + 1) % m) = c (i % n)
theorem rev_mod {c d : Nat → Nat} {n m i k : Nat} : rev c n d m (i % n) k ↔ rev c n d m i k := by unfold rev; rw [Nat.mod_mod, Nat.mod_add_mod]
theorem shE_rev {c d : Nat → Nat} {n m i : Nat} : shE c n d m i ↔ ∃ k, k < m ∧ rev c n d m i k := by
  constructor
  · rintro ⟨k, hk, a, b⟩; exact ⟨k, hk, by rw [Nat.mod_eq_of_lt hk]; exact a, b⟩
  · rintro ⟨k, hk, a, b⟩; exact ⟨k, hk, by rw [Nat.mod_eq_of_lt hk] at a; exact a, b⟩
theorem rev_swap {c d : Nat → Nat} {n m i k : Nat} (h : rev c n d m i k) : rev d m c n k i := ⟨h.2.symm, h.1.symm⟩
theorem shE_of {c d : Nat → Nat} {n m i k : Nat} (m0 : 0 < m) (h : rev c n d m i k) : shE c n d m i := shE_rev.mpr ⟨k % m, Nat.mod_lt _ m0, by unfold rev at h ⊢; rw [Nat.mod_mod, Nat.mod_add_mod]; exact h⟩
theorem shE_per (c : Nat → Nat) (n : Nat) (d : Nat → Nat) (m i : Nat) : shE c n d m (i + n) ↔ shE c n d m i := by rw [← shE_mod, Nat.add_mod_right, shE_mod]

theorem join_comb {c d : Nat → Nat} {n m b : Nat} (n2 : 2 ≤ n) (m2 : 2 ≤ m) (ic : ∀ i j, i < n → j < n → c i = c j → i = j) (id' : ∀ i j, i < m → j < m → d i = d j → i = j) (u : uniq (stE c n d m) n b) : 0 < cnt (shE c n d m) n ∧ cnt (shE c n d m) n < n ∧ cnt (shE c n d m) n < m ∧ ∃ y, uniq (stE d m c n) m y ∧ ∀ k, k < m → rev c n d m b k → (y + cnt (shE c n d m) n) % m = (k + 1) % m := by
  have icm : ∀ i j, c (i % n) = c (j % n) → i % n = j % n := fun i j e => ic _ _ (Nat.mod_lt _ (by omega)) (Nat.mod_lt _ (by omega)) e
  have idm : ∀ i j, d (i % m) = d (j % m) → i % m = j % m := fun i j e => id' _ _ (Nat.mod_lt _ (by omega)) (Nat.mod_lt _ (by omega)) e
  obtain ⟨hb, ⟨hb1, hb2⟩, hu⟩ := u
  have start : ∀ i, i < n → shE c n d m i → ¬ shE c n d m (i + n - 1) → i = b := fun i hi a z => hu i hi ⟨a, fun q => z ((shE_mod c n d m _).mp q)⟩
  have hb2 : ¬ shE c n d m (b + n - 1) := fun z => hb2 ((shE_mod c n d m _).mpr z)
  -- the shared edges are b, b + 1, ..
  have dn : ∀ t, t + 1 < n → shE c n d m (b + (t + 1)) → shE c n d m (b + t) := by
    intro t ht a
    refine Classical.byContradiction fun z => ?_
    have e := start ((b + (t + 1)) % n) (Nat.mod_lt _ (by omega)) ((shE_mod c n d m _).mpr a) (fun q => z ?_)
    · by_cases l : b + (t + 1) < n
      · rw [Nat.mod_eq_of_lt l] at e; omega
      · rw [Nat.mod_eq_sub_mod (by omega), Nat.mod_eq_of_lt (by omega)] at e; omega
    · by_cases l : b + (t + 1) < n
      · rw [Nat.mod_eq_of_lt l, show b + (t + 1) + n - 1 = b + t + n by omega, shE_per] at q; exact q
      · rw [Nat.mod_eq_sub_mod (by omega), Nat.mod_eq_of_lt (by omega), show b + (t + 1) - n + n - 1 = b + t by omega] at q; exact q
  have bel := cnt_below (D := fun t => shE c n d m (b + t)) dn
  rw [cnt_rot (R := shE c n d m) (shE_per c n d m) b] at bel
  obtain ⟨s, hs⟩ : ∃ s, s = cnt (shE c n d m) n := ⟨_, rfl⟩
  rw [← hs] at bel ⊢
  have s0 : 0 < s := (bel 0 (by omega)).mp hb1
  have sn : s < n := by
    have l := cnt_le (shE c n d m) n
    have : ¬ n - 1 < s := fun z => hb2 (by have := (bel (n - 1) (by omega)).mpr z; rw [show b + (n - 1) = b + n - 1 by omega] at this; exact this)
    omega
  have kt : ∀ t, t < s → ∃ k, k < m ∧ rev c n d m (b + t) k := fun t ht => shE_rev.mp ((bel t (by omega)).mpr ht)
  have step : ∀ i k k', rev c n d m i k → rev c n d m (i + 1) k' → (k' + 1) % m = k % m := fun i k k' a b => idm _ _ (b.2.trans a.1.symm)
  obtain ⟨k0, hk0, r0⟩ := kt 0 s0
  rw [Nat.add_zero] at r0
  have pos : ∀ t, t < s → ∀ k, k < m → rev c n d m (b + t) k → (k + t) % m = k0 := by
    intro t
    induction t with
    | zero =>
      intro _ k hk r
      rw [Nat.add_zero] at r ⊢
      have := idm _ _ (r.1.trans r0.1.symm)
      rw [this, Nat.mod_eq_of_lt hk0]
    | succ t ih =>
      intro ht k hk r
      obtain ⟨k1, hk1, r1⟩ := kt t (by omega)
      have e := step (b + t) k1 k r1 r
      have := ih (by omega) k1 hk1 r1
      rw [show k + (t + 1) = k + 1 + t by omega, ← Nat.mod_add_mod, e, Nat.mod_eq_of_lt hk1]
      exact this
  have sm : s < m := by
    refine Classical.byContradiction fun z => ?_
    obtain ⟨k, hk, r⟩ := kt (m - 1) (by omega)
    have p := pos (m - 1) (by omega) k hk r
    have e1 : k % m = (k0 + 1) % m := by
      rw [← p, Nat.mod_add_mod, show k + (m - 1) + 1 = k + m by omega, Nat.add_mod_right]
    have e2 : c ((b + (m - 1) + 1) % n) = c (b % n) := by rw [← r.1, e1]; exact r0.2
    have e3 := icm _ _ e2
    rw [show b + (m - 1) + 1 = b + m by omega, Nat.mod_eq_of_lt hb] at e3
    by_cases l : b + m < n
    · rw [Nat.mod_eq_of_lt l] at e3; omega
    · rw [Nat.mod_eq_sub_mod (by omega), Nat.mod_eq_of_lt (by omega)] at e3; omega
  obtain ⟨y, hy, ry⟩ := kt (s - 1) (by omega)
  have py := pos (s - 1) (by omega) y hy ry
  refine ⟨s0, sn, sm, y, ⟨hy, ⟨shE_of (by omega) (rev_swap ry), fun z => ?_⟩, fun y' hy' ⟨a1, a2⟩ => ?_⟩, fun k hk r => ?_⟩
  · have z := (shE_mod d m c n _).mp z
    obtain ⟨i, hi, ri⟩ := shE_rev.mp z
    have r2 := rev_swap ri
    have e1 : d ((y + m - 1 + 1) % m) = d (y % m) := by rw [show y + m - 1 + 1 = y + m by omega, Nat.add_mod_right]
    have e2 : c (i % n) = c ((b + (s - 1) + 1) % n) := by rw [← r2.2, e1]; exact ry.1
    have e3 := icm _ _ e2
    have sh : shE c n d m i := shE_of (by omega) r2
    rw [← shE_mod, e3, shE_mod, show b + (s - 1) + 1 = b + s by omega] at sh
    have := (bel s (by omega)).mp sh
    omega
  · obtain ⟨i, hi, ri⟩ := shE_rev.mp a1
    have r2 := rev_swap ri
    have sh : shE c n d m i := shE_of (by omega) r2
    -- i is b + t
    have ht : ∃ t, t < n ∧ (b + t) % n = i := by
      by_cases l : b ≤ i
      · exact ⟨i - b, by omega, by rw [show b + (i - b) = i by omega, Nat.mod_eq_of_lt hi]⟩
      · exact ⟨i + n - b, by omega, by rw [show b + (i + n - b) = i + n by omega, Nat.add_mod_right, Nat.mod_eq_of_lt hi]⟩
    obtain ⟨t, htn, e⟩ := ht
    have sh2 : shE c n d m (b + t) := by rw [← shE_mod, e]; exact sh
    have hts := (bel t htn).mp sh2
    have r3 : rev c n d m (b + t) y' := by rw [← rev_mod, e]; exact r2
    by_cases l : t = s - 1
    · subst l
      have := idm _ _ (r3.1.trans ry.1.symm)
      rw [Nat.mod_eq_of_lt hy', Nat.mod_eq_of_lt hy] at this
      exact this
    · exfalso
      apply a2
      obtain ⟨k1, hk1, r1⟩ := kt (t + 1) (by omega)
      have st := step (b + t) y' k1 r3 r1
      have e5 : (y' + m - 1) % m = k1 := by
        rw [Nat.mod_eq_of_lt hy'] at st
        rw [← st]
        by_cases l : k1 + 1 < m
        · rw [Nat.mod_eq_of_lt l, show k1 + 1 + m - 1 = k1 + m by omega, Nat.add_mod_right, Nat.mod_eq_of_lt hk1]
        · rw [show k1 + 1 = m by omega, Nat.mod_self, Nat.mod_eq_of_lt (by omega)]; omega
      rw [e5]
      exact shE_of (by omega) (rev_swap r1)
  · have p0 := pos 0 s0 k hk r
    rw [Nat.add_zero, Nat.mod_eq_of_lt hk] at p0
    rw [p0, ← py, Nat.mod_add_mod, show y + (s - 1) + 1 = y + s by omega]
noncomputable def rvI (c : Nat → Nat) (n : Nat) (d : Nat → Nat) (m i : Nat) : Int32 := match fst1 (rev c n d m i) m with
  | some k => nI k
  | none => -1
theorem rvI_k {c d : Nat → Nat} {n m i : Nat} (m2 : m < 2 ^ 31) (id' : ∀ i j, i < m → j < m → d i = d j → i = j) {x : Int32} (h : (x = -1 ∧ ∀ k, k < m → ¬ rev c n d m i k) ∨ ∃ k, k < m ∧ rev c n d m i k ∧ x = nI k) : x = rvI c n d m i := by
  unfold rvI
  rcases h with ⟨e, no⟩ | ⟨k, hk, r, e⟩
  · rw [fst1_none (R := rev c n d m i) no]; exact e
  · rw [fst1_some (R := rev c n d m i) hk r (fun j hj z => by
      have e2 : d (j % m) = d (k % m) := z.1.trans r.1.symm
      rw [Nat.mod_eq_of_lt (by omega), Nat.mod_eq_of_lt hk] at e2
      have := id' _ _ (by omega) hk e2
      omega)]; exact e
theorem rvI_sh {c d : Nat → Nat} {n m i : Nat} (m2 : m < 2 ^ 31) : rvI c n d m i = -1 ↔ ¬ shE c n d m i := by
  unfold rvI
  rw [shE_rev]
  rcases fst1_cases (rev c n d m i) m with ⟨k, hk, r, -, e⟩ | ⟨no, e⟩
  · simp only [e]
    exact ⟨fun z => absurd z (nI_ne_m1 (by omega)), fun z => absurd ⟨k, hk, r⟩ z⟩
  · simp only [e]
    exact ⟨fun _ ⟨k, hk, r⟩ => no k hk r, fun _ => trivial⟩
theorem rvI_at {c d : Nat → Nat} {n m i : Nat} (h : shE c n d m i) : ∃ k, k < m ∧ rev c n d m i k ∧ rvI c n d m i = nI k := by
  unfold rvI
  rcases fst1_cases (rev c n d m i) m with ⟨k, hk, r, -, e⟩ | ⟨no, e⟩
  · exact ⟨k, hk, r, by simp only [e]⟩
  · obtain ⟨k, hk, r⟩ := shE_rev.mp h
    exact absurd r (no k hk)

theorem rv_no {R : Nat → Prop} {j : Nat} {x : Int32} (h : (x = -1 ∧ ∀ k, k < j → ¬ R k) ∨ ∃ k, k < j ∧ R k ∧ x = nI k) (no : ¬ R j) : (x = -1 ∧ ∀ k, k < j + 1 → ¬ R k) ∨ ∃ k, k < j + 1 ∧ R k ∧ x = nI k := by
  rcases h with ⟨e, a⟩ | ⟨k, hk, r, e⟩
  · refine Or.inl ⟨e, fun k hk => ?_⟩
    by_cases q : k = j
    · subst q; exact no
    · exact a k (by omega)
  · exact Or.inr ⟨k, by omega, r, e⟩
theorem sp_X9_reverse (S : xS) {p n q m i : Nat} {c d : Nat → Nat} (h : mpr S p n c) (g : mpr S q m d) (hi : i < 1000) (id' : ∀ i j, i < m → j < m → d i = d j → i = j) : Sp mX9_reverse [.ref 0, .int (nI p), .int (nI i), .int (nI q)] S (fun r S' => r = some (.int (rvI c n d m i)) ∧ S' = S) := by
  have hp := h.1
  have hq := g.1
  have m12 := g.2.2.1
  have b1 : ∀ k, d (k % m) < 2 ^ 31 := fun k => by have := (g.2.2.2.2 _ (Nat.mod_lt k g.2.1)).2; omega
  have b2 : ∀ k, c (k % n) < 2 ^ 31 := fun k => by have := (h.2.2.2.2 _ (Nat.mod_lt k h.2.1)).2; omega
  have loop : ∀ μ j, j + μ = m → ∀ x, ∀ S1, (S1 = S ∧ ((x = -1 ∧ ∀ k, k < j → ¬ rev c n d m i k) ∨ ∃ k, k < j ∧ rev c n d m i k ∧ x = nI k)) → XP mX9_reverse 6 [(5, .int (nI j)), (4, .int x), (0, .ref 0), (1, .int (nI p)), (2, .int (nI i)), (3, .int (nI q))] [] (xwS S1) (sQ (fun r S' => r = some (.int (rvI c n d m i)) ∧ S' = S)) := by
    intro μ
    induction μ with
    | zero =>
      intro j hk x S1 h1
      obtain ⟨rfl, hx⟩ := h1
      refine x_iload eX9_reverse_6 rfl ?_
      refine x_aload_n eX9_reverse_8 rfl ?_
      refine s_getR (k := 15) eX9_reverse_9 fX9_58 rfl (by decide) (by decide) rfl ?_
      refine x_iload_n eX9_reverse_12 rfl ?_
      refine s_iald eX9_reverse_13 rfl (by decide) rfl (show _ < 60 by omega) ?_
      rw [g.2.2.2.1]
      have hm : j = m := by omega
      rw [hm] at hx
      refine x_icmp_geN eX9_reverse_14 (by omega) (by omega) (fun c_14 => ?_) (fun c_14 => ?_)
      · refine x_iload eX9_reverse_68 rfl ?_
        exact s_iret eX9_reverse_70 rfl rfl ⟨by rw [← rvI_k (c := c) (n := n) (i := i) (by omega) id' hx], rfl⟩
      · omega
    | succ μ ih =>
      intro j hk x S1 h1
      obtain ⟨rfl, hx⟩ := h1
      refine x_iload eX9_reverse_6 rfl ?_
      refine x_aload_n eX9_reverse_8 rfl ?_
      refine s_getR (k := 15) eX9_reverse_9 fX9_58 rfl (by decide) (by decide) rfl ?_
      refine x_iload_n eX9_reverse_12 rfl ?_
      refine s_iald eX9_reverse_13 rfl (by decide) rfl (show _ < 60 by omega) ?_
      rw [g.2.2.2.1]
      refine x_icmp_geN eX9_reverse_14 (by omega) (by omega) (fun c_14 => ?_) (fun c_14 => ?_)
      · omega
      · refine x_aload_n eX9_reverse_17 rfl ?_
        refine x_iload_n eX9_reverse_18 rfl ?_
        refine x_iload eX9_reverse_19 rfl ?_
        refine s_callV1 (As := [_, _]) eX9_reverse_21 kX9_241 ⟨by decide, by decide⟩ rfl (by decide) (by decide) rfl rfl (Nat.le_of_ble_eq_true rfl) (Nat.le_of_ble_eq_true rfl) (sp_X9_of _ g (by omega)) (fun S_21 h_21 => ?_)
        have h_21 := h_21.symm
        subst h_21
        refine x_aload_n eX9_reverse_24 rfl ?_
        refine x_iload_n eX9_reverse_25 rfl ?_
        refine x_iload_n eX9_reverse_26 rfl ?_
        refine x_iconst (v := nI 1) eX9_reverse_27 (by decide) ?_
        first | refine x_iaddN eX9_reverse_28 ?_ | refine x_iadd eX9_reverse_28 ?_
        refine s_callV1 (As := [_, _]) eX9_reverse_29 kX9_241 ⟨by decide, by decide⟩ rfl (by decide) (by decide) rfl rfl (Nat.le_of_ble_eq_true rfl) (Nat.le_of_ble_eq_true rfl) (sp_X9_of _ h (by omega)) (fun S_29 h_29 => ?_)
        have h_29 := h_29.symm
        subst h_29
        refine x_icmp_ne eX9_reverse_32 (fun c_32 => ?_) (fun c_32 => ?_)
        · refine x_iload eX9_reverse_58 rfl ?_
          refine x_istore (lv' := [_, _, _, _, _, _]) eX9_reverse_60 (by decide) rfl ?_
          refine x_iinc (lv' := [_, _, _, _, _, _]) eX9_reverse_62 rfl (by first | exact nI_inc _ | exact rfl) (by decide) rfl ?_
          refine x_goto eX9_reverse_65 ?_
          refine x_pick [0, 1, 2, 3, 4, 5] rfl ?_
          refine ih (j + 1) (by omega) _ _ ⟨rfl, ?_⟩
          first
            | exact rv_no hx (fun z => c_32 (congrArg nI z.1))
            | exact rv_no hx (fun z => c_50 (congrArg nI z.2))
            | exact Or.inr ⟨j, Nat.lt_succ_self j, ⟨(nI_eq (b1 _) (b2 _)).mp c_32, (nI_eq (b1 _) (b2 _)).mp c_50⟩, rfl⟩
        · refine x_aload_n eX9_reverse_35 rfl ?_
          refine x_iload_n eX9_reverse_36 rfl ?_
          refine x_iload eX9_reverse_37 rfl ?_
          refine x_iconst (v := nI 1) eX9_reverse_39 (by decide) ?_
          first | refine x_iaddN eX9_reverse_40 ?_ | refine x_iadd eX9_reverse_40 ?_
          refine s_callV1 (As := [_, _]) eX9_reverse_41 kX9_241 ⟨by decide, by decide⟩ rfl (by decide) (by decide) rfl rfl (Nat.le_of_ble_eq_true rfl) (Nat.le_of_ble_eq_true rfl) (sp_X9_of _ g (by omega)) (fun S_41 h_41 => ?_)
          have h_41 := h_41.symm
          subst h_41
          refine x_aload_n eX9_reverse_44 rfl ?_
          refine x_iload_n eX9_reverse_45 rfl ?_
          refine x_iload_n eX9_reverse_46 rfl ?_
          refine s_callV1 (As := [_, _]) eX9_reverse_47 kX9_241 ⟨by decide, by decide⟩ rfl (by decide) (by decide) rfl rfl (Nat.le_of_ble_eq_true rfl) (Nat.le_of_ble_eq_true rfl) (sp_X9_of _ h (by omega)) (fun S_47 h_47 => ?_)
          have h_47 := h_47.symm
          subst h_47
          refine x_icmp_ne eX9_reverse_50 (fun c_50 => ?_) (fun c_50 => ?_)
          · refine x_iload eX9_reverse_58 rfl ?_
            refine x_istore (lv' := [_, _, _, _, _, _]) eX9_reverse_60 (by decide) rfl ?_
            refine x_iinc (lv' := [_, _, _, _, _, _]) eX9_reverse_62 rfl (by first | exact nI_inc _ | exact rfl) (by decide) rfl ?_
            refine x_goto eX9_reverse_65 ?_
            refine x_pick [0, 1, 2, 3, 4, 5] rfl ?_
            refine ih (j + 1) (by omega) _ _ ⟨rfl, ?_⟩
            first
              | exact rv_no hx (fun z => c_32 (congrArg nI z.1))
              | exact rv_no hx (fun z => c_50 (congrArg nI z.2))
              | exact Or.inr ⟨j, Nat.lt_succ_self j, ⟨(nI_eq (b1 _) (b2 _)).mp c_32, (nI_eq (b1 _) (b2 _)).mp c_50⟩, rfl⟩
          · refine x_iload eX9_reverse_53 rfl ?_
            refine x_goto eX9_reverse_55 ?_
            refine x_istore (lv' := [_, _, _, _, _, _]) eX9_reverse_60 (by decide) rfl ?_
            refine x_iinc (lv' := [_, _, _, _, _, _]) eX9_reverse_62 rfl (by first | exact nI_inc _ | exact rfl) (by decide) rfl ?_
            refine x_goto eX9_reverse_65 ?_
            refine x_pick [0, 1, 2, 3, 4, 5] rfl ?_
            refine ih (j + 1) (by omega) _ _ ⟨rfl, ?_⟩
            first
              | exact rv_no hx (fun z => c_32 (congrArg nI z.1))
              | exact rv_no hx (fun z => c_50 (congrArg nI z.2))
              | exact Or.inr ⟨j, Nat.lt_succ_self j, ⟨(nI_eq (b1 _) (b2 _)).mp c_32, (nI_eq (b1 _) (b2 _)).mp c_50⟩, rfl⟩
  show XP _ _ [_, _, _, _] _ _ _
  refine x_iconst (v := -1) eX9_reverse_0 (by decide) ?_
  refine x_istore (lv' := [_, _, _, _, _]) eX9_reverse_1 (by decide) rfl ?_
  refine x_iconst (v := nI 0) eX9_reverse_3 (by decide) ?_
  refine x_istore (lv' := [_, _, _, _, _, _]) eX9_reverse_4 (by decide) rfl ?_
  refine x_pick [0, 1, 2, 3, 4, 5] rfl ?_
  exact loop m 0 (by omega) _ S ⟨rfl, Or.inl ⟨rfl, fun k hk => by omega⟩⟩
