/-! ===== the hull of sorted points: its chain as both sides build it ===== -/
def lxp (u : Pt) : Prop := 0 < u.1 ∨ (u.1 = 0 ∧ 0 < u.2)
theorem lx_of {a b : Pt} (h : ltP a b = true) : lxp (b.1 - a.1, b.2 - a.2) := by
  rcases (ltP_t a b).mp h with z | z
  · exact Or.inl (by show 0 < b.1 - a.1; omega)
  · exact Or.inr ⟨by show b.1 - a.1 = 0; omega, by show 0 < b.2 - a.2; omega⟩
def cx (u v : Pt) : Int := u.1 * v.2 - u.2 * v.1
theorem cx_tr {u v w : Pt} (hu : lxp u) (hv : lxp v) (hw : lxp w) (h1 : 0 ≤ cx w u) (h2 : 0 ≤ cx u v) : 0 ≤ cx w v := by
  have v1 : 0 ≤ v.1 := by rcases hv with z | z <;> omega
  have w1 : 0 ≤ w.1 := by rcases hw with z | z <;> omega
  rcases hu with z | ⟨z1, z2⟩
  · have id : u.1 * cx w v = w.1 * cx u v + v.1 * cx w u := by unfold cx; grind
    have a := Int.mul_nonneg w1 h2
    have b := Int.mul_nonneg v1 h1
    by_cases q : 0 ≤ cx w v
    · exact q
    · have := Int.mul_neg_of_pos_of_neg z (Int.not_le.mp q)
      omega
  · have e : cx u v = -(u.2 * v.1) := by unfold cx; rw [z1, Int.zero_mul]; omega
    have v0 : v.1 = 0 := by
      by_cases q : v.1 = 0
      · exact q
      · have := Int.mul_pos z2 (show 0 < v.1 by omega)
        omega
    have v2 : 0 ≤ v.2 := by rcases hv with z | z <;> omega
    have := Int.mul_nonneg w1 v2
    unfold cx
    rw [v0, Int.mul_zero]
    omega
theorem or_cx (a b c : Pt) : orP a b c = cx (b.1 - a.1, b.2 - a.2) (c.1 - a.1, c.2 - a.2) := by unfold orP cx; grind
theorem hl_A {a b x c : Pt} (h1 : ltP a b = true) (h2 : ltP a x = true) (h3 : ltP a c = true) (k1 : 0 ≤ orP a b x) (k2 : orP a b c ≤ 0) : 0 ≤ orP a c x := by
  rw [or_cx]
  refine cx_tr (lx_of h1) (lx_of h2) (lx_of h3) ?_ ?_
  · rw [← or_cx, or_p1]; omega
  · rw [← or_cx]; exact k1
theorem hl_B {a b x c : Pt} (h1 : ltP a b = true) (h2 : ltP x b = true ∨ x = b) (h3 : ltP b c = true) (k1 : 0 ≤ orP a b x) (k2 : 0 ≤ orP a b c) : 0 ≤ orP b c x := by
  rcases h2 with h2 | h2
  · have e1 : orP b c x = cx (b.1 - x.1, b.2 - x.2) (c.1 - b.1, c.2 - b.2) := by unfold orP cx; grind
    rw [e1]
    refine cx_tr (lx_of h1) (lx_of h3) (lx_of h2) ?_ ?_
    · have : orP a b x = cx (b.1 - x.1, b.2 - x.2) (b.1 - a.1, b.2 - a.2) := by unfold orP cx; grind
      omega
    · have : orP a b c = cx (b.1 - a.1, b.2 - a.2) (c.1 - b.1, c.2 - b.2) := by unfold orP cx; grind
      omega
  · rw [h2, or_self1]; omega
theorem hl_C {a b d c : Pt} (h1 : ltP a b = true) (h2 : ltP b d = true) (h3 : ltP b c = true) (k1 : 0 ≤ orP a b d) (k2 : 0 ≤ orP b d c) : 0 ≤ orP a b c := by
  have e1 : orP a b c = cx (b.1 - a.1, b.2 - a.2) (c.1 - b.1, c.2 - b.2) := by unfold orP cx; grind
  rw [e1]
  refine cx_tr (lx_of h2) (lx_of h3) (lx_of h1) ?_ ?_
  · have : orP a b d = cx (b.1 - a.1, b.2 - a.2) (d.1 - b.1, d.2 - b.2) := by unfold orP cx; grind
    omega
  · rw [← or_cx]; exact k2
theorem hl_D {v d u t : Pt} (h1 : ltP v d = true) (h2 : ltP v u = true) (h3 : ltP t v = true) (k1 : 0 ≤ orP v d u) (k2 : 0 ≤ orP v d t) : ¬ 0 < orP u v t := by
  have e1 : orP u v t = -cx (v.1 - t.1, v.2 - t.2) (u.1 - v.1, u.2 - v.2) := by unfold orP cx; grind
  have : 0 ≤ cx (v.1 - t.1, v.2 - t.2) (u.1 - v.1, u.2 - v.2) := by
    refine cx_tr (lx_of h1) (lx_of h2) (lx_of h3) ?_ ?_
    · have : orP v d t = cx (v.1 - t.1, v.2 - t.2) (d.1 - v.1, d.2 - v.2) := by unfold orP cx; grind
      omega
    · rw [← or_cx]; exact k1
  omega
theorem ltP_ir (a : Pt) : ¬ ltP a a = true := fun h => by
  rcases (ltP_t a a).mp h with z | z <;> omega
theorem ltP_as {a b : Pt} (h : ltP a b = true) : ¬ ltP b a = true := fun g => by
  rcases (ltP_t a b).mp h with z | z <;> rcases (ltP_t b a).mp g with y | y <;> omega
theorem ltP_tr {a b c : Pt} (h : ltP a b = true) (g : ltP b c = true) : ltP a c = true := by
  apply (ltP_t a c).mpr
  rcases (ltP_t a b).mp h with z | z <;> rcases (ltP_t b c).mp g with y | y <;> omega
/-- how many of k stay when c comes -/
noncomputable def pops (Q : Nat → Pt) (r : Nat → Nat) (c least : Nat) : Nat → Nat
  | 0 => 0
  | k + 1 => if least < k + 1 ∧ orP (Q (r (k - 1))) (Q (r k)) (Q c) ≤ 0 then pops Q r c least k else k + 1
theorem pops_le (Q : Nat → Pt) (r : Nat → Nat) (c least : Nat) : ∀ k, pops Q r c least k ≤ k := by
  intro k
  induction k with
  | zero => exact Nat.le_refl _
  | succ k ih =>
    unfold pops
    split
    · omega
    · exact Nat.le_refl _
theorem pops_y {Q : Nat → Pt} {r : Nat → Nat} {c least k : Nat} (h1 : least < k + 1) (h2 : orP (Q (r (k - 1))) (Q (r k)) (Q c) ≤ 0) : pops Q r c least (k + 1) = pops Q r c least k := by
  show (if _ then _ else _) = _
  rw [if_pos ⟨h1, h2⟩]
theorem pops_n {Q : Nat → Pt} {r : Nat → Nat} {c least k : Nat} (h : ¬ (least < k + 1 ∧ orP (Q (r (k - 1))) (Q (r k)) (Q c) ≤ 0)) : pops Q r c least (k + 1) = k + 1 := by
  show (if _ then _ else _) = _
  rw [if_neg h]
theorem pops_congr {Q Q' : Nat → Pt} {r r' : Nat → Nat} {c least : Nat} : ∀ k, (∀ i, i < k → r i = r' i) → (∀ i, i < k → ∀ j, j < k → orP (Q (r i)) (Q (r j)) (Q c) = orP (Q' (r i)) (Q' (r j)) (Q' c)) → pops Q r c least k = pops Q' r' c least k := by
  intro k
  induction k with
  | zero => intro _ _; rfl
  | succ k ih =>
    intro h g
    have e : orP (Q (r (k - 1))) (Q (r k)) (Q c) = orP (Q' (r' (k - 1))) (Q' (r' k)) (Q' c) := by
      rw [g (k - 1) (by omega) k (by omega), h (k - 1) (by omega), h k (by omega)]
    unfold pops
    rw [e, ih (fun i hi => h i (by omega)) (fun i hi j hj => g i (by omega) j (by omega))]
theorem pops_ok {Q : Nat → Pt} {g r : Nat → Nat} {b j c : Nat} (hc : ∀ m, m < j → ltP (Q (g m)) (Q c) = true) (h0 : r b = g 0) (hmin : ∀ m, m < j → m = 0 ∨ ltP (Q (g 0)) (Q (g m)) = true) : ∀ k, b < k → (∀ i, b ≤ i → i + 1 < k → ltP (Q (r i)) (Q (r (i + 1))) = true) → (∀ i, b ≤ i → i + 1 < k → ∀ m, m < j → 0 ≤ orP (Q (r i)) (Q (r (i + 1))) (Q (g m))) → (∀ i, b ≤ i → i < k → ∃ m, m < j ∧ r i = g m) → (∀ m, m < j → ltP (Q (r (k - 1))) (Q (g m)) = true → 0 ≤ orP (Q (r (k - 1))) (Q c) (Q (g m))) →
    b < pops Q r c (b + 1) k ∧ (pops Q r c (b + 1) k = b + 1 ∨ 0 < orP (Q (r (pops Q r c (b + 1) k - 2))) (Q (r (pops Q r c (b + 1) k - 1))) (Q c)) ∧ ∀ m, m < j → 0 ≤ orP (Q (r (pops Q r c (b + 1) k - 1))) (Q c) (Q (g m)) := by
  intro k
  induction k with
  | zero => intro h; omega
  | succ k ih =>
    intro hb inc sup mem aft
    have lc : ∀ i, b ≤ i → i < k + 1 → ltP (Q (r i)) (Q c) = true := fun i h1 h2 => by
      obtain ⟨m, hm, e⟩ := mem i h1 h2
      rw [e]; exact hc m hm
    by_cases cd : b + 1 < k + 1 ∧ orP (Q (r (k - 1))) (Q (r k)) (Q c) ≤ 0
    · rw [pops_y cd.1 cd.2]
      refine ih (by omega) (fun i a z => inc i a (by omega)) (fun i a z => sup i a (by omega)) (fun i a z => mem i a (by omega)) (fun m hm lt => ?_)
      have i1 := inc (k - 1) (by omega) (by omega)
      have s1 := sup (k - 1) (by omega) (by omega) m hm
      rw [show k - 1 + 1 = k by omega] at i1 s1
      exact hl_A i1 lt (lc (k - 1) (by omega) (by omega)) s1 cd.2
    · rw [pops_n cd]
      refine ⟨hb, ?_, fun m hm => ?_⟩
      · by_cases q : b + 1 < k + 1
        · refine Or.inr ?_
          rw [show k + 1 - 2 = k - 1 by omega, show k + 1 - 1 = k by omega]
          exact Int.not_le.mp (fun z => cd ⟨q, z⟩)
        · exact Or.inl (by omega)
      · rw [show k + 1 - 1 = k by omega] at aft ⊢
        rcases lt_tri (Q (r k)) (Q (g m)) with z | z | z
        · exact aft m hm z
        · rw [← z, or_self1]; omega
        · by_cases q : b = k
          · subst q
            rw [h0] at z
            rcases hmin m hm with y | y
            · rw [y] at z; exact absurd z (ltP_ir _)
            · exact absurd z (ltP_as y)
          · have i1 := inc (k - 1) (by omega) (by omega)
            have s1 := sup (k - 1) (by omega) (by omega) m hm
            rw [show k - 1 + 1 = k by omega] at i1 s1
            exact hl_B i1 (Or.inl z) (lc k (by omega) (by omega)) s1 (by
              by_cases y : orP (Q (r (k - 1))) (Q (r k)) (Q c) ≤ 0
              · exact absurd ⟨by omega, y⟩ cd
              · omega)
/-- the chain from place b on, when the first j of g have come -/
def HI (Q : Nat → Pt) (g : Nat → Nat) (b j k : Nat) (r : Nat → Nat) : Prop := b < k ∧ r b = g 0 ∧ r (k - 1) = g (j - 1) ∧ (∀ i, b ≤ i → i + 1 < k → ltP (Q (r i)) (Q (r (i + 1))) = true) ∧ (∀ i, b ≤ i → i + 2 < k → 0 < orP (Q (r i)) (Q (r (i + 1))) (Q (r (i + 2)))) ∧ (∀ i, b ≤ i → i + 1 < k → ∀ m, m < j → 0 ≤ orP (Q (r i)) (Q (r (i + 1))) (Q (g m))) ∧ ∀ i, b ≤ i → i < k → ∃ m, m < j ∧ r i = g m
theorem HI_step {Q : Nat → Pt} {g r : Nat → Nat} {b j k : Nat} (h : HI Q g b j k r) (hj : 0 < j) (srt : ∀ i i', i < i' → i' ≤ j → ltP (Q (g i)) (Q (g i')) = true) :
    HI Q g b (j + 1) (pops Q r (g j) (b + 1) k + 1) (fun i => if i = pops Q r (g j) (b + 1) k then g j else r i) ∧ b < pops Q r (g j) (b + 1) k ∧ (pops Q r (g j) (b + 1) k = b + 1 ∨ 0 < orP (Q (r (pops Q r (g j) (b + 1) k - 2))) (Q (r (pops Q r (g j) (b + 1) k - 1))) (Q (g j))) := by
  obtain ⟨hb, h0, hl, inc, str, sup, mem⟩ := h
  have hc : ∀ m, m < j → ltP (Q (g m)) (Q (g j)) = true := fun m hm => srt m j hm (Nat.le_refl _)
  have pk := pops_ok (Q := Q) (g := g) (r := r) (b := b) (j := j) (c := g j) hc h0 (fun m hm => by
    by_cases q : m = 0
    · exact Or.inl q
    · exact Or.inr (srt 0 m (by omega) (by omega))) k hb inc sup mem (fun m hm lt => by
    exfalso
    rw [hl] at lt
    by_cases q : m = j - 1
    · rw [q] at lt; exact ltP_ir _ lt
    · exact ltP_as lt (srt m (j - 1) (by omega) (by omega)))
  have ple := pops_le Q r (g j) (b + 1) k
  generalize pops Q r (g j) (b + 1) k = K at pk ple ⊢
  obtain ⟨p1, p2, p3⟩ := pk
  have lc : ∀ i, b ≤ i → i < K → ltP (Q (r i)) (Q (g j)) = true := fun i h1 h2 => by
    obtain ⟨m, hm, e⟩ := mem i h1 (by omega)
    rw [e]; exact hc m hm
  have old : ∀ i, i < K → (fun i => if i = K then g j else r i) i = r i := fun i hi => if_neg (by omega)
  have new : (fun i => if i = K then g j else r i) K = g j := if_pos rfl
  have supc : ∀ d i, i + 2 + d = K → b ≤ i → 0 ≤ orP (Q (r i)) (Q (r (i + 1))) (Q (g j)) := by
    intro d
    induction d with
    | zero =>
      intro i hi hbi
      rcases p2 with z | z
      · omega
      · rw [show K - 2 = i by omega, show K - 1 = i + 1 by omega] at z
        omega
    | succ d ih =>
      intro i hi hbi
      have := ih (i + 1) (by omega) (by omega)
      exact hl_C (inc i hbi (by omega)) (inc (i + 1) (by omega) (by omega)) (lc (i + 1) (by omega) (by omega)) (Int.le_of_lt (str i hbi (by omega))) this
  refine ⟨⟨by omega, ?_, ?_, fun i hi hk => ?_, fun i hi hk => ?_, fun i hi hk m hm => ?_, fun i hi hk => ?_⟩, p1, p2⟩
  · rw [old b p1]; exact h0
  · rw [show K + 1 - 1 = K by omega, show j + 1 - 1 = j by omega]; exact new
  · rw [old i (by omega)]
    by_cases q : i + 1 = K
    · rw [q, new]; exact lc i hi (by omega)
    · rw [old (i + 1) (by omega)]; exact inc i hi (by omega)
  · rw [old i (by omega), old (i + 1) (by omega)]
    by_cases q : i + 2 = K
    · rw [q, new]
      rcases p2 with z | z
      · omega
      · rw [show K - 2 = i by omega, show K - 1 = i + 1 by omega] at z
        exact z
    · rw [old (i + 2) (by omega)]; exact str i hi (by omega)
  · rw [old i (by omega)]
    by_cases q : i + 1 = K
    · rw [q, new]
      by_cases y : m = j
      · rw [y, or_self2]; omega
      · have := p3 m (by omega)
        rw [show K - 1 = i by omega] at this
        exact this
    · rw [old (i + 1) (by omega)]
      by_cases y : m = j
      · rw [y]; exact supc (K - i - 2) i (by omega) hi
      · exact sup i hi (by omega) m (by omega)
  · by_cases q : i = K
    · rw [q]; exact ⟨j, by omega, new⟩
    · rw [old i (by omega)]
      obtain ⟨m, hm, e⟩ := mem i hi (by omega)
      exact ⟨m, by omega, e⟩
theorem pigeon : ∀ (n k : Nat) (r : Nat → Nat), (∀ i, i < k → r i < n) → (∀ i j, i < k → j < k → r i = r j → i = j) → k ≤ n := by
  intro n
  induction n with
  | zero =>
    intro k r h _
    by_cases q : k = 0
    · omega
    · have := h 0 (by omega); omega
  | succ n ih =>
    intro k r h g
    by_cases q : ∃ i, i < k ∧ r i = n
    · obtain ⟨i, hi, e⟩ := q
      have := ih (k - 1) (fun j => if j < i then r j else r (j + 1)) (fun j hj => by
        show (if j < i then r j else r (j + 1)) < n
        by_cases z : j < i
        · rw [if_pos z]
          have a := h j (by omega)
          have b : r j ≠ n := fun y => by have := g j i (by omega) hi (by rw [y, e]); omega
          omega
        · rw [if_neg z]
          have a := h (j + 1) (by omega)
          have b : r (j + 1) ≠ n := fun y => by have := g (j + 1) i (by omega) hi (by rw [y, e]); omega
          omega) (fun a b ha hb e2 => by
        have e2 : (if a < i then r a else r (a + 1)) = (if b < i then r b else r (b + 1)) := e2
        by_cases y : a < i <;> by_cases z : b < i
        · rw [if_pos y, if_pos z] at e2; exact g a b (by omega) (by omega) e2
        · rw [if_pos y, if_neg z] at e2; have := g a (b + 1) (by omega) (by omega) e2; omega
        · rw [if_neg y, if_pos z] at e2; have := g (a + 1) b (by omega) (by omega) e2; omega
        · rw [if_neg y, if_neg z] at e2; have := g (a + 1) (b + 1) (by omega) (by omega) e2; omega)
      omega
    · have := ih k r (fun i hi => by
        have a := h i hi
        have b : r i ≠ n := fun z => q ⟨i, hi, z⟩
        omega) g
      omega
/-- a corner comes: the chain behind it -/
noncomputable def cm (P : Nat → Pt) (c least : Nat) (s : Nat × (Nat → Nat)) : Nat × (Nat → Nat) := (pops P s.2 c least s.1 + 1, fun i => if i = pops P s.2 c least s.1 then c else s.2 i)
noncomputable def fwd (P : Nat → Pt) (f : Nat → Nat) : Nat → Nat × (Nat → Nat)
  | 0 => (0, fun _ => 0)
  | j + 1 => cm P (f j) 1 (fwd P f j)
noncomputable def bwd (P : Nat → Pt) (f : Nat → Nat) (n : Nat) : Nat → Nat × (Nat → Nat)
  | 0 => fwd P f n
  | j + 1 => cm P (f (n - 2 - j)) (fwd P f n).1 (bwd P f n j)
def ngP (P : Nat → Pt) : Nat → Pt := fun s => (-(P s).1, -(P s).2)
theorem or_ng (P : Nat → Pt) (a b c : Nat) : orP (ngP P a) (ngP P b) (ngP P c) = orP (P a) (P b) (P c) := by unfold orP ngP; grind
theorem lt_ng (P : Nat → Pt) (a b : Nat) : ltP (ngP P a) (ngP P b) = ltP (P b) (P a) := by
  unfold ltP ngP
  apply decide_eq_decide.mpr
  constructor <;> intro h <;> dsimp only at * <;> omega
theorem pops_ng (P : Nat → Pt) (r : Nat → Nat) (c l k : Nat) : pops (ngP P) r c l k = pops P r c l k := pops_congr k (fun _ _ => rfl) (fun _ _ _ _ => or_ng P _ _ _)
theorem fwd_le (P : Nat → Pt) (f : Nat → Nat) : ∀ j, (fwd P f j).1 ≤ j := by
  intro j
  induction j with
  | zero => exact Nat.le_refl _
  | succ j ih =>
    show pops P _ _ _ _ + 1 ≤ _
    have := pops_le P (fwd P f j).2 (f j) 1 (fwd P f j).1
    omega
theorem fwd_one (P : Nat → Pt) (f : Nat → Nat) : (fwd P f (0 + 1)).1 = 1 ∧ (fwd P f (0 + 1)).2 0 = f 0 := ⟨rfl, by show (if 0 = 0 then f 0 else 0) = f 0; exact if_pos rfl⟩
theorem fwd_HI {P : Nat → Pt} {f : Nat → Nat} {n : Nat} (srt : ∀ i i', i < i' → i' < n → ltP (P (f i)) (P (f i')) = true) : ∀ j, 0 < j → j ≤ n → HI P f 0 j (fwd P f j).1 (fwd P f j).2 := by
  intro j
  induction j with
  | zero => intro h; omega
  | succ j ih =>
    intro _ hn
    by_cases q : j = 0
    · subst q
      refine ⟨by show 0 < 0 + 1; omega, (fwd_one P f).2, (fwd_one P f).2, fun i _ h => ?_, fun i _ h => ?_, fun i _ h => ?_, fun i _ h => ⟨0, by omega, ?_⟩⟩
      · exact absurd h (by show ¬ i + 1 < 0 + 1; omega)
      · exact absurd h (by show ¬ i + 2 < 0 + 1; omega)
      · exact absurd h (by show ¬ i + 1 < 0 + 1; omega)
      · have h : i < 0 + 1 := h
        obtain rfl : i = 0 := (by omega)
        exact (fwd_one P f).2
    · exact (HI_step (ih (by omega) (by omega)) (by omega) (fun i i' h1 h2 => srt i i' h1 (by omega))).1
/-- the way back: the chain's upper part, and how long all may get -/
theorem bwd_HI {P : Nat → Pt} {f : Nat → Nat} {n nc : Nat} (n2 : 2 ≤ n) (srt : ∀ i i', i < i' → i' < n → ltP (P (f i)) (P (f i')) = true) (fc : ∀ i, i < n → f i < nc) : ∀ j, j < n → HI (ngP P) (fun i => f (n - 1 - i)) ((fwd P f n).1 - 1) (j + 1) (bwd P f n j).1 (bwd P f n j).2 ∧ (∀ i, i < (fwd P f n).1 → (bwd P f n j).2 i = (fwd P f n).2 i) ∧ (0 < j → (bwd P f n j).1 ≤ nc + 1) := by
  have hf := fwd_HI srt n (by omega) (Nat.le_refl _)
  obtain ⟨f1, f2, f3, f4, f5, f6, f7⟩ := hf
  intro j
  induction j with
  | zero =>
    intro _
    refine ⟨⟨by show _ - 1 < (fwd P f n).1; omega, ?_, ?_, fun i h1 h2 => ?_, fun i h1 h2 => ?_, fun i h1 h2 => ?_, fun i h1 h2 => ⟨0, by omega, ?_⟩⟩, fun i _ => rfl, fun h => by omega⟩
    · exact f3
    · show (fwd P f n).2 ((fwd P f n).1 - 1) = _; exact f3
    · have h2 : i + 1 < (fwd P f n).1 := h2; omega
    · have h2 : i + 2 < (fwd P f n).1 := h2; omega
    · have h2 : i + 1 < (fwd P f n).1 := h2; omega
    · have h2 : i < (fwd P f n).1 := h2
      obtain rfl : i = (fwd P f n).1 - 1 := (by omega)
      exact f3
  | succ j ih =>
    intro hj
    obtain ⟨hI, low, -⟩ := ih (by omega)
    have srt2 : ∀ i i', i < i' → i' ≤ j + 1 → ltP (ngP P (f (n - 1 - i))) (ngP P (f (n - 1 - i'))) = true := fun i i' a b => by
      rw [lt_ng]; exact srt _ _ (by omega) (by omega)
    have st := HI_step hI (by omega) srt2
    obtain ⟨st, kb, ex⟩ := st
    have e1 : n - 1 - (j + 1) = n - 2 - j := by omega
    have e2 : (fwd P f n).1 - 1 + 1 = (fwd P f n).1 := by omega
    rw [pops_ng, e1, e2] at st kb ex
    have low2 : ∀ i, i < (fwd P f n).1 → (bwd P f n (j + 1)).2 i = (fwd P f n).2 i := fun i hi => by
      show (if i = pops P (bwd P f n j).2 (f (n - 2 - j)) (fwd P f n).1 (bwd P f n j).1 then _ else _) = _
      rw [if_neg (by omega)]
      exact low i hi
    refine ⟨st, low2, fun _ => ?_⟩
    show pops P (bwd P f n j).2 (f (n - 2 - j)) (fwd P f n).1 (bwd P f n j).1 + 1 ≤ nc + 1
    have ple := pops_le P (bwd P f n j).2 (f (n - 2 - j)) (fwd P f n).1 (bwd P f n j).1
    generalize hK : pops P (bwd P f n j).2 (f (n - 2 - j)) (fwd P f n).1 (bwd P f n j).1 = K at st kb ex ple ⊢
    generalize hF : (fwd P f n).1 = F at *
    generalize hR : (bwd P f n j).2 = R at *
    generalize hk : (bwd P f n j).1 = k at *
    obtain ⟨g1, g2, g3, g4, g5, g6, g7⟩ := hI
    obtain ⟨s1, s2, s3, s4, s5, s6, s7⟩ := st
    -- entries before the new one are apart
    have mono1 : ∀ d i, i + d + 1 < F → ltP (P (R i)) (P (R (i + d + 1))) = true := by
      intro d
      induction d with
      | zero => intro i h; rw [low i (by omega), low (i + 0 + 1) (by omega)]; exact f4 i (by omega) (by omega)
      | succ d ih2 =>
        intro i h
        refine ltP_tr (ih2 i (by omega)) ?_
        rw [low (i + d + 1) (by omega), low (i + (d + 1) + 1) (by omega)]
        exact f4 (i + d + 1) (by omega) (by omega)
    have mono2 : ∀ d i, F - 1 ≤ i → i + d + 1 < k → ltP (P (R (i + d + 1))) (P (R i)) = true := by
      intro d
      induction d with
      | zero => intro i h1 h2; have := g4 i h1 h2; rw [lt_ng] at this; exact this
      | succ d ih2 =>
        intro i h1 h2
        refine ltP_tr ?_ (ih2 i h1 (by omega))
        have := g4 (i + d + 1) (by omega) (by omega)
        rw [lt_ng] at this
        exact this
    have rold : ∀ i, i < K → (fun i => if i = K then f (n - 2 - j) else R i) i = R i := fun i hi => if_neg (by omega)
    have memR : ∀ i, F - 1 ≤ i → i < k → ∃ m, m < n ∧ R i = f m := fun i h1 h2 => by
      obtain ⟨m, hm, e⟩ := g7 i h1 h2
      exact ⟨n - 1 - m, by omega, e⟩
    have cross : ∀ i i', i < F → F ≤ i' → i' < K → R i ≠ R i' := by
      intro i i' h1 h2 h3 e
      -- u before, t behind R i' in the new chain
      have su := s4 (i' - 1) (by omega) (by omega)
      have stt := s4 i' (by omega) (by omega)
      have s5' := s5 (i' - 1) (by omega) (by omega)
      rw [rold (i' - 1) (by omega), show i' - 1 + 1 = i' by omega, rold i' h3, lt_ng] at su
      rw [rold i' h3, lt_ng] at stt
      rw [or_ng, rold (i' - 1) (by omega), show i' - 1 + 1 = i' by omega, show i' - 1 + 2 = i' + 1 by omega, rold i' h3] at s5'
      generalize hT : (fun i => if i = K then f (n - 2 - j) else R i) (i' + 1) = tt at stt s5'
      have tm : ∃ m, m < n ∧ tt = f m := by
        rw [← hT]
        by_cases q : i' + 1 = K
        · exact ⟨n - 2 - j, by omega, by show (if i' + 1 = K then f (n - 2 - j) else R (i' + 1)) = _; rw [if_pos q]⟩
        · show ∃ m, m < n ∧ (if i' + 1 = K then f (n - 2 - j) else R (i' + 1)) = f m
          rw [if_neg q]
          exact memR (i' + 1) (by omega) (by omega)
      obtain ⟨mt, hmt, et⟩ := tm
      obtain ⟨mu, hmu, eu⟩ := memR (i' - 1) (by omega) (by omega)
      rw [← e] at su stt s5'
      rw [low i h1] at su stt s5'
      by_cases q : i + 1 < F
      · have k1 := f6 i (by omega) (by omega) mu hmu
        have k2 := f6 i (by omega) (by omega) mt hmt
        rw [eu] at su s5'
        rw [et] at stt s5'
        exact hl_D (f4 i (by omega) (by omega)) su stt k1 k2 s5'
      · obtain rfl : i = F - 1 := (by omega)
        rw [f3, eu] at su
        by_cases z : mu = n - 1
        · rw [z] at su; exact ltP_ir _ su
        · exact ltP_as su (srt mu (n - 1) (by omega) (by omega))
    have inj : ∀ i i', i < i' → i' < K → R i ≠ R i' := by
      intro i i' h1 h2 e
      by_cases a : i' < F
      · have := mono1 (i' - i - 1) i (by omega)
        rw [show i + (i' - i - 1) + 1 = i' by omega, e] at this
        exact ltP_ir _ this
      · by_cases b : F ≤ i
        · have := mono2 (i' - i - 1) i (by omega) (by omega)
          rw [show i + (i' - i - 1) + 1 = i' by omega, e] at this
          exact ltP_ir _ this
        · exact cross i i' (by omega) (by omega) h2 e
    have := pigeon nc K R (fun i hi => by
      by_cases a : i < F
      · obtain ⟨m, hm, e⟩ := f7 i (by omega) (by omega)
        rw [low i a, e]; exact fc m hm
      · obtain ⟨m, hm, e⟩ := memR i (by omega) (by omega)
        rw [e]; exact fc m hm) (fun a b ha hb e => by
      by_cases q : a < b
      · exact absurd e (inj a b q hb)
      · by_cases q2 : b < a
        · exact absurd e.symm (inj b a q2 ha)
        · omega)
    omega
/-- sorted rows of the same corners are alike -/
theorem srt_uniq {P : Nat → Pt} {In : Nat → Prop} {n m : Nat} {f g : Nat → Nat} (hf : ∀ i, i < n → In (f i)) (hg : ∀ i, i < m → In (g i)) (cf : ∀ c, In c → ∃ i, i < n ∧ f i = c) (cg : ∀ c, In c → ∃ i, i < m ∧ g i = c) (sf : ∀ i i', i < i' → i' < n → ltP (P (f i)) (P (f i')) = true) (sG : ∀ i i', i < i' → i' < m → ltP (P (g i)) (P (g i')) = true) : n = m ∧ ∀ i, i < n → f i = g i := by
  have key : ∀ {n m : Nat} {f g : Nat → Nat}, (∀ i, i < n → In (f i)) → (∀ i, i < m → In (g i)) → (∀ c, In c → ∃ i, i < n ∧ f i = c) → (∀ c, In c → ∃ i, i < m ∧ g i = c) → (∀ i i', i < i' → i' < n → ltP (P (f i)) (P (f i')) = true) → (∀ i i', i < i' → i' < m → ltP (P (g i)) (P (g i')) = true) → ∀ d i, i < d → i < n → i < m ∧ f i = g i := by
    intro n m f g hf hg cf cg sf sG d
    induction d with
    | zero => intro i h; omega
    | succ d ih =>
      intro i hi hn
      obtain ⟨k, hk, ek⟩ := cg (f i) (hf i hn)
      have ki : i ≤ k := by
        by_cases q : k < i
        · have := ih k (by omega) (by omega)
          have l := sf k i q hn
          rw [this.2, ek] at l
          exact absurd l (ltP_ir _)
        · omega
      refine ⟨by omega, ?_⟩
      by_cases q : k = i
      · rw [← q]; rw [← q] at ek; exact ek.symm
      · obtain ⟨k', hk', ek'⟩ := cf (g i) (hg i (by omega))
        have ki' : i ≤ k' := by
          by_cases q : k' < i
          · have := ih k' (by omega) (by omega)
            have l := sG k' i q (by omega)
            rw [← this.2, ek'] at l
            exact absurd l (ltP_ir _)
          · omega
        by_cases q' : k' = i
        · rw [← q', ek', q']
        · exfalso
          have l1 := sG i k (by omega) hk
          have l2 := sf i k' (by omega) hk'
          rw [ek] at l1
          rw [ek'] at l2
          exact ltP_as l1 l2
  have a := key hf hg cf cg sf sG
  have b := key hg hf cg cf sG sf
  have e : n = m := by
    by_cases q : n = 0
    · by_cases q2 : m = 0
      · omega
      · have := (b m (m - 1) (by omega) (by omega)).1; omega
    · have h1 := (a n (n - 1) (by omega) (by omega)).1
      have h2 := (b m (m - 1) (by omega) (by omega)).1
      omega
  exact ⟨e, fun i hi => (a (i + 1) i (by omega) hi).2⟩
/-- a corner set into a sorted row -/
def insR (f : Nat → Nat) (k c : Nat) : Nat → Nat := fun i => if i < k then f i else if i = k then c else f (i - 1)
theorem ins_srt {P : Nat → Pt} {f : Nat → Nat} {n k c : Nat} (sf : ∀ i i', i < i' → i' < n → ltP (P (f i)) (P (f i')) = true) (hk : k ≤ n) (lo : ∀ i, i < k → ltP (P (f i)) (P c) = true) (up : ∀ i, k ≤ i → i < n → ltP (P c) (P (f i)) = true) : ∀ i i', i < i' → i' < n + 1 → ltP (P (insR f k c i)) (P (insR f k c i')) = true := by
  intro i i' h1 h2
  unfold insR
  by_cases a : i < k
  · rw [if_pos a]
    by_cases b : i' < k
    · rw [if_pos b]; exact sf i i' h1 (by omega)
    · rw [if_neg b]
      by_cases d : i' = k
      · rw [if_pos d]; exact lo i a
      · rw [if_neg d]; exact sf i (i' - 1) (by omega) (by omega)
  · rw [if_neg a, if_neg (show ¬ i' < k by omega), if_neg (show ¬ i' = k by omega)]
    by_cases b : i = k
    · rw [if_pos b]; exact up (i' - 1) (by omega) (by omega)
    · rw [if_neg b]; exact sf (i - 1) (i' - 1) (by omega) (by omega)
theorem ins_mem {f : Nat → Nat} {n k c : Nat} (hk : k ≤ n) (x : Nat) : (∃ i, i < n + 1 ∧ insR f k c i = x) ↔ (x = c ∨ ∃ i, i < n ∧ f i = x) := by
  unfold insR
  constructor
  · rintro ⟨i, hi, e⟩
    by_cases a : i < k
    · rw [if_pos a] at e; exact Or.inr ⟨i, by omega, e⟩
    · rw [if_neg a] at e
      by_cases b : i = k
      · rw [if_pos b] at e; exact Or.inl e.symm
      · rw [if_neg b] at e; exact Or.inr ⟨i - 1, by omega, e⟩
  · rintro (e | ⟨i, hi, e⟩)
    · exact ⟨k, by omega, by rw [if_neg (by omega), if_pos rfl, e]⟩
    · by_cases a : i < k
      · exact ⟨i, by omega, by rw [if_pos a]; exact e⟩
      · exact ⟨i + 1, by omega, by rw [if_neg (by omega), if_neg (by omega)]; exact e⟩
