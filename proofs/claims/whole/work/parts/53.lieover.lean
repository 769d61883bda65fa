/-! ===== lieOver, both ways ===== -/
/-- the segment comes to the inside of the ring (the class's way to tell) -/
def goesP (v : Nat → Pt) (n : Nat) (U W : Pt) : Prop := (∃ k, k < n ∧ comP U W (v k) (v (k + 1)) = 1) ∨ startsIn v n U W ∨ ∃ i, v (i + 1) ≠ U ∧ v (i + 1) ≠ W ∧ bet U W (v (i + 1)) ∧ opn (v i) (v (i + 1)) (v (i + 2)) (dl (v (i + 1)) W)
/-- the segment lies along the ring -/
def alongP (v : Nat → Pt) (n : Nat) (U W : Pt) : Prop := ∀ N y, 0 < N → bet (scP N U) (scP N W) y → onN v n N y
def sep (p q : Nat → Pt) (l : Pt) : Prop := ∀ i k, lin l (p i) ≤ lin l (q k)
def frames (p q : Nat → Pt) : Prop := ¬ ∃ l, four l ∧ sep p q l
theorem goesP_sc {v : Nat → Pt} {n : Nat} {U W : Pt} (h : soundS v n) (hl : lefty v) (hne : U ≠ W) (g : goesP v n U W) : (∃ k, k < n ∧ comP U W (v k) (v (k + 1)) = 1) ∨ ∃ y, bet (scP 2 U) (scP 2 W) y ∧ inn (fun i => scP 2 (v i)) n y := by
  rcases Classical.em (∃ k, k < n ∧ comP U W (v k) (v (k + 1)) = 1) with c | c
  · exact Or.inl c
  right
  rcases g with g | g
  · exact absurd g c
  obtain ⟨m, s, hs⟩ := stops_ex h hne
  have hx : ∀ k, k < n → comP U W (v k) (v (k + 1)) ≠ 1 := fun k hk e => c ⟨k, hk, e⟩
  obtain ⟨mm, hmm⟩ : ∃ mm : Nat → Pt, mm = fun k => ((s k).1 + (s (k + 1)).1, (s k).2 + (s (k + 1)).2) := ⟨_, rfl⟩
  have two : (0 : Int) < 2 := by decide
  have hs2 : stopsOf (fun i => scP 2 (v i)) (scP 2 U) (scP 2 W) m (fun i => scP 2 (s i)) := by
    obtain ⟨m0, s0, sm, ord, inner, all⟩ := hs
    refine ⟨m0, by show scP 2 (s 0) = _; rw [s0], by show scP 2 (s m) = _; rw [sm], fun j k h1 h2 => ⟨(bet_sc two).mpr (ord j k h1 h2).1, fun e => (ord j k h1 h2).2 (sc_inj two e)⟩, fun j h1 h2 => ?_, fun i b => ?_⟩
    · obtain ⟨i, e⟩ := inner j h1 h2
      exact ⟨i, by show scP 2 (s j) = scP 2 (v i); rw [e]⟩
    · obtain ⟨j, hj, e⟩ := all i ((bet_sc two).mp b)
      exact ⟨j, hj, by show scP 2 (s j) = scP 2 (v i); rw [e]⟩
  have hm : ∀ k, k < m → mid ((fun i => scP 2 (s i)) k) ((fun i => scP 2 (s i)) (k + 1)) (mm k) := by
    intro k _
    rw [hmm]
    constructor <;> simp only [scP] <;> omega
  have osc : ∀ p q r : Pt, orP (scP 2 p) (scP 2 q) (scP 2 r) = 4 * orP p q r := fun p q r => by unfold orP scP; grind
  have hx2 : ∀ k, k < n → comP (scP 2 U) (scP 2 W) ((fun i => scP 2 (v i)) k) ((fun i => scP 2 (v i)) (k + 1)) ≠ 1 := by
    intro k hk e
    apply hx k hk
    rw [com1] at e ⊢
    simp only [osc] at e
    obtain ⟨e1, e2⟩ := e
    constructor
    · have : 4 * orP U W (v k) * (4 * orP U W (v (k + 1))) = 16 * (orP U W (v k) * orP U W (v (k + 1))) := by grind
      omega
    · have : 4 * orP (v k) (v (k + 1)) U * (4 * orP (v k) (v (k + 1)) W) = 16 * (orP (v k) (v (k + 1)) U * orP (v k) (v (k + 1)) W) := by grind
      omega
  have oq : ∀ a b c x y : Pt, opn (scP 2 a) (scP 2 b) (scP 2 c) (dl (scP 2 x) (scP 2 y)) ↔ opn a b c (dl x y) := by
    intro a b c x y
    have e : ∀ a b x y : Pt, cr (dl (scP 2 a) (scP 2 b)) (dl (scP 2 x) (scP 2 y)) = 4 * cr (dl a b) (dl x y) := fun a b x y => by unfold cr dl scP; grind
    unfold opn
    rw [osc, e, e]
    have k1 : (0 < 4 * orP a b c) ↔ 0 < orP a b c := by omega
    have k2 : (0 < 4 * cr (dl a b) (dl x y)) ↔ 0 < cr (dl a b) (dl x y) := by omega
    have k3 : (0 < 4 * cr (dl b c) (dl x y)) ↔ 0 < cr (dl b c) (dl x y) := by omega
    simp only [k1, k2, k3]
  have pi := pass_iff (sc_S two h) (sc_lefty two hl) hs2 hx2 hm
  have : ∃ k, k < m ∧ inn (fun i => scP 2 (v i)) n (mm k) := by
    rw [pi]
    rcases g with g | ⟨i, n1, n2, b, o⟩
    · left
      rcases g with ⟨g1, g2⟩ | ⟨i, e, o⟩ | ⟨k, hk, b, n1, n2, o⟩
      · exact Or.inl ⟨(off_sc two).mpr g1, by rw [← g2]; exact wnd_sc two _ _ _⟩
      · exact Or.inr (Or.inl ⟨i, by show _ = scP 2 (v (i + 1)); rw [e], (oq _ _ _ _ _).mpr o⟩)
      · refine Or.inr (Or.inr ⟨k, hk, (bet_sc two).mpr b, fun e => n1 (sc_inj two e), fun e => n2 (sc_inj two e), ?_⟩)
        show 0 < orP (scP 2 (v k)) (scP 2 (v (k + 1))) (scP 2 W)
        rw [osc]; omega
    · right
      refine ⟨i, fun e => n1 (sc_inj two e), fun e => n2 (sc_inj two e), (bet_sc two).mpr b, ?_⟩
      exact (oq _ _ _ _ _).mpr o
  obtain ⟨k, hk, hi⟩ := this
  exact ⟨mm k, bet_conv (stops_on hs2 (show k ≤ m by omega)) (stops_on hs2 (show k + 1 ≤ m by omega)) (mid_bet (hm k hk)), hi⟩
theorem goes_sep {p q : Nat → Pt} {m i : Nat} {l : Pt} (hl : four l) (hs : sep p q l) (hq : soundS q m) (lq : lefty q) (hne : p i ≠ p (i + 1)) : ¬ goesP q m (p i) (p (i + 1)) := by
  intro g
  rcases goesP_sc hq lq hne g with ⟨k, hk, c⟩ | ⟨y, b, hi⟩
  · exact cross_sep hl c (hs _ _) (hs _ _) (hs _ _) (hs _ _)
  · refine not_inn (sc_S (by decide) hq) hl (fun k => ?_) hi
    show lin l y ≤ lin l (scP 2 (q k))
    refine lin_le b ?_ ?_ <;> rw [lin_sc, lin_sc] <;> have := hs i k <;> have := hs (i + 1) k <;> omega
theorem sep_neg {p q : Nat → Pt} {l : Pt} (hl : four l) (hs : sep p q l) : four (-l.1, -l.2) ∧ sep q p (-l.1, -l.2) := by
  constructor
  · rcases hl with rfl | rfl | rfl | rfl
    · exact Or.inr (Or.inl rfl)
    · exact Or.inl rfl
    · exact Or.inr (Or.inr (Or.inr rfl))
    · exact Or.inr (Or.inr (Or.inl rfl))
  · intro i k
    have := hs k i
    unfold lin at this ⊢
    dsimp only
    rw [Int.neg_mul, Int.neg_mul, Int.neg_mul, Int.neg_mul]
    omega
theorem flat {p : Nat → Pt} (lp : lefty p) {l : Pt} (hl : four l) (h : ∀ i j, lin l (p i) ≤ lin l (p j)) : False := by
  obtain ⟨i, -, t⟩ := lp
  have e1 := h i (i + 1)
  have e2 := h (i + 1) i
  have e3 := h i (i + 2)
  have e4 := h (i + 2) i
  unfold lin at e1 e2 e3 e4
  unfold orP at t
  rcases hl with rfl | rfl | rfl | rfl <;> dsimp only at e1 e2 e3 e4
  · rw [show (p (i + 1)).1 = (p i).1 by omega, show (p (i + 2)).1 = (p i).1 by omega, Int.sub_self] at t; omega
  · rw [show (p (i + 1)).1 = (p i).1 by omega, show (p (i + 2)).1 = (p i).1 by omega, Int.sub_self] at t; omega
  · rw [show (p (i + 1)).2 = (p i).2 by omega, show (p (i + 2)).2 = (p i).2 by omega, Int.sub_self] at t; omega
  · rw [show (p (i + 1)).2 = (p i).2 by omega, show (p (i + 2)).2 = (p i).2 by omega, Int.sub_self] at t; omega
theorem noR_of {p q : Nat → Pt} {n m : Nat} (h : ¬ ∃ j, j < m ∧ goesP p n (q j) (q (j + 1))) : noR p n q m := by
  intro j hj
  have k : ¬ goesP p n (q j) (q (j + 1)) := fun g => h ⟨j, hj, g⟩
  refine ⟨fun s => k (Or.inr (Or.inl s)), fun i n1 n2 b o => k (Or.inr (Or.inr ⟨i, n1, n2, b, o⟩)), fun i hi c => k (Or.inl ⟨i, hi, c⟩)⟩
/-- what lies on an edge comes not ahead of the corner ahead of all -/
theorem bet_min {a b x z : Pt} (h : bet a b x) (ha : ltP a z = false) (hb : ltP b z = false) : ltP x z = false := by
  have k := (bt_box h.1).mpr h.2
  rw [btP_iff] at k
  rw [ltP_f] at ha hb ⊢
  rcases k with ⟨k, -⟩ | ⟨-, k⟩
  · rw [ltP_f] at k; omega
  · rw [ltP_f] at k; omega
theorem ref_min {p P : Nat → Pt} {n n' : Nat} (rP : Ref p n P n') (mp : ∀ k, ltP (p k) (p 0) = false) (i : Nat) : ltP (P i) (p 0) = false := by
  obtain ⟨k, -, s⟩ := rP.2.2.1 i
  exact bet_min s.1 (mp k) (mp (k + 1))
/-- where neither reaches into the other and edge 0 of p shares a stretch with an edge of q that goes its way, the edges 0 of both do -/
theorem like_zero {p q : Nat → Pt} {n m : Nat} (hp : soundS p n) (lp : lefty p) (hq : soundS q m) (lq : lefty q) (h1 : noR p n q m) (h2 : noR q m p n) (l0 : ltP (p 0) (p 1) = true) (k0 : ltP (q 0) (q 1) = true) (mp : ∀ k, ltP (p k) (p 0) = false) (mq : ∀ k, ltP (q k) (q 0) = false) {j : Nat} (hj : j < m) (l1 : ltP (q j) (q (j + 1)) = true) (hc : comP (p 0) (p 1) (q j) (q (j + 1)) = 3) : comP (p 0) (p 1) (q 0) (q 1) = 3 := by
  obtain ⟨P, n', Q, m', rP, rQ, cP, cQ⟩ := pair_ref hp lp hq lq
  obtain ⟨a, b, e0, e1⟩ := like_start hp hq rP rQ cP cQ l0 hj l1 hc
  have st := steps rP.1 rQ.1 (fun i ho => cP i (sub_on rP (by decide) ho)) (fun i ho => cQ i (sub_on rQ (by decide) ho)) (noR_ref hp hq rP rQ h1) (noR_ref hq hp rQ rP h2) e0 e1
  have h3 := rP.1.1
  have h3q := rQ.1.1
  have eP : ∀ x, P (x + a * n') = P x := fun x => sound_eq (S_sound rP.1) (Nat.add_mul_mod_self_right _ _ _)
  have eQ : ∀ x, Q (x + b * m') = Q x := fun x => sound_eq (S_sound rQ.1) (Nat.add_mul_mod_self_right _ _ _)
  have leP : a ≤ a * n' := Nat.le_mul_of_pos_right a (by omega)
  have leQ : b ≤ b * m' := Nat.le_mul_of_pos_right b (by omega)
  obtain ⟨x, ex⟩ := rP.2.2.2.2 0
  obtain ⟨y, ey⟩ := rQ.2.2.2.2 0
  obtain ⟨s1, s2⟩ := st (x + a * n' - a)
  rw [show a + (x + a * n' - a) = x + a * n' by omega] at s1 s2
  rw [eP x, ex] at s1
  rw [show x + a * n' + 1 = x + 1 + a * n' by omega, eP (x + 1)] at s2
  obtain ⟨t1, -⟩ := st (y + b * m' - b)
  rw [show b + (y + b * m' - b) = y + b * m' by omega, eQ y, ey] at t1
  have g1 := ref_min rQ mq (b + (x + a * n' - a))
  rw [← s1] at g1
  have g2 := ref_min rP mp (a + (y + b * m' - b))
  rw [t1] at g2
  have ez : p 0 = q 0 := by
    rw [ltP_f] at g1 g2
    apply Prod.ext <;> omega
  generalize b + (x + a * n' - a) = z at *
  have np := lt_ne l0
  have nq := lt_ne k0
  have sP := edge_at hp rP (a := x) (k := 0) (by have := hp.1; omega) (by rw [ex]; exact bet_a _ _) (by rw [ex]; exact np)
  have sQ := edge_at hq rQ (a := z) (k := 0) (by have := hq.1; omega) (by rw [← s1, ez]; exact bet_a _ _) (by rw [← s1, ez]; exact nq)
  have z0 : cr (dl (p 0) (p 1)) (dl (q 0) (q 1)) = 0 := by
    have k1 := sub_cr sP (dl (Q z) (Q (z + 1)))
    have k2 := sub_cr' sQ (dl (p 0) (p (0 + 1)))
    have : cr (dl (P x) (P (x + 1))) (dl (Q z) (Q (z + 1))) = 0 := by rw [ex, s1, s2]; unfold cr; grind
    show cr (dl (p 0) (p (0 + 1))) (dl (q 0) (q (0 + 1))) = 0
    omega
  exact com3_of np z0 sP.1 (by rw [ex, s1]; exact sQ.1) sP.2.1 (by rw [s2]; exact sQ.2.1) (next_ne rP.1 x)
theorem over_iff {p q : Nat → Pt} {n m : Nat} (hp : soundS p n) (lp : lefty p) (hq : soundS q m) (lq : lefty q) (l0 : ltP (p 0) (p 1) = true) (k0 : ltP (q 0) (q 1) = true) (mp : ∀ k, ltP (p k) (p 0) = false) (mq : ∀ k, ltP (q k) (q 0) = false) :
    (frames p q ∧ ((∃ i, i < n ∧ goesP q m (p i) (p (i + 1))) ∨ (∃ j, j < m ∧ goesP p n (q j) (q (j + 1))) ∨ comP (p 0) (p 1) (q 0) (q 1) = 3)) ↔ ((∃ i, i < n ∧ goesP q m (p i) (p (i + 1))) ∨ (∀ i, i < n → alongP q m (p i) (p (i + 1))) ∨ ∃ j, j < m ∧ goesP p n (q j) (q (j + 1))) := by
  have fA : (∃ i, i < n ∧ goesP q m (p i) (p (i + 1))) → frames p q := by
    rintro ⟨i, hi, g⟩ ⟨l, hl, hs⟩
    exact goes_sep hl hs hq lq (soundS_next hp hi) g
  have fB : (∃ j, j < m ∧ goesP p n (q j) (q (j + 1))) → frames p q := by
    rintro ⟨j, hj, g⟩ ⟨l, hl, hs⟩
    have := sep_neg hl hs
    exact goes_sep this.1 this.2 hp lp (soundS_next hq hj) g
  have fC : (∀ i, i < n → alongP q m (p i) (p (i + 1))) → frames p q := by
    rintro h ⟨l, hl, hs⟩
    refine flat lp hl (fun i j => ?_)
    obtain ⟨j', hj, e, -⟩ := per_edge hp j
    obtain ⟨k, hk, b⟩ := h j' hj 1 (p j') (by decide) (by rw [sc_one, sc_one]; exact bet_a _ _)
    rw [sc_one, sc_one] at b
    rw [e]
    exact lin_ge b (hs i k) (hs i (k + 1))
  have on_iff : (∀ i, i < n → alongP q m (p i) (p (i + 1))) ↔ ∀ N y, 0 < N → onN p n N y → onN q m N y := by
    constructor
    · rintro h N y hN ⟨i, hi, b⟩; exact h i hi N y hN b
    · intro h i hi N y hN b; exact h N y hN ⟨i, hi, b⟩
  constructor
  · rintro ⟨-, hA | hB | hc⟩
    · exact Or.inl hA
    · exact Or.inr (Or.inr hB)
    · rcases Classical.em (∃ i, i < n ∧ goesP q m (p i) (p (i + 1))) with hA | hA
      · exact Or.inl hA
      rcases Classical.em (∃ j, j < m ∧ goesP p n (q j) (q (j + 1))) with hB | hB
      · exact Or.inr (Or.inr hB)
      right; left
      rw [on_iff]
      exact like_all hp lp hq lq (noR_of hB) (noR_of hA) l0 (j := 0) (by have := hq.1; omega) k0 hc
  · rintro (hA | hC | hB)
    · exact ⟨fA hA, Or.inl hA⟩
    · refine ⟨fC hC, ?_⟩
      rcases Classical.em (∃ i, i < n ∧ goesP q m (p i) (p (i + 1))) with hA | hA
      · exact Or.inl hA
      rcases Classical.em (∃ j, j < m ∧ goesP p n (q j) (q (j + 1))) with hB | hB
      · exact Or.inr (Or.inl hB)
      right; right
      obtain ⟨j, hj, l1, hc⟩ := like_back hp lp hq lq l0 (fun i k hi hk c => hA ⟨i, hi, Or.inl ⟨k, hk, c⟩⟩) (on_iff.mp hC)
      exact like_zero hp lp hq lq (noR_of hB) (noR_of hA) l0 k0 mp mq hj l1 hc
    · exact ⟨fB hB, Or.inr (Or.inl hB)⟩
