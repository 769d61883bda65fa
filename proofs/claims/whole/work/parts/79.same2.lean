/-! ===== cuts and places, both ways ===== -/
theorem cutC_of {nc : Nat} {P : Nat → Pt} {n : Nat} {c : Nat → Nat} (g : good nc P n c) (hi : ∀ x y, x < nc → y < nc → P x = P y → x = y) {i j : Nat} (hin : i < n) (hjn : j < n) (hij : i ≠ j) : (∀ k, k < n → metP (P (c i)) (P (c j)) (vr P c n k) (vr P c n (k + 1)) = if c (k % n) = c i ∨ c (k % n) = c j ∨ c ((k + 1) % n) = c i ∨ c ((k + 1) % n) = c j then 2 else 0) ↔ cutC (vr P c n) n (vr P c n i) (vr P c n j) := by
  obtain ⟨h3, h12, hc, hcd, hs, hl, hm⟩ := id g
  have vi : vr P c n i = P (c i) := by unfold vr; rw [Nat.mod_eq_of_lt hin]
  have vj : vr P c n j = P (c j) := by unfold vr; rw [Nat.mod_eq_of_lt hjn]
  have nij : P (c i) ≠ P (c j) := fun e => hij (hcd _ _ hin hjn (hi _ _ (hc i hin) (hc j hjn) e))
  have ck : ∀ k x, x < n → (c (k % n) = c x ↔ vr P c n k = P (c x)) := fun k x hx => num_pt hi (hc _ (Nat.mod_lt k (by omega))) (hc x hx)
  unfold cutC
  rw [vi, vj]
  constructor
  · intro h k hk
    have := h k hk
    rw [met_com nij (next_ne hs k)] at this
    rw [this]
    simp only [ck k i hin, ck k j hjn, ck (k + 1) i hin, ck (k + 1) j hjn]
  · intro h k hk
    rw [met_com nij (next_ne hs k), h k hk]
    simp only [ck k i hin, ck k j hjn, ck (k + 1) i hin, ck (k + 1) j hjn]
theorem lie1_iff {v : Nat → Pt} {n : Nat} (h : soundS v n) (hl : lefty v) (T : Pt) : lie v n T = 1 ↔ inn v n T := by
  unfold lie
  rcases fst1_cases (onR v T) n with ⟨k, hk, r, -, e⟩ | ⟨no, e⟩
  · rw [e]
    constructor
    · intro z; exact absurd (show (0 : Int32) = 1 from z) (by decide)
    · intro z; exact absurd (bet_on.mp r) (z.1 k hk)
  · rw [e]
    have ho : off v n T := fun k hk b => no k hk (bet_on.mpr b)
    have w01 := wnd01 h hl ho
    show (if wnd v n T ≠ 0 then (1 : Int32) else -1) = 1 ↔ _
    constructor
    · intro z
      refine ⟨ho, ?_⟩
      by_cases q : wnd v n T ≠ 0
      · omega
      · rw [if_neg q] at z; exact absurd z (by decide)
    · intro z; rw [if_pos (by have := z.2; omega)]
/-- what isCut tells, and isInside with the guard before it -/
theorem cut_same {nc : Nat} {P : Nat → Pt} {n : Nat} {c : Nat → Nat} (g : good nc P n c) (hi : ∀ x y, x < nc → y < nc → P x = P y → x = y) {i j : Nat} (hij : i < j) (hjn : j < n) :
    ((∀ k, k < n → metP (P (c i)) (P (c j)) (vr P c n k) (vr P c n (k + 1)) = if c (k % n) = c i ∨ c (k % n) = c j ∨ c ((k + 1) % n) = c i ∨ c ((k + 1) % n) = c j then 2 else 0) ∧ opnT (vr P c n (i + n - 1)) (vr P c n i) (vr P c n (i + 1)) (P (c j))) ↔ (¬ (j = i + 1 ∨ (i = 0 ∧ j = n - 1)) ∧ (∀ k, k < n → comP (vr (dbl P) c n i) (vr (dbl P) c n j) (vr (dbl P) c n k) (vr (dbl P) c n (k + 1)) = if c (k % n) = c (i % n) ∨ c (k % n) = c (j % n) ∨ c ((k + 1) % n) = c (i % n) ∨ c ((k + 1) % n) = c (j % n) then 2 else 0) ∧ lie (vr (dbl P) c n) n (((vr (dbl P) c n i).1 + (vr (dbl P) c n j).1) / 2, ((vr (dbl P) c n i).2 + (vr (dbl P) c n j).2) / 2) = 1) := by
  obtain ⟨h3, h12, hc, hcd, hs, hl, hm⟩ := id g
  have vi : vr P c n i = P (c i) := by unfold vr; rw [Nat.mod_eq_of_lt (by omega)]
  have vj : vr P c n j = P (c j) := by unfold vr; rw [Nat.mod_eq_of_lt hjn]
  have nij : P (c i) ≠ P (c j) := fun e => absurd (hcd _ _ (by omega) hjn (hi _ _ (hc i (by omega)) (hc j hjn) e)) (by omega)
  have nv : vr P c n i ≠ vr P c n j := by rw [vi, vj]; exact nij
  have e1 : (∀ k, k < n → comP (vr (dbl P) c n i) (vr (dbl P) c n j) (vr (dbl P) c n k) (vr (dbl P) c n (k + 1)) = if c (k % n) = c (i % n) ∨ c (k % n) = c (j % n) ∨ c ((k + 1) % n) = c (i % n) ∨ c ((k + 1) % n) = c (j % n) then 2 else 0) ↔ cutC (vr P c n) n (vr P c n i) (vr P c n j) := by
    rw [← cutC_of g hi (by omega) hjn (by omega), vr_dbl]
    simp only [comP_sc two0, vi, vj]
    constructor
    · intro h k hk
      rw [met_com nij (next_ne hs k), h k hk, Nat.mod_eq_of_lt (show i < n by omega), Nat.mod_eq_of_lt hjn]
    · intro h k hk
      rw [← met_com nij (next_ne hs k), h k hk, Nat.mod_eq_of_lt (show i < n by omega), Nat.mod_eq_of_lt hjn]
  rw [e1, cutC_of g hi (by omega) hjn (by omega)]
  have per : vr P c n (i + n - 1 + 1) = vr P c n i := by rw [show i + n - 1 + 1 = i + n by omega]; exact hs.2.1 i
  have per2 : vr P c n (i + n - 1 + 2) = vr P c n (i + 1) := by rw [show i + n - 1 + 2 = i + 1 + n by omega]; exact hs.2.1 _
  have adj : cutC (vr P c n) n (vr P c n i) (vr P c n j) → ¬ (j = i + 1 ∨ (i = 0 ∧ j = n - 1)) := by
    rintro hcc (q | ⟨q1, q2⟩)
    · exact (cut_far nv hcc (show i < n by omega)).1 ⟨rfl, by rw [q]⟩
    · refine (cut_far nv hcc (show j < n by omega)).2 ⟨rfl, ?_⟩
      rw [q2, show n - 1 + 1 = 0 + n by omega, hs.2.1, q1]
  have key : cutC (vr P c n) n (vr P c n i) (vr P c n j) → (opnT (vr P c n (i + n - 1)) (vr P c n i) (vr P c n (i + 1)) (P (c j)) ↔ lie (vr (dbl P) c n) n (((vr (dbl P) c n i).1 + (vr (dbl P) c n j).1) / 2, ((vr (dbl P) c n i).2 + (vr (dbl P) c n j).2) / 2) = 1) := by
    intro hcc
    have hs2 := sc_S two0 hs
    have hl2 := sc_lefty two0 hl
    rw [vr_dbl, lie1_iff hs2 hl2]
    have hc2 : cutC (fun k => scP 2 (vr P c n k)) n (scP 2 (vr P c n i)) (scP 2 (vr P c n j)) := by
      intro k hk
      have := hcc k hk
      show comP (scP 2 (vr P c n i)) (scP 2 (vr P c n j)) (scP 2 (vr P c n k)) (scP 2 (vr P c n (k + 1))) = _
      rw [comP_sc two0, this]
      simp only [sc2_inj]
    have md : mid (scP 2 (vr P c n i)) (scP 2 (vr P c n j)) (((scP 2 (vr P c n i)).1 + (scP 2 (vr P c n j)).1) / 2, ((scP 2 (vr P c n i)).2 + (scP 2 (vr P c n j)).2) / 2) := by
      constructor <;> simp only [scP] <;> omega
    have ci := cut_iff (v := fun k => scP 2 (vr P c n k)) hs2 hl2 (i := i + n - 1) (b := scP 2 (vr P c n j)) (m := (((scP 2 (vr P c n i)).1 + (scP 2 (vr P c n j)).1) / 2, ((scP 2 (vr P c n i)).2 + (scP 2 (vr P c n j)).2) / 2)) (by show scP 2 (vr P c n (i + n - 1 + 1)) ≠ _; rw [per]; exact fun e => nv (sc_inj two0 e)) (by show cutC _ n (scP 2 (vr P c n (i + n - 1 + 1))) _; rw [per]; exact hc2) (by show mid (scP 2 (vr P c n (i + n - 1 + 1))) _ _; rw [per]; exact md)
    rw [ci]
    show _ ↔ opn (scP 2 (vr P c n (i + n - 1))) (scP 2 (vr P c n (i + n - 1 + 1))) (scP 2 (vr P c n (i + n - 1 + 2))) (dl (scP 2 (vr P c n (i + n - 1 + 1))) (scP 2 (vr P c n j)))
    rw [per, per2, opn_sc2, opnT_iff, vj]
  constructor
  · rintro ⟨h1, h2⟩; exact ⟨adj h1, h1, (key h1).mp h2⟩
  · rintro ⟨-, h1, h2⟩; exact ⟨h1, (key h1).mpr h2⟩
/-- the pieces of a cut -/
theorem piece_sound {nc : Nat} {P : Nat → Pt} {n : Nat} {c : Nat → Nat} (g : good nc P n c) {i j : Nat} (hij : i < j) (hjn : j < n) (hadj : ¬ (j = i + 1 ∨ (i = 0 ∧ j = n - 1))) (hcc : cutC (vr P c n) n (vr P c n i) (vr P c n j)) : soundS (vr P (fun k => c ((i + k) % n)) (j - i + 1)) (j - i + 1) ∧ soundS (vr P (fun k => c ((j + k) % n)) (n - j + i + 1)) (n - j + i + 1) := by
  obtain ⟨h3, h12, hc, hcd, hs, hl, hm⟩ := id g
  have nv : vr P c n i ≠ vr P c n j := fun e => by
    have := inj_n hs (s := 0) (k := i) (k' := j) (by omega) hjn (by rw [Nat.zero_add, Nat.zero_add]; exact e)
    omega
  have dgg := dg_of hs nv hcc
  constructor
  · exact piece_S hs (s := i) (m := j - i + 1) (by omega) (by omega) (by rw [show i + (j - i + 1 - 1) = j by omega]; exact dgg)
  · refine piece_S hs (s := j) (m := n - j + i + 1) (by omega) (by omega) ?_
    rw [show j + (n - j + i + 1 - 1) = i + n by omega, hs.2.1]
    exact dg_rev dgg
/-- places, both ways -/
theorem place_same {nc : Nat} {P : Nat → Pt} {n : Nat} {c : Nat → Nat} (g : good nc P n c) (T : Pt) : (plc (vr P c n) n T = -3 ↔ ¬ 0 ≤ lie (vr (dbl P) c n) n (scP 2 T)) ∧ (plc (vr P c n) n T ≠ -3 → (if plc (vr P c n) n T = -2 then -1 else plc (vr P c n) n T) = oeI (vr (dbl P) c n) n (scP 2 T)) := by
  obtain ⟨h3, h12, hc, hcd, hs, hl, hm⟩ := id g
  have e0 : fst1 (onR (vr (dbl P) c n) (scP 2 T)) n = fst1 (onR (vr P c n) T) n := fst1_congr (fun k _ => by
    rw [onR_bet, onR_bet]
    show bet (scP 2 (vr P c n k)) (scP 2 (vr P c n (k + 1))) (scP 2 T) ↔ _
    rw [bet_sc two0])
  unfold lie oeI
  rw [e0]
  rcases fst1_cases (onR (vr P c n) T) n with ⟨k, hk, r, mn, e⟩ | ⟨no, e⟩
  · have ep : plc (vr P c n) n T = nI k := plc_some (by rw [fst_off]; exact e)
    have n2 : nI k ≠ -2 := (by decide +kernel : ∀ k, k < 25 → nI k ≠ -2) k (by omega)
    have n3 : nI k ≠ -3 := (by decide +kernel : ∀ k, k < 25 → nI k ≠ -3) k (by omega)
    rw [ep, e]
    refine ⟨⟨fun z => absurd z n3, fun z => absurd (show (0 : Int32) ≤ 0 by decide) z⟩, fun _ => ?_⟩
    rw [if_neg n2]
  · have off1 : off (vr P c n) n T := fun k hk b => no k hk (onR_bet.mpr b)
    have w01 := wnd01 hs hl off1
    have ep : plc (vr P c n) n T = if wnd (vr P c n) n T % 2 = 1 then -2 else -3 := plc_none (by rw [fst_off]; exact e)
    have ew : wnd (vr (dbl P) c n) n (scP 2 T) = wnd (vr P c n) n T := wnd_sc two0 _ _ _
    rw [ep, e]
    show (_ ↔ ¬ 0 ≤ (if wnd (vr (dbl P) c n) n (scP 2 T) ≠ 0 then (1 : Int32) else -1)) ∧ (_ → _ = (-1 : Int32))
    rw [ew]
    rcases w01 with w | w
    · rw [w]
      exact ⟨⟨fun _ => by decide, fun _ => rfl⟩, fun z => absurd rfl z⟩
    · rw [w]
      exact ⟨⟨fun z => absurd z (by decide), fun z => absurd (by decide) z⟩, fun _ => rfl⟩
