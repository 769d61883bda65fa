/-! ===== a sound ring said of points; turned on; with a point of an edge as one more corner ===== -/
def SS (v : Nat → Pt) (n i k : Nat) : Prop := ∀ N x, 0 < N → bet (scP N (v i)) (scP N (v (i + 1))) x → bet (scP N (v k)) (scP N (v (k + 1))) x → ((k + 1) % n = i ∧ x = scP N (v i)) ∨ ((i + 1) % n = k ∧ x = scP N (v k))
def soundS (v : Nat → Pt) (n : Nat) : Prop := 3 ≤ n ∧ (∀ i, v (i + n) = v i) ∧ (∀ i j, i < n → j < n → v i = v j → i = j) ∧ ∀ i k, i < k → k < n → SS v n i k
theorem modS {n k : Nat} (h : k < n) : (k + 1) % n = if k + 1 = n then 0 else k + 1 := by
  split
  · rename_i q; rw [q, Nat.mod_self]
  · exact Nat.mod_eq_of_lt (by omega)
theorem SS_sym {v : Nat → Pt} {n i k : Nat} (h : SS v n i k) : SS v n k i := fun N x hN h1 h2 => (h N x hN h2 h1).symm
theorem soundS_all {v : Nat → Pt} {n : Nat} (h : soundS v n) {i k : Nat} (hi : i < n) (hk : k < n) (hne : i ≠ k) : SS v n i k := by
  rcases Nat.lt_or_ge i k with q | q
  · exact h.2.2.2 i k q hk
  · exact SS_sym (h.2.2.2 k i (by omega) hi)
theorem v_n {v : Nat → Pt} {n : Nat} (h : ∀ i, v (i + n) = v i) : v n = v 0 := by have := h 0; rwa [Nat.zero_add] at this
theorem sound_S {v : Nat → Pt} {n : Nat} (h : sound v n) : soundS v n := by
  refine ⟨h.1, h.2.1, h.2.2.1, fun i k hik hk N x hN h1 h2 => ?_⟩
  have h3 := h.1
  by_cases q1 : k = i + 1
  · subst q1
    have := goes_only (sound_next h i) (sound_goes h i) N x hN h1 h2
    exact Or.inr ⟨Nat.mod_eq_of_lt hk, this⟩
  · by_cases q2 : i = 0 ∧ k = n - 1
    · obtain ⟨rfl, rfl⟩ := q2
      have e0 := v_n h.2.1
      have g := sound_goes h (n - 1)
      have ne := sound_next h (n - 1)
      have e1 : v (n - 1 + 1) = v 0 := by rw [show n - 1 + 1 = n by omega]; exact e0
      have e2 : v (n - 1 + 2) = v 1 := by have := h.2.1 1; rwa [show 1 + n = n - 1 + 2 by omega] at this
      rw [e1, e2] at g
      rw [e1] at ne h2
      have := goes_only ne g N x hN h2 h1
      exact Or.inl ⟨by rw [show n - 1 + 1 = n by omega]; exact Nat.mod_self n, this⟩
    · have c := h.2.2.2 i k hik hk
      rw [if_neg (by omega)] at c
      exact absurd ⟨N, x, hN, h1, h2⟩ (com0_hit (sound_next h i) c)
theorem soundS_next {v : Nat → Pt} {n : Nat} (h : soundS v n) {i : Nat} (hi : i < n) : v i ≠ v (i + 1) := by
  intro e
  have h3 := h.1
  by_cases q : i + 1 = n
  · rw [q, v_n h.2.1] at e
    have := h.2.2.1 _ _ hi (by omega) e
    omega
  · have := h.2.2.1 _ _ hi (by omega) e
    omega
theorem S_sound {v : Nat → Pt} {n : Nat} (h : soundS v n) : sound v n := by
  refine ⟨h.1, h.2.1, h.2.2.1, fun i j hij hj => ?_⟩
  have h3 := h.1
  have ss := h.2.2.2 i j hij hj
  unfold SS at ss
  rw [modS hj, modS (show i < n by omega)] at ss
  have n1 := soundS_next h (show i < n by omega)
  have n2 := soundS_next h hj
  by_cases q1 : j = i + 1
  · rw [if_pos (Or.inl q1)]
    refine com2_of n1 n2 (y := v j) (Or.inr (by rw [q1])) (Or.inl rfl) (fun N x hN h1 h2 => ?_)
    rcases ss N x hN h1 h2 with ⟨e, r⟩ | ⟨e, r⟩
    · split at e <;> omega
    · exact r
  · by_cases q2 : i = 0 ∧ j = n - 1
    · rw [if_pos (Or.inr q2)]
      obtain ⟨rfl, rfl⟩ := q2
      have e1 : v (n - 1 + 1) = v 0 := by rw [show n - 1 + 1 = n by omega]; exact v_n h.2.1
      refine com2_of n1 n2 (y := v 0) (Or.inl rfl) (Or.inr e1.symm) (fun N x hN h1 h2 => ?_)
      rcases ss N x hN h1 h2 with ⟨e, r⟩ | ⟨e, r⟩
      · exact r
      · split at e <;> omega
    · rw [if_neg (by omega)]
      refine Classical.byContradiction fun c => ?_
      obtain ⟨N, x, hN, h1, h2⟩ := com_hit n1 n2 c
      rcases ss N x hN h1 h2 with ⟨e, r⟩ | ⟨e, r⟩
      · split at e <;> omega
      · split at e <;> omega
theorem rot1_S {v : Nat → Pt} {n : Nat} (h : soundS v n) : soundS (fun i => v (i + 1)) n := by
  have h3 := h.1
  have e0 := v_n h.2.1
  have e1 : v (n + 1) = v 1 := by have := h.2.1 1; rwa [Nat.add_comm 1 n] at this
  have id : ∀ i, i < n → ∃ j, j < n ∧ v (i + 1) = v j ∧ v (i + 1 + 1) = v (j + 1) ∧ ((j = i + 1 ∧ i + 1 ≠ n) ∨ (j = 0 ∧ i + 1 = n)) := by
    intro i hi
    by_cases q : i + 1 = n
    · exact ⟨0, by omega, by rw [q, e0], by rw [q, e1], Or.inr ⟨rfl, q⟩⟩
    · exact ⟨i + 1, by omega, rfl, rfl, Or.inl ⟨rfl, q⟩⟩
  refine ⟨h3, fun i => ?_, fun i j hi hj e => ?_, fun i k hik hk N x hN g1 g2 => ?_⟩
  · show v (i + n + 1) = v (i + 1)
    rw [show i + n + 1 = i + 1 + n by omega]; exact h.2.1 _
  · obtain ⟨a, ha, ea, -, ca⟩ := id i hi
    obtain ⟨b, hb, eb, -, cb⟩ := id j hj
    have e : v (i + 1) = v (j + 1) := e
    rw [ea, eb] at e
    have := h.2.2.1 a b ha hb e
    omega
  · obtain ⟨a, ha, ea, ea', ca⟩ := id i (by omega)
    obtain ⟨b, hb, eb, eb', cb⟩ := id k hk
    have g1 : bet (scP N (v (i + 1))) (scP N (v (i + 1 + 1))) x := g1
    have g2 : bet (scP N (v (k + 1))) (scP N (v (k + 1 + 1))) x := g2
    rw [ea, ea'] at g1
    rw [eb, eb'] at g2
    have := soundS_all h ha hb (by omega) N x hN g1 g2
    rw [modS ha, modS hb] at this
    rw [modS hk, modS (show i < n by omega)]
    show (_ ∧ x = scP N (v (i + 1))) ∨ (_ ∧ x = scP N (v (k + 1)))
    rw [ea, eb]
    rcases this with ⟨p, q⟩ | ⟨p, q⟩
    · refine Or.inl ⟨?_, q⟩
      split at p <;> split <;> omega
    · refine Or.inr ⟨?_, q⟩
      split at p <;> split <;> omega
theorem rot_S {v : Nat → Pt} {n : Nat} (h : soundS v n) (r : Nat) : soundS (fun i => v (i + r)) n := by
  induction r with
  | zero => exact h
  | succ r ih =>
    have := rot1_S ih
    have e : (fun i => v (i + (r + 1))) = fun i => (fun i => v (i + r)) (i + 1) := by
      funext i
      show v (i + (r + 1)) = v (i + 1 + r)
      congr 1; omega
    rw [e]; exact this
theorem sumZ_shift (f : Nat → Int) : ∀ n, sumZ (fun i => f (i + 1)) n + f 0 = sumZ f n + f n := by
  intro n
  induction n with
  | zero => show 0 + f 0 = 0 + f 0; rfl
  | succ n ih =>
    show sumZ (fun i => f (i + 1)) n + f (n + 1) + f 0 = sumZ f n + f n + f (n + 1)
    omega
theorem wnd_rot {v : Nat → Pt} {n : Nat} (hp : ∀ i, v (i + n) = v i) (c : Pt) (r : Nat) : wnd (fun i => v (i + r)) n c = wnd v n c := by
  induction r with
  | zero => rfl
  | succ r ih =>
    rw [← ih]
    have := sumZ_shift (fun i => chi (v (i + r)) (v (i + 1 + r)) c) n
    have e1 : wnd (fun i => v (i + (r + 1))) n c = sumZ (fun i => chi (v (i + 1 + r)) (v (i + 1 + 1 + r)) c) n := by
      refine sumZ_congr n (fun i _ => ?_)
      show chi (v (i + (r + 1))) (v (i + 1 + (r + 1))) c = _
      rw [show i + (r + 1) = i + 1 + r by omega, show i + 1 + (r + 1) = i + 1 + 1 + r by omega]
    have e2 : chi (v (n + r)) (v (n + 1 + r)) c = chi (v (0 + r)) (v (0 + 1 + r)) c := by
      rw [show n + r = r + n by omega, show n + 1 + r = 1 + r + n by omega, hp, hp, Nat.zero_add, Nat.zero_add]
    rw [e1]
    have : sumZ (fun i => chi (v (i + 1 + r)) (v (i + 1 + 1 + r)) c) n + chi (v (0 + r)) (v (0 + 1 + r)) c = wnd (fun i => v (i + r)) n c + chi (v (n + r)) (v (n + 1 + r)) c := this
    omega
/-- it turns left at the corner ahead of all -/
def lefty (v : Nat → Pt) : Prop := ∃ i, (∀ k, ltP (v k) (v (i + 1)) = false) ∧ 0 < orP (v i) (v (i + 1)) (v (i + 2))
theorem lefty_rot {v : Nat → Pt} {n : Nat} (hn : 0 < n) (hp : ∀ i, v (i + n) = v i) (h : lefty v) (r : Nat) : lefty (fun i => v (i + r)) := by
  obtain ⟨i, h1, h2⟩ := h
  have key : ∀ t i, v (i + n * t) = v i := by
    intro t
    induction t with
    | zero => intro i; rfl
    | succ t ih => intro i; rw [Nat.mul_succ, ← Nat.add_assoc, hp, ih]
  have hle := Nat.mul_le_mul_right r (show 1 ≤ n by omega)
  refine ⟨i + n * r - r, ?_, ?_⟩
  · intro k
    show ltP (v (k + r)) (v (i + n * r - r + 1 + r)) = false
    rw [show i + n * r - r + 1 + r = i + 1 + n * r by omega, key]; exact h1 _
  · show 0 < orP (v (i + n * r - r + r)) (v (i + n * r - r + 1 + r)) (v (i + n * r - r + 2 + r))
    rw [show i + n * r - r + r = i + n * r by omega, show i + n * r - r + 1 + r = i + 1 + n * r by omega, show i + n * r - r + 2 + r = i + 2 + n * r by omega, key, key, key]; exact h2
/-- one corner more, on the last edge -/
def ins (v : Nat → Pt) (n : Nat) (x : Pt) : Nat → Pt := fun i => if i % (n + 1) = n then x else v (i % (n + 1))
theorem ins_lt {v : Nat → Pt} {n : Nat} {x : Pt} {i : Nat} (h : i < n) : ins v n x i = v i := by
  unfold ins
  rw [Nat.mod_eq_of_lt (show i < n + 1 by omega), if_neg (by omega)]
theorem ins_n {v : Nat → Pt} {n : Nat} {x : Pt} : ins v n x n = x := by
  unfold ins
  rw [Nat.mod_eq_of_lt (show n < n + 1 by omega), if_pos rfl]
theorem ins_per {v : Nat → Pt} {n : Nat} {x : Pt} (i : Nat) : ins v n x (i + (n + 1)) = ins v n x i := by
  unfold ins
  rw [Nat.add_mod_right]
theorem ins_S {v : Nat → Pt} {n : Nat} {x : Pt} (h : soundS v n) (hx : bet (v (n - 1)) (v 0) x) (x1 : x ≠ v (n - 1)) (x2 : x ≠ v 0) : soundS (ins v n x) (n + 1) := by
  have h3 := h.1
  have e0 := v_n h.2.1
  have en : v (n - 1 + 1) = v 0 := by rw [show n - 1 + 1 = n by omega]; exact e0
  have i1 : ins v n x (n + 1) = v 0 := by have := ins_per (v := v) (n := n) (x := x) 0; rw [Nat.zero_add] at this; rw [this]; exact ins_lt (by omega)
  have i2 : ins v n x (n - 1 + 1) = x := by rw [show n - 1 + 1 = n by omega]; exact ins_n
  have hxN : ∀ N, 0 < N → bet (scP N (v (n - 1))) (scP N (v 0)) (scP N x) := fun N hN => (bet_sc hN).mpr hx
  have offc : ∀ j, j < n → x ≠ v j := by
    intro j hj e
    by_cases q : j = n - 1
    · subst q; exact x1 e
    · have := soundS_all h hj (show n - 1 < n by omega) q 1 x (by decide) (by rw [sc_one, sc_one, e]; exact bet_a _ _) (by rw [sc_one, sc_one, en]; exact hx)
      rw [sc_one, sc_one] at this
      rcases this with ⟨a, b⟩ | ⟨a, b⟩
      · rw [show n - 1 + 1 = n by omega, Nat.mod_self] at a
        subst a
        exact x2 b
      · exact x1 b
  refine ⟨by omega, ins_per, fun i j hi hj e => ?_, fun i k hik hk N y hN g1 g2 => ?_⟩
  · by_cases qi : i = n
    · by_cases qj : j = n
      · omega
      · subst qi
        rw [ins_n, ins_lt (by omega)] at e
        exact absurd e (offc j (by omega))
    · by_cases qj : j = n
      · subst qj
        rw [ins_n, ins_lt (by omega)] at e
        exact absurd e.symm (offc i (by omega))
      · rw [ins_lt (by omega), ins_lt (by omega)] at e
        exact h.2.2.1 i j (by omega) (by omega) e
  · rw [modS hk, modS (show i < n + 1 by omega)]
    by_cases k1 : k < n - 1
    · rw [ins_lt (show i < n by omega), ins_lt (show i + 1 < n by omega)] at g1
      rw [ins_lt (show k < n by omega), ins_lt (show k + 1 < n by omega)] at g2
      have := soundS_all h (show i < n by omega) (show k < n by omega) (by omega) N y hN g1 g2
      rw [modS (show i < n by omega), modS (show k < n by omega)] at this
      rw [ins_lt (show i < n by omega), ins_lt (show k < n by omega)]
      rcases this with ⟨p, q⟩ | ⟨p, q⟩
      · split at p <;> omega
      · refine Or.inr ⟨?_, q⟩
        split at p <;> split <;> omega
    · by_cases k2 : k = n - 1
      · subst k2
        rw [ins_lt (show i < n by omega), ins_lt (show i + 1 < n by omega)] at g1
        rw [ins_lt (show n - 1 < n by omega), i2] at g2
        have g3 := bet_tr (hxN N hN) g2
        have := soundS_all h (show i < n by omega) (show n - 1 < n by omega) (by omega) N y hN g1 (by rw [en]; exact g3)
        rw [modS (show i < n by omega), modS (show n - 1 < n by omega)] at this
        rw [ins_lt (show i < n by omega), ins_lt (show n - 1 < n by omega)]
        rcases this with ⟨p, q⟩ | ⟨p, q⟩
        · rw [if_pos (by omega)] at p
          subst p
          rw [q] at g2
          exact absurd (sc_inj hN (bet_end (hxN N hN) g2)) x2
        · refine Or.inr ⟨?_, q⟩
          split at p <;> split <;> omega
      · obtain rfl : k = n := by omega
        rw [ins_n, i1] at g2
        by_cases ii : i = k - 1
        · subst ii
          rw [ins_lt (show k - 1 < k by omega), i2] at g1
          refine Or.inr ⟨by split <;> omega, ?_⟩
          rw [ins_n]
          exact bet_mid (hxN N hN) g1 g2
        · rw [ins_lt (show i < k by omega), ins_lt (show i + 1 < k by omega)] at g1
          have g3 := bet_tr' (hxN N hN) g2
          have := soundS_all h (show i < k by omega) (show k - 1 < k by omega) (by omega) N y hN g1 (by rw [en]; exact g3)
          rw [modS (show i < k by omega), modS (show k - 1 < k by omega)] at this
          rw [ins_lt (show i < k by omega)]
          rcases this with ⟨p, q⟩ | ⟨p, q⟩
          · rw [if_pos (by omega)] at p
            refine Or.inl ⟨?_, q⟩
            rw [if_pos rfl]; exact p
          · rw [q] at g2
            exact absurd (sc_inj hN (bet_end (bet_rev (hxN N hN)) (bet_rev g2))) x1
theorem comb_pos {a b x : Pt} (h : bet a b x) (h1 : x ≠ a) (h2 : x ≠ b) : ∃ s t, 0 < s ∧ 0 < t ∧ comb a b x s t := by
  obtain ⟨s, t, hc⟩ := bet_comb h
  refine ⟨s, t, ?_, ?_, hc⟩
  · rcases Int.lt_or_le 0 s with q | q
    · exact q
    · exfalso
      obtain ⟨hs, ht, h0, e1, e2⟩ := hc
      obtain rfl : s = 0 := by omega
      rw [Int.zero_mul, Int.zero_add, Int.zero_add] at e1 e2
      exact h2 (Prod.ext (Int.eq_of_mul_eq_mul_left (by omega) e1) (Int.eq_of_mul_eq_mul_left (by omega) e2))
  · rcases Int.lt_or_le 0 t with q | q
    · exact q
    · exfalso
      obtain ⟨hs, ht, h0, e1, e2⟩ := hc
      obtain rfl : t = 0 := by omega
      rw [Int.zero_mul, Int.add_zero, Int.add_zero] at e1 e2
      exact h1 (Prod.ext (Int.eq_of_mul_eq_mul_left (by omega) e1) (Int.eq_of_mul_eq_mul_left (by omega) e2))
theorem sgn_prop {k t u w : Int} (hk : 0 < k) (ht : 0 < t) (h : k * u = t * w) : (0 < u ↔ 0 < w) ∧ (u < 0 ↔ w < 0) := by
  rcases Int.lt_trichotomy u 0 with q | q | q
  · have a := pn hk q
    have : w < 0 := by
      rcases Int.lt_or_le w 0 with r | r
      · exact r
      · have := m_nn (Int.le_of_lt ht) r; omega
    omega
  · subst q
    rw [Int.mul_zero] at h
    rcases Int.mul_eq_zero.mp h.symm with r | r
    · omega
    · omega
  · have a := pp hk q
    have : 0 < w := by
      rcases Int.lt_or_le 0 w with r | r
      · exact r
      · have := m_pz (Int.le_of_lt ht) r; omega
    omega
theorem chi_add {a b x : Pt} (h : bet a b x) (h1 : x ≠ a) (h2 : x ≠ b) (c : Pt) : chi a x c + chi x b c = chi a b c := by
  obtain ⟨s, t, hs, ht, hc⟩ := comb_pos h h1 h2
  have f1 := comb_or hc c a
  have f2 := comb_or hc b c
  have g1 : (s + t) * orP a x c = t * orP a b c := by
    rw [or_cyc c a x, or_cyc c a b, or_self2, Int.mul_zero, Int.zero_add] at f1
    exact f1
  have g2 : (s + t) * orP x b c = s * orP a b c := by
    rw [← or_cyc x b c, ← or_cyc a b c, or_self1, Int.mul_zero, Int.add_zero] at f2
    exact f2
  have p1 := sgn_prop (show 0 < s + t by omega) ht g1
  have p2 := sgn_prop (show 0 < s + t by omega) hs g2
  have hb := h.2.2
  unfold chi
  rcases Int.lt_trichotomy (orP a b c) 0 with q | q | q
  · have q1 := p1.2.mpr q
    have q2 := p2.2.mpr q
    repeat' split
    all_goals omega
  · have q1 : orP a x c = 0 := by omega
    have q2 : orP x b c = 0 := by omega
    rw [q, q1, q2]
    simp
  · have q1 := p1.1.mpr q
    have q2 := p2.1.mpr q
    repeat' split
    all_goals omega
