/-! ===== points from bits; both sides' tables ===== -/
theorem mt_pos {x : Int64} (h : szZ x ≠ 0) : 2 ^ 52 ≤ mtZ x ∧ mtZ x < 2 ^ 53 := by
  unfold mtZ
  rw [if_neg h]
  omega
theorem shift_eq {m k : Int} {a b : Nat} (hm : 2 ^ 52 ≤ m ∧ m < 2 ^ 53) (hk : 2 ^ 52 ≤ k ∧ k < 2 ^ 53) (e : m * 2 ^ a = k * 2 ^ b) : a = b ∧ m = k := by
  have pos : ∀ n : Nat, (0 : Int) < 2 ^ n := fun n => Int.pow_pos (by decide)
  have key : ∀ {m k : Int} {a b : Nat}, 2 ^ 52 ≤ k → m < 2 ^ 53 → m * 2 ^ a = k * 2 ^ b → ¬ a < b := by
    intro m k a b hk hm e lt
    obtain ⟨d, rfl⟩ : ∃ d, b = a + (d + 1) := ⟨b - a - 1, by omega⟩
    rw [Int.pow_add, Int.mul_comm (2 ^ a) (2 ^ (d + 1)), ← Int.mul_assoc] at e
    have e2 := Int.eq_of_mul_eq_mul_right (Int.ne_of_gt (pos a)) e
    have p : (1 : Int) ≤ 2 ^ d := pos d
    have : k * 2 ≤ k * 2 ^ (d + 1) := Int.mul_le_mul_of_nonneg_left (by rw [Int.pow_succ]; omega) (by omega)
    omega
  have ab : a = b := by
    have h1 := key hk.1 hm.2 e
    have h2 := key hm.1 hk.2 e.symm
    omega
  subst ab
  exact ⟨rfl, Int.eq_of_mul_eq_mul_right (Int.ne_of_gt (pos a)) e⟩
theorem zc_inj {x y : Int64} (hx : num x) (hy : num y) (e : zc x = zc y) : x = y := by
  have z : ∀ {x : Int64}, num x → (szZ x = 0 → x = 0) := fun {x} h h0 => by
    have := plainB_zero (x := x) (by rw [h.2]; exact h0)
    rw [h.2] at this; exact this
  have nz : ∀ {x : Int64}, szZ x ≠ 0 → 0 < mtZ x * 2 ^ (pwN x - 1003) := fun {x} h => Int.mul_pos (by have := mt_pos h; omega) (Int.pow_pos (by decide))
  have sg1 : ∀ x : Int64, sgZ x = 1 ∨ sgZ x = -1 := fun x => by unfold sgZ; split <;> simp
  by_cases h1 : szZ x = 0
  · have x0 := z hx h1
    by_cases h2 : szZ y = 0
    · rw [x0, z hy h2]
    · exfalso
      rw [x0, zc_0] at e
      have p := nz h2
      unfold zc at e
      rcases sg1 y with s | s <;> rw [s] at e <;> omega
  · by_cases h2 : szZ y = 0
    · exfalso
      rw [z hy h2, zc_0] at e
      have p := nz h1
      unfold zc at e
      rcases sg1 x with s | s <;> rw [s] at e <;> omega
    · have p1 := nz h1
      have p2 := nz h2
      have b1 := pw_bounds hx.1 h1
      have b2 := pw_bounds hy.1 h2
      unfold zc at e
      have es : sgZ x = sgZ y ∧ mtZ x * 2 ^ (pwN x - 1003) = mtZ y * 2 ^ (pwN y - 1003) := by
        rcases sg1 x with s | s <;> rcases sg1 y with t | t <;> rw [s, t] at e <;> rw [s, t] <;> first | exact ⟨rfl, by omega⟩ | omega
      have sh := shift_eq (mt_pos h1) (mt_pos h2) es.2
      have m1 : szZ x % 2 ^ 52 = szZ y % 2 ^ 52 := by have := sh.2; unfold mtZ at this; rw [if_neg h1, if_neg h2] at this; omega
      have q1 : szZ x / 2 ^ 52 = szZ y / 2 ^ 52 := by
        have n1 := szZ_nn x
        have n2 := szZ_nn y
        have : pwN x = pwN y := by have := sh.1; omega
        unfold pwN at this
        omega
      have sz : szZ x = szZ y := by omega
      have r1 := inL_toInt x
      have r2 := inL_toInt y
      apply Int64.toInt_inj.mp
      unfold szZ at sz
      have ss := es.1
      unfold sgZ at ss
      unfold inL at r1 r2
      by_cases c1 : x.toInt < 0 <;> by_cases c2 : y.toInt < 0
      · omega
      · rw [if_pos c1, if_neg c2] at ss; omega
      · rw [if_neg c1, if_pos c2] at ss; omega
      · omega
theorem rn_zc {x : Int64} (h : isNum x = true) : rn (zc x) = zc x := by
  have mb := mt_bounds x
  have key : rnN ((mtZ x).natAbs * 2 ^ (pwN x - 1003)) = (mtZ x).natAbs * 2 ^ (pwN x - 1003) := rnN_pow (by omega)
  have na : (mtZ x * 2 ^ (pwN x - 1003)).natAbs = (mtZ x).natAbs * 2 ^ (pwN x - 1003) := by
    rw [Int.natAbs_mul]
    congr 1
  have pos : 0 ≤ mtZ x * 2 ^ (pwN x - 1003) := Int.mul_nonneg mb.1 (Int.le_of_lt (Int.pow_pos (by decide)))
  have base : rn (mtZ x * 2 ^ (pwN x - 1003)) = mtZ x * 2 ^ (pwN x - 1003) := by
    unfold rn
    rw [if_neg (by omega), na, key, ← na]
    omega
  unfold zc sgZ
  split
  · rw [show -1 * (mtZ x * 2 ^ (pwN x - 1003)) = -(mtZ x * 2 ^ (pwN x - 1003)) by omega, rn_neg, base]
  · rw [Int.one_mul, base]
theorem PX_inj {X : LM} (h : wf X) (s t : Nat) (hs : s < xNc X) (ht : t < xNc X) (e : PX X s = PX X t) : s = t := by
  have a := h.2.1 s hs
  have b := h.2.1 t ht
  have e1 : zc (xBx X s) = zc (xBx X t) := congrArg Prod.fst e
  have e2 : zc (xBy X s) = zc (xBy X t) := congrArg Prod.snd e
  exact h.2.2.1 s t hs ht (zc_inj a.1 b.1 e1) (zc_inj a.2 b.2 e2)
/-- the points with one more in slot 200 -/
def PT (P : Nat → Pt) (T : Pt) : Nat → Pt := fun s => if s = 200 then T else P s
theorem PT_lt (P : Nat → Pt) (T : Pt) {s : Nat} (h : s < 200) : PT P T s = P s := if_neg (by omega)
theorem PT_200 (P : Nat → Pt) (T : Pt) : PT P T 200 = T := if_pos rfl
theorem vr_PT {P : Nat → Pt} {T : Pt} {c : Nat → Nat} {n : Nat} (n0 : 0 < n) (hc : ∀ i, i < n → c i < 200) : vr (PT P T) c n = vr P c n := by
  funext k
  exact PT_lt P T (hc _ (Nat.mod_lt _ n0))
theorem vr_PTd {P : Nat → Pt} {T : Pt} {c : Nat → Nat} {n : Nat} (n0 : 0 < n) (hc : ∀ i, i < n → c i < 200) : vr (dbl (PT P T)) c n = vr (dbl P) c n := by
  rw [vr_dbl, vr_dbl, vr_PT n0 hc]
theorem good_PT {nc : Nat} {P : Nat → Pt} {T : Pt} {c : Nat → Nat} {n : Nat} (hnc : nc ≤ 200) (g : good nc P n c) : good nc (PT P T) n c := by
  obtain ⟨a, b, d, e, f⟩ := g
  have v := vr_PT (P := P) (T := T) (c := c) (n := n) (by omega) (fun i hi => by have := d i hi; omega)
  exact ⟨a, b, d, e, by rw [v]; exact f⟩
theorem RC.pts {S : xS} {X : LM} (h : RC S X) (w : wf X) : ∃ T, cps S (xNc X) (PT (PX X) T) := by
  obtain ⟨T, hT⟩ := h.1.2.2
  have := w.1
  refine ⟨T, fun s hs => ?_⟩
  rcases hs with hs | hs
  · rw [PT_lt _ _ (by omega)]; exact (h.1.2.1 s hs).2.2
  · subst hs; rw [PT_200]; exact hT
theorem RC.rns {X : LM} (w : wf X) (T : Pt) : rns (xNc X) (PT (PX X) T) := fun s hs ax => by
  have := w.1
  have n := w.2.1 s hs
  rw [PT_lt _ _ (by omega)]
  unfold co
  split
  · exact rn_zc n.1.1
  · exact rn_zc n.2.1
theorem RC.tab {S : xS} {X : LM} (h : RC S X) (w : wf X) : ctab S (xNp X) (tTh (xTb X)) (tLy (xTb X)) (tOw (xTb X)) (tSz (xTb X)) (tRg (xTb X)) := ⟨h.2.2.2.1.1, w.2.2.2.2.1.1, fun q hq => h.2.2.2.1.2 q (by have := w.2.2.2.2.1.1; omega)⟩
theorem RM.pts {S : xS} {X : LM} (h : RM S X) (w : wf X) : ∃ T, mps S (xNc X) (dbl (PT (PX X) T)) := by
  obtain ⟨T, hT⟩ := h.1.2.2
  have := w.1
  refine ⟨T, fun s hs => ?_⟩
  show pt S s (scP 2 (PT (PX X) T s))
  rcases hs with hs | hs
  · rw [PT_lt _ _ (by omega)]; exact (h.1.2.1 s hs).2.2
  · subst hs; rw [PT_200]; exact hT
theorem MP_X {X : LM} (w : wf X) (T : Pt) : MP (xNc X) (dbl (PT (PX X) T)) (PT (PX X) T) := ⟨w.1, fun _ _ => rfl, fun x y hx hy e => by
  have := w.1
  have e : scP 2 (PT (PX X) T x) = scP 2 (PT (PX X) T y) := e
  rw [PT_lt _ _ (by omega), PT_lt _ _ (by omega)] at e
  exact PX_inj w x y hx hy (sc_inj (by decide) e)⟩
theorem RM.tab {S : xS} {X : LM} (h : RM S X) (w : wf X) : mtab S (xNp X) (tTh (xTb X)) (tLy (xTb X)) (tOw (xTb X)) (tSz (xTb X)) (tRg (xTb X)) := by
  have n60 := w.2.2.2.2.1.1
  have n200 := w.1
  refine ⟨h.2.2.2.1.1, n60, fun q hq => ?_⟩
  obtain ⟨a, b⟩ := h.2.2.2.1.2 q hq
  refine ⟨a, fun t => ?_⟩
  have g := (w.2.2.2.2.1.2.1 q t).2
  obtain ⟨b1, b2, b3, b4⟩ := b t
  exact ⟨b1, b2, by omega, by have := g.1; omega, g.2.1, b3, fun i hi => ⟨b4 i hi, by have := g.2.2.1 i hi; omega⟩⟩
theorem wf_good {X : LM} (w : wf X) {q : Nat} (t : tTh (xTb X) q = true) : good (xNc X) (PX X) (tSz (xTb X) q) (tRg (xTb X) q) := (w.2.2.2.2.1.2.1 q t).2
