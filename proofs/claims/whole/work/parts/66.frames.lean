/-! ===== frames ===== -/
def mxZ (f : Nat → Int) : Nat → Int
  | 0 => f 0
  | k + 1 => if mxZ f k < f (k + 1) then f (k + 1) else mxZ f k
theorem mxZ_ge (f : Nat → Int) : ∀ k i, i ≤ k → f i ≤ mxZ f k := by
  intro k
  induction k with
  | zero => intro i hi; obtain rfl : i = 0 := (by omega); exact Int.le_refl _
  | succ k ih =>
    intro i hi
    show f i ≤ if mxZ f k < f (k + 1) then f (k + 1) else mxZ f k
    by_cases q : i = k + 1
    · subst q; split <;> omega
    · have := ih i (by omega)
      split <;> omega
theorem mxZ_mem (f : Nat → Int) : ∀ k, ∃ i, i ≤ k ∧ mxZ f k = f i := by
  intro k
  induction k with
  | zero => exact ⟨0, Nat.le_refl _, rfl⟩
  | succ k ih =>
    show ∃ i, i ≤ k + 1 ∧ (if mxZ f k < f (k + 1) then f (k + 1) else mxZ f k) = f i
    split
    · exact ⟨k + 1, Nat.le_refl _, rfl⟩
    · obtain ⟨i, hi, e⟩ := ih
      exact ⟨i, by omega, e⟩
def co (ax : Nat) (p : Pt) : Int := if ax = 0 then p.1 else p.2
theorem cpt.cvz {S : xS} {s : Nat} {A : Pt} (h : cpt S s A) {ax : Nat} (hax : ax < 2) : vz 72 (S.2.2.2 34 (2 * s + ax)) (co ax A) := by
  rcases (show ax = 0 ∨ ax = 1 by omega) with rfl | rfl
  · exact h.2.1
  · exact h.2.2.1
theorem cpt.cob {S : xS} {s : Nat} {A : Pt} (h : cpt S s A) (ax : Nat) : -(2 ^ 101) ≤ co ax A ∧ co ax A ≤ 2 ^ 101 := by
  unfold co
  split
  · exact h.2.2.2.1
  · exact h.2.2.2.2.1
def sgn (w : Int32) (σ : Int) : Prop := (w = nI 1 ∧ σ = 1) ∨ (w = -1 ∧ σ = -1)
theorem vz_sgn {w : Int32} {σ : Int} (h : sgn w σ) : vz 0 (FP.i2d w) σ := by
  rcases h with ⟨rfl, rfl⟩ | ⟨rfl, rfl⟩
  · have e : FP.i2d (nI 1) = FP.l2d (lI 1) := by decide +kernel
    rw [e]; exact vz_l2d (by decide)
  · have e : FP.i2d (-1) = FP.l2d (lI (-1)) := by decide +kernel
    rw [e]; exact vz_l2d (by decide)
/-- the points' coordinates are numbers of 53 digits -/
def rns (nc : Nat) (P : Nat → Pt) : Prop := ∀ s, s < nc → ∀ ax, rn (co ax (P s)) = co ax (P s)
theorem vz_side {w : Int32} {σ z : Int} {d : UInt64} (h : sgn w σ) (hd : vz 72 d z) (hb : -(2 ^ 101) ≤ z ∧ z ≤ 2 ^ 101) (hr : rn z = z) : vz 72 (FP.dmul (FP.i2d w) d) (σ * z) := by
  have k := vz_dmul (u := 0) (v := 72) (by decide) (vz_sgn h) hd (by
    have : (σ * z).natAbs = z.natAbs := by rcases h with ⟨-, rfl⟩ | ⟨-, rfl⟩ <;> omega
    rw [this]
    have h2 : z.natAbs ≤ 2 ^ 101 := by omega
    exact Nat.lt_of_le_of_lt h2 (Nat.pow_lt_pow_right (by decide) (by decide)))
  have e : rn (σ * z) = σ * z := by
    rcases h with ⟨-, rfl⟩ | ⟨-, rfl⟩
    · rw [Int.one_mul, hr]
    · rw [show -1 * z = -z by omega, rn_neg, hr]
  rw [e] at k
  exact k

theorem sp_X5_farthest (S : xS) {nc r n ax : Nat} {c : Nat → Nat} {P : Nat → Pt} {w : Int32} {σ : Int} (hp : cps S nc P) (hrn : rns nc P) (h : CR S nc r n c) (hax : ax < 2) (hw : sgn w σ) : Sp mX5_farthest [.ref 36, .ref (45 + 2 * r), .int (nI ax), .int w] S (fun x S' => ∃ d, x = some (.double d) ∧ vz 72 d (mxZ (fun i => σ * co ax (vr P c n i)) (n - 1)) ∧ S' = S) := by
  have hr := h.1.1
  have hn := h.1.2.1
  have n0 := h.2.1
  have lc : ∀ k, k < n → c k < 201 := fun k hk => (h.1.2.2.2 k hk).2
  have loop : ∀ μ k, k + μ = n → ∀ d : UInt64, ∀ S1, (S1 = S ∧ 0 < k ∧ vz 72 d (mxZ (fun i => σ * co ax (vr P c n i)) (k - 1))) → XP mX5_farthest 26 [(6, .int (nI k)), (4, .double d), (0, .ref 36), (1, .ref (45 + 2 * r)), (2, .int (nI ax)), (3, .int w)] [] (xwS S1) (sQ (fun x S' => ∃ d, x = some (.double d) ∧ vz 72 d (mxZ (fun i => σ * co ax (vr P c n i)) (n - 1)) ∧ S' = S)) := by
    intro μ
    induction μ with
    | zero =>
      intro k hk d S1 h1
      obtain ⟨e1, k0, hd⟩ := h1
      have e1 := e1.symm
      subst e1
      refine x_iload eX5_farthest_26 rfl ?_
      refine x_aload_n eX5_farthest_28 rfl ?_
      refine s_geti eX5_farthest_29 fX5_19 (kd_ring h.1.1) (show _ < 365 by omega) (by decide) ?_
      rw [h.1.2.2.1]
      refine x_icmp_geN eX5_farthest_32 (by omega) (by omega) (fun c_32 => ?_) (fun c_32 => ?_)
      · refine x_dload eX5_farthest_82 rfl ?_
        exact s_dret eX5_farthest_84 rfl ⟨_, rfl, by rw [show n - 1 = k - 1 by omega]; exact hd, rfl⟩
      · omega
    | succ μ ih =>
      intro k hk d S1 h1
      obtain ⟨e1, k0, hd⟩ := h1
      have e1 := e1.symm
      subst e1
      refine x_iload eX5_farthest_26 rfl ?_
      refine x_aload_n eX5_farthest_28 rfl ?_
      refine s_geti eX5_farthest_29 fX5_19 (kd_ring h.1.1) (show _ < 365 by omega) (by decide) ?_
      rw [h.1.2.2.1]
      refine x_icmp_geN eX5_farthest_32 (by omega) (by omega) (fun c_32 => ?_) (fun c_32 => ?_)
      · omega
      · refine x_iload_n eX5_farthest_35 rfl ?_
        refine x_i2d eX5_farthest_36 ?_
        refine x_aload_n eX5_farthest_37 rfl ?_
        refine s_getR (k := 32) eX5_farthest_38 fX5_15 rfl (by decide) (by decide) rfl ?_
        refine s_getR (k := 34) eX5_farthest_41 fX5_92 rfl (by decide) (by decide) rfl ?_
        refine x_iconst (v := nI 2) eX5_farthest_44 (by decide) ?_
        refine x_aload_n eX5_farthest_45 rfl ?_
        refine s_getR (k := (46 + 2 * r)) eX5_farthest_46 fX5_31 (kd_ring h.1.1) (show _ < 365 by omega) (by decide) (rf_ring h.1.1) ?_
        refine x_iload eX5_farthest_49 rfl ?_
        refine s_iald eX5_farthest_51 (kd_corner h.1.1) (show _ < 365 by omega) rfl (by rw [(ln_corner h.1.1)]; omega) ?_
        rw [(h.1.2.2.2 k (by omega)).1]
        have lk := lc k (by omega)
        have vvk := vz_side hw ((h.pt hp k).cvz hax) ((h.pt hp k).cob ax) (hrn _ (h.2.2 _ (Nat.mod_lt _ h.2.1)) ax)
        rw [Nat.mod_eq_of_lt (show k < n by omega)] at vvk
        first | refine x_imulN eX5_farthest_52 ?_ | refine x_imul eX5_farthest_52 ?_
        refine x_iload_n eX5_farthest_53 rfl ?_
        first | refine x_iaddN eX5_farthest_54 ?_ | refine x_iadd eX5_farthest_54 ?_
        refine s_dald eX5_farthest_55 rfl (by decide) rfl (show _ < 402 by omega) ?_
        refine x_dmul eX5_farthest_56 (vz_n64 vvk) ?_
        refine x_dstore (lv' := [_, _, _, _, _, _, _]) eX5_farthest_57 (by decide) rfl ?_
        refine x_dload eX5_farthest_59 rfl ?_
        refine x_dload eX5_farthest_61 rfl ?_
        refine x_dcmp eX5_farthest_63 ?_
        rw [cmpV vvk hd]
        refine x_if_leS eX5_farthest_64 (fun c_64 => ?_) (fun c_64 => ?_)
        · refine x_dload eX5_farthest_72 rfl ?_
          refine x_dstore (lv' := [_, _, _, _, _, _, _]) eX5_farthest_74 (by decide) rfl ?_
          refine x_iinc (lv' := [_, _, _, _, _, _, _]) eX5_farthest_76 rfl (by first | exact nI_inc _ | exact rfl) (by decide) rfl ?_
          refine x_goto eX5_farthest_79 ?_
          refine x_pick [0, 1, 3, 4, 5, 6] rfl ?_
          have e : mxZ (fun i => σ * co ax (vr P c n i)) k = if mxZ (fun i => σ * co ax (vr P c n i)) (k - 1) < (fun i => σ * co ax (vr P c n i)) k then (fun i => σ * co ax (vr P c n i)) k else mxZ (fun i => σ * co ax (vr P c n i)) (k - 1) := by
            obtain ⟨q, rfl⟩ : ∃ q, k = q + 1 := ⟨k - 1, by omega⟩
            rfl
          have lt : (σ * co ax (vr P c n k) ≤ mxZ (fun i => σ * co ax (vr P c n i)) (k - 1)) ∨ mxZ (fun i => σ * co ax (vr P c n i)) (k - 1) < σ * co ax (vr P c n k) := by omega
          refine ih (k + 1) (by omega) _ _ ⟨rfl, by omega, ?_⟩
          rw [show k + 1 - 1 = k by omega, e]
          first
            | (rw [if_neg (show ¬ mxZ (fun i => σ * co ax (vr P c n i)) (k - 1) < σ * co ax (vr P c n k) by omega)]; exact hd)
            | (rw [if_pos (show mxZ (fun i => σ * co ax (vr P c n i)) (k - 1) < σ * co ax (vr P c n k) by omega)]; exact vvk)
        · refine x_dload eX5_farthest_67 rfl ?_
          refine x_goto eX5_farthest_69 ?_
          refine x_dstore (lv' := [_, _, _, _, _, _, _]) eX5_farthest_74 (by decide) rfl ?_
          refine x_iinc (lv' := [_, _, _, _, _, _, _]) eX5_farthest_76 rfl (by first | exact nI_inc _ | exact rfl) (by decide) rfl ?_
          refine x_goto eX5_farthest_79 ?_
          refine x_pick [0, 1, 3, 4, 5, 6] rfl ?_
          have e : mxZ (fun i => σ * co ax (vr P c n i)) k = if mxZ (fun i => σ * co ax (vr P c n i)) (k - 1) < (fun i => σ * co ax (vr P c n i)) k then (fun i => σ * co ax (vr P c n i)) k else mxZ (fun i => σ * co ax (vr P c n i)) (k - 1) := by
            obtain ⟨q, rfl⟩ : ∃ q, k = q + 1 := ⟨k - 1, by omega⟩
            rfl
          have lt : (σ * co ax (vr P c n k) ≤ mxZ (fun i => σ * co ax (vr P c n i)) (k - 1)) ∨ mxZ (fun i => σ * co ax (vr P c n i)) (k - 1) < σ * co ax (vr P c n k) := by omega
          refine ih (k + 1) (by omega) _ _ ⟨rfl, by omega, ?_⟩
          rw [show k + 1 - 1 = k by omega, e]
          first
            | (rw [if_neg (show ¬ mxZ (fun i => σ * co ax (vr P c n i)) (k - 1) < σ * co ax (vr P c n k) by omega)]; exact hd)
            | (rw [if_pos (show mxZ (fun i => σ * co ax (vr P c n i)) (k - 1) < σ * co ax (vr P c n k) by omega)]; exact vvk)
  show XP _ _ [_, _, _, _] _ _ _
  refine x_iload_n eX5_farthest_0 rfl ?_
  refine x_i2d eX5_farthest_1 ?_
  refine x_aload_n eX5_farthest_2 rfl ?_
  refine s_getR (k := 32) eX5_farthest_3 fX5_15 rfl (by decide) (by decide) rfl ?_
  refine s_getR (k := 34) eX5_farthest_6 fX5_92 rfl (by decide) (by decide) rfl ?_
  refine x_iconst (v := nI 2) eX5_farthest_9 (by decide) ?_
  refine x_aload_n eX5_farthest_10 rfl ?_
  refine s_getR (k := (46 + 2 * r)) eX5_farthest_11 fX5_31 (kd_ring h.1.1) (show _ < 365 by omega) (by decide) (rf_ring h.1.1) ?_
  refine x_iconst (v := nI 0) eX5_farthest_14 (by decide) ?_
  refine s_iald eX5_farthest_15 (kd_corner h.1.1) (show _ < 365 by omega) rfl (by rw [(ln_corner h.1.1)]; omega) ?_
  rw [(h.1.2.2.2 0 (by omega)).1]
  have l0 := lc 0 (by omega)
  have vv0 := vz_side hw ((h.pt hp 0).cvz hax) ((h.pt hp 0).cob ax) (hrn _ (h.2.2 _ (Nat.mod_lt _ h.2.1)) ax)
  rw [Nat.mod_eq_of_lt (show 0 < n by omega)] at vv0
  first | refine x_imulN eX5_farthest_16 ?_ | refine x_imul eX5_farthest_16 ?_
  refine x_iload_n eX5_farthest_17 rfl ?_
  first | refine x_iaddN eX5_farthest_18 ?_ | refine x_iadd eX5_farthest_18 ?_
  refine s_dald eX5_farthest_19 rfl (by decide) rfl (show _ < 402 by omega) ?_
  refine x_dmul eX5_farthest_20 (vz_n64 vv0) ?_
  refine x_dstore (lv' := [_, _, _, _, _]) eX5_farthest_21 (by decide) rfl ?_
  refine x_iconst (v := nI 1) eX5_farthest_23 (by decide) ?_
  refine x_istore (lv' := [_, _, _, _, _, _]) eX5_farthest_24 (by decide) rfl ?_
  refine x_pick [0, 1, 2, 3, 4, 5] rfl ?_
  exact loop (n - 1) 1 (by omega) _ _ ⟨rfl, by omega, vv0⟩
