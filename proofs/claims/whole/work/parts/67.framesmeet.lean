def mxs (σ : Int) (ax : Nat) (v : Nat → Pt) (n : Nat) : Int := mxZ (fun i => σ * co ax (v i)) (n - 1)
def badA (v w : Nat → Pt) (n m ax : Nat) : Prop := mxs 1 ax v n ≤ -(mxs (-1) ax w m) ∨ mxs 1 ax w m ≤ -(mxs (-1) ax v n)
theorem mxs_le {v w : Nat → Pt} {n m ax : Nat} (hn : 0 < n) (hm : 0 < m) (pv : ∀ i, v i = v (i % n)) (pw : ∀ i, w i = w (i % m)) : mxs 1 ax v n ≤ -(mxs (-1) ax w m) ↔ ∀ i k, co ax (v i) ≤ co ax (w k) := by
  unfold mxs
  constructor
  · intro h i k
    have h1 := mxZ_ge (fun i => 1 * co ax (v i)) (n - 1) (i % n) (by have := Nat.mod_lt i hn; omega)
    have h2 := mxZ_ge (fun i => -1 * co ax (w i)) (m - 1) (k % m) (by have := Nat.mod_lt k hm; omega)
    rw [← pv i] at h1
    rw [← pw k] at h2
    omega
  · intro h
    obtain ⟨i, -, e1⟩ := mxZ_mem (fun i => 1 * co ax (v i)) (n - 1)
    obtain ⟨k, -, e2⟩ := mxZ_mem (fun i => -1 * co ax (w i)) (m - 1)
    rw [e1, e2]
    have := h i k
    omega
theorem frames_iff {v w : Nat → Pt} {n m : Nat} (hn : 0 < n) (hm : 0 < m) (pv : ∀ i, v i = v (i % n)) (pw : ∀ i, w i = w (i % m)) : frames v w ↔ ¬ ∃ ax, ax < 2 ∧ badA v w n m ax := by
  unfold frames badA
  have k1 := fun ax => mxs_le (ax := ax) hn hm pv pw
  have k2 := fun ax => mxs_le (ax := ax) hm hn pw pv
  constructor
  · rintro h ⟨ax, hax, b⟩
    apply h
    rw [k1, k2] at b
    rcases (show ax = 0 ∨ ax = 1 by omega) with rfl | rfl
    · rcases b with b | b
      · exact ⟨(1, 0), Or.inl rfl, fun i k => by have := b i k; unfold co at this; unfold lin; simp only [if_true] at this; dsimp only; omega⟩
      · exact ⟨(-1, 0), Or.inr (Or.inl rfl), fun i k => by have := b k i; unfold co at this; unfold lin; simp only [if_true] at this; dsimp only; omega⟩
    · rcases b with b | b
      · exact ⟨(0, 1), Or.inr (Or.inr (Or.inl rfl)), fun i k => by have := b i k; unfold co at this; unfold lin; rw [if_neg (by decide), if_neg (by decide)] at this; dsimp only; omega⟩
      · exact ⟨(0, -1), Or.inr (Or.inr (Or.inr rfl)), fun i k => by have := b k i; unfold co at this; unfold lin; rw [if_neg (by decide), if_neg (by decide)] at this; dsimp only; omega⟩
  · rintro h ⟨l, hl, s⟩
    apply h
    rcases hl with rfl | rfl | rfl | rfl
    · exact ⟨0, by decide, Or.inl ((k1 0).mpr (fun i k => by have := s i k; unfold lin at this; unfold co; simp only [if_true]; dsimp only at this; omega))⟩
    · exact ⟨0, by decide, Or.inr ((k2 0).mpr (fun i k => by have := s k i; unfold lin at this; unfold co; simp only [if_true]; dsimp only at this; omega))⟩
    · exact ⟨1, by decide, Or.inl ((k1 1).mpr (fun i k => by have := s i k; unfold lin at this; unfold co; rw [if_neg (by decide), if_neg (by decide)]; dsimp only at this; omega))⟩
    · exact ⟨1, by decide, Or.inr ((k2 1).mpr (fun i k => by have := s k i; unfold lin at this; unfold co; rw [if_neg (by decide), if_neg (by decide)]; dsimp only at this; omega))⟩
theorem vr_mod (P : Nat → Pt) (c : Nat → Nat) (n i : Nat) : vr P c n i = vr P c n (i % n) := by unfold vr; rw [Nat.mod_mod]

theorem sp_X5_framesMeet (S : xS) {nc r n t m : Nat} {c d : Nat → Nat} {P : Nat → Pt} (hp : cps S nc P) (hrn : rns nc P) (h : CR S nc r n c) (g : CR S nc t m d) : Sp mX5_framesMeet [.ref 36, .ref (45 + 2 * r), .ref (45 + 2 * t)] S (fun x S' => x = some (.int (tI (frames (vr P c n) (vr P d m)))) ∧ S' = S) := by
  have hr := h.1.1
  have ht := g.1.1
  have fi := frames_iff (v := vr P c n) (w := vr P d m) h.2.1 g.2.1 (vr_mod P c n) (vr_mod P d m)
  have loop : ∀ μ k, k + μ = 2 → ∀ S1, (S1 = S ∧ ∀ a, a < k → ¬ badA (vr P c n) (vr P d m) n m a) → XP mX5_framesMeet 2 [(3, .int (nI k)), (0, .ref 36), (1, .ref (45 + 2 * r)), (2, .ref (45 + 2 * t))] [] (xwS S1) (sQ (fun x S' => x = some (.int (tI (frames (vr P c n) (vr P d m)))) ∧ S' = S)) := by
    intro μ
    induction μ with
    | zero =>
      intro k hk S1 h1
      obtain ⟨e1, hno⟩ := h1
      have e1 := e1.symm
      subst e1
      refine x_iload_n eX5_framesMeet_2 rfl ?_
      refine x_iconst (v := nI 2) eX5_framesMeet_3 (by decide) ?_
      refine x_icmp_geN eX5_framesMeet_4 (by omega) (by omega) (fun c_4 => ?_) (fun c_4 => ?_)
      · refine x_iconst (v := nI 1) eX5_framesMeet_53 (by decide) ?_
        exact s_iret eX5_framesMeet_54 rfl (by first | rfl | exact bI_nar _ | exact tI_nar _) ⟨tI_ts (fi.mpr (fun ⟨a, ha, z⟩ => hno a (by omega) z)), rfl⟩
      · omega
    | succ μ ih =>
      intro k hk S1 h1
      obtain ⟨e1, hno⟩ := h1
      have e1 := e1.symm
      subst e1
      refine x_iload_n eX5_framesMeet_2 rfl ?_
      refine x_iconst (v := nI 2) eX5_framesMeet_3 (by decide) ?_
      refine x_icmp_geN eX5_framesMeet_4 (by omega) (by omega) (fun c_4 => ?_) (fun c_4 => ?_)
      · omega
      · refine x_aload_n eX5_framesMeet_7 rfl ?_
        refine x_aload_n eX5_framesMeet_8 rfl ?_
        refine x_iload_n eX5_framesMeet_9 rfl ?_
        refine x_iconst (v := nI 1) eX5_framesMeet_10 (by decide) ?_
        refine s_callV (As := [_, _, _]) eX5_framesMeet_11 kX5_88 ⟨by decide, by decide⟩ rfl (by decide) (by decide) rfl rfl (Nat.le_of_ble_eq_true rfl) (Nat.le_of_ble_eq_true rfl) (sp_X5_farthest _ hp hrn h (by omega) (Or.inl ⟨rfl, rfl⟩)) (fun r_11 S_11 h_11 => ?_)
        obtain ⟨d_11, rfl, v_11, e_11⟩ := h_11
        show XP _ _ _ (_ :: _) _ _
        have e_11 := e_11.symm
        subst e_11
        refine x_aload_n eX5_framesMeet_14 rfl ?_
        refine x_aload_n eX5_framesMeet_15 rfl ?_
        refine x_iload_n eX5_framesMeet_16 rfl ?_
        refine x_iconst (v := -1) eX5_framesMeet_17 (by decide) ?_
        refine s_callV (As := [_, _, _]) eX5_framesMeet_18 kX5_88 ⟨by decide, by decide⟩ rfl (by decide) (by decide) rfl rfl (Nat.le_of_ble_eq_true rfl) (Nat.le_of_ble_eq_true rfl) (sp_X5_farthest _ hp hrn g (by omega) (Or.inr ⟨rfl, rfl⟩)) (fun r_18 S_18 h_18 => ?_)
        obtain ⟨d_18, rfl, v_18, e_18⟩ := h_18
        show XP _ _ _ (_ :: _) _ _
        have e_18 := e_18.symm
        subst e_18
        refine x_dneg eX5_framesMeet_21 ?_
        refine x_dcmp eX5_framesMeet_22 ?_
        rw [cmpV v_11 (vz_neg v_18)]
        refine x_if_leS eX5_framesMeet_23 (fun c_23 => ?_) (fun c_23 => ?_)
        · refine x_iconst (v := nI 0) eX5_framesMeet_45 (by decide) ?_
          refine s_iret eX5_framesMeet_46 rfl rfl ⟨tI_fs (fun z => fi.mp z ⟨k, by omega, ?_⟩), rfl⟩
          unfold badA mxs
          omega
        · refine x_aload_n eX5_framesMeet_26 rfl ?_
          refine x_aload_n eX5_framesMeet_27 rfl ?_
          refine x_iload_n eX5_framesMeet_28 rfl ?_
          refine x_iconst (v := nI 1) eX5_framesMeet_29 (by decide) ?_
          refine s_callV (As := [_, _, _]) eX5_framesMeet_30 kX5_88 ⟨by decide, by decide⟩ rfl (by decide) (by decide) rfl rfl (Nat.le_of_ble_eq_true rfl) (Nat.le_of_ble_eq_true rfl) (sp_X5_farthest _ hp hrn g (by omega) (Or.inl ⟨rfl, rfl⟩)) (fun r_30 S_30 h_30 => ?_)
          obtain ⟨d_30, rfl, v_30, e_30⟩ := h_30
          show XP _ _ _ (_ :: _) _ _
          have e_30 := e_30.symm
          subst e_30
          refine x_aload_n eX5_framesMeet_33 rfl ?_
          refine x_aload_n eX5_framesMeet_34 rfl ?_
          refine x_iload_n eX5_framesMeet_35 rfl ?_
          refine x_iconst (v := -1) eX5_framesMeet_36 (by decide) ?_
          refine s_callV (As := [_, _, _]) eX5_framesMeet_37 kX5_88 ⟨by decide, by decide⟩ rfl (by decide) (by decide) rfl rfl (Nat.le_of_ble_eq_true rfl) (Nat.le_of_ble_eq_true rfl) (sp_X5_farthest _ hp hrn h (by omega) (Or.inr ⟨rfl, rfl⟩)) (fun r_37 S_37 h_37 => ?_)
          obtain ⟨d_37, rfl, v_37, e_37⟩ := h_37
          show XP _ _ _ (_ :: _) _ _
          have e_37 := e_37.symm
          subst e_37
          refine x_dneg eX5_framesMeet_40 ?_
          refine x_dcmp eX5_framesMeet_41 ?_
          rw [cmpV v_30 (vz_neg v_37)]
          refine x_if_gtS eX5_framesMeet_42 (fun c_42 => ?_) (fun c_42 => ?_)
          · refine x_iinc (lv' := [_, _, _, _]) eX5_framesMeet_47 rfl (by first | exact nI_inc _ | exact rfl) (by decide) rfl ?_
            refine x_goto eX5_framesMeet_50 ?_
            refine x_pick [0, 1, 2, 3] rfl ?_
            refine ih (k + 1) (by omega) _ ⟨rfl, fun a ha z => ?_⟩
            by_cases q : a < k
            · exact hno a q z
            obtain rfl : a = k := by omega
            unfold badA mxs at z
            omega
          · refine x_iconst (v := nI 0) eX5_framesMeet_45 (by decide) ?_
            refine s_iret eX5_framesMeet_46 rfl rfl ⟨tI_fs (fun z => fi.mp z ⟨k, by omega, ?_⟩), rfl⟩
            unfold badA mxs
            omega
  show XP _ _ [_, _, _] _ _ _
  refine x_iconst (v := nI 0) eX5_framesMeet_0 (by decide) ?_
  refine x_istore_n (lv' := [_, _, _, _]) eX5_framesMeet_1 (by decide) rfl ?_
  refine x_pick [0, 1, 2, 3] rfl ?_
  exact loop 2 0 (by omega) _ ⟨rfl, fun a ha => by omega⟩
