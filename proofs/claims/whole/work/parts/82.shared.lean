theorem sp_X3_restore (S : xS) {p q : Nat} (hp : p < 60) (f3 : S.1 37 3 = nI p) (f4 : (S.1 37 4 = -1 ∧ q = p) ∨ (S.1 37 4 = nI q ∧ q < 60 ∧ q ≠ p)) (hz : zst S) : Sp mX3_restore [.ref 37] S (fun r S' => r = none ∧ Fx [37, 175 + p, 45 + 2 * p, 175 + q, 45 + 2 * q] [46 + 2 * p, 46 + 2 * q] [] [] S S' ∧ S'.1 37 5 = 0 ∧ (∀ f, f ≠ 5 → S'.1 37 f = S.1 37 f) ∧ entEq S 60 S' p ∧ (S.1 37 4 = nI q → entEq S 61 S' q)) := by
  show XP _ _ [_] _ _ _
  rcases f4 with ⟨f4, rfl⟩ | ⟨f4, hq, hne⟩
  · refine x_aload_n eX3_restore_0 rfl ?_
    refine x_iconst (v := nI 0) eX3_restore_1 (by decide) ?_
    refine s_putz eX3_restore_2 fX3_32 wX3_5 rfl (by decide) (by decide) (by first | exact Or.inl rfl | exact Or.inr rfl | exact bI_01 _) ?_
    refine x_aload_n eX3_restore_5 rfl ?_
    refine s_geti eX3_restore_6 fX3_25 rfl (by decide) (by decide) ?_
    rw [setF_at, upd_ne _ _ (by decide), f3]
    refine s_callS1 (As := [_]) eX3_restore_9 kX3_70 ⟨by decide, by decide⟩ rfl rfl (Nat.le_of_ble_eq_true rfl) (Nat.le_of_ble_eq_true rfl) (sp_X3_isEntryN _ hp) (fun S_9 h_9 => ?_)
    have h_9 := h_9.symm
    subst h_9
    refine x_if_eqN eX3_restore_12 (by omega) (fun c_12 => ?_) (fun c_12 => ?_)
    · omega
    · refine x_aload_n eX3_restore_15 rfl ?_
      refine s_getR (k := 38) eX3_restore_16 fX3_11 rfl (by decide) (by decide) rfl ?_
      refine x_aload_n eX3_restore_19 rfl ?_
      refine s_geti eX3_restore_20 fX3_25 rfl (by decide) (by decide) ?_
      rw [setF_at, upd_ne _ _ (by decide), f3]
      refine s_raldR eX3_restore_23 (by first | exact Or.inl rfl | exact Or.inr rfl) (by decide) rfl (show _ < 60 by omega) (rf_parcels q) ?_
      refine x_aload_n eX3_restore_24 rfl ?_
      refine s_getR (k := 235) eX3_restore_25 fX3_18 rfl (by decide) (by decide) rfl ?_
      refine s_callV0 (As := [_]) eX3_restore_28 kX3_73 ⟨by decide, by decide⟩ (kd_parcel (by omega)) (by decide) (show _ < 365 by omega) rfl rfl (Nat.le_of_ble_eq_true rfl) (Nat.le_of_ble_eq_true rfl) (sp_X1_copy _ (a := q) (b := 60) (by omega) (by omega) (by omega) (by rw [setF_ne _ _ (by omega)]; exact hz 60 (by omega))) (fun S_28 h_28 => ?_)
      obtain ⟨x1, e1⟩ := h_28
      have y1 : Fx [37, 175 + q, 45 + 2 * q, 175 + q, 45 + 2 * q] [46 + 2 * q, 46 + 2 * q] [] [] S S_28 := (Fx.sF (p := 37) (by simp)).tr (x1.mono (by simp) (by simp) (by simp) (by simp))
      have g37 : S_28.1 37 = upd (S.1 37) 5 (nI 0) := by rw [x1.1 37 (by simp; omega), setF_at]
      have en1 : entEq S 60 S_28 q := e1.of (Fx.sF (fs := [37]) (is := []) (by simp)) (by simp) (by simp) (by simp)
      refine x_aload_n eX3_restore_31 rfl ?_
      refine s_geti eX3_restore_32 fX3_29 rfl (by decide) (by decide) ?_
      rw [g37, upd_ne _ _ (by decide), f4]
      refine s_callS1 (As := [_]) eX3_restore_35 kX3_70 ⟨by decide, by decide⟩ rfl rfl (Nat.le_of_ble_eq_true rfl) (Nat.le_of_ble_eq_true rfl) (sp_X3_isEntryM _) (fun S_35 h_35 => ?_)
      have h_35 := h_35.symm
      subst h_35
      refine x_if_eqN eX3_restore_38 (by omega) (fun c_38 => ?_) (fun c_38 => ?_)
      · exact s_vret eX3_restore_57 rfl ⟨rfl, y1, by rw [g37, upd_at]; rfl, fun f hf => by rw [g37, upd_ne _ _ hf], en1, fun z => absurd z.symm (nI_ne_m1 (by omega))⟩
      · omega
  · refine x_aload_n eX3_restore_0 rfl ?_
    refine x_iconst (v := nI 0) eX3_restore_1 (by decide) ?_
    refine s_putz eX3_restore_2 fX3_32 wX3_5 rfl (by decide) (by decide) (by first | exact Or.inl rfl | exact Or.inr rfl | exact bI_01 _) ?_
    refine x_aload_n eX3_restore_5 rfl ?_
    refine s_geti eX3_restore_6 fX3_25 rfl (by decide) (by decide) ?_
    rw [setF_at, upd_ne _ _ (by decide), f3]
    refine s_callS1 (As := [_]) eX3_restore_9 kX3_70 ⟨by decide, by decide⟩ rfl rfl (Nat.le_of_ble_eq_true rfl) (Nat.le_of_ble_eq_true rfl) (sp_X3_isEntryN _ hp) (fun S_9 h_9 => ?_)
    have h_9 := h_9.symm
    subst h_9
    refine x_if_eqN eX3_restore_12 (by omega) (fun c_12 => ?_) (fun c_12 => ?_)
    · omega
    · refine x_aload_n eX3_restore_15 rfl ?_
      refine s_getR (k := 38) eX3_restore_16 fX3_11 rfl (by decide) (by decide) rfl ?_
      refine x_aload_n eX3_restore_19 rfl ?_
      refine s_geti eX3_restore_20 fX3_25 rfl (by decide) (by decide) ?_
      rw [setF_at, upd_ne _ _ (by decide), f3]
      refine s_raldR eX3_restore_23 (by first | exact Or.inl rfl | exact Or.inr rfl) (by decide) rfl (show _ < 60 by omega) (rf_parcels p) ?_
      refine x_aload_n eX3_restore_24 rfl ?_
      refine s_getR (k := 235) eX3_restore_25 fX3_18 rfl (by decide) (by decide) rfl ?_
      refine s_callV0 (As := [_]) eX3_restore_28 kX3_73 ⟨by decide, by decide⟩ (kd_parcel (by omega)) (by decide) (show _ < 365 by omega) rfl rfl (Nat.le_of_ble_eq_true rfl) (Nat.le_of_ble_eq_true rfl) (sp_X1_copy _ (a := p) (b := 60) (by omega) (by omega) (by omega) (by rw [setF_ne _ _ (by omega)]; exact hz 60 (by omega))) (fun S_28 h_28 => ?_)
      obtain ⟨x1, e1⟩ := h_28
      have y1 : Fx [37, 175 + p, 45 + 2 * p, 175 + q, 45 + 2 * q] [46 + 2 * p, 46 + 2 * q] [] [] S S_28 := (Fx.sF (p := 37) (by simp)).tr (x1.mono (by simp) (by simp) (by simp) (by simp))
      have g37 : S_28.1 37 = upd (S.1 37) 5 (nI 0) := by rw [x1.1 37 (by simp; omega), setF_at]
      have en1 : entEq S 60 S_28 p := e1.of (Fx.sF (fs := [37]) (is := []) (by simp)) (by simp) (by simp) (by simp)
      refine x_aload_n eX3_restore_31 rfl ?_
      refine s_geti eX3_restore_32 fX3_29 rfl (by decide) (by decide) ?_
      rw [g37, upd_ne _ _ (by decide), f4]
      refine s_callS1 (As := [_]) eX3_restore_35 kX3_70 ⟨by decide, by decide⟩ rfl rfl (Nat.le_of_ble_eq_true rfl) (Nat.le_of_ble_eq_true rfl) (sp_X3_isEntryN _ hq) (fun S_35 h_35 => ?_)
      have h_35 := h_35.symm
      subst h_35
      refine x_if_eqN eX3_restore_38 (by omega) (fun c_38 => ?_) (fun c_38 => ?_)
      · omega
      · refine x_aload_n eX3_restore_41 rfl ?_
        refine s_getR (k := 38) eX3_restore_42 fX3_11 rfl (by decide) (by decide) rfl ?_
        refine x_aload_n eX3_restore_45 rfl ?_
        refine s_geti eX3_restore_46 fX3_29 rfl (by decide) (by decide) ?_
        rw [g37, upd_ne _ _ (by decide), f4]
        refine s_raldR eX3_restore_49 (by first | exact Or.inl rfl | exact Or.inr rfl) (by decide) rfl (show _ < 60 by omega) (rf_parcels q) ?_
        refine x_aload_n eX3_restore_50 rfl ?_
        refine s_getR (k := 236) eX3_restore_51 fX3_22 rfl (by decide) (by decide) rfl ?_
        refine s_callV0 (As := [_]) eX3_restore_54 kX3_73 ⟨by decide, by decide⟩ (kd_parcel (by omega)) (by decide) (show _ < 365 by omega) rfl rfl (Nat.le_of_ble_eq_true rfl) (Nat.le_of_ble_eq_true rfl) (sp_X1_copy _ (a := q) (b := 61) (by omega) (by omega) (by omega) (by rw [y1.1 (175 + 61) (by simp; omega)]; exact hz 61 (by omega))) (fun S_54 h_54 => ?_)
        obtain ⟨x2, e2⟩ := h_54
        have y2 : Fx [37, 175 + p, 45 + 2 * p, 175 + q, 45 + 2 * q] [46 + 2 * p, 46 + 2 * q] [] [] S_28 S_54 := x2.mono (by simp) (by simp) (by simp) (by simp)
        have k37 : S_54.1 37 = S_28.1 37 := x2.1 37 (by simp; omega)
        exact s_vret eX3_restore_57 rfl ⟨rfl, y1.tr y2, by rw [k37, g37, upd_at]; rfl, fun f hf => by rw [k37, g37, upd_ne _ _ hf], en1.mv x2 (by simp; omega) (by simp; omega) (by simp; omega), fun _ => e2.of y1 (by simp; omega) (by simp; omega) (by simp; omega)⟩
/-! ===== shared edges ===== -/
def shE (c : Nat → Nat) (n : Nat) (d : Nat → Nat) (m i : Nat) : Prop := ∃ k, k < m ∧ d k = c ((i + 1) % n) ∧ d ((k + 1) % m) = c (i % n)

theorem sp_X4_isShared (S : xS) {r n t m i : Nat} {c d : Nat → Nat} (h : crg S r n c) (h0 : 0 < n) (g : crg S t m d) (m0 : 0 < m) (hi : i < 1000) : Sp mX4_isShared [.ref (45 + 2 * r), .int (nI i), .ref (45 + 2 * t)] S (fun v S' => v = some (.int (tI (shE c n d m i))) ∧ S' = S) := by
  have hr := h.1
  have ht := g.1
  have m24 := g.2.1
  have l1 := (h.2.2.2 _ (Nat.mod_lt (i + 1) h0)).2
  have l2 := (h.2.2.2 _ (Nat.mod_lt i h0)).2
  have ld : ∀ k, k < m → d k < 201 := fun k hk => (g.2.2.2 k hk).2
  have loop : ∀ μ k, k + μ = m → ∀ S1, (S1 = S ∧ ∀ j, j < k → ¬ (d j = c ((i + 1) % n) ∧ d ((j + 1) % m) = c (i % n))) → XP mX4_isShared 2 [(3, .int (nI k)), (0, .ref (45 + 2 * r)), (1, .int (nI i)), (2, .ref (45 + 2 * t))] [] (xwS S1) (sQ (fun v S' => v = some (.int (tI (shE c n d m i))) ∧ S' = S)) := by
    intro μ
    induction μ with
    | zero =>
      intro k hk S1 h1
      obtain ⟨e1, hno⟩ := h1
      have e1 := e1.symm
      subst e1
      refine x_iload_n eX4_isShared_2 rfl ?_
      refine x_aload_n eX4_isShared_3 rfl ?_
      refine s_geti eX4_isShared_4 fX4_15 (kd_ring ht) (show _ < 365 by omega) (by decide) ?_
      rw [g.2.2.1]
      refine x_icmp_geN eX4_isShared_7 (by omega) (by omega) (fun c_7 => ?_) (fun c_7 => ?_)
      · refine x_iconst (v := nI 0) eX4_isShared_49 (by decide) ?_
        exact s_iret eX4_isShared_50 rfl (by first | rfl | exact bI_nar _ | exact tI_nar _) ⟨tI_fs (fun ⟨k, hk, z⟩ => hno k (by omega) z), rfl⟩
      · omega
    | succ μ ih =>
      intro k hk S1 h1
      obtain ⟨e1, hno⟩ := h1
      have e1 := e1.symm
      subst e1
      refine x_iload_n eX4_isShared_2 rfl ?_
      refine x_aload_n eX4_isShared_3 rfl ?_
      refine s_geti eX4_isShared_4 fX4_15 (kd_ring ht) (show _ < 365 by omega) (by decide) ?_
      rw [g.2.2.1]
      have lk := fun (z : k < m) => ld k z
      have lk1 := ld _ (Nat.mod_lt (k + 1) m0)
      refine x_icmp_geN eX4_isShared_7 (by omega) (by omega) (fun c_7 => ?_) (fun c_7 => ?_)
      · omega
      · refine x_aload_n eX4_isShared_10 rfl ?_
        refine s_getR (k := (46 + 2 * t)) eX4_isShared_11 fX4_9 (kd_ring ht) (show _ < 365 by omega) (by decide) (rf_ring ht) ?_
        refine x_iload_n eX4_isShared_14 rfl ?_
        refine s_iald eX4_isShared_15 (kd_corner ht) (show _ < 365 by omega) rfl (by rw [(ln_corner ht)]; omega) ?_
        rw [(g.2.2.2 k (by omega)).1]
        have lk := lk (by omega)
        refine x_aload_n eX4_isShared_16 rfl ?_
        refine x_iload_n eX4_isShared_17 rfl ?_
        refine x_iconst (v := nI 1) eX4_isShared_18 (by decide) ?_
        first | refine x_iaddN eX4_isShared_19 ?_ | refine x_iadd eX4_isShared_19 ?_
        refine s_callV1 (As := [_]) eX4_isShared_20 kX4_19 ⟨by decide, by decide⟩ (kd_ring hr) (by decide) (show _ < 365 by omega) rfl rfl (Nat.le_of_ble_eq_true rfl) (Nat.le_of_ble_eq_true rfl) (sp_X4_around _ h h0 (by omega)) (fun S_20 h_20 => ?_)
        have h_20 := h_20.symm
        subst h_20
        refine x_icmp_neN eX4_isShared_23 (by omega) (by omega) (fun c_23 => ?_) (fun c_23 => ?_)
        · refine x_iinc (lv' := [_, _, _, _]) eX4_isShared_43 rfl (by first | exact nI_inc _ | exact rfl) (by decide) rfl ?_
          refine x_goto eX4_isShared_46 ?_
          refine x_pick [0, 1, 2, 3] rfl ?_
          refine ih (k + 1) (by omega) _ ⟨rfl, fun j hj z => ?_⟩
          by_cases q : j < k
          · exact hno j q z
          obtain rfl : j = k := by omega
          first
            | exact c_23 z.1
            | exact c_38 z.2
        · refine x_aload_n eX4_isShared_26 rfl ?_
          refine x_iload_n eX4_isShared_27 rfl ?_
          refine x_iconst (v := nI 1) eX4_isShared_28 (by decide) ?_
          first | refine x_iaddN eX4_isShared_29 ?_ | refine x_iadd eX4_isShared_29 ?_
          refine s_callV1 (As := [_]) eX4_isShared_30 kX4_19 ⟨by decide, by decide⟩ (kd_ring ht) (by decide) (show _ < 365 by omega) rfl rfl (Nat.le_of_ble_eq_true rfl) (Nat.le_of_ble_eq_true rfl) (sp_X4_around _ g m0 (by omega)) (fun S_30 h_30 => ?_)
          have h_30 := h_30.symm
          subst h_30
          refine x_aload_n eX4_isShared_33 rfl ?_
          refine x_iload_n eX4_isShared_34 rfl ?_
          refine s_callV1 (As := [_]) eX4_isShared_35 kX4_19 ⟨by decide, by decide⟩ (kd_ring hr) (by decide) (show _ < 365 by omega) rfl rfl (Nat.le_of_ble_eq_true rfl) (Nat.le_of_ble_eq_true rfl) (sp_X4_around _ h h0 (by omega)) (fun S_35 h_35 => ?_)
          have h_35 := h_35.symm
          subst h_35
          refine x_icmp_neN eX4_isShared_38 (by omega) (by omega) (fun c_38 => ?_) (fun c_38 => ?_)
          · refine x_iinc (lv' := [_, _, _, _]) eX4_isShared_43 rfl (by first | exact nI_inc _ | exact rfl) (by decide) rfl ?_
            refine x_goto eX4_isShared_46 ?_
            refine x_pick [0, 1, 2, 3] rfl ?_
            refine ih (k + 1) (by omega) _ ⟨rfl, fun j hj z => ?_⟩
            by_cases q : j < k
            · exact hno j q z
            obtain rfl : j = k := by omega
            first
              | exact c_23 z.1
              | exact c_38 z.2
          · refine x_iconst (v := nI 1) eX4_isShared_41 (by decide) ?_
            exact s_iret eX4_isShared_42 rfl (by first | rfl | exact bI_nar _ | exact tI_nar _) ⟨tI_ts ⟨k, by omega, c_23, c_38⟩, rfl⟩
  show XP _ _ [_, _, _] _ _ _
  refine x_iconst (v := nI 0) eX4_isShared_0 (by decide) ?_
  refine x_istore_n (lv' := [_, _, _, _]) eX4_isShared_1 (by decide) rfl ?_
  refine x_pick [0, 1, 2, 3] rfl ?_
  exact loop m 0 (by omega) _ ⟨rfl, fun j hj => by omega⟩
theorem sp_X4_isSharedM (S : xS) {r n t m i : Nat} {c d : Nat → Nat} (h : crg S r n c) (h0 : 0 < n) (g : crg S t m d) (m0 : 0 < m) (hi : i = n - 1) : Sp mX4_isShared [.ref (45 + 2 * r), .int (nI 0 - nI 1), .ref (45 + 2 * t)] S (fun v S' => v = some (.int (tI (shE c n d m i))) ∧ S' = S) := by
  have hr := h.1
  have ht := g.1
  have m24 := g.2.1
  have l1 := (h.2.2.2 _ (Nat.mod_lt (i + 1) h0)).2
  have l2 := (h.2.2.2 _ (Nat.mod_lt i h0)).2
  have ld : ∀ k, k < m → d k < 201 := fun k hk => (g.2.2.2 k hk).2
  have loop : ∀ μ k, k + μ = m → ∀ S1, (S1 = S ∧ ∀ j, j < k → ¬ (d j = c ((i + 1) % n) ∧ d ((j + 1) % m) = c (i % n))) → XP mX4_isShared 2 [(3, .int (nI k)), (0, .ref (45 + 2 * r)), (1, .int (nI 0 - nI 1)), (2, .ref (45 + 2 * t))] [] (xwS S1) (sQ (fun v S' => v = some (.int (tI (shE c n d m i))) ∧ S' = S)) := by
    intro μ
    induction μ with
    | zero =>
      intro k hk S1 h1
      obtain ⟨e1, hno⟩ := h1
      have e1 := e1.symm
      subst e1
      refine x_iload_n eX4_isShared_2 rfl ?_
      refine x_aload_n eX4_isShared_3 rfl ?_
      refine s_geti eX4_isShared_4 fX4_15 (kd_ring ht) (show _ < 365 by omega) (by decide) ?_
      rw [g.2.2.1]
      refine x_icmp_geN eX4_isShared_7 (by omega) (by omega) (fun c_7 => ?_) (fun c_7 => ?_)
      · refine x_iconst (v := nI 0) eX4_isShared_49 (by decide) ?_
        exact s_iret eX4_isShared_50 rfl (by first | rfl | exact bI_nar _ | exact tI_nar _) ⟨tI_fs (fun ⟨k, hk, z⟩ => hno k (by omega) z), rfl⟩
      · omega
    | succ μ ih =>
      intro k hk S1 h1
      obtain ⟨e1, hno⟩ := h1
      have e1 := e1.symm
      subst e1
      refine x_iload_n eX4_isShared_2 rfl ?_
      refine x_aload_n eX4_isShared_3 rfl ?_
      refine s_geti eX4_isShared_4 fX4_15 (kd_ring ht) (show _ < 365 by omega) (by decide) ?_
      rw [g.2.2.1]
      have lk := fun (z : k < m) => ld k z
      have lk1 := ld _ (Nat.mod_lt (k + 1) m0)
      refine x_icmp_geN eX4_isShared_7 (by omega) (by omega) (fun c_7 => ?_) (fun c_7 => ?_)
      · omega
      · refine x_aload_n eX4_isShared_10 rfl ?_
        refine s_getR (k := (46 + 2 * t)) eX4_isShared_11 fX4_9 (kd_ring ht) (show _ < 365 by omega) (by decide) (rf_ring ht) ?_
        refine x_iload_n eX4_isShared_14 rfl ?_
        refine s_iald eX4_isShared_15 (kd_corner ht) (show _ < 365 by omega) rfl (by rw [(ln_corner ht)]; omega) ?_
        rw [(g.2.2.2 k (by omega)).1]
        have lk := lk (by omega)
        refine x_aload_n eX4_isShared_16 rfl ?_
        refine x_iload_n eX4_isShared_17 rfl ?_
        refine x_iconst (v := nI 1) eX4_isShared_18 (by decide) ?_
        refine x_iadd eX4_isShared_19 ?_
        rw [show nI 0 - nI 1 + nI 1 = nI 0 by decide]
        refine s_callV1 (As := [_]) eX4_isShared_20 kX4_19 ⟨by decide, by decide⟩ (kd_ring hr) (by decide) (show _ < 365 by omega) rfl rfl (Nat.le_of_ble_eq_true rfl) (Nat.le_of_ble_eq_true rfl) (sp_X4_around _ h h0 (by omega)) (fun S_20 h_20 => ?_)
        have h_20 := h_20.symm
        subst h_20
        rw [show 0 % n = (i + 1) % n by rw [hi, show n - 1 + 1 = n by omega, Nat.mod_self, Nat.zero_mod]]
        refine x_icmp_neN eX4_isShared_23 (by omega) (by omega) (fun c_23 => ?_) (fun c_23 => ?_)
        · refine x_iinc (lv' := [_, _, _, _]) eX4_isShared_43 rfl (by first | exact nI_inc _ | exact rfl) (by decide) rfl ?_
          refine x_goto eX4_isShared_46 ?_
          refine x_pick [0, 1, 2, 3] rfl ?_
          refine ih (k + 1) (by omega) _ ⟨rfl, fun j hj z => ?_⟩
          by_cases q : j < k
          · exact hno j q z
          obtain rfl : j = k := by omega
          first
            | exact c_23 z.1
            | exact c_38 z.2
        · refine x_aload_n eX4_isShared_26 rfl ?_
          refine x_iload_n eX4_isShared_27 rfl ?_
          refine x_iconst (v := nI 1) eX4_isShared_28 (by decide) ?_
          first | refine x_iaddN eX4_isShared_29 ?_ | refine x_iadd eX4_isShared_29 ?_
          refine s_callV1 (As := [_]) eX4_isShared_30 kX4_19 ⟨by decide, by decide⟩ (kd_ring ht) (by decide) (show _ < 365 by omega) rfl rfl (Nat.le_of_ble_eq_true rfl) (Nat.le_of_ble_eq_true rfl) (sp_X4_around _ g m0 (by omega)) (fun S_30 h_30 => ?_)
          have h_30 := h_30.symm
          subst h_30
          refine x_aload_n eX4_isShared_33 rfl ?_
          refine x_iload_n eX4_isShared_34 rfl ?_
          refine s_callV1 (As := [_]) eX4_isShared_35 kX4_19 ⟨by decide, by decide⟩ (kd_ring hr) (by decide) (show _ < 365 by omega) rfl rfl (Nat.le_of_ble_eq_true rfl) (Nat.le_of_ble_eq_true rfl) (sp_X4_aroundP _ h h0 (by omega)) (fun S_35 h_35 => ?_)
          have h_35 := h_35.symm
          subst h_35
          rw [show (0 + n - 1) % n = i % n by rw [hi, Nat.zero_add]]
          refine x_icmp_neN eX4_isShared_38 (by omega) (by omega) (fun c_38 => ?_) (fun c_38 => ?_)
          · refine x_iinc (lv' := [_, _, _, _]) eX4_isShared_43 rfl (by first | exact nI_inc _ | exact rfl) (by decide) rfl ?_
            refine x_goto eX4_isShared_46 ?_
            refine x_pick [0, 1, 2, 3] rfl ?_
            refine ih (k + 1) (by omega) _ ⟨rfl, fun j hj z => ?_⟩
            by_cases q : j < k
            · exact hno j q z
            obtain rfl : j = k := by omega
            first
              | exact c_23 z.1
              | exact c_38 z.2
          · refine x_iconst (v := nI 1) eX4_isShared_41 (by decide) ?_
            exact s_iret eX4_isShared_42 rfl (by first | rfl | exact bI_nar _ | exact tI_nar _) ⟨tI_ts ⟨k, by omega, c_23, c_38⟩, rfl⟩
  show XP _ _ [_, _, _] _ _ _
  refine x_iconst (v := nI 0) eX4_isShared_0 (by decide) ?_
  refine x_istore_n (lv' := [_, _, _, _]) eX4_isShared_1 (by decide) rfl ?_
  refine x_pick [0, 1, 2, 3] rfl ?_
  exact loop m 0 (by omega) _ ⟨rfl, fun j hj => by omega⟩
theorem sp_X4_sharedWith (S : xS) {r n t m : Nat} {c d : Nat → Nat} (h : crg S r n c) (h0 : 0 < n) (g : crg S t m d) (m0 : 0 < m) : Sp mX4_sharedWith [.ref (45 + 2 * r), .ref (45 + 2 * t)] S (fun v S' => v = some (.int (nI (cnt (shE c n d m) n))) ∧ S' = S) := by
  have hr := h.1
  have ht := g.1
  have n24 := h.2.1
  have loop : ∀ μ k, k + μ = n → ∀ S1, S1 = S → XP mX4_sharedWith 4 [(3, .int (nI k)), (2, .int (nI (cnt (shE c n d m) k))), (0, .ref (45 + 2 * r)), (1, .ref (45 + 2 * t))] [] (xwS S1) (sQ (fun v S' => v = some (.int (nI (cnt (shE c n d m) n))) ∧ S' = S)) := by
    intro μ
    induction μ with
    | zero =>
      intro k hk S1 h1
      have h1 := h1.symm
      subst h1
      refine x_iload_n eX4_sharedWith_4 rfl ?_
      refine x_aload_n eX4_sharedWith_5 rfl ?_
      refine s_geti eX4_sharedWith_6 fX4_15 (kd_ring hr) (show _ < 365 by omega) (by decide) ?_
      rw [h.2.2.1]
      refine x_icmp_geN eX4_sharedWith_9 (by omega) (by omega) (fun c_9 => ?_) (fun c_9 => ?_)
      · refine x_iload_n eX4_sharedWith_30 rfl ?_
        exact s_iret eX4_sharedWith_31 rfl rfl ⟨by rw [show k = n by omega], rfl⟩
      · omega
    | succ μ ih =>
      intro k hk S1 h1
      have h1 := h1.symm
      subst h1
      refine x_iload_n eX4_sharedWith_4 rfl ?_
      refine x_aload_n eX4_sharedWith_5 rfl ?_
      refine s_geti eX4_sharedWith_6 fX4_15 (kd_ring hr) (show _ < 365 by omega) (by decide) ?_
      rw [h.2.2.1]
      refine x_icmp_geN eX4_sharedWith_9 (by omega) (by omega) (fun c_9 => ?_) (fun c_9 => ?_)
      · omega
      · refine x_aload_n eX4_sharedWith_12 rfl ?_
        refine x_iload_n eX4_sharedWith_13 rfl ?_
        refine x_aload_n eX4_sharedWith_14 rfl ?_
        refine s_callV1 (As := [_, _]) eX4_sharedWith_15 kX4_27 ⟨by decide, by decide⟩ (kd_ring hr) (by decide) (show _ < 365 by omega) rfl rfl (Nat.le_of_ble_eq_true rfl) (Nat.le_of_ble_eq_true rfl) (sp_X4_isShared _ h h0 g m0 (i := k) (by omega)) (fun S_15 h_15 => ?_)
        have h_15 := h_15.symm
        subst h_15
        refine x_if_eqT eX4_sharedWith_18 (fun c_18 => ?_) (fun c_18 => ?_)
        · refine x_iinc (lv' := [_, _, _, _]) eX4_sharedWith_24 rfl (by first | exact nI_inc _ | exact rfl) (by decide) rfl ?_
          refine x_goto eX4_sharedWith_27 ?_
          refine x_pick [0, 1, 2, 3] rfl ?_
          have := ih (k + 1) (by omega) _ rfl
          first
            | (rw [cnt_t (R := (shE c n d m)) c_18] at this; exact this)
            | (rw [cnt_f (R := (shE c n d m)) c_18] at this; exact this)
        · refine x_iinc (lv' := [_, _, _, _]) eX4_sharedWith_21 rfl (by first | exact nI_inc _ | exact rfl) (by decide) rfl ?_
          refine x_iinc (lv' := [_, _, _, _]) eX4_sharedWith_24 rfl (by first | exact nI_inc _ | exact rfl) (by decide) rfl ?_
          refine x_goto eX4_sharedWith_27 ?_
          refine x_pick [0, 1, 2, 3] rfl ?_
          have := ih (k + 1) (by omega) _ rfl
          first
            | (rw [cnt_t (R := (shE c n d m)) c_18] at this; exact this)
            | (rw [cnt_f (R := (shE c n d m)) c_18] at this; exact this)
  show XP _ _ [_, _] _ _ _
  refine x_iconst (v := nI 0) eX4_sharedWith_0 (by decide) ?_
  refine x_istore_n (lv' := [_, _, _]) eX4_sharedWith_1 (by decide) rfl ?_
  refine x_iconst (v := nI 0) eX4_sharedWith_2 (by decide) ?_
  refine x_istore_n (lv' := [_, _, _, _]) eX4_sharedWith_3 (by decide) rfl ?_
  refine x_pick [0, 1, 2, 3] rfl ?_
  exact loop n 0 (by omega) _ rfl
/-- the one place with R, or -1 -/
noncomputable def oneI (R : Nat → Prop) (n : Nat) : Int32 := match fst1 R n with
  | none => -1
  | some i => @ite _ (∃ j, i < j ∧ j < n ∧ R j) (Classical.propDecidable _) (-1) (nI i)
def stE (c : Nat → Nat) (n : Nat) (d : Nat → Nat) (m i : Nat) : Prop := shE c n d m i ∧ ¬ shE c n d m ((i + n - 1) % n)
theorem shE_mod (c : Nat → Nat) (n : Nat) (d : Nat → Nat) (m i : Nat) : shE c n d m (i % n) ↔ shE c n d m i := by unfold shE; rw [Nat.mod_mod, Nat.mod_add_mod]
/-- the start found so far -/
def stK (R : Nat → Prop) (k : Nat) (x : Int32) : Prop := (x = -1 ∧ ∀ j, j < k → ¬ R j) ∨ ∃ i, i < k ∧ R i ∧ (∀ j, j < i → ¬ R j) ∧ (∀ j, i < j → j < k → ¬ R j) ∧ x = nI i
theorem stK_end {R : Nat → Prop} {n : Nat} {x : Int32} (h : stK R n x) : x = oneI R n := by
  unfold oneI
  rcases h with ⟨e, h⟩ | ⟨i, hi, r, m1, m2, e⟩
  · rw [fst1_none h]; exact e
  · rw [fst1_some hi r m1]
    show x = @ite _ _ (Classical.propDecidable _) _ _
    rw [if_neg (fun ⟨j, a, b, z⟩ => m2 j a b z)]; exact e
theorem stK_two {R : Nat → Prop} {n k : Nat} {x : Int32} (h : stK R k x) (hk : k < n) (hx : x ≠ -1) (r : R k) : oneI R n = -1 := by
  unfold oneI
  rcases h with ⟨e, -⟩ | ⟨i, hi, ri, m1, m2, e⟩
  · exact absurd e hx
  · rw [fst1_some (by omega) ri m1]
    show @ite _ _ (Classical.propDecidable _) _ _ = _
    rw [if_pos ⟨k, hi, hk, r⟩]
theorem stK_no {R : Nat → Prop} {k : Nat} {x : Int32} (h : stK R k x) (r : ¬ R k) : stK R (k + 1) x := by
  rcases h with ⟨e, h⟩ | ⟨i, hi, ri, m1, m2, e⟩
  · refine Or.inl ⟨e, fun j hj z => ?_⟩
    by_cases q : j = k
    · subst q; exact r z
    · exact h j (by omega) z
  · refine Or.inr ⟨i, by omega, ri, m1, fun j a b z => ?_, e⟩
    by_cases q : j = k
    · subst q; exact r z
    · exact m2 j a (by omega) z
theorem stK_yes {R : Nat → Prop} {k : Nat} {x : Int32} (h : stK R k x) (hk : k < 100) (hx : x = -1) (r : R k) : stK R (k + 1) (nI k) := by
  rcases h with ⟨e, h⟩ | ⟨i, hi, ri, m1, m2, e⟩
  · exact Or.inr ⟨k, by omega, r, h, fun j a b => by omega, rfl⟩
  · rw [e] at hx; exact absurd hx (nI_ne_m1 (by omega))

theorem sp_X4_startOfShared (S : xS) {r n t m : Nat} {c d : Nat → Nat} (h : crg S r n c) (h0 : 0 < n) (g : crg S t m d) (m0 : 0 < m) : Sp mX4_startOfShared [.ref (45 + 2 * r), .ref (45 + 2 * t)] S (fun v S' => v = some (.int (oneI (stE c n d m) n)) ∧ S' = S) := by
  have hr := h.1
  have ht := g.1
  have n24 := h.2.1
  have prev : ∀ k, k < n → Sp mX4_isShared [.ref (45 + 2 * r), .int (nI k - nI 1), .ref (45 + 2 * t)] S (fun v S' => v = some (.int (tI (shE c n d m ((k + n - 1) % n)))) ∧ S' = S) := by
    intro k hk
    by_cases q : k = 0
    · subst q
      have := sp_X4_isSharedM S h h0 g m0 (i := n - 1) rfl
      rw [show (0 + n - 1) % n = n - 1 by rw [Nat.zero_add]; exact Nat.mod_eq_of_lt (by omega)]
      exact this
    · rw [pk_sub (show 1 ≤ k by omega), show (k + n - 1) % n = k - 1 by rw [show k + n - 1 = k - 1 + n by omega, Nat.add_mod_right, Nat.mod_eq_of_lt (by omega)]]
      exact sp_X4_isShared S h h0 g m0 (i := k - 1) (by omega)
  have loop : ∀ μ k, k + μ = n → ∀ x : Int32, ∀ S1, (S1 = S ∧ stK (stE c n d m) k x) → XP mX4_startOfShared 4 [(3, .int (nI k)), (2, .int x), (0, .ref (45 + 2 * r)), (1, .ref (45 + 2 * t))] [] (xwS S1) (sQ (fun v S' => v = some (.int (oneI (stE c n d m) n)) ∧ S' = S)) := by
    intro μ
    induction μ with
    | zero =>
      intro k hk x S1 h1
      obtain ⟨h1, hk1⟩ := h1
      have h1 := h1.symm
      subst h1
      refine x_iload_n eX4_startOfShared_4 rfl ?_
      refine x_aload_n eX4_startOfShared_5 rfl ?_
      refine s_geti eX4_startOfShared_6 fX4_15 (kd_ring hr) (show _ < 365 by omega) (by decide) ?_
      rw [h.2.2.1]
      refine x_icmp_geN eX4_startOfShared_9 (by omega) (by omega) (fun c_9 => ?_) (fun c_9 => ?_)
      · refine x_iload_n eX4_startOfShared_47 rfl ?_
        exact s_iret eX4_startOfShared_48 rfl rfl ⟨by have ek : k = n := (by omega); rw [ek] at hk1; rw [stK_end hk1], rfl⟩
      · omega
    | succ μ ih =>
      intro k hk x S1 h1
      obtain ⟨h1, hk1⟩ := h1
      have h1 := h1.symm
      subst h1
      refine x_iload_n eX4_startOfShared_4 rfl ?_
      refine x_aload_n eX4_startOfShared_5 rfl ?_
      refine s_geti eX4_startOfShared_6 fX4_15 (kd_ring hr) (show _ < 365 by omega) (by decide) ?_
      rw [h.2.2.1]
      refine x_icmp_geN eX4_startOfShared_9 (by omega) (by omega) (fun c_9 => ?_) (fun c_9 => ?_)
      · omega
      · refine x_aload_n eX4_startOfShared_12 rfl ?_
        refine x_iload_n eX4_startOfShared_13 rfl ?_
        refine x_aload_n eX4_startOfShared_14 rfl ?_
        refine s_callV1 (As := [_, _]) eX4_startOfShared_15 kX4_27 ⟨by decide, by decide⟩ (kd_ring hr) (by decide) (show _ < 365 by omega) rfl rfl (Nat.le_of_ble_eq_true rfl) (Nat.le_of_ble_eq_true rfl) (sp_X4_isShared _ h h0 g m0 (i := k) (by omega)) (fun S_15 h_15 => ?_)
        have h_15 := h_15.symm
        subst h_15
        refine x_if_eqT eX4_startOfShared_18 (fun c_18 => ?_) (fun c_18 => ?_)
        · refine x_iinc (lv' := [_, _, _, _]) eX4_startOfShared_41 rfl (by first | exact nI_inc _ | exact rfl) (by decide) rfl ?_
          refine x_goto eX4_startOfShared_44 ?_
          refine x_pick [0, 1, 2, 3] rfl ?_
          refine ih (k + 1) (by omega) _ _ ⟨rfl, ?_⟩
          first
            | exact stK_yes hk1 (by omega) c_34 ⟨c_18, c_29⟩
            | exact stK_no hk1 (fun z => c_18 z.1)
            | exact stK_no hk1 (fun z => z.2 c_29)
        · refine x_aload_n eX4_startOfShared_21 rfl ?_
          refine x_iload_n eX4_startOfShared_22 rfl ?_
          refine x_iconst (v := nI 1) eX4_startOfShared_23 (by decide) ?_
          refine x_isub eX4_startOfShared_24 ?_
          refine x_aload_n eX4_startOfShared_25 rfl ?_
          refine s_callV1 (As := [_, _]) eX4_startOfShared_26 kX4_27 ⟨by decide, by decide⟩ (kd_ring hr) (by decide) (show _ < 365 by omega) rfl rfl (Nat.le_of_ble_eq_true rfl) (Nat.le_of_ble_eq_true rfl) (prev k (by omega)) (fun S_26 h_26 => ?_)
          have h_26 := h_26.symm
          subst h_26
          refine x_if_neT eX4_startOfShared_29 (fun c_29 => ?_) (fun c_29 => ?_)
          · refine x_iinc (lv' := [_, _, _, _]) eX4_startOfShared_41 rfl (by first | exact nI_inc _ | exact rfl) (by decide) rfl ?_
            refine x_goto eX4_startOfShared_44 ?_
            refine x_pick [0, 1, 2, 3] rfl ?_
            refine ih (k + 1) (by omega) _ _ ⟨rfl, ?_⟩
            first
              | exact stK_yes hk1 (by omega) c_34 ⟨c_18, c_29⟩
              | exact stK_no hk1 (fun z => c_18 z.1)
              | exact stK_no hk1 (fun z => z.2 c_29)
          · refine x_iload_n eX4_startOfShared_32 rfl ?_
            refine x_iconst (v := -1) eX4_startOfShared_33 (by decide) ?_
            refine x_icmp_eq eX4_startOfShared_34 (fun c_34 => ?_) (fun c_34 => ?_)
            · refine x_iload_n eX4_startOfShared_39 rfl ?_
              refine x_istore_n (lv' := [_, _, _, _]) eX4_startOfShared_40 (by decide) rfl ?_
              refine x_iinc (lv' := [_, _, _, _]) eX4_startOfShared_41 rfl (by first | exact nI_inc _ | exact rfl) (by decide) rfl ?_
              refine x_goto eX4_startOfShared_44 ?_
              refine x_pick [0, 1, 2, 3] rfl ?_
              refine ih (k + 1) (by omega) _ _ ⟨rfl, ?_⟩
              first
                | exact stK_yes hk1 (by omega) c_34 ⟨c_18, c_29⟩
                | exact stK_no hk1 (fun z => c_18 z.1)
                | exact stK_no hk1 (fun z => z.2 c_29)
            · refine x_iconst (v := -1) eX4_startOfShared_37 (by decide) ?_
              exact s_iret eX4_startOfShared_38 rfl rfl ⟨by rw [stK_two hk1 (show k < n by omega) c_34 ⟨c_18, c_29⟩], rfl⟩
  show XP _ _ [_, _] _ _ _
  refine x_iconst (v := -1) eX4_startOfShared_0 (by decide) ?_
  refine x_istore_n (lv' := [_, _, _]) eX4_startOfShared_1 (by decide) rfl ?_
  refine x_iconst (v := nI 0) eX4_startOfShared_2 (by decide) ?_
  refine x_istore_n (lv' := [_, _, _, _]) eX4_startOfShared_3 (by decide) rfl ?_
  refine x_pick [0, 1, 2, 3] rfl ?_
  exact loop n 0 (by omega) _ _ ⟨rfl, Or.inl ⟨rfl, fun j hj => by omega⟩⟩
