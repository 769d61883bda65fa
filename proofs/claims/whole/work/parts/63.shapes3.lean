def gtP (v : Nat → Pt) (n : Nat) (c : Nat → Nat) (a b : Nat) (A B : Pt) : Prop := cutP v n c a b A B ∨ sttP v n c (plc v n A) a B
theorem lt200 {s nc : Nat} (h : s < nc ∨ s = 200) (hnc : nc ≤ 200) : s < 201 := by omega

theorem sp_X5_goesThrough (S : xS) {nc r n a b : Nat} {c : Nat → Nat} {P : Nat → Pt} (hp : cps S nc P) (h : CR S nc r n c) (ha : a < nc ∨ a = 200) (hb : b < nc ∨ b = 200) (hnc : nc ≤ 200) : Sp mX5_goesThrough [.ref 36, .int (nI a), .int (nI b), .ref (45 + 2 * r)] S (fun x S' => x = some (.int (tI (gtP (vr P c n) n c a b (P a) (P b)))) ∧ Lx [364] S S') := by
  have hr := h.1.1
  have hx := Lx.rf [364] S
  show XP _ _ [_, _, _, _] _ _ _
  refine x_aload_n eX5_goesThrough_0 rfl ?_
  refine x_iload_n eX5_goesThrough_1 rfl ?_
  refine x_iload_n eX5_goesThrough_2 rfl ?_
  refine x_aload_n eX5_goesThrough_3 rfl ?_
  refine s_callV1 (As := [_, _, _]) eX5_goesThrough_4 kX5_72 ⟨by decide, by decide⟩ rfl (by decide) (by decide) rfl rfl (Nat.le_of_ble_eq_true rfl) (Nat.le_of_ble_eq_true rfl) (sp_X5_cutsInto _ hp h ha hb hnc) (fun S_4 h_4 => ?_)
  have hx := hx.tr h_4
  have hp := hp.m h_4
  have h := h.m h_4
  refine x_if_neT eX5_goesThrough_7 (fun c_7 => ?_) (fun c_7 => ?_)
  · refine x_iconst (v := nI 1) eX5_goesThrough_26 (by decide) ?_
    refine x_goto eX5_goesThrough_27 ?_
    first
      | exact s_iret eX5_goesThrough_31 rfl rfl ⟨tI_ts (Or.inl c_7), hx⟩
      | exact s_iret eX5_goesThrough_31 rfl rfl ⟨tI_ts (Or.inr c_23), hx⟩
      | exact s_iret eX5_goesThrough_31 rfl rfl ⟨tI_fs (fun z => z.elim c_7 c_23), hx⟩
  · refine x_aload_n eX5_goesThrough_10 rfl ?_
    refine x_aload_n eX5_goesThrough_11 rfl ?_
    refine x_aload_n eX5_goesThrough_12 rfl ?_
    refine x_iload_n eX5_goesThrough_13 rfl ?_
    refine x_aload_n eX5_goesThrough_14 rfl ?_
    refine s_callV1 (As := [_, _]) eX5_goesThrough_15 kX5_76 ⟨by decide, by decide⟩ rfl (by decide) (by decide) rfl rfl (Nat.le_of_ble_eq_true rfl) (Nat.le_of_ble_eq_true rfl) (sp_X5_placeOf _ hp h ha hnc) (fun S_15 h_15 => ?_)
    have hx := hx.tr h_15
    have hp := hp.m h_15
    have h := h.m h_15
    refine x_iload_n eX5_goesThrough_18 rfl ?_
    refine x_iload_n eX5_goesThrough_19 rfl ?_
    refine s_callV1 (As := [_, _, _, _]) eX5_goesThrough_20 kX5_80 ⟨by decide, by decide⟩ rfl (by decide) (by decide) rfl rfl (Nat.le_of_ble_eq_true rfl) (Nat.le_of_ble_eq_true rfl) (sp_X5_startsInto _ hp h (plc_cases _ _ _) (lt200 ha hnc) hb) (fun S_20 h_20 => ?_)
    have hx := hx.tr h_20
    have hp := hp.m h_20
    refine x_if_eqT eX5_goesThrough_23 (fun c_23 => ?_) (fun c_23 => ?_)
    · refine x_iconst (v := nI 0) eX5_goesThrough_30 (by decide) ?_
      first
        | exact s_iret eX5_goesThrough_31 rfl rfl ⟨tI_ts (Or.inl c_7), hx⟩
        | exact s_iret eX5_goesThrough_31 rfl rfl ⟨tI_ts (Or.inr c_23), hx⟩
        | exact s_iret eX5_goesThrough_31 rfl rfl ⟨tI_fs (fun z => z.elim c_7 c_23), hx⟩
    · refine x_iconst (v := nI 1) eX5_goesThrough_26 (by decide) ?_
      refine x_goto eX5_goesThrough_27 ?_
      first
        | exact s_iret eX5_goesThrough_31 rfl rfl ⟨tI_ts (Or.inl c_7), hx⟩
        | exact s_iret eX5_goesThrough_31 rfl rfl ⟨tI_ts (Or.inr c_23), hx⟩
        | exact s_iret eX5_goesThrough_31 rfl rfl ⟨tI_fs (fun z => z.elim c_7 c_23), hx⟩
theorem sp_X5_reachesInto (S : xS) {nc r n t m : Nat} {c d : Nat → Nat} {P : Nat → Pt} (hp0 : cps S nc P) (h0 : CR S nc r n c) (g0 : CR S nc t m d) (hnc : nc ≤ 200) : Sp mX5_reachesInto [.ref 36, .ref (45 + 2 * r), .ref (45 + 2 * t)] S (fun x S' => x = some (.int (tI (∃ j, j < n ∧ gtP (vr P d m) m d (c (j % n)) (c ((j + 1) % n)) (vr P c n j) (vr P c n (j + 1))))) ∧ Lx [364] S S') := by
  have hr := h0.1.1
  have ht := g0.1.1
  have hn := h0.1.2.1
  have loop : ∀ μ k, k + μ = n → ∀ S1, (Lx [364] S S1 ∧ ∀ j, j < k → ¬ gtP (vr P d m) m d (c (j % n)) (c ((j + 1) % n)) (vr P c n j) (vr P c n (j + 1))) → XP mX5_reachesInto 2 [(3, .int (nI k)), (0, .ref 36), (1, .ref (45 + 2 * r)), (2, .ref (45 + 2 * t))] [] (xwS S1) (sQ (fun x S' => x = some (.int (tI (∃ j, j < n ∧ gtP (vr P d m) m d (c (j % n)) (c ((j + 1) % n)) (vr P c n j) (vr P c n (j + 1))))) ∧ Lx [364] S S')) := by
    intro μ
    induction μ with
    | zero =>
      intro k hk S1 h1
      obtain ⟨hx, hno⟩ := h1
      have h := h0.m hx
      have g := g0.m hx
      have hp := hp0.m hx
      have l1 : c (k % n) < nc ∨ c (k % n) = 200 := Or.inl (h0.2.2 _ (Nat.mod_lt _ h0.2.1))
      have l2 : c ((k + 1) % n) < nc ∨ c ((k + 1) % n) = 200 := Or.inl (h0.2.2 _ (Nat.mod_lt _ h0.2.1))
      refine x_iload_n eX5_reachesInto_2 rfl ?_
      refine x_aload_n eX5_reachesInto_3 rfl ?_
      refine s_geti eX5_reachesInto_4 fX5_19 (kd_ring h0.1.1) (show _ < 365 by omega) (by decide) ?_
      rw [h.1.2.2.1]
      refine x_icmp_geN eX5_reachesInto_7 (by omega) (by omega) (fun c_7 => ?_) (fun c_7 => ?_)
      · refine x_iconst (v := nI 0) eX5_reachesInto_65 (by decide) ?_
        exact s_iret eX5_reachesInto_66 rfl (by first | rfl | exact bI_nar _ | exact tI_nar _) ⟨tI_fs (fun ⟨j, hj, z⟩ => hno j (by omega) z), hx⟩
      · omega
    | succ μ ih =>
      intro k hk S1 h1
      obtain ⟨hx, hno⟩ := h1
      have h := h0.m hx
      have g := g0.m hx
      have hp := hp0.m hx
      have l1 : c (k % n) < nc ∨ c (k % n) = 200 := Or.inl (h0.2.2 _ (Nat.mod_lt _ h0.2.1))
      have l2 : c ((k + 1) % n) < nc ∨ c ((k + 1) % n) = 200 := Or.inl (h0.2.2 _ (Nat.mod_lt _ h0.2.1))
      refine x_iload_n eX5_reachesInto_2 rfl ?_
      refine x_aload_n eX5_reachesInto_3 rfl ?_
      refine s_geti eX5_reachesInto_4 fX5_19 (kd_ring h0.1.1) (show _ < 365 by omega) (by decide) ?_
      rw [h.1.2.2.1]
      refine x_icmp_geN eX5_reachesInto_7 (by omega) (by omega) (fun c_7 => ?_) (fun c_7 => ?_)
      · omega
      · refine x_aload_n eX5_reachesInto_10 rfl ?_
        refine x_iload_n eX5_reachesInto_11 rfl ?_
        refine s_callV1 (As := [_]) eX5_reachesInto_12 kX5_35 ⟨by decide, by decide⟩ (kd_ring h0.1.1) (by decide) (show _ < 365 by omega) rfl rfl (Nat.le_of_ble_eq_true rfl) (Nat.le_of_ble_eq_true rfl) (sp_X4_around _ h.1 h.2.1 (by omega)) (fun S_12 h_12 => ?_)
        subst h_12
        refine x_istore (lv' := [_, _, _, _, _]) eX5_reachesInto_15 (by decide) rfl ?_
        refine x_aload_n eX5_reachesInto_17 rfl ?_
        refine x_iload_n eX5_reachesInto_18 rfl ?_
        refine x_iconst (v := nI 1) eX5_reachesInto_19 (by decide) ?_
        first | refine x_iaddN eX5_reachesInto_20 ?_ | refine x_iadd eX5_reachesInto_20 ?_
        refine s_callV1 (As := [_]) eX5_reachesInto_21 kX5_35 ⟨by decide, by decide⟩ (kd_ring h0.1.1) (by decide) (show _ < 365 by omega) rfl rfl (Nat.le_of_ble_eq_true rfl) (Nat.le_of_ble_eq_true rfl) (sp_X4_around _ h.1 h.2.1 (by omega)) (fun S_21 h_21 => ?_)
        subst h_21
        refine x_istore (lv' := [_, _, _, _, _, _]) eX5_reachesInto_24 (by decide) rfl ?_
        refine x_aload_n eX5_reachesInto_26 rfl ?_
        refine x_iload eX5_reachesInto_27 rfl ?_
        refine x_iload eX5_reachesInto_29 rfl ?_
        refine x_aload_n eX5_reachesInto_31 rfl ?_
        refine s_callV1 (As := [_, _, _]) eX5_reachesInto_32 kX5_72 ⟨by decide, by decide⟩ rfl (by decide) (by decide) rfl rfl (Nat.le_of_ble_eq_true rfl) (Nat.le_of_ble_eq_true rfl) (sp_X5_cutsInto _ hp g l1 l2 hnc) (fun S_32 h_32 => ?_)
        have hx := hx.tr h_32
        have hp := hp.m h_32
        have g := g.m h_32
        refine x_if_neT eX5_reachesInto_35 (fun c_35 => ?_) (fun c_35 => ?_)
        · refine x_iconst (v := nI 1) eX5_reachesInto_57 (by decide) ?_
          first
            | exact s_iret eX5_reachesInto_58 rfl rfl ⟨tI_ts ⟨k, by omega, Or.inl c_35⟩, hx⟩
            | exact s_iret eX5_reachesInto_58 rfl rfl ⟨tI_ts ⟨k, by omega, Or.inr c_54⟩, hx⟩
        · refine x_aload_n eX5_reachesInto_38 rfl ?_
          refine x_aload_n eX5_reachesInto_39 rfl ?_
          refine x_aload_n eX5_reachesInto_40 rfl ?_
          refine x_iload eX5_reachesInto_41 rfl ?_
          refine x_aload_n eX5_reachesInto_43 rfl ?_
          refine s_callV1 (As := [_, _]) eX5_reachesInto_44 kX5_76 ⟨by decide, by decide⟩ rfl (by decide) (by decide) rfl rfl (Nat.le_of_ble_eq_true rfl) (Nat.le_of_ble_eq_true rfl) (sp_X5_placeOf _ hp g l1 hnc) (fun S_44 h_44 => ?_)
          have hx := hx.tr h_44
          have hp := hp.m h_44
          have g := g.m h_44
          refine x_iload eX5_reachesInto_47 rfl ?_
          refine x_iload eX5_reachesInto_49 rfl ?_
          refine s_callV1 (As := [_, _, _, _]) eX5_reachesInto_51 kX5_80 ⟨by decide, by decide⟩ rfl (by decide) (by decide) rfl rfl (Nat.le_of_ble_eq_true rfl) (Nat.le_of_ble_eq_true rfl) (sp_X5_startsInto _ hp g (plc_cases _ _ _) (lt200 l1 hnc) l2) (fun S_51 h_51 => ?_)
          have hx := hx.tr h_51
          have hp := hp.m h_51
          refine x_if_eqT eX5_reachesInto_54 (fun c_54 => ?_) (fun c_54 => ?_)
          · refine x_iinc (lv' := [_, _, _, _, _, _]) eX5_reachesInto_59 rfl (by first | exact nI_inc _ | exact rfl) (by decide) rfl ?_
            refine x_goto eX5_reachesInto_62 ?_
            refine x_pick [0, 3, 4, 5] rfl ?_
            refine ih (k + 1) (by omega) _ ⟨hx, fun j hj z => ?_⟩
            by_cases q : j < k
            · exact hno j q z
            obtain rfl : j = k := by omega
            exact z.elim c_35 c_54
          · refine x_iconst (v := nI 1) eX5_reachesInto_57 (by decide) ?_
            first
              | exact s_iret eX5_reachesInto_58 rfl rfl ⟨tI_ts ⟨k, by omega, Or.inl c_35⟩, hx⟩
              | exact s_iret eX5_reachesInto_58 rfl rfl ⟨tI_ts ⟨k, by omega, Or.inr c_54⟩, hx⟩
  show XP _ _ [_, _, _] _ _ _
  refine x_iconst (v := nI 0) eX5_reachesInto_0 (by decide) ?_
  refine x_istore_n (lv' := [_, _, _, _]) eX5_reachesInto_1 (by decide) rfl ?_
  refine x_pick [0, 1, 2, 3] rfl ?_
  exact loop n 0 (by omega) _ ⟨Lx.rf _ _, fun j hj => by omega⟩
theorem sp_X5_haveLikeLand (S : xS) {nc r n t m : Nat} {c d : Nat → Nat} {P : Nat → Pt} (hp : cps S nc P) (h : CR S nc r n c) (g : CR S nc t m d) : Sp mX5_haveLikeLand [.ref 36, .ref (45 + 2 * r), .ref (45 + 2 * t)] S (fun x S' => x = some (.int (tI (metP (vr P c n 0) (vr P c n 1) (vr P d m 0) (vr P d m 1) = 3))) ∧ Lx [364] S S') := by
  have hr := h.1.1
  have ht := g.1.1
  have hx := Lx.rf [364] S
  show XP _ _ [_, _, _] _ _ _
  refine x_aload_n eX5_haveLikeLand_0 rfl ?_
  refine x_aload_n eX5_haveLikeLand_1 rfl ?_
  refine x_iconst (v := nI 0) eX5_haveLikeLand_2 (by decide) ?_
  refine x_aload_n eX5_haveLikeLand_3 rfl ?_
  refine x_iconst (v := nI 0) eX5_haveLikeLand_4 (by decide) ?_
  refine s_callV1 (As := [_, _, _, _]) eX5_haveLikeLand_5 kX5_84 ⟨by decide, by decide⟩ rfl (by decide) (by decide) rfl rfl (Nat.le_of_ble_eq_true rfl) (Nat.le_of_ble_eq_true rfl) (sp_X5_common _ hp h g (i := 0) (j := 0) (by omega) (by omega)) (fun S_5 h_5 => ?_)
  have hx := hx.tr h_5
  refine x_iconst (v := nI 3) eX5_haveLikeLand_8 (by decide) ?_
  refine x_icmp_ne eX5_haveLikeLand_9 (fun c_9 => ?_) (fun c_9 => ?_)
  · refine x_iconst (v := nI 0) eX5_haveLikeLand_16 (by decide) ?_
    first
      | exact s_iret eX5_haveLikeLand_17 rfl rfl ⟨tI_ts c_9, hx⟩
      | exact s_iret eX5_haveLikeLand_17 rfl rfl ⟨tI_fs c_9, hx⟩
  · refine x_iconst (v := nI 1) eX5_haveLikeLand_12 (by decide) ?_
    refine x_goto eX5_haveLikeLand_13 ?_
    first
      | exact s_iret eX5_haveLikeLand_17 rfl rfl ⟨tI_ts c_9, hx⟩
      | exact s_iret eX5_haveLikeLand_17 rfl rfl ⟨tI_fs c_9, hx⟩
noncomputable def cnt (R : Nat → Prop) : Nat → Nat
  | 0 => 0
  | n + 1 => cnt R n + @ite _ (R n) (Classical.propDecidable _) 1 0
theorem cnt_t {R : Nat → Prop} {n : Nat} (h : R n) : cnt R (n + 1) = cnt R n + 1 := by
  show cnt R n + _ = _
  rw [if_pos h]
theorem cnt_f {R : Nat → Prop} {n : Nat} (h : ¬ R n) : cnt R (n + 1) = cnt R n := by
  show cnt R n + _ = _
  rw [if_neg h]; rfl
theorem cnt_le (R : Nat → Prop) : ∀ n, cnt R n ≤ n := by
  intro n
  induction n with
  | zero => exact Nat.le_refl _
  | succ n ih =>
    rcases Classical.em (R n) with h | h
    · rw [cnt_t h]; omega
    · rw [cnt_f h]; omega
theorem cnt_congr {R R' : Nat → Prop} : ∀ n, (∀ k, k < n → (R k ↔ R' k)) → cnt R n = cnt R' n := by
  intro n
  induction n with
  | zero => intro _; rfl
  | succ n ih =>
    intro h
    have e := ih (fun k hk => h k (by omega))
    rcases Classical.em (R n) with c | c
    · rw [cnt_t c, cnt_t ((h n (by omega)).mp c), e]
    · rw [cnt_f c, cnt_f (fun z => c ((h n (by omega)).mpr z)), e]
def sumN (f : Nat → Nat) : Nat → Nat
  | 0 => 0
  | n + 1 => sumN f n + f n
theorem sumN_congr {f g : Nat → Nat} : ∀ n, (∀ k, k < n → f k = g k) → sumN f n = sumN g n := by
  intro n
  induction n with
  | zero => intro _; rfl
  | succ n ih => intro h; show _ + _ = _ + _; rw [ih (fun k hk => h k (by omega)), h n (by omega)]
theorem sumN_le {f : Nat → Nat} {b : Nat} (h : ∀ k, f k ≤ b) : ∀ n, sumN f n ≤ n * b := by
  intro n
  induction n with
  | zero => exact Nat.zero_le _
  | succ n ih => have := h n; show _ + _ ≤ _; rw [Nat.succ_mul]; omega

theorem sp_X5_stretches (S : xS) {nc r n t m : Nat} {c d : Nat → Nat} {P : Nat → Pt} (hp0 : cps S nc P) (h0 : CR S nc r n c) (g0 : CR S nc t m d) : Sp mX5_stretches [.ref 36, .ref (45 + 2 * r), .ref (45 + 2 * t)] S (fun x S' => x = some (.int (nI (sumN (fun a => cnt (fun j => metP (vr P c n a) (vr P c n (a + 1)) (vr P d m j) (vr P d m (j + 1)) = 3) m) n))) ∧ Lx [364] S S') := by
  have hr := h0.1.1
  have ht := g0.1.1
  have hn := h0.1.2.1
  have hm := g0.1.2.1
  have loop : ∀ μ a, a + μ = n → ∀ S1, Lx [364] S S1 → XP mX5_stretches 5 [(4, .int (nI a)), (3, .int (nI (sumN (fun a => cnt (fun j => metP (vr P c n a) (vr P c n (a + 1)) (vr P d m j) (vr P d m (j + 1)) = 3) m) a))), (0, .ref 36), (1, .ref (45 + 2 * r)), (2, .ref (45 + 2 * t))] [] (xwS S1) (sQ (fun x S' => x = some (.int (nI (sumN (fun a => cnt (fun j => metP (vr P c n a) (vr P c n (a + 1)) (vr P d m j) (vr P d m (j + 1)) = 3) m) n))) ∧ Lx [364] S S')) := by
    intro μ
    induction μ with
    | zero =>
      intro a hk S1 h1
      have hx := h1
      have h := h0.m hx
      refine x_iload eX5_stretches_5 rfl ?_
      refine x_aload_n eX5_stretches_7 rfl ?_
      refine s_geti eX5_stretches_8 fX5_19 (kd_ring h0.1.1) (show _ < 365 by omega) (by decide) ?_
      rw [h.1.2.2.1]
      refine x_icmp_geN eX5_stretches_11 (by omega) (by omega) (fun c_11 => ?_) (fun c_11 => ?_)
      · refine x_iload_n eX5_stretches_55 rfl ?_
        have ea : a = n := by omega
        exact s_iret eX5_stretches_56 rfl rfl ⟨by rw [ea], hx⟩
      · omega
    | succ μ ih =>
      intro a hk S1 h1
      have hx := h1
      have h := h0.m hx
      have oh := ih
      have inner : ∀ μ b, b + μ = m → ∀ S2, Lx [364] S S2 → XP mX5_stretches 17 [(5, .int (nI b)), (4, .int (nI a)), (3, .int (nI (sumN (fun a => cnt (fun j => metP (vr P c n a) (vr P c n (a + 1)) (vr P d m j) (vr P d m (j + 1)) = 3) m) a + cnt (fun j => metP (vr P c n a) (vr P c n (a + 1)) (vr P d m j) (vr P d m (j + 1)) = 3) b))), (0, .ref 36), (1, .ref (45 + 2 * r)), (2, .ref (45 + 2 * t))] [] (xwS S2) (sQ (fun x S' => x = some (.int (nI (sumN (fun a => cnt (fun j => metP (vr P c n a) (vr P c n (a + 1)) (vr P d m j) (vr P d m (j + 1)) = 3) m) n))) ∧ Lx [364] S S')) := by
        intro μ
        induction μ with
        | zero =>
          intro b hk S2 h1
          have hx := h1
          have h := h0.m hx
          have g := g0.m hx
          have hp := hp0.m hx
          refine x_iload eX5_stretches_17 rfl ?_
          refine x_aload_n eX5_stretches_19 rfl ?_
          refine s_geti eX5_stretches_20 fX5_19 (kd_ring g0.1.1) (show _ < 365 by omega) (by decide) ?_
          rw [g.1.2.2.1]
          refine x_icmp_geN eX5_stretches_23 (by omega) (by omega) (fun c_23 => ?_) (fun c_23 => ?_)
          · refine x_iinc (lv' := [_, _, _, _, _, _]) eX5_stretches_49 rfl (by first | exact nI_inc _ | exact rfl) (by decide) rfl ?_
            refine x_goto eX5_stretches_52 ?_
            refine x_pick [0, 2, 3, 4, 5] rfl ?_
            have eb : b = m := by omega
            subst eb
            exact oh (a + 1) (by omega) _ hx
          · omega
        | succ μ ih =>
          intro b hk S2 h1
          have hx := h1
          have h := h0.m hx
          have g := g0.m hx
          have hp := hp0.m hx
          refine x_iload eX5_stretches_17 rfl ?_
          refine x_aload_n eX5_stretches_19 rfl ?_
          refine s_geti eX5_stretches_20 fX5_19 (kd_ring g0.1.1) (show _ < 365 by omega) (by decide) ?_
          rw [g.1.2.2.1]
          refine x_icmp_geN eX5_stretches_23 (by omega) (by omega) (fun c_23 => ?_) (fun c_23 => ?_)
          · omega
          · refine x_aload_n eX5_stretches_26 rfl ?_
            refine x_aload_n eX5_stretches_27 rfl ?_
            refine x_iload eX5_stretches_28 rfl ?_
            refine x_aload_n eX5_stretches_30 rfl ?_
            refine x_iload eX5_stretches_31 rfl ?_
            refine s_callV1 (As := [_, _, _, _]) eX5_stretches_33 kX5_84 ⟨by decide, by decide⟩ rfl (by decide) (by decide) rfl rfl (Nat.le_of_ble_eq_true rfl) (Nat.le_of_ble_eq_true rfl) (sp_X5_common _ hp h g (i := a) (j := b) (by omega) (by omega)) (fun S_33 h_33 => ?_)
            have hx := hx.tr h_33
            have hp := hp.m h_33
            refine x_iconst (v := nI 3) eX5_stretches_36 (by decide) ?_
            refine x_icmp_ne eX5_stretches_37 (fun c_37 => ?_) (fun c_37 => ?_)
            · refine x_iinc (lv' := [_, _, _, _, _, _]) eX5_stretches_43 rfl (by first | exact nI_inc _ | exact rfl) (by decide) rfl ?_
              refine x_goto eX5_stretches_46 ?_
              refine x_pick [0, 1, 2, 3, 4, 5] rfl ?_
              have := ih (b + 1) (by omega) _ hx
              first
                | (rw [cnt_t c_37] at this; exact this)
                | (rw [cnt_f c_37] at this; exact this)
            · refine x_iinc (lv' := [_, _, _, _, _, _]) eX5_stretches_40 rfl (by first | exact nI_inc _ | exact rfl) (by decide) rfl ?_
              refine x_iinc (lv' := [_, _, _, _, _, _]) eX5_stretches_43 rfl (by first | exact nI_inc _ | exact rfl) (by decide) rfl ?_
              refine x_goto eX5_stretches_46 ?_
              refine x_pick [0, 2, 1, 3, 4, 5] rfl ?_
              have := ih (b + 1) (by omega) _ hx
              first
                | (rw [cnt_t c_37] at this; exact this)
                | (rw [cnt_f c_37] at this; exact this)
      refine x_iload eX5_stretches_5 rfl ?_
      refine x_aload_n eX5_stretches_7 rfl ?_
      refine s_geti eX5_stretches_8 fX5_19 (kd_ring h0.1.1) (show _ < 365 by omega) (by decide) ?_
      rw [h.1.2.2.1]
      refine x_icmp_geN eX5_stretches_11 (by omega) (by omega) (fun c_11 => ?_) (fun c_11 => ?_)
      · omega
      · refine x_iconst (v := nI 0) eX5_stretches_14 (by decide) ?_
        refine x_istore (lv' := [_, _, _, _, _, _]) eX5_stretches_15 (by decide) rfl ?_
        refine x_pick [0, 1, 2, 3, 4, 5] rfl ?_
        exact inner m 0 (by omega) _ hx
  show XP _ _ [_, _, _] _ _ _
  refine x_iconst (v := nI 0) eX5_stretches_0 (by decide) ?_
  refine x_istore_n (lv' := [_, _, _, _]) eX5_stretches_1 (by decide) rfl ?_
  refine x_iconst (v := nI 0) eX5_stretches_2 (by decide) ?_
  refine x_istore (lv' := [_, _, _, _, _]) eX5_stretches_3 (by decide) rfl ?_
  refine x_pick [0, 1, 2, 3, 4] rfl ?_
  exact loop n 0 (by omega) _ (Lx.rf _ _)
theorem sp_X5_isCut (S : xS) {nc r n i j : Nat} {c : Nat → Nat} {P : Nat → Pt} (hp0 : cps S nc P) (h0 : CR S nc r n c) (hi : i < n) (hj : j < n) : Sp mX5_isCut [.ref 36, .ref (45 + 2 * r), .int (nI i), .int (nI j)] S (fun x S' => x = some (.int (tI ((∀ k, k < n → (metP (P (c i)) (P (c j)) (vr P c n k) (vr P c n (k + 1)) = if (c (k % n) = c i ∨ c (k % n) = c j ∨ c ((k + 1) % n) = c i ∨ c ((k + 1) % n) = c j) then 2 else 0)) ∧ opnT (vr P c n (i + n - 1)) (vr P c n i) (vr P c n (i + 1)) (P (c j))))) ∧ Lx [364] S S') := by
  have hr := h0.1.1
  have hn := h0.1.2.1
  have li := (h0.1.2.2.2 i hi).2
  have lj := (h0.1.2.2.2 j hj).2
  have ki := h0.2.2 i hi
  have kj := h0.2.2 j hj
  have loop : ∀ μ k, k + μ = n → ∀ S1, (Lx [364] S S1 ∧ ∀ l, l < k → (metP (P (c i)) (P (c j)) (vr P c n l) (vr P c n (l + 1)) = if (c (l % n) = c i ∨ c (l % n) = c j ∨ c ((l + 1) % n) = c i ∨ c ((l + 1) % n) = c j) then 2 else 0)) → XP mX5_isCut 3 [(4, .int (nI k)), (0, .ref 36), (1, .ref (45 + 2 * r)), (2, .int (nI i)), (3, .int (nI j))] [] (xwS S1) (sQ (fun x S' => x = some (.int (tI ((∀ k, k < n → (metP (P (c i)) (P (c j)) (vr P c n k) (vr P c n (k + 1)) = if (c (k % n) = c i ∨ c (k % n) = c j ∨ c ((k + 1) % n) = c i ∨ c ((k + 1) % n) = c j) then 2 else 0)) ∧ opnT (vr P c n (i + n - 1)) (vr P c n i) (vr P c n (i + 1)) (P (c j))))) ∧ Lx [364] S S')) := by
    intro μ
    induction μ with
    | zero =>
      intro k hk S1 h1
      obtain ⟨hx, hno⟩ := h1
      have h := h0.m hx
      have hp := hp0.m hx
      have lk := h.lt k
      have lk1 := h.lt (k + 1)
      refine x_iload eX5_isCut_3 rfl ?_
      refine x_aload_n eX5_isCut_5 rfl ?_
      refine s_geti eX5_isCut_6 fX5_19 (kd_ring h0.1.1) (show _ < 365 by omega) (by decide) ?_
      rw [h.1.2.2.1]
      refine x_icmp_geN eX5_isCut_9 (by omega) (by omega) (fun c_9 => ?_) (fun c_9 => ?_)
      · refine x_aload_n eX5_isCut_129 rfl ?_
        refine x_aload_n eX5_isCut_130 rfl ?_
        refine x_iload_n eX5_isCut_131 rfl ?_
        refine x_aload_n eX5_isCut_132 rfl ?_
        refine s_getR (k := (46 + 2 * r)) eX5_isCut_133 fX5_31 (kd_ring h0.1.1) (show _ < 365 by omega) (by decide) (rf_ring h0.1.1) ?_
        refine x_iload_n eX5_isCut_136 rfl ?_
        refine s_iald eX5_isCut_137 (kd_corner h0.1.1) (show _ < 365 by omega) rfl (by rw [(ln_corner h0.1.1)]; omega) ?_
        rw [(h.1.2.2.2 j (by omega)).1]
        refine s_callV1 (As := [_, _, _]) eX5_isCut_138 kX5_68 ⟨by decide, by decide⟩ rfl (by decide) (by decide) rfl rfl (Nat.le_of_ble_eq_true rfl) (Nat.le_of_ble_eq_true rfl) (sp_X5_opensTo _ hp h (by omega) (Or.inl kj)) (fun S_138 h_138 => ?_)
        have hx := hx.tr h_138
        have ek : k = n := by omega
        subst ek
        exact s_iret eX5_isCut_141 rfl (by first | rfl | exact bI_nar _ | exact tI_nar _) ⟨congrArg (fun v => some (Value.int v)) (tI_iff ⟨fun z => ⟨hno, z⟩, And.right⟩), hx⟩
      · omega
    | succ μ ih =>
      intro k hk S1 h1
      obtain ⟨hx, hno⟩ := h1
      have h := h0.m hx
      have hp := hp0.m hx
      have lk := h.lt k
      have lk1 := h.lt (k + 1)
      refine x_iload eX5_isCut_3 rfl ?_
      refine x_aload_n eX5_isCut_5 rfl ?_
      refine s_geti eX5_isCut_6 fX5_19 (kd_ring h0.1.1) (show _ < 365 by omega) (by decide) ?_
      rw [h.1.2.2.1]
      refine x_icmp_geN eX5_isCut_9 (by omega) (by omega) (fun c_9 => ?_) (fun c_9 => ?_)
      · omega
      · refine x_aload_n eX5_isCut_12 rfl ?_
        refine x_iload eX5_isCut_13 rfl ?_
        refine s_callV1 (As := [_]) eX5_isCut_15 kX5_35 ⟨by decide, by decide⟩ (kd_ring h0.1.1) (by decide) (show _ < 365 by omega) rfl rfl (Nat.le_of_ble_eq_true rfl) (Nat.le_of_ble_eq_true rfl) (sp_X4_around _ h.1 h.2.1 (by omega)) (fun S_15 h_15 => ?_)
        subst h_15
        refine x_istore (lv' := [_, _, _, _, _, _]) eX5_isCut_18 (by decide) rfl ?_
        refine x_aload_n eX5_isCut_20 rfl ?_
        refine x_iload eX5_isCut_21 rfl ?_
        refine x_iconst (v := nI 1) eX5_isCut_23 (by decide) ?_
        first | refine x_iaddN eX5_isCut_24 ?_ | refine x_iadd eX5_isCut_24 ?_
        refine s_callV1 (As := [_]) eX5_isCut_25 kX5_35 ⟨by decide, by decide⟩ (kd_ring h0.1.1) (by decide) (show _ < 365 by omega) rfl rfl (Nat.le_of_ble_eq_true rfl) (Nat.le_of_ble_eq_true rfl) (sp_X4_around _ h.1 h.2.1 (by omega)) (fun S_25 h_25 => ?_)
        subst h_25
        refine x_istore (lv' := [_, _, _, _, _, _, _]) eX5_isCut_28 (by decide) rfl ?_
        refine x_iload eX5_isCut_30 rfl ?_
        refine x_aload_n eX5_isCut_32 rfl ?_
        refine s_getR (k := (46 + 2 * r)) eX5_isCut_33 fX5_31 (kd_ring h0.1.1) (show _ < 365 by omega) (by decide) (rf_ring h0.1.1) ?_
        refine x_iload_n eX5_isCut_36 rfl ?_
        refine s_iald eX5_isCut_37 (kd_corner h0.1.1) (show _ < 365 by omega) rfl (by rw [(ln_corner h0.1.1)]; omega) ?_
        rw [(h.1.2.2.2 i (by omega)).1]
        refine x_icmp_eqN eX5_isCut_38 (by omega) (by omega) (fun c_38 => ?_) (fun c_38 => ?_)
        · refine x_iconst (v := nI 1) eX5_isCut_74 (by decide) ?_
          refine x_goto eX5_isCut_75 ?_
          refine x_istore (lv' := [_, _, _, _, _, _, _, _]) eX5_isCut_79 (by decide) rfl ?_
          refine x_aload_n eX5_isCut_81 rfl ?_
          refine s_getR (k := 32) eX5_isCut_82 fX5_15 rfl (by decide) (by decide) rfl ?_
          refine x_aload_n eX5_isCut_85 rfl ?_
          refine s_getR (k := (46 + 2 * r)) eX5_isCut_86 fX5_31 (kd_ring h0.1.1) (show _ < 365 by omega) (by decide) (rf_ring h0.1.1) ?_
          refine x_iload_n eX5_isCut_89 rfl ?_
          refine s_iald eX5_isCut_90 (kd_corner h0.1.1) (show _ < 365 by omega) rfl (by rw [(ln_corner h0.1.1)]; omega) ?_
          rw [(h.1.2.2.2 i (by omega)).1]
          refine x_aload_n eX5_isCut_91 rfl ?_
          refine s_getR (k := (46 + 2 * r)) eX5_isCut_92 fX5_31 (kd_ring h0.1.1) (show _ < 365 by omega) (by decide) (rf_ring h0.1.1) ?_
          refine x_iload_n eX5_isCut_95 rfl ?_
          refine s_iald eX5_isCut_96 (kd_corner h0.1.1) (show _ < 365 by omega) rfl (by rw [(ln_corner h0.1.1)]; omega) ?_
          rw [(h.1.2.2.2 j (by omega)).1]
          refine x_iload eX5_isCut_97 rfl ?_
          refine x_iload eX5_isCut_99 rfl ?_
          refine s_callV1 (As := [_, _, _, _]) eX5_isCut_101 kX5_39 ⟨by decide, by decide⟩ rfl (by decide) (by decide) rfl rfl (Nat.le_of_ble_eq_true rfl) (Nat.le_of_ble_eq_true rfl) (sp_X2_meeting _ (hp _ (Or.inl ki)) (hp _ (Or.inl kj)) (h.pt hp k) (h.pt hp (k + 1))) (fun S_101 h_101 => ?_)
          have hx := hx.tr h_101
          refine x_istore (lv' := [_, _, _, _, _, _, _, _, _]) eX5_isCut_104 (by decide) rfl ?_
          refine x_iload eX5_isCut_106 rfl ?_
          refine x_iload eX5_isCut_108 rfl ?_
          refine x_if_eqN eX5_isCut_110 (by omega) (fun c_110 => ?_) (fun c_110 => ?_)
          · refine x_iconst (v := nI 0) eX5_isCut_117 (by decide) ?_
            refine x_icmp_eq eX5_isCut_118 (fun c_118 => ?_) (fun c_118 => ?_)
            · refine x_iinc (lv' := [_, _, _, _, _, _, _, _, _]) eX5_isCut_123 rfl (by first | exact nI_inc _ | exact rfl) (by decide) rfl ?_
              refine x_goto eX5_isCut_126 ?_
              refine x_pick [0, 5, 6, 7, 8] rfl ?_
              refine ih (k + 1) (by omega) _ ⟨hx, fun l hl => ?_⟩
              by_cases q : l < k
              · exact hno l q
              obtain rfl : l = k := by omega
              first
                | (rw [if_pos (by omega)]; exact c_118)
                | (rw [if_neg (by omega)]; exact c_118)
                | omega
            · refine x_iconst (v := nI 0) eX5_isCut_121 (by decide) ?_
              refine s_iret eX5_isCut_122 rfl rfl ⟨tI_fs (fun z => ?_), hx⟩
              have z := z.1 k (by omega)
              first
                | (rw [if_pos (by omega)] at z; exact c_118 z)
                | (rw [if_neg (by omega)] at z; exact c_118 z)
                | omega
          · refine x_iconst (v := nI 2) eX5_isCut_113 (by decide) ?_
            refine x_goto eX5_isCut_114 ?_
            refine x_icmp_eq eX5_isCut_118 (fun c_118 => ?_) (fun c_118 => ?_)
            · refine x_iinc (lv' := [_, _, _, _, _, _, _, _, _]) eX5_isCut_123 rfl (by first | exact nI_inc _ | exact rfl) (by decide) rfl ?_
              refine x_goto eX5_isCut_126 ?_
              refine x_pick [0, 5, 6, 7, 8] rfl ?_
              refine ih (k + 1) (by omega) _ ⟨hx, fun l hl => ?_⟩
              by_cases q : l < k
              · exact hno l q
              obtain rfl : l = k := by omega
              first
                | (rw [if_pos (by omega)]; exact c_118)
                | (rw [if_neg (by omega)]; exact c_118)
                | omega
            · refine x_iconst (v := nI 0) eX5_isCut_121 (by decide) ?_
              refine s_iret eX5_isCut_122 rfl rfl ⟨tI_fs (fun z => ?_), hx⟩
              have z := z.1 k (by omega)
              first
                | (rw [if_pos (by omega)] at z; exact c_118 z)
                | (rw [if_neg (by omega)] at z; exact c_118 z)
                | omega
        · refine x_iload eX5_isCut_41 rfl ?_
          refine x_aload_n eX5_isCut_43 rfl ?_
          refine s_getR (k := (46 + 2 * r)) eX5_isCut_44 fX5_31 (kd_ring h0.1.1) (show _ < 365 by omega) (by decide) (rf_ring h0.1.1) ?_
          refine x_iload_n eX5_isCut_47 rfl ?_
          refine s_iald eX5_isCut_48 (kd_corner h0.1.1) (show _ < 365 by omega) rfl (by rw [(ln_corner h0.1.1)]; omega) ?_
          rw [(h.1.2.2.2 j (by omega)).1]
          refine x_icmp_eqN eX5_isCut_49 (by omega) (by omega) (fun c_49 => ?_) (fun c_49 => ?_)
          · refine x_iconst (v := nI 1) eX5_isCut_74 (by decide) ?_
            refine x_goto eX5_isCut_75 ?_
            refine x_istore (lv' := [_, _, _, _, _, _, _, _]) eX5_isCut_79 (by decide) rfl ?_
            refine x_aload_n eX5_isCut_81 rfl ?_
            refine s_getR (k := 32) eX5_isCut_82 fX5_15 rfl (by decide) (by decide) rfl ?_
            refine x_aload_n eX5_isCut_85 rfl ?_
            refine s_getR (k := (46 + 2 * r)) eX5_isCut_86 fX5_31 (kd_ring h0.1.1) (show _ < 365 by omega) (by decide) (rf_ring h0.1.1) ?_
            refine x_iload_n eX5_isCut_89 rfl ?_
            refine s_iald eX5_isCut_90 (kd_corner h0.1.1) (show _ < 365 by omega) rfl (by rw [(ln_corner h0.1.1)]; omega) ?_
            rw [(h.1.2.2.2 i (by omega)).1]
            refine x_aload_n eX5_isCut_91 rfl ?_
            refine s_getR (k := (46 + 2 * r)) eX5_isCut_92 fX5_31 (kd_ring h0.1.1) (show _ < 365 by omega) (by decide) (rf_ring h0.1.1) ?_
            refine x_iload_n eX5_isCut_95 rfl ?_
            refine s_iald eX5_isCut_96 (kd_corner h0.1.1) (show _ < 365 by omega) rfl (by rw [(ln_corner h0.1.1)]; omega) ?_
            rw [(h.1.2.2.2 j (by omega)).1]
            refine x_iload eX5_isCut_97 rfl ?_
            refine x_iload eX5_isCut_99 rfl ?_
            refine s_callV1 (As := [_, _, _, _]) eX5_isCut_101 kX5_39 ⟨by decide, by decide⟩ rfl (by decide) (by decide) rfl rfl (Nat.le_of_ble_eq_true rfl) (Nat.le_of_ble_eq_true rfl) (sp_X2_meeting _ (hp _ (Or.inl ki)) (hp _ (Or.inl kj)) (h.pt hp k) (h.pt hp (k + 1))) (fun S_101 h_101 => ?_)
            have hx := hx.tr h_101
            refine x_istore (lv' := [_, _, _, _, _, _, _, _, _]) eX5_isCut_104 (by decide) rfl ?_
            refine x_iload eX5_isCut_106 rfl ?_
            refine x_iload eX5_isCut_108 rfl ?_
            refine x_if_eqN eX5_isCut_110 (by omega) (fun c_110 => ?_) (fun c_110 => ?_)
            · refine x_iconst (v := nI 0) eX5_isCut_117 (by decide) ?_
              refine x_icmp_eq eX5_isCut_118 (fun c_118 => ?_) (fun c_118 => ?_)
              · refine x_iinc (lv' := [_, _, _, _, _, _, _, _, _]) eX5_isCut_123 rfl (by first | exact nI_inc _ | exact rfl) (by decide) rfl ?_
                refine x_goto eX5_isCut_126 ?_
                refine x_pick [0, 5, 6, 7, 8] rfl ?_
                refine ih (k + 1) (by omega) _ ⟨hx, fun l hl => ?_⟩
                by_cases q : l < k
                · exact hno l q
                obtain rfl : l = k := by omega
                first
                  | (rw [if_pos (by omega)]; exact c_118)
                  | (rw [if_neg (by omega)]; exact c_118)
                  | omega
              · refine x_iconst (v := nI 0) eX5_isCut_121 (by decide) ?_
                refine s_iret eX5_isCut_122 rfl rfl ⟨tI_fs (fun z => ?_), hx⟩
                have z := z.1 k (by omega)
                first
                  | (rw [if_pos (by omega)] at z; exact c_118 z)
                  | (rw [if_neg (by omega)] at z; exact c_118 z)
                  | omega
            · refine x_iconst (v := nI 2) eX5_isCut_113 (by decide) ?_
              refine x_goto eX5_isCut_114 ?_
              refine x_icmp_eq eX5_isCut_118 (fun c_118 => ?_) (fun c_118 => ?_)
              · refine x_iinc (lv' := [_, _, _, _, _, _, _, _, _]) eX5_isCut_123 rfl (by first | exact nI_inc _ | exact rfl) (by decide) rfl ?_
                refine x_goto eX5_isCut_126 ?_
                refine x_pick [0, 5, 6, 7, 8] rfl ?_
                refine ih (k + 1) (by omega) _ ⟨hx, fun l hl => ?_⟩
                by_cases q : l < k
                · exact hno l q
                obtain rfl : l = k := by omega
                first
                  | (rw [if_pos (by omega)]; exact c_118)
                  | (rw [if_neg (by omega)]; exact c_118)
                  | omega
              · refine x_iconst (v := nI 0) eX5_isCut_121 (by decide) ?_
                refine s_iret eX5_isCut_122 rfl rfl ⟨tI_fs (fun z => ?_), hx⟩
                have z := z.1 k (by omega)
                first
                  | (rw [if_pos (by omega)] at z; exact c_118 z)
                  | (rw [if_neg (by omega)] at z; exact c_118 z)
                  | omega
          · refine x_iload eX5_isCut_52 rfl ?_
            refine x_aload_n eX5_isCut_54 rfl ?_
            refine s_getR (k := (46 + 2 * r)) eX5_isCut_55 fX5_31 (kd_ring h0.1.1) (show _ < 365 by omega) (by decide) (rf_ring h0.1.1) ?_
            refine x_iload_n eX5_isCut_58 rfl ?_
            refine s_iald eX5_isCut_59 (kd_corner h0.1.1) (show _ < 365 by omega) rfl (by rw [(ln_corner h0.1.1)]; omega) ?_
            rw [(h.1.2.2.2 i (by omega)).1]
            refine x_icmp_eqN eX5_isCut_60 (by omega) (by omega) (fun c_60 => ?_) (fun c_60 => ?_)
            · refine x_iconst (v := nI 1) eX5_isCut_74 (by decide) ?_
              refine x_goto eX5_isCut_75 ?_
              refine x_istore (lv' := [_, _, _, _, _, _, _, _]) eX5_isCut_79 (by decide) rfl ?_
              refine x_aload_n eX5_isCut_81 rfl ?_
              refine s_getR (k := 32) eX5_isCut_82 fX5_15 rfl (by decide) (by decide) rfl ?_
              refine x_aload_n eX5_isCut_85 rfl ?_
              refine s_getR (k := (46 + 2 * r)) eX5_isCut_86 fX5_31 (kd_ring h0.1.1) (show _ < 365 by omega) (by decide) (rf_ring h0.1.1) ?_
              refine x_iload_n eX5_isCut_89 rfl ?_
              refine s_iald eX5_isCut_90 (kd_corner h0.1.1) (show _ < 365 by omega) rfl (by rw [(ln_corner h0.1.1)]; omega) ?_
              rw [(h.1.2.2.2 i (by omega)).1]
              refine x_aload_n eX5_isCut_91 rfl ?_
              refine s_getR (k := (46 + 2 * r)) eX5_isCut_92 fX5_31 (kd_ring h0.1.1) (show _ < 365 by omega) (by decide) (rf_ring h0.1.1) ?_
              refine x_iload_n eX5_isCut_95 rfl ?_
              refine s_iald eX5_isCut_96 (kd_corner h0.1.1) (show _ < 365 by omega) rfl (by rw [(ln_corner h0.1.1)]; omega) ?_
              rw [(h.1.2.2.2 j (by omega)).1]
              refine x_iload eX5_isCut_97 rfl ?_
              refine x_iload eX5_isCut_99 rfl ?_
              refine s_callV1 (As := [_, _, _, _]) eX5_isCut_101 kX5_39 ⟨by decide, by decide⟩ rfl (by decide) (by decide) rfl rfl (Nat.le_of_ble_eq_true rfl) (Nat.le_of_ble_eq_true rfl) (sp_X2_meeting _ (hp _ (Or.inl ki)) (hp _ (Or.inl kj)) (h.pt hp k) (h.pt hp (k + 1))) (fun S_101 h_101 => ?_)
              have hx := hx.tr h_101
              refine x_istore (lv' := [_, _, _, _, _, _, _, _, _]) eX5_isCut_104 (by decide) rfl ?_
              refine x_iload eX5_isCut_106 rfl ?_
              refine x_iload eX5_isCut_108 rfl ?_
              refine x_if_eqN eX5_isCut_110 (by omega) (fun c_110 => ?_) (fun c_110 => ?_)
              · refine x_iconst (v := nI 0) eX5_isCut_117 (by decide) ?_
                refine x_icmp_eq eX5_isCut_118 (fun c_118 => ?_) (fun c_118 => ?_)
                · refine x_iinc (lv' := [_, _, _, _, _, _, _, _, _]) eX5_isCut_123 rfl (by first | exact nI_inc _ | exact rfl) (by decide) rfl ?_
                  refine x_goto eX5_isCut_126 ?_
                  refine x_pick [0, 5, 6, 7, 8] rfl ?_
                  refine ih (k + 1) (by omega) _ ⟨hx, fun l hl => ?_⟩
                  by_cases q : l < k
                  · exact hno l q
                  obtain rfl : l = k := by omega
                  first
                    | (rw [if_pos (by omega)]; exact c_118)
                    | (rw [if_neg (by omega)]; exact c_118)
                    | omega
                · refine x_iconst (v := nI 0) eX5_isCut_121 (by decide) ?_
                  refine s_iret eX5_isCut_122 rfl rfl ⟨tI_fs (fun z => ?_), hx⟩
                  have z := z.1 k (by omega)
                  first
                    | (rw [if_pos (by omega)] at z; exact c_118 z)
                    | (rw [if_neg (by omega)] at z; exact c_118 z)
                    | omega
              · refine x_iconst (v := nI 2) eX5_isCut_113 (by decide) ?_
                refine x_goto eX5_isCut_114 ?_
                refine x_icmp_eq eX5_isCut_118 (fun c_118 => ?_) (fun c_118 => ?_)
                · refine x_iinc (lv' := [_, _, _, _, _, _, _, _, _]) eX5_isCut_123 rfl (by first | exact nI_inc _ | exact rfl) (by decide) rfl ?_
                  refine x_goto eX5_isCut_126 ?_
                  refine x_pick [0, 5, 6, 7, 8] rfl ?_
                  refine ih (k + 1) (by omega) _ ⟨hx, fun l hl => ?_⟩
                  by_cases q : l < k
                  · exact hno l q
                  obtain rfl : l = k := by omega
                  first
                    | (rw [if_pos (by omega)]; exact c_118)
                    | (rw [if_neg (by omega)]; exact c_118)
                    | omega
                · refine x_iconst (v := nI 0) eX5_isCut_121 (by decide) ?_
                  refine s_iret eX5_isCut_122 rfl rfl ⟨tI_fs (fun z => ?_), hx⟩
                  have z := z.1 k (by omega)
                  first
                    | (rw [if_pos (by omega)] at z; exact c_118 z)
                    | (rw [if_neg (by omega)] at z; exact c_118 z)
                    | omega
            · refine x_iload eX5_isCut_63 rfl ?_
              refine x_aload_n eX5_isCut_65 rfl ?_
              refine s_getR (k := (46 + 2 * r)) eX5_isCut_66 fX5_31 (kd_ring h0.1.1) (show _ < 365 by omega) (by decide) (rf_ring h0.1.1) ?_
              refine x_iload_n eX5_isCut_69 rfl ?_
              refine s_iald eX5_isCut_70 (kd_corner h0.1.1) (show _ < 365 by omega) rfl (by rw [(ln_corner h0.1.1)]; omega) ?_
              rw [(h.1.2.2.2 j (by omega)).1]
              refine x_icmp_neN eX5_isCut_71 (by omega) (by omega) (fun c_71 => ?_) (fun c_71 => ?_)
              · refine x_iconst (v := nI 0) eX5_isCut_78 (by decide) ?_
                refine x_istore (lv' := [_, _, _, _, _, _, _, _]) eX5_isCut_79 (by decide) rfl ?_
                refine x_aload_n eX5_isCut_81 rfl ?_
                refine s_getR (k := 32) eX5_isCut_82 fX5_15 rfl (by decide) (by decide) rfl ?_
                refine x_aload_n eX5_isCut_85 rfl ?_
                refine s_getR (k := (46 + 2 * r)) eX5_isCut_86 fX5_31 (kd_ring h0.1.1) (show _ < 365 by omega) (by decide) (rf_ring h0.1.1) ?_
                refine x_iload_n eX5_isCut_89 rfl ?_
                refine s_iald eX5_isCut_90 (kd_corner h0.1.1) (show _ < 365 by omega) rfl (by rw [(ln_corner h0.1.1)]; omega) ?_
                rw [(h.1.2.2.2 i (by omega)).1]
                refine x_aload_n eX5_isCut_91 rfl ?_
                refine s_getR (k := (46 + 2 * r)) eX5_isCut_92 fX5_31 (kd_ring h0.1.1) (show _ < 365 by omega) (by decide) (rf_ring h0.1.1) ?_
                refine x_iload_n eX5_isCut_95 rfl ?_
                refine s_iald eX5_isCut_96 (kd_corner h0.1.1) (show _ < 365 by omega) rfl (by rw [(ln_corner h0.1.1)]; omega) ?_
                rw [(h.1.2.2.2 j (by omega)).1]
                refine x_iload eX5_isCut_97 rfl ?_
                refine x_iload eX5_isCut_99 rfl ?_
                refine s_callV1 (As := [_, _, _, _]) eX5_isCut_101 kX5_39 ⟨by decide, by decide⟩ rfl (by decide) (by decide) rfl rfl (Nat.le_of_ble_eq_true rfl) (Nat.le_of_ble_eq_true rfl) (sp_X2_meeting _ (hp _ (Or.inl ki)) (hp _ (Or.inl kj)) (h.pt hp k) (h.pt hp (k + 1))) (fun S_101 h_101 => ?_)
                have hx := hx.tr h_101
                refine x_istore (lv' := [_, _, _, _, _, _, _, _, _]) eX5_isCut_104 (by decide) rfl ?_
                refine x_iload eX5_isCut_106 rfl ?_
                refine x_iload eX5_isCut_108 rfl ?_
                refine x_if_eqN eX5_isCut_110 (by omega) (fun c_110 => ?_) (fun c_110 => ?_)
                · refine x_iconst (v := nI 0) eX5_isCut_117 (by decide) ?_
                  refine x_icmp_eq eX5_isCut_118 (fun c_118 => ?_) (fun c_118 => ?_)
                  · refine x_iinc (lv' := [_, _, _, _, _, _, _, _, _]) eX5_isCut_123 rfl (by first | exact nI_inc _ | exact rfl) (by decide) rfl ?_
                    refine x_goto eX5_isCut_126 ?_
                    refine x_pick [0, 5, 6, 7, 8] rfl ?_
                    refine ih (k + 1) (by omega) _ ⟨hx, fun l hl => ?_⟩
                    by_cases q : l < k
                    · exact hno l q
                    obtain rfl : l = k := by omega
                    first
                      | (rw [if_pos (by omega)]; exact c_118)
                      | (rw [if_neg (by omega)]; exact c_118)
                      | omega
                  · refine x_iconst (v := nI 0) eX5_isCut_121 (by decide) ?_
                    refine s_iret eX5_isCut_122 rfl rfl ⟨tI_fs (fun z => ?_), hx⟩
                    have z := z.1 k (by omega)
                    first
                      | (rw [if_pos (by omega)] at z; exact c_118 z)
                      | (rw [if_neg (by omega)] at z; exact c_118 z)
                      | omega
                · refine x_iconst (v := nI 2) eX5_isCut_113 (by decide) ?_
                  refine x_goto eX5_isCut_114 ?_
                  refine x_icmp_eq eX5_isCut_118 (fun c_118 => ?_) (fun c_118 => ?_)
                  · refine x_iinc (lv' := [_, _, _, _, _, _, _, _, _]) eX5_isCut_123 rfl (by first | exact nI_inc _ | exact rfl) (by decide) rfl ?_
                    refine x_goto eX5_isCut_126 ?_
                    refine x_pick [0, 5, 6, 7, 8] rfl ?_
                    refine ih (k + 1) (by omega) _ ⟨hx, fun l hl => ?_⟩
                    by_cases q : l < k
                    · exact hno l q
                    obtain rfl : l = k := by omega
                    first
                      | (rw [if_pos (by omega)]; exact c_118)
                      | (rw [if_neg (by omega)]; exact c_118)
                      | omega
                  · refine x_iconst (v := nI 0) eX5_isCut_121 (by decide) ?_
                    refine s_iret eX5_isCut_122 rfl rfl ⟨tI_fs (fun z => ?_), hx⟩
                    have z := z.1 k (by omega)
                    first
                      | (rw [if_pos (by omega)] at z; exact c_118 z)
                      | (rw [if_neg (by omega)] at z; exact c_118 z)
                      | omega
              · refine x_iconst (v := nI 1) eX5_isCut_74 (by decide) ?_
                refine x_goto eX5_isCut_75 ?_
                refine x_istore (lv' := [_, _, _, _, _, _, _, _]) eX5_isCut_79 (by decide) rfl ?_
                refine x_aload_n eX5_isCut_81 rfl ?_
                refine s_getR (k := 32) eX5_isCut_82 fX5_15 rfl (by decide) (by decide) rfl ?_
                refine x_aload_n eX5_isCut_85 rfl ?_
                refine s_getR (k := (46 + 2 * r)) eX5_isCut_86 fX5_31 (kd_ring h0.1.1) (show _ < 365 by omega) (by decide) (rf_ring h0.1.1) ?_
                refine x_iload_n eX5_isCut_89 rfl ?_
                refine s_iald eX5_isCut_90 (kd_corner h0.1.1) (show _ < 365 by omega) rfl (by rw [(ln_corner h0.1.1)]; omega) ?_
                rw [(h.1.2.2.2 i (by omega)).1]
                refine x_aload_n eX5_isCut_91 rfl ?_
                refine s_getR (k := (46 + 2 * r)) eX5_isCut_92 fX5_31 (kd_ring h0.1.1) (show _ < 365 by omega) (by decide) (rf_ring h0.1.1) ?_
                refine x_iload_n eX5_isCut_95 rfl ?_
                refine s_iald eX5_isCut_96 (kd_corner h0.1.1) (show _ < 365 by omega) rfl (by rw [(ln_corner h0.1.1)]; omega) ?_
                rw [(h.1.2.2.2 j (by omega)).1]
                refine x_iload eX5_isCut_97 rfl ?_
                refine x_iload eX5_isCut_99 rfl ?_
                refine s_callV1 (As := [_, _, _, _]) eX5_isCut_101 kX5_39 ⟨by decide, by decide⟩ rfl (by decide) (by decide) rfl rfl (Nat.le_of_ble_eq_true rfl) (Nat.le_of_ble_eq_true rfl) (sp_X2_meeting _ (hp _ (Or.inl ki)) (hp _ (Or.inl kj)) (h.pt hp k) (h.pt hp (k + 1))) (fun S_101 h_101 => ?_)
                have hx := hx.tr h_101
                refine x_istore (lv' := [_, _, _, _, _, _, _, _, _]) eX5_isCut_104 (by decide) rfl ?_
                refine x_iload eX5_isCut_106 rfl ?_
                refine x_iload eX5_isCut_108 rfl ?_
                refine x_if_eqN eX5_isCut_110 (by omega) (fun c_110 => ?_) (fun c_110 => ?_)
                · refine x_iconst (v := nI 0) eX5_isCut_117 (by decide) ?_
                  refine x_icmp_eq eX5_isCut_118 (fun c_118 => ?_) (fun c_118 => ?_)
                  · refine x_iinc (lv' := [_, _, _, _, _, _, _, _, _]) eX5_isCut_123 rfl (by first | exact nI_inc _ | exact rfl) (by decide) rfl ?_
                    refine x_goto eX5_isCut_126 ?_
                    refine x_pick [0, 5, 6, 7, 8] rfl ?_
                    refine ih (k + 1) (by omega) _ ⟨hx, fun l hl => ?_⟩
                    by_cases q : l < k
                    · exact hno l q
                    obtain rfl : l = k := by omega
                    first
                      | (rw [if_pos (by omega)]; exact c_118)
                      | (rw [if_neg (by omega)]; exact c_118)
                      | omega
                  · refine x_iconst (v := nI 0) eX5_isCut_121 (by decide) ?_
                    refine s_iret eX5_isCut_122 rfl rfl ⟨tI_fs (fun z => ?_), hx⟩
                    have z := z.1 k (by omega)
                    first
                      | (rw [if_pos (by omega)] at z; exact c_118 z)
                      | (rw [if_neg (by omega)] at z; exact c_118 z)
                      | omega
                · refine x_iconst (v := nI 2) eX5_isCut_113 (by decide) ?_
                  refine x_goto eX5_isCut_114 ?_
                  refine x_icmp_eq eX5_isCut_118 (fun c_118 => ?_) (fun c_118 => ?_)
                  · refine x_iinc (lv' := [_, _, _, _, _, _, _, _, _]) eX5_isCut_123 rfl (by first | exact nI_inc _ | exact rfl) (by decide) rfl ?_
                    refine x_goto eX5_isCut_126 ?_
                    refine x_pick [0, 5, 6, 7, 8] rfl ?_
                    refine ih (k + 1) (by omega) _ ⟨hx, fun l hl => ?_⟩
                    by_cases q : l < k
                    · exact hno l q
                    obtain rfl : l = k := by omega
                    first
                      | (rw [if_pos (by omega)]; exact c_118)
                      | (rw [if_neg (by omega)]; exact c_118)
                      | omega
                  · refine x_iconst (v := nI 0) eX5_isCut_121 (by decide) ?_
                    refine s_iret eX5_isCut_122 rfl rfl ⟨tI_fs (fun z => ?_), hx⟩
                    have z := z.1 k (by omega)
                    first
                      | (rw [if_pos (by omega)] at z; exact c_118 z)
                      | (rw [if_neg (by omega)] at z; exact c_118 z)
                      | omega
  show XP _ _ [_, _, _, _] _ _ _
  refine x_iconst (v := nI 0) eX5_isCut_0 (by decide) ?_
  refine x_istore (lv' := [_, _, _, _, _]) eX5_isCut_1 (by decide) rfl ?_
  refine x_pick [0, 1, 2, 3, 4] rfl ?_
  exact loop n 0 (by omega) _ ⟨Lx.rf _ _, fun j hj => by omega⟩
