/-! ===== the reference's table of parcels ===== -/
def mtab (S : xS) (np : Nat) (th : Nat → Bool) (ly : Nat → Nat) (ow : Nat → Int32) (sz : Nat → Nat) (rg : Nat → Nat → Nat) : Prop := S.1 0 16 = nI np ∧ np ≤ 60 ∧ ∀ q, q < np → S.2.1 12 q = bI (th q) ∧ (th q = true → S.2.1 13 q = nI (ly q) ∧ S.2.1 14 q = ow q ∧ mpr S q (sz q) (rg q))
section MT
variable {S : xS} {np : Nat} {th : Nat → Bool} {ly : Nat → Nat} {ow : Nat → Int32} {sz : Nat → Nat} {rg : Nat → Nat → Nat}
theorem mtab.of {S1 : xS} (h : mtab S np th ly ow sz rg) (a : S1.1 0 16 = S.1 0 16) (b : ∀ p, p = 12 ∨ p = 13 ∨ p = 14 ∨ p = 15 ∨ p = 16 → S1.2.1 p = S.2.1 p) : mtab S1 np th ly ow sz rg := ⟨by rw [a]; exact h.1, h.2.1, fun q hq => ⟨by rw [b 12 (by simp)]; exact (h.2.2 q hq).1, fun t => by have := (h.2.2 q hq).2 t; exact ⟨by rw [b 13 (by simp)]; exact this.1, by rw [b 14 (by simp)]; exact this.2.1, this.2.2.I (b 15 (by simp)) (b 16 (by simp))⟩⟩⟩
theorem mtab.gx {S1 : xS} (h : mtab S np th ly ow sz rg) (g : Gx S S1) : mtab S1 np th ly ow sz rg := h.of (g.2.1 _ (by decide) (by decide) (by decide)) (fun p hp => g.2.2.1 p (by omega))
theorem hasP_iff (h60 : np ≤ 60) (p : Int32) : decide (nI 0 ≤ p ∧ p ≤ nI np - nI 1) = decide (∃ k, k < np ∧ p = nI k) := by
  by_cases h : ∃ k, k < np ∧ p = nI k
  · rw [decide_eq_true h]
    obtain ⟨k, hk, rfl⟩ := h
    rw [pk_sub (by omega)]
    exact decide_eq_true ⟨nI_le (by omega) (by omega), nI_le (by omega) (by omega)⟩
  · rw [decide_eq_false h]
    apply decide_eq_false
    intro h3
    apply h
    obtain ⟨j, hj, rfl⟩ := nI_of (Int32.not_lt.mpr h3.1)
    refine ⟨j, ?_, rfl⟩
    have h5 := h3.2
    by_cases hn0 : np = 0
    · subst hn0
      exact absurd (Int32.le_trans h3.1 h5) (by decide)
    · rw [pk_sub (by omega), nI_leI hj (by omega)] at h5
      omega

theorem sp_X9_isParcel (h : mtab S np th ly ow sz rg) (p : Int32) : Sp mX9_isParcel [.ref 0, .int p] S (fun r S' => r = some (.int (tI (hasP np th p))) ∧ S' = S) := by
  have n60 := h.2.1
  have hd := hasP_iff n60 p
  show XP _ _ [_, _] _ _ _
  refine x_iload_n eX9_isParcel_0 rfl ?_
  refine x_iconst (v := nI 0) eX9_isParcel_1 (by decide) ?_
  refine x_aload_n eX9_isParcel_2 rfl ?_
  refine s_geti eX9_isParcel_3 fX9_224 rfl (by decide) (by decide) ?_
  rw [h.1]
  refine x_iconst (v := nI 1) eX9_isParcel_6 (by decide) ?_
  refine x_isub eX9_isParcel_7 ?_
  refine s_callS1 (As := [_, _, _]) eX9_isParcel_8 kX9_173 ⟨by decide, by decide⟩ rfl rfl (Nat.le_of_ble_eq_true rfl) (Nat.le_of_ble_eq_true rfl) (sp_X9_in _ _ _ _) (fun S_8 h_8 => ?_)
  have h_8 := h_8.symm
  subst h_8
  rw [hd]
  refine x_if_eqB eX9_isParcel_11 (fun c_11 => ?_) (fun c_11 => ?_)
  · refine x_iconst (v := nI 0) eX9_isParcel_27 (by decide) ?_
    first
      | exact s_iret eX9_isParcel_28 rfl rfl ⟨tI_ts ⟨k, hk, rfl, c_20⟩, rfl⟩
      | exact s_iret eX9_isParcel_28 rfl rfl ⟨tI_fs (fun ⟨j, hj, e, t⟩ => by obtain rfl : k = j := (nI_eq (by omega) (by omega)).mp e; rw [t] at c_20; exact absurd c_20 (by decide)), rfl⟩
      | exact s_iret eX9_isParcel_28 rfl rfl ⟨tI_fs (fun ⟨j, hj, e, t⟩ => of_decide_eq_false c_11 ⟨j, hj, e⟩), rfl⟩
  · obtain ⟨k, hk, rfl⟩ := of_decide_eq_true c_11
    refine x_aload_n eX9_isParcel_14 rfl ?_
    refine s_getR (k := 12) eX9_isParcel_15 fX9_48 rfl (by decide) (by decide) rfl ?_
    refine x_iload_n eX9_isParcel_18 rfl ?_
    refine s_zald eX9_isParcel_19 rfl (by decide) rfl (show _ < 60 by omega) ?_
    rw [(h.2.2 k hk).1]
    refine x_if_eqB eX9_isParcel_20 (fun c_20 => ?_) (fun c_20 => ?_)
    · refine x_iconst (v := nI 0) eX9_isParcel_27 (by decide) ?_
      first
        | exact s_iret eX9_isParcel_28 rfl rfl ⟨tI_ts ⟨k, hk, rfl, c_20⟩, rfl⟩
        | exact s_iret eX9_isParcel_28 rfl rfl ⟨tI_fs (fun ⟨j, hj, e, t⟩ => by obtain rfl : k = j := (nI_eq (by omega) (by omega)).mp e; rw [t] at c_20; exact absurd c_20 (by decide)), rfl⟩
        | exact s_iret eX9_isParcel_28 rfl rfl ⟨tI_fs (fun ⟨j, hj, e, t⟩ => of_decide_eq_false c_11 ⟨j, hj, e⟩), rfl⟩
    · refine x_iconst (v := nI 1) eX9_isParcel_23 (by decide) ?_
      refine x_goto eX9_isParcel_24 ?_
      first
        | exact s_iret eX9_isParcel_28 rfl rfl ⟨tI_ts ⟨k, hk, rfl, c_20⟩, rfl⟩
        | exact s_iret eX9_isParcel_28 rfl rfl ⟨tI_fs (fun ⟨j, hj, e, t⟩ => by obtain rfl : k = j := (nI_eq (by omega) (by omega)).mp e; rw [t] at c_20; exact absurd c_20 (by decide)), rfl⟩
        | exact s_iret eX9_isParcel_28 rfl rfl ⟨tI_fs (fun ⟨j, hj, e, t⟩ => of_decide_eq_false c_11 ⟨j, hj, e⟩), rfl⟩
theorem sp_X9_there (h : mtab S np th ly ow sz rg) (l : Int32) : Sp mX9_there [.ref 0, .int l] S (fun r S' => r = some (.int (nI (cnt (fun q => th q = true ∧ (l = -1 ∨ nI (ly q) = l)) np))) ∧ S' = S) := by
  have n60 := h.2.1
  have loop : ∀ μ k, k + μ = np → ∀ S1, S1 = S → XP mX9_there 4 [(3, .int (nI k)), (2, .int (nI (cnt (fun q => th q = true ∧ (l = -1 ∨ nI (ly q) = l)) k))), (0, .ref 0), (1, .int l)] [] (xwS S1) (sQ (fun r S' => r = some (.int (nI (cnt (fun q => th q = true ∧ (l = -1 ∨ nI (ly q) = l)) np))) ∧ S' = S)) := by
    intro μ
    induction μ with
    | zero =>
      intro k hk S1 h1
      have h1 := h1.symm
      subst h1
      refine x_iload_n eX9_there_4 rfl ?_
      refine x_aload_n eX9_there_5 rfl ?_
      refine s_geti eX9_there_6 fX9_224 rfl (by decide) (by decide) ?_
      rw [h.1]
      refine x_icmp_geN eX9_there_9 (by omega) (by omega) (fun c_9 => ?_) (fun c_9 => ?_)
      · refine x_iload_n eX9_there_50 rfl ?_
        exact s_iret eX9_there_51 rfl rfl ⟨by rw [show k = np by omega], rfl⟩
      · omega
    | succ μ ih =>
      intro k hk S1 h1
      have h1 := h1.symm
      subst h1
      refine x_iload_n eX9_there_4 rfl ?_
      refine x_aload_n eX9_there_5 rfl ?_
      refine s_geti eX9_there_6 fX9_224 rfl (by decide) (by decide) ?_
      rw [h.1]
      refine x_icmp_geN eX9_there_9 (by omega) (by omega) (fun c_9 => ?_) (fun c_9 => ?_)
      · omega
      · refine x_iload_n eX9_there_12 rfl ?_
        refine x_aload_n eX9_there_13 rfl ?_
        refine s_getR (k := 12) eX9_there_14 fX9_48 rfl (by decide) (by decide) rfl ?_
        refine x_iload_n eX9_there_17 rfl ?_
        refine s_zald eX9_there_18 rfl (by decide) rfl (show _ < 60 by omega) ?_
        rw [(h.2.2 k (by omega)).1]
        refine x_if_eqB eX9_there_19 (fun c_19 => ?_) (fun c_19 => ?_)
        · refine x_iconst (v := nI 0) eX9_there_41 (by decide) ?_
          first | refine x_iaddN eX9_there_42 ?_ | refine x_iadd eX9_there_42 ?_
          refine x_istore_n (lv' := [_, _, _, _]) eX9_there_43 (by decide) rfl ?_
          refine x_iinc (lv' := [_, _, _, _]) eX9_there_44 rfl (by first | exact nI_inc _ | exact rfl) (by decide) rfl ?_
          refine x_goto eX9_there_47 ?_
          refine x_pick [0, 1, 2, 3] rfl ?_
          have nx := ih (k + 1) (by omega) _ rfl
          first
            | (rw [cnt_t (R := (fun q => th q = true ∧ (l = -1 ∨ nI (ly q) = l))) ⟨c_19, Or.inl c_24⟩] at nx; exact nx)
            | (rw [cnt_t (R := (fun q => th q = true ∧ (l = -1 ∨ nI (ly q) = l))) ⟨c_19, Or.inr c_34⟩] at nx; exact nx)
            | (rw [cnt_f (R := (fun q => th q = true ∧ (l = -1 ∨ nI (ly q) = l))) (fun z => z.2.elim c_24 c_34)] at nx; exact nx)
            | (rw [cnt_f (R := (fun q => th q = true ∧ (l = -1 ∨ nI (ly q) = l))) (fun z => by rw [z.1] at c_19; exact absurd c_19 (by decide))] at nx; exact nx)
        · refine x_iload_n eX9_there_22 rfl ?_
          refine x_iconst (v := -1) eX9_there_23 (by decide) ?_
          refine x_icmp_eq eX9_there_24 (fun c_24 => ?_) (fun c_24 => ?_)
          · refine x_iconst (v := nI 1) eX9_there_37 (by decide) ?_
            refine x_goto eX9_there_38 ?_
            first | refine x_iaddN eX9_there_42 ?_ | refine x_iadd eX9_there_42 ?_
            refine x_istore_n (lv' := [_, _, _, _]) eX9_there_43 (by decide) rfl ?_
            refine x_iinc (lv' := [_, _, _, _]) eX9_there_44 rfl (by first | exact nI_inc _ | exact rfl) (by decide) rfl ?_
            refine x_goto eX9_there_47 ?_
            refine x_pick [0, 1, 2, 3] rfl ?_
            have nx := ih (k + 1) (by omega) _ rfl
            first
              | (rw [cnt_t (R := (fun q => th q = true ∧ (l = -1 ∨ nI (ly q) = l))) ⟨c_19, Or.inl c_24⟩] at nx; exact nx)
              | (rw [cnt_t (R := (fun q => th q = true ∧ (l = -1 ∨ nI (ly q) = l))) ⟨c_19, Or.inr c_34⟩] at nx; exact nx)
              | (rw [cnt_f (R := (fun q => th q = true ∧ (l = -1 ∨ nI (ly q) = l))) (fun z => z.2.elim c_24 c_34)] at nx; exact nx)
              | (rw [cnt_f (R := (fun q => th q = true ∧ (l = -1 ∨ nI (ly q) = l))) (fun z => by rw [z.1] at c_19; exact absurd c_19 (by decide))] at nx; exact nx)
          · refine x_aload_n eX9_there_27 rfl ?_
            refine s_getR (k := 13) eX9_there_28 fX9_52 rfl (by decide) (by decide) rfl ?_
            refine x_iload_n eX9_there_31 rfl ?_
            refine s_iald eX9_there_32 rfl (by decide) rfl (show _ < 60 by omega) ?_
            rw [((h.2.2 k (by omega)).2 c_19).1]
            refine x_iload_n eX9_there_33 rfl ?_
            refine x_icmp_ne eX9_there_34 (fun c_34 => ?_) (fun c_34 => ?_)
            · refine x_iconst (v := nI 0) eX9_there_41 (by decide) ?_
              first | refine x_iaddN eX9_there_42 ?_ | refine x_iadd eX9_there_42 ?_
              refine x_istore_n (lv' := [_, _, _, _]) eX9_there_43 (by decide) rfl ?_
              refine x_iinc (lv' := [_, _, _, _]) eX9_there_44 rfl (by first | exact nI_inc _ | exact rfl) (by decide) rfl ?_
              refine x_goto eX9_there_47 ?_
              refine x_pick [0, 1, 2, 3] rfl ?_
              have nx := ih (k + 1) (by omega) _ rfl
              first
                | (rw [cnt_t (R := (fun q => th q = true ∧ (l = -1 ∨ nI (ly q) = l))) ⟨c_19, Or.inl c_24⟩] at nx; exact nx)
                | (rw [cnt_t (R := (fun q => th q = true ∧ (l = -1 ∨ nI (ly q) = l))) ⟨c_19, Or.inr c_34⟩] at nx; exact nx)
                | (rw [cnt_f (R := (fun q => th q = true ∧ (l = -1 ∨ nI (ly q) = l))) (fun z => z.2.elim c_24 c_34)] at nx; exact nx)
                | (rw [cnt_f (R := (fun q => th q = true ∧ (l = -1 ∨ nI (ly q) = l))) (fun z => by rw [z.1] at c_19; exact absurd c_19 (by decide))] at nx; exact nx)
            · refine x_iconst (v := nI 1) eX9_there_37 (by decide) ?_
              refine x_goto eX9_there_38 ?_
              first | refine x_iaddN eX9_there_42 ?_ | refine x_iadd eX9_there_42 ?_
              refine x_istore_n (lv' := [_, _, _, _]) eX9_there_43 (by decide) rfl ?_
              refine x_iinc (lv' := [_, _, _, _]) eX9_there_44 rfl (by first | exact nI_inc _ | exact rfl) (by decide) rfl ?_
              refine x_goto eX9_there_47 ?_
              refine x_pick [0, 1, 2, 3] rfl ?_
              have nx := ih (k + 1) (by omega) _ rfl
              first
                | (rw [cnt_t (R := (fun q => th q = true ∧ (l = -1 ∨ nI (ly q) = l))) ⟨c_19, Or.inl c_24⟩] at nx; exact nx)
                | (rw [cnt_t (R := (fun q => th q = true ∧ (l = -1 ∨ nI (ly q) = l))) ⟨c_19, Or.inr c_34⟩] at nx; exact nx)
                | (rw [cnt_f (R := (fun q => th q = true ∧ (l = -1 ∨ nI (ly q) = l))) (fun z => z.2.elim c_24 c_34)] at nx; exact nx)
                | (rw [cnt_f (R := (fun q => th q = true ∧ (l = -1 ∨ nI (ly q) = l))) (fun z => by rw [z.1] at c_19; exact absurd c_19 (by decide))] at nx; exact nx)
  show XP _ _ [_, _] _ _ _
  refine x_iconst (v := nI 0) eX9_there_0 (by decide) ?_
  refine x_istore_n (lv' := [_, _, _]) eX9_there_1 (by decide) rfl ?_
  refine x_iconst (v := nI 0) eX9_there_2 (by decide) ?_
  refine x_istore_n (lv' := [_, _, _, _]) eX9_there_3 (by decide) rfl ?_
  refine x_pick [0, 1, 2, 3] rfl ?_
  exact loop np 0 (by omega) _ rfl
end MT
theorem sp_X9_store (S : xS) {p n : Nat} {c : Nat → Nat} (hp : p < 60) (h : mrg S n c) (n12 : n ≤ 12) : Sp mX9_store [.ref 0, .int (nI p)] S (fun r S' => r = none ∧ Fx [] [15, 16] [] [] S S' ∧ (∀ j, S'.2.1 15 j = if j = p then nI n else S.2.1 15 j) ∧ ∀ j, S'.2.1 16 j = if 12 * p ≤ j ∧ j < 12 * p + n then nI (c (j - 12 * p)) else S.2.1 16 j) := by
  have loop : ∀ μ k, k + μ = n → ∀ S1, (Fx [] [15, 16] [] [] S S1 ∧ (∀ j, S1.2.1 15 j = if j = p then nI n else S.2.1 15 j) ∧ ∀ j, S1.2.1 16 j = if 12 * p ≤ j ∧ j < 12 * p + k then nI (c (j - 12 * p)) else S.2.1 16 j) → XP mX9_store 12 [(2, .int (nI k)), (0, .ref 0), (1, .int (nI p))] [] (xwS S1) (sQ (fun r S' => r = none ∧ Fx [] [15, 16] [] [] S S' ∧ (∀ j, S'.2.1 15 j = if j = p then nI n else S.2.1 15 j) ∧ ∀ j, S'.2.1 16 j = if 12 * p ≤ j ∧ j < 12 * p + n then nI (c (j - 12 * p)) else S.2.1 16 j)) := by
    intro μ
    induction μ with
    | zero =>
      intro k hk S1 h1
      obtain ⟨hx, e1, e2⟩ := h1
      have e14 : S1.1 0 14 = nI n := by rw [hx.1 0 (by simp)]; exact h.1
      refine x_iload_n eX9_store_12 rfl ?_
      refine x_aload_n eX9_store_13 rfl ?_
      refine s_geti eX9_store_14 fX9_218 rfl (by decide) (by decide) ?_
      rw [e14]
      refine x_icmp_geN eX9_store_17 (by omega) (by omega) (fun c_17 => ?_) (fun c_17 => ?_)
      · exact s_vret eX9_store_43 rfl ⟨rfl, hx, e1, by rw [show n = k by omega]; exact e2⟩
      · omega
    | succ μ ih =>
      intro k hk S1 h1
      obtain ⟨hx, e1, e2⟩ := h1
      have e14 : S1.1 0 14 = nI n := by rw [hx.1 0 (by simp)]; exact h.1
      refine x_iload_n eX9_store_12 rfl ?_
      refine x_aload_n eX9_store_13 rfl ?_
      refine s_geti eX9_store_14 fX9_218 rfl (by decide) (by decide) ?_
      rw [e14]
      refine x_icmp_geN eX9_store_17 (by omega) (by omega) (fun c_17 => ?_) (fun c_17 => ?_)
      · omega
      · refine x_aload_n eX9_store_20 rfl ?_
        refine s_getR (k := 16) eX9_store_21 fX9_61 rfl (by decide) (by decide) rfl ?_
        refine x_bipush (v := nI 12) eX9_store_24 (by decide) ?_
        refine x_iload_n eX9_store_26 rfl ?_
        first | refine x_imulN eX9_store_27 ?_ | refine x_imul eX9_store_27 ?_
        refine x_iload_n eX9_store_28 rfl ?_
        first | refine x_iaddN eX9_store_29 ?_ | refine x_iadd eX9_store_29 ?_
        refine x_aload_n eX9_store_30 rfl ?_
        refine s_getR (k := 10) eX9_store_31 fX9_42 rfl (by decide) (by decide) rfl ?_
        refine x_iload_n eX9_store_34 rfl ?_
        refine s_iald eX9_store_35 rfl (by decide) rfl (show _ < 24 by omega) ?_
        rw [hx.2.1 10 (by simp), (h.2.2 k (by omega)).1]
        refine s_iast eX9_store_36 rfl (by decide) rfl (show _ < 720 by omega) ?_
        refine x_iinc (lv' := [_, _, _]) eX9_store_37 rfl (by first | exact nI_inc _ | exact rfl) (by decide) rfl ?_
        refine x_goto eX9_store_40 ?_
        refine x_pick [0, 1, 2] rfl ?_
        refine ih (k + 1) (by omega) _ ⟨hx.tr (Fx.sI (by simp)), fun j => by rw [setI_ne _ _ (by decide)]; exact e1 j, fun j => ?_⟩
        rw [setI_at]
        by_cases q : j = 12 * p + k
        · subst q; rw [upd_at, if_pos (by omega), show 12 * p + k - 12 * p = k by omega]
        · rw [upd_ne _ _ q, e2]
          by_cases q2 : 12 * p ≤ j ∧ j < 12 * p + k
          · rw [if_pos q2, if_pos (by omega)]
          · rw [if_neg q2, if_neg (by omega)]
  show XP _ _ [_, _] _ _ _
  refine x_aload_n eX9_store_0 rfl ?_
  refine s_getR (k := 15) eX9_store_1 fX9_58 rfl (by decide) (by decide) rfl ?_
  refine x_iload_n eX9_store_4 rfl ?_
  refine x_aload_n eX9_store_5 rfl ?_
  refine s_geti eX9_store_6 fX9_218 rfl (by decide) (by decide) ?_
  rw [h.1]
  refine s_iast eX9_store_9 rfl (by decide) rfl (show _ < 60 by omega) ?_
  refine x_iconst (v := nI 0) eX9_store_10 (by decide) ?_
  refine x_istore_n (lv' := [_, _, _]) eX9_store_11 (by decide) rfl ?_
  refine x_pick [0, 1, 2] rfl ?_
  refine loop n 0 (by omega) _ ⟨Fx.sI (by simp), fun j => ?_, fun j => by rw [if_neg (by omega), setI_ne _ _ (by decide)]⟩
  rw [setI_at]
  by_cases q : j = p
  · subst q; rw [upd_at, if_pos rfl]
  · rw [upd_ne _ _ q, if_neg q]
theorem store_own {S S' : xS} {p n : Nat} {c : Nat → Nat} (hp : p < 60) (h : mrg S n c) (n0 : 0 < n) (n12 : n ≤ 12) (e1 : ∀ j, S'.2.1 15 j = if j = p then nI n else S.2.1 15 j) (e2 : ∀ j, S'.2.1 16 j = if 12 * p ≤ j ∧ j < 12 * p + n then nI (c (j - 12 * p)) else S.2.1 16 j) : mpr S' p n c := ⟨hp, n0, n12, by rw [e1, if_pos rfl], fun i hi => ⟨by rw [e2, if_pos (by omega), show 12 * p + i - 12 * p = i by omega], (h.2.2 i hi).2⟩⟩
theorem store_else {S S' : xS} {p n q m : Nat} {c d : Nat → Nat} (n12 : n ≤ 12) (hq : q ≠ p) (h : mpr S q m d) (e1 : ∀ j, S'.2.1 15 j = if j = p then nI n else S.2.1 15 j) (e2 : ∀ j, S'.2.1 16 j = if 12 * p ≤ j ∧ j < 12 * p + n then nI (c (j - 12 * p)) else S.2.1 16 j) : mpr S' q m d := by
  obtain ⟨a1, a2, a3, a4, a5⟩ := h
  exact ⟨a1, a2, a3, by rw [e1, if_neg hq]; exact a4, fun i hi => by rw [e2, if_neg (by omega)]; exact a5 i hi⟩

theorem sp_X9_load (S : xS) {p n : Nat} {c : Nat → Nat} (h : mpr S p n c) : Sp mX9_load [.ref 0, .int (nI p)] S (fun r S' => r = none ∧ Fx [0] [10] [] [] S S' ∧ (∀ f, f ≠ 14 → S'.1 0 f = S.1 0 f) ∧ mrg S' n c) := by
  have p60 := h.1
  have n12 := h.2.2.1
  have loop : ∀ μ k, k + μ = n → ∀ S1, (Fx [0] [10] [] [] S S1 ∧ (∀ f, f ≠ 14 → S1.1 0 f = S.1 0 f) ∧ S1.1 0 14 = nI n ∧ ∀ j, j < k → S1.2.1 10 j = nI (c j)) → XP mX9_load 12 [(2, .int (nI k)), (0, .ref 0), (1, .int (nI p))] [] (xwS S1) (sQ (fun r S' => r = none ∧ Fx [0] [10] [] [] S S' ∧ (∀ f, f ≠ 14 → S'.1 0 f = S.1 0 f) ∧ mrg S' n c)) := by
    intro μ
    induction μ with
    | zero =>
      intro k hk S1 h1
      obtain ⟨hx, e1, e14, e2⟩ := h1
      refine x_iload_n eX9_load_12 rfl ?_
      refine x_aload_n eX9_load_13 rfl ?_
      refine s_geti eX9_load_14 fX9_218 rfl (by decide) (by decide) ?_
      rw [e14]
      refine x_icmp_geN eX9_load_17 (by omega) (by omega) (fun c_17 => ?_) (fun c_17 => ?_)
      · exact s_vret eX9_load_43 rfl ⟨rfl, hx, e1, e14, by omega, fun i hi => ⟨e2 i (by omega), (h.2.2.2.2 i hi).2⟩⟩
      · omega
    | succ μ ih =>
      intro k hk S1 h1
      obtain ⟨hx, e1, e14, e2⟩ := h1
      refine x_iload_n eX9_load_12 rfl ?_
      refine x_aload_n eX9_load_13 rfl ?_
      refine s_geti eX9_load_14 fX9_218 rfl (by decide) (by decide) ?_
      rw [e14]
      refine x_icmp_geN eX9_load_17 (by omega) (by omega) (fun c_17 => ?_) (fun c_17 => ?_)
      · omega
      · refine x_aload_n eX9_load_20 rfl ?_
        refine s_getR (k := 10) eX9_load_21 fX9_42 rfl (by decide) (by decide) rfl ?_
        refine x_iload_n eX9_load_24 rfl ?_
        refine x_aload_n eX9_load_25 rfl ?_
        refine s_getR (k := 16) eX9_load_26 fX9_61 rfl (by decide) (by decide) rfl ?_
        refine x_bipush (v := nI 12) eX9_load_29 (by decide) ?_
        refine x_iload_n eX9_load_31 rfl ?_
        first | refine x_imulN eX9_load_32 ?_ | refine x_imul eX9_load_32 ?_
        refine x_iload_n eX9_load_33 rfl ?_
        first | refine x_iaddN eX9_load_34 ?_ | refine x_iadd eX9_load_34 ?_
        refine s_iald eX9_load_35 rfl (by decide) rfl (show _ < 720 by omega) ?_
        rw [hx.2.1 16 (by simp), (h.2.2.2.2 k (by omega)).1]
        refine s_iast eX9_load_36 rfl (by decide) rfl (show _ < 24 by omega) ?_
        refine x_iinc (lv' := [_, _, _]) eX9_load_37 rfl (by first | exact nI_inc _ | exact rfl) (by decide) rfl ?_
        refine x_goto eX9_load_40 ?_
        refine x_pick [0, 1, 2] rfl ?_
        refine ih (k + 1) (by omega) _ ⟨hx.tr (Fx.sI (by simp)), e1, e14, fun j hj => ?_⟩
        rw [setI_at]
        by_cases q : j = k
        · subst q; rw [upd_at]
        · rw [upd_ne _ _ q]; exact e2 j (by omega)
  show XP _ _ [_, _] _ _ _
  refine x_aload_n eX9_load_0 rfl ?_
  refine x_aload_n eX9_load_1 rfl ?_
  refine s_getR (k := 15) eX9_load_2 fX9_58 rfl (by decide) (by decide) rfl ?_
  refine x_iload_n eX9_load_5 rfl ?_
  refine s_iald eX9_load_6 rfl (by decide) rfl (show _ < 60 by omega) ?_
  rw [h.2.2.2.1]
  refine s_puti eX9_load_7 fX9_218 wX9_14 rfl (by decide) (by decide) ?_
  refine x_iconst (v := nI 0) eX9_load_10 (by decide) ?_
  refine x_istore_n (lv' := [_, _, _]) eX9_load_11 (by decide) rfl ?_
  refine x_pick [0, 1, 2] rfl ?_
  exact loop n 0 (by omega) _ ⟨Fx.sF (by simp), fun f hf => by rw [setF_at, upd_ne _ _ hf], by rw [setF_at, upd_at], fun j hj => by omega⟩
