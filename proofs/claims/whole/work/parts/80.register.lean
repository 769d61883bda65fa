/-! ===== the class's Register ===== -/
/-- the class's parcels: np made; th which are there, with layer, owner, ring -/
def ctab (S : xS) (np : Nat) (th : Nat → Bool) (ly : Nat → Nat) (ow : Nat → Int32) (sz : Nat → Nat) (rg : Nat → Nat → Nat) : Prop := S.1 37 6 = nI np ∧ np ≤ 60 ∧ ∀ q, q < np → S.1 (175 + q) 1 = bI (th q) ∧ (th q = true → S.1 (175 + q) 2 = nI (ly q) ∧ S.1 (175 + q) 3 = ow q ∧ crg S q (sz q) (rg q))
section RG
variable {S : xS} {np : Nat} {th : Nat → Bool} {ly : Nat → Nat} {ow : Nat → Int32} {sz : Nat → Nat} {rg : Nat → Nat → Nat}
theorem ctab.lx {ps : List Nat} {S1 : xS} (h : ctab S np th ly ow sz rg) (hx : Lx ps S S1) : ctab S1 np th ly ow sz rg := ⟨by rw [hx.1]; exact h.1, h.2.1, fun q hq => ⟨by rw [hx.1]; exact (h.2.2 q hq).1, fun t => by have := (h.2.2 q hq).2 t; rw [hx.1]; exact ⟨this.1, this.2.1, this.2.2.mv hx⟩⟩⟩
def hasP (np : Nat) (th : Nat → Bool) (p : Int32) : Prop := ∃ k, k < np ∧ p = nI k ∧ th k = true

theorem sp_X3_has (h : ctab S np th ly ow sz rg) (p : Int32) : Sp mX3_has [.ref 37, .int p] S (fun r S' => r = some (.int (tI (hasP np th p))) ∧ S' = S) := by
  have n60 := h.2.1
  show XP _ _ [_, _] _ _ _
  rcases pk_ix p (n := np) (by omega) with q | q | ⟨k, hk, rfl⟩
  · refine x_iload_n eX3_has_0 rfl ?_
    refine x_if_lt eX3_has_1 (fun c_1 => ?_) (fun c_1 => ?_)
    · refine x_iconst (v := nI 0) eX3_has_28 (by decide) ?_
      exact s_iret eX3_has_29 rfl (by first | rfl | exact bI_nar _ | exact tI_nar _) ⟨tI_fs (fun ⟨k, hk, e, _⟩ => by subst e; exact absurd q (nI_pos (by omega))), rfl⟩
    · exact absurd q c_1
  · refine x_iload_n eX3_has_0 rfl ?_
    refine x_if_lt eX3_has_1 (fun c_1 => ?_) (fun c_1 => ?_)
    · exact absurd (Int32.lt_of_le_of_lt q c_1) (nI_pos (by omega))
    · refine x_iload_n eX3_has_4 rfl ?_
      refine x_aload_n eX3_has_5 rfl ?_
      refine s_geti eX3_has_6 fX3_36 rfl (by decide) (by decide) ?_
      rw [h.1]
      refine x_icmp_ge eX3_has_9 (fun c_9 => ?_) (fun c_9 => ?_)
      · refine x_iconst (v := nI 0) eX3_has_28 (by decide) ?_
        exact s_iret eX3_has_29 rfl (by first | rfl | exact bI_nar _ | exact tI_nar _) ⟨tI_fs (fun ⟨k, hk, e, _⟩ => by subst e; exact absurd ((nI_leI (by omega) (by omega)).mp q) (by omega)), rfl⟩
      · exact absurd q c_9
  · refine x_iload_n eX3_has_0 rfl ?_
    refine x_if_ltN eX3_has_1 (by omega) ?_
    refine x_iload_n eX3_has_4 rfl ?_
    refine x_aload_n eX3_has_5 rfl ?_
    refine s_geti eX3_has_6 fX3_36 rfl (by decide) (by decide) ?_
    rw [h.1]
    refine x_icmp_geN eX3_has_9 (by omega) (by omega) (fun c_9 => ?_) (fun c_9 => ?_)
    · omega
    · refine x_aload_n eX3_has_12 rfl ?_
      refine s_getR (k := 38) eX3_has_13 fX3_11 rfl (by decide) (by decide) rfl ?_
      refine x_iload_n eX3_has_16 rfl ?_
      refine s_raldR eX3_has_17 (by first | exact Or.inl rfl | exact Or.inr rfl) (by decide) rfl (show _ < 60 by omega) (rf_parcels k) ?_
      refine s_geti eX3_has_18 fX3_39 (kd_parcel (by omega)) (show _ < 365 by omega) (by decide) ?_
      rw [(h.2.2 k hk).1]
      refine x_if_eqB eX3_has_21 (fun c_21 => ?_) (fun c_21 => ?_)
      · refine x_iconst (v := nI 0) eX3_has_28 (by decide) ?_
        first
          | exact s_iret eX3_has_29 rfl rfl ⟨tI_ts ⟨k, hk, rfl, c_21⟩, rfl⟩
          | exact s_iret eX3_has_29 rfl rfl ⟨tI_fs (fun ⟨j, hj, e, t⟩ => by obtain rfl : k = j := (nI_eq (by omega) (by omega)).mp e; rw [t] at c_21; exact absurd c_21 (by decide)), rfl⟩
      · refine x_iconst (v := nI 1) eX3_has_24 (by decide) ?_
        refine x_goto eX3_has_25 ?_
        first
          | exact s_iret eX3_has_29 rfl rfl ⟨tI_ts ⟨k, hk, rfl, c_21⟩, rfl⟩
          | exact s_iret eX3_has_29 rfl rfl ⟨tI_fs (fun ⟨j, hj, e, t⟩ => by obtain rfl : k = j := (nI_eq (by omega) (by omega)).mp e; rw [t] at c_21; exact absurd c_21 (by decide)), rfl⟩
theorem sp_X3_isOf (h : ctab S np th ly ow sz rg) {q : Nat} (hq : q < 60) (l : Int32) : Sp mX3_isOf [.ref 37, .int (nI q), .int l] S (fun r S' => r = some (.int (tI (q < np ∧ th q = true ∧ nI (ly q) = l))) ∧ S' = S) := by
  have n60 := h.2.1
  have hh : hasP np th (nI q) ↔ (q < np ∧ th q = true) := ⟨fun ⟨k, hk, e, t⟩ => by obtain rfl : q = k := (nI_eq (by omega) (by omega)).mp e; exact ⟨hk, t⟩, fun z => ⟨q, z.1, rfl, z.2⟩⟩
  show XP _ _ [_, _, _] _ _ _
  refine x_aload_n eX3_isOf_0 rfl ?_
  refine x_iload_n eX3_isOf_1 rfl ?_
  refine s_callV1 (As := [_]) eX3_isOf_2 kX3_42 ⟨by decide, by decide⟩ rfl (by decide) (by decide) rfl rfl (Nat.le_of_ble_eq_true rfl) (Nat.le_of_ble_eq_true rfl) (sp_X3_has h (nI q)) (fun S_2 h_2 => ?_)
  have h_2 := h_2.symm
  subst h_2
  refine x_if_eqT eX3_isOf_5 (fun c_5 => ?_) (fun c_5 => ?_)
  · refine x_iconst (v := nI 0) eX3_isOf_25 (by decide) ?_
    first
      | exact s_iret eX3_isOf_26 rfl rfl ⟨tI_ts ⟨(hh.mp c_5).1, (hh.mp c_5).2, c_18⟩, rfl⟩
      | exact s_iret eX3_isOf_26 rfl rfl ⟨tI_fs (fun z => c_18 z.2.2), rfl⟩
      | exact s_iret eX3_isOf_26 rfl rfl ⟨tI_fs (fun z => c_5 (hh.mpr ⟨z.1, z.2.1⟩)), rfl⟩
  · refine x_aload_n eX3_isOf_8 rfl ?_
    refine s_getR (k := 38) eX3_isOf_9 fX3_11 rfl (by decide) (by decide) rfl ?_
    refine x_iload_n eX3_isOf_12 rfl ?_
    refine s_raldR eX3_isOf_13 (by first | exact Or.inl rfl | exact Or.inr rfl) (by decide) rfl (show _ < 60 by omega) (rf_parcels q) ?_
    refine s_geti eX3_isOf_14 fX3_46 (kd_parcel (by omega)) (show _ < 365 by omega) (by decide) ?_
    rw [((h.2.2 q (hh.mp c_5).1).2 (hh.mp c_5).2).1]
    refine x_iload_n eX3_isOf_17 rfl ?_
    refine x_icmp_ne eX3_isOf_18 (fun c_18 => ?_) (fun c_18 => ?_)
    · refine x_iconst (v := nI 0) eX3_isOf_25 (by decide) ?_
      first
        | exact s_iret eX3_isOf_26 rfl rfl ⟨tI_ts ⟨(hh.mp c_5).1, (hh.mp c_5).2, c_18⟩, rfl⟩
        | exact s_iret eX3_isOf_26 rfl rfl ⟨tI_fs (fun z => c_18 z.2.2), rfl⟩
        | exact s_iret eX3_isOf_26 rfl rfl ⟨tI_fs (fun z => c_5 (hh.mpr ⟨z.1, z.2.1⟩)), rfl⟩
    · refine x_iconst (v := nI 1) eX3_isOf_21 (by decide) ?_
      refine x_goto eX3_isOf_22 ?_
      first
        | exact s_iret eX3_isOf_26 rfl rfl ⟨tI_ts ⟨(hh.mp c_5).1, (hh.mp c_5).2, c_18⟩, rfl⟩
        | exact s_iret eX3_isOf_26 rfl rfl ⟨tI_fs (fun z => c_18 z.2.2), rfl⟩
        | exact s_iret eX3_isOf_26 rfl rfl ⟨tI_fs (fun z => c_5 (hh.mpr ⟨z.1, z.2.1⟩)), rfl⟩
theorem sp_X3_hasRoom (h : ctab S np th ly ow sz rg) : Sp mX3_hasRoom [.ref 37] S (fun r S' => r = some (.int (tI (np < 60))) ∧ S' = S) := by
  have n60 := h.2.1
  show XP _ _ [_] _ _ _
  refine x_aload_n eX3_hasRoom_0 rfl ?_
  refine s_geti eX3_hasRoom_1 fX3_36 rfl (by decide) (by decide) ?_
  rw [h.1]
  refine x_bipush (v := nI 60) eX3_hasRoom_4 (by decide) ?_
  refine x_icmp_geN eX3_hasRoom_6 (by omega) (by omega) (fun c_6 => ?_) (fun c_6 => ?_)
  · refine x_iconst (v := nI 0) eX3_hasRoom_13 (by decide) ?_
    first
      | exact s_iret eX3_hasRoom_14 rfl rfl ⟨tI_ts c_6, rfl⟩
      | exact s_iret eX3_hasRoom_14 rfl rfl ⟨tI_fs (by omega), rfl⟩
  · refine x_iconst (v := nI 1) eX3_hasRoom_9 (by decide) ?_
    refine x_goto eX3_hasRoom_10 ?_
    first
      | exact s_iret eX3_hasRoom_14 rfl rfl ⟨tI_ts c_6, rfl⟩
      | exact s_iret eX3_hasRoom_14 rfl rfl ⟨tI_fs (by omega), rfl⟩
theorem sp_X3_thereNow (h : ctab S np th ly ow sz rg) : Sp mX3_thereNow [.ref 37] S (fun r S' => r = some (.int (nI (cnt (fun q => th q = true) np))) ∧ S' = S) := by
  have n60 := h.2.1
  have loop : ∀ μ k, k + μ = np → ∀ S1, S1 = S → XP mX3_thereNow 4 [(2, .int (nI k)), (1, .int (nI (cnt (fun q => th q = true) k))), (0, .ref 37)] [] (xwS S1) (sQ (fun r S' => r = some (.int (nI (cnt (fun q => th q = true) np))) ∧ S' = S)) := by
    intro μ
    induction μ with
    | zero =>
      intro k hk S1 h1
      have h1 := h1.symm
      subst h1
      have cl := cnt_le (fun q => th q = true) k
      refine x_iload_n eX3_thereNow_4 rfl ?_
      refine x_aload_n eX3_thereNow_5 rfl ?_
      refine s_geti eX3_thereNow_6 fX3_36 rfl (by decide) (by decide) ?_
      rw [h.1]
      refine x_icmp_geN eX3_thereNow_9 (by omega) (by omega) (fun c_9 => ?_) (fun c_9 => ?_)
      · refine x_iload_n eX3_thereNow_33 rfl ?_
        exact s_iret eX3_thereNow_34 rfl rfl ⟨by rw [show k = np by omega], rfl⟩
      · omega
    | succ μ ih =>
      intro k hk S1 h1
      have h1 := h1.symm
      subst h1
      have cl := cnt_le (fun q => th q = true) k
      refine x_iload_n eX3_thereNow_4 rfl ?_
      refine x_aload_n eX3_thereNow_5 rfl ?_
      refine s_geti eX3_thereNow_6 fX3_36 rfl (by decide) (by decide) ?_
      rw [h.1]
      refine x_icmp_geN eX3_thereNow_9 (by omega) (by omega) (fun c_9 => ?_) (fun c_9 => ?_)
      · omega
      · refine x_aload_n eX3_thereNow_12 rfl ?_
        refine s_getR (k := 38) eX3_thereNow_13 fX3_11 rfl (by decide) (by decide) rfl ?_
        refine x_iload_n eX3_thereNow_16 rfl ?_
        refine s_raldR eX3_thereNow_17 (by first | exact Or.inl rfl | exact Or.inr rfl) (by decide) rfl (show _ < 60 by omega) (rf_parcels k) ?_
        refine s_geti eX3_thereNow_18 fX3_39 (kd_parcel (by omega)) (show _ < 365 by omega) (by decide) ?_
        rw [(h.2.2 k (by omega)).1]
        refine x_if_eqB eX3_thereNow_21 (fun c_21 => ?_) (fun c_21 => ?_)
        · refine x_iinc (lv' := [_, _, _]) eX3_thereNow_27 rfl (by first | exact nI_inc _ | exact rfl) (by decide) rfl ?_
          refine x_goto eX3_thereNow_30 ?_
          refine x_pick [0, 1, 2] rfl ?_
          have := ih (k + 1) (by omega) _ rfl
          first
            | (rw [cnt_t (R := (fun q => th q = true)) c_21] at this; exact this)
            | (rw [cnt_f (R := (fun q => th q = true)) (by rw [c_21]; decide)] at this; exact this)
        · refine x_iinc (lv' := [_, _, _]) eX3_thereNow_24 rfl (by first | exact nI_inc _ | exact rfl) (by decide) rfl ?_
          refine x_iinc (lv' := [_, _, _]) eX3_thereNow_27 rfl (by first | exact nI_inc _ | exact rfl) (by decide) rfl ?_
          refine x_goto eX3_thereNow_30 ?_
          refine x_pick [0, 1, 2] rfl ?_
          have := ih (k + 1) (by omega) _ rfl
          first
            | (rw [cnt_t (R := (fun q => th q = true)) c_21] at this; exact this)
            | (rw [cnt_f (R := (fun q => th q = true)) (by rw [c_21]; decide)] at this; exact this)
  show XP _ _ [_] _ _ _
  refine x_iconst (v := nI 0) eX3_thereNow_0 (by decide) ?_
  refine x_istore_n (lv' := [_, _]) eX3_thereNow_1 (by decide) rfl ?_
  refine x_iconst (v := nI 0) eX3_thereNow_2 (by decide) ?_
  refine x_istore_n (lv' := [_, _, _]) eX3_thereNow_3 (by decide) rfl ?_
  refine x_pick [0, 1, 2] rfl ?_
  exact loop np 0 (by omega) _ rfl
theorem sp_X3_thereIn (h : ctab S np th ly ow sz rg) (l : Int32) : Sp mX3_thereIn [.ref 37, .int l] S (fun r S' => r = some (.int (nI (cnt (fun q => th q = true ∧ nI (ly q) = l) np))) ∧ S' = S) := by
  have n60 := h.2.1
  have loop : ∀ μ k, k + μ = np → ∀ S1, S1 = S → XP mX3_thereIn 4 [(3, .int (nI k)), (2, .int (nI (cnt (fun q => th q = true ∧ nI (ly q) = l) k))), (0, .ref 37), (1, .int l)] [] (xwS S1) (sQ (fun r S' => r = some (.int (nI (cnt (fun q => th q = true ∧ nI (ly q) = l) np))) ∧ S' = S)) := by
    intro μ
    induction μ with
    | zero =>
      intro k hk S1 h1
      have h1 := h1.symm
      subst h1
      have cl := cnt_le (fun q => th q = true ∧ nI (ly q) = l) k
      refine x_iload_n eX3_thereIn_4 rfl ?_
      refine x_aload_n eX3_thereIn_5 rfl ?_
      refine s_geti eX3_thereIn_6 fX3_36 rfl (by decide) (by decide) ?_
      rw [h.1]
      refine x_icmp_geN eX3_thereIn_9 (by omega) (by omega) (fun c_9 => ?_) (fun c_9 => ?_)
      · refine x_iload_n eX3_thereIn_30 rfl ?_
        exact s_iret eX3_thereIn_31 rfl rfl ⟨by rw [show k = np by omega], rfl⟩
      · omega
    | succ μ ih =>
      intro k hk S1 h1
      have h1 := h1.symm
      subst h1
      have cl := cnt_le (fun q => th q = true ∧ nI (ly q) = l) k
      refine x_iload_n eX3_thereIn_4 rfl ?_
      refine x_aload_n eX3_thereIn_5 rfl ?_
      refine s_geti eX3_thereIn_6 fX3_36 rfl (by decide) (by decide) ?_
      rw [h.1]
      refine x_icmp_geN eX3_thereIn_9 (by omega) (by omega) (fun c_9 => ?_) (fun c_9 => ?_)
      · omega
      · refine x_aload_n eX3_thereIn_12 rfl ?_
        refine x_iload_n eX3_thereIn_13 rfl ?_
        refine x_iload_n eX3_thereIn_14 rfl ?_
        refine s_callV1 (As := [_, _]) eX3_thereIn_15 kX3_49 ⟨by decide, by decide⟩ rfl (by decide) (by decide) rfl rfl (Nat.le_of_ble_eq_true rfl) (Nat.le_of_ble_eq_true rfl) (sp_X3_isOf h (by omega) l) (fun S_15 h_15 => ?_)
        have h_15 := h_15.symm
        subst h_15
        refine x_if_eqT eX3_thereIn_18 (fun c_18 => ?_) (fun c_18 => ?_)
        · refine x_iinc (lv' := [_, _, _, _]) eX3_thereIn_24 rfl (by first | exact nI_inc _ | exact rfl) (by decide) rfl ?_
          refine x_goto eX3_thereIn_27 ?_
          refine x_pick [0, 1, 2, 3] rfl ?_
          have := ih (k + 1) (by omega) _ rfl
          first
            | (rw [cnt_t (R := (fun q => th q = true ∧ nI (ly q) = l)) c_18.2] at this; exact this)
            | (rw [cnt_f (R := (fun q => th q = true ∧ nI (ly q) = l)) (fun z => c_18 ⟨by omega, z⟩)] at this; exact this)
        · refine x_iinc (lv' := [_, _, _, _]) eX3_thereIn_21 rfl (by first | exact nI_inc _ | exact rfl) (by decide) rfl ?_
          refine x_iinc (lv' := [_, _, _, _]) eX3_thereIn_24 rfl (by first | exact nI_inc _ | exact rfl) (by decide) rfl ?_
          refine x_goto eX3_thereIn_27 ?_
          refine x_pick [0, 1, 2, 3] rfl ?_
          have := ih (k + 1) (by omega) _ rfl
          first
            | (rw [cnt_t (R := (fun q => th q = true ∧ nI (ly q) = l)) c_18.2] at this; exact this)
            | (rw [cnt_f (R := (fun q => th q = true ∧ nI (ly q) = l)) (fun z => c_18 ⟨by omega, z⟩)] at this; exact this)
  show XP _ _ [_, _] _ _ _
  refine x_iconst (v := nI 0) eX3_thereIn_0 (by decide) ?_
  refine x_istore_n (lv' := [_, _, _]) eX3_thereIn_1 (by decide) rfl ?_
  refine x_iconst (v := nI 0) eX3_thereIn_2 (by decide) ?_
  refine x_istore_n (lv' := [_, _, _, _]) eX3_thereIn_3 (by decide) rfl ?_
  refine x_pick [0, 1, 2, 3] rfl ?_
  exact loop np 0 (by omega) _ rfl
end RG
theorem sp_X3_isEntryN (S : xS) {p : Nat} (hp : p < 60) : Sp mX3_isEntry [.int (nI p)] S (fun r S' => r = some (.int (nI 1)) ∧ S' = S) := by
  show XP _ _ [_] _ _ _
  refine x_iload_n eX3_isEntry_0 rfl ?_
  refine x_if_ltN eX3_isEntry_1 (by omega) ?_
  refine x_iload_n eX3_isEntry_4 rfl ?_
  refine x_bipush (v := nI 60) eX3_isEntry_5 (by decide) ?_
  refine x_icmp_geN eX3_isEntry_7 (by omega) (by omega) (fun c_7 => ?_) (fun c_7 => ?_)
  · omega
  · refine x_iconst (v := nI 1) eX3_isEntry_10 (by decide) ?_
    refine x_goto eX3_isEntry_11 ?_
    exact s_iret eX3_isEntry_15 rfl (by first | rfl | exact bI_nar _ | exact tI_nar _) ⟨rfl, rfl⟩
theorem sp_X3_isEntryM (S : xS) : Sp mX3_isEntry [.int (-1)] S (fun r S' => r = some (.int (nI 0)) ∧ S' = S) := by
  show XP _ _ [_] _ _ _
  refine x_iload_n eX3_isEntry_0 rfl ?_
  refine x_if_lt eX3_isEntry_1 (fun c_1 => ?_) (fun c_1 => ?_)
  · refine x_iconst (v := nI 0) eX3_isEntry_14 (by decide) ?_
    exact s_iret eX3_isEntry_15 rfl (by first | rfl | exact bI_nar _ | exact tI_nar _) ⟨rfl, rfl⟩
  · exact absurd (by decide) c_1
/-- entry b becomes what entry a was -/
def entEq (S : xS) (a : Nat) (S' : xS) (b : Nat) : Prop := (∀ f, f = 1 ∨ f = 2 ∨ f = 3 → S'.1 (175 + b) f = S.1 (175 + a) f) ∧ S'.1 (45 + 2 * b) 1 = S.1 (45 + 2 * a) 1 ∧ ∀ i, i < 24 → S'.2.1 (46 + 2 * b) i = S.2.1 (46 + 2 * a) i
theorem rcp_fx {ls ds : List Nat} (S : xS) (r t : Nat) : Fx [45 + 2 * r] [46 + 2 * r] ls ds S (rcp S r t) := (Fx.sF (by simp)).tr (Fx.sI (by simp))
theorem rcp_sz (S : xS) (r t : Nat) : (rcp S r t).1 (45 + 2 * r) 1 = S.1 (45 + 2 * t) 1 := by
  show (setF S (45 + 2 * r) _).1 (45 + 2 * r) 1 = _
  rw [setF_at, upd_at]
theorem rcp_row (S : xS) (r t : Nat) {i : Nat} (hi : i < 24) : (rcp S r t).2.1 (46 + 2 * r) i = S.2.1 (46 + 2 * t) i := by
  unfold rcp
  rw [setI_at]; exact if_pos hi
theorem rcp_crg {S : xS} {r t n : Nat} {c : Nat → Nat} (h : crg S t n c) (hr : r < 65) : crg (rcp S r t) r n c := ⟨hr, h.2.1, by rw [rcp_sz]; exact h.2.2.1, fun i hi => by rw [rcp_row S r t (by have := h.2.1; omega)]; exact h.2.2.2 i hi⟩
theorem z_cases {S : xS} {p f : Nat} (h : S.1 p f = 0 ∨ S.1 p f = 1) : S.1 p f = 0 ∨ S.1 p f = 1 := h

theorem sp_X1_copy (S : xS) {a b : Nat} (ha : a < 62) (hb : b < 62) (hne : a ≠ b) (hz : S.1 (175 + b) 1 = 0 ∨ S.1 (175 + b) 1 = 1) : Sp mX1_copy [.ref (175 + a), .ref (175 + b)] S (fun r S' => r = none ∧ Fx [175 + a, 45 + 2 * a] [46 + 2 * a] [] [] S S' ∧ entEq S b S' a) := by
  have e1 : ∀ S : xS, (rcp S a b).1 (175 + b) = S.1 (175 + b) := fun S => (rcp_fx (ls := []) (ds := []) S a b).1 _ (by simp; omega)
  show XP _ _ [_, _] _ _ _
  refine x_aload_n eX1_copy_0 rfl ?_
  refine s_getR (k := (45 + 2 * a)) eX1_copy_1 fX1_10 (kd_parcel (by omega)) (show _ < 365 by omega) (by decide) (rf_parcel (by omega)) ?_
  refine x_aload_n eX1_copy_4 rfl ?_
  refine s_getR (k := (45 + 2 * b)) eX1_copy_5 fX1_10 (kd_parcel (by omega)) (show _ < 365 by omega) (by decide) (rf_parcel (by omega)) ?_
  refine s_callV0 (As := [_]) eX1_copy_8 kX1_27 ⟨by decide, by decide⟩ (kd_ring (by omega)) (by decide) (show _ < 365 by omega) rfl rfl (Nat.le_of_ble_eq_true rfl) (Nat.le_of_ble_eq_true rfl) (sp_X4_copy _ (by omega) (by omega) hne) (fun S_8 h_8 => ?_)
  subst h_8
  refine x_aload_n eX1_copy_11 rfl ?_
  refine x_aload_n eX1_copy_12 rfl ?_
  refine s_geti eX1_copy_13 fX1_16 (kd_parcel (by omega)) (show _ < 365 by omega) (by decide) ?_
  rw [e1]
  refine s_putz eX1_copy_16 fX1_16 wX1_1 (kd_parcel (by omega)) (show _ < 365 by omega) (by decide) hz ?_
  refine x_aload_n eX1_copy_19 rfl ?_
  refine x_aload_n eX1_copy_20 rfl ?_
  refine s_geti eX1_copy_21 fX1_20 (kd_parcel (by omega)) (show _ < 365 by omega) (by decide) ?_
  rw [setF_ne _ _ (by omega), e1]
  refine s_puti eX1_copy_24 fX1_20 wX1_2 (kd_parcel (by omega)) (show _ < 365 by omega) (by decide) ?_
  refine x_aload_n eX1_copy_27 rfl ?_
  refine x_aload_n eX1_copy_28 rfl ?_
  refine s_geti eX1_copy_29 fX1_24 (kd_parcel (by omega)) (show _ < 365 by omega) (by decide) ?_
  rw [setF_ne _ _ (by omega), setF_ne _ _ (by omega), e1]
  refine s_puti eX1_copy_32 fX1_24 wX1_3 (kd_parcel (by omega)) (show _ < 365 by omega) (by decide) ?_
  refine s_vret eX1_copy_35 rfl ⟨rfl, ?_, ?_⟩
  · exact ((((rcp_fx (ls := []) (ds := []) S a b).mono (by simp) (by simp) (by simp) (by simp)).tr (Fx.sF (by simp))).tr (Fx.sF (by simp))).tr (Fx.sF (by simp))
  · refine ⟨fun f hf => ?_, ?_, fun i hi => ?_⟩
    · rw [setF_at, setF_at, setF_at]
      rcases hf with rfl | rfl | rfl
      · rw [upd_ne _ _ (by decide), upd_ne _ _ (by decide), upd_at]
      · rw [upd_ne _ _ (by decide), upd_at]
      · rw [upd_at]
    · rw [setF_ne _ _ (by omega), setF_ne _ _ (by omega), setF_ne _ _ (by omega)]; exact rcp_sz S a b
    · exact rcp_row S a b hi
