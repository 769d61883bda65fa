/-! ===== the class's Shapes, on ===== -/
noncomputable def fst1 (R : Nat → Prop) (n : Nat) : Option Nat := @dite _ (∃ k, k < n ∧ R k ∧ ∀ j, j < k → ¬ R j) (Classical.propDecidable _) (fun h => some (Classical.choose h)) (fun _ => none)
theorem fst1_some {R : Nat → Prop} {n k : Nat} (hk : k < n) (h : R k) (hm : ∀ j, j < k → ¬ R j) : fst1 R n = some k := by
  have e : ∃ k, k < n ∧ R k ∧ ∀ j, j < k → ¬ R j := ⟨k, hk, h, hm⟩
  unfold fst1
  rw [dif_pos e]
  have sp := Classical.choose_spec e
  congr 1
  rcases Nat.lt_trichotomy (Classical.choose e) k with c | c | c
  · exact absurd sp.2.1 (hm _ c)
  · exact c
  · exact absurd h (sp.2.2 _ c)
theorem fst1_none {R : Nat → Prop} {n : Nat} (h : ∀ k, k < n → ¬ R k) : fst1 R n = none := by
  unfold fst1
  rw [dif_neg]
  rintro ⟨k, hk, r, -⟩
  exact h k hk r
theorem fst1_cases (R : Nat → Prop) (n : Nat) : (∃ k, k < n ∧ R k ∧ (∀ j, j < k → ¬ R j) ∧ fst1 R n = some k) ∨ ((∀ k, k < n → ¬ R k) ∧ fst1 R n = none) := by
  rcases Classical.em (∃ k, k < n ∧ R k) with e | e
  · left
    obtain ⟨k, hk, hm⟩ := pk_least (fun k => k < n ∧ R k) e
    have hm2 : ∀ j, j < k → ¬ R j := fun j hj r => hm j hj ⟨by omega, r⟩
    exact ⟨k, hk.1, hk.2, hm2, fst1_some hk.1 hk.2 hm2⟩
  · exact Or.inr ⟨fun k hk r => e ⟨k, hk, r⟩, fst1_none (fun k hk r => e ⟨k, hk, r⟩)⟩
theorem fst1_congr {R R' : Nat → Prop} {n : Nat} (h : ∀ k, k < n → (R k ↔ R' k)) : fst1 R n = fst1 R' n := by
  rcases fst1_cases R n with ⟨k, hk, r, m, e⟩ | ⟨no, e⟩
  · rw [e, fst1_some hk ((h k hk).mp r) (fun j hj r' => m j hj ((h j (by omega)).mpr r'))]
  · rw [e, fst1_none (fun k hk r' => no k hk ((h k hk).mpr r'))]
def cutR (v : Nat → Pt) (n : Nat) (c : Nat → Nat) (a b : Nat) (A B : Pt) (k : Nat) : Prop := metP A B (v k) (v (k + 1)) = 1 ∨ (c (k % n) ≠ a ∧ c (k % n) ≠ b ∧ onQ (v k) A B = true ∧ opnT (v (k + n - 1)) (v k) (v (k + 1)) B)
def cutP (v : Nat → Pt) (n : Nat) (c : Nat → Nat) (a b : Nat) (A B : Pt) : Prop := ∃ k, k < n ∧ cutR v n c a b A B k

theorem sp_X5_cutsInto (S : xS) {nc r n a b : Nat} {c : Nat → Nat} {P : Nat → Pt} (hp0 : cps S nc P) (h0 : CR S nc r n c) (ha : a < nc ∨ a = 200) (hb : b < nc ∨ b = 200) (hnc : nc ≤ 200) : Sp mX5_cutsInto [.ref 36, .int (nI a), .int (nI b), .ref (45 + 2 * r)] S (fun x S' => x = some (.int (tI (cutP (vr P c n) n c a b (P a) (P b)))) ∧ Lx [364] S S') := by
  have hr := h0.1.1
  have hn := h0.1.2.1
  have loop : ∀ μ k, k + μ = n → ∀ S1, (Lx [364] S S1 ∧ ∀ j, j < k → ¬ cutR (vr P c n) n c a b (P a) (P b) j) → XP mX5_cutsInto 3 [(4, .int (nI k)), (0, .ref 36), (1, .int (nI a)), (2, .int (nI b)), (3, .ref (45 + 2 * r))] [] (xwS S1) (sQ (fun x S' => x = some (.int (tI (cutP (vr P c n) n c a b (P a) (P b)))) ∧ Lx [364] S S')) := by
    intro μ
    induction μ with
    | zero =>
      intro k hk S1 h1
      obtain ⟨hx, hno⟩ := h1
      have h := h0.m hx
      have hp := hp0.m hx
      have lc := h.lt k
      refine x_iload eX5_cutsInto_3 rfl ?_
      refine x_aload_n eX5_cutsInto_5 rfl ?_
      refine s_geti eX5_cutsInto_6 fX5_19 (kd_ring h0.1.1) (show _ < 365 by omega) (by decide) ?_
      rw [h.1.2.2.1]
      refine x_icmp_geN eX5_cutsInto_9 (by omega) (by omega) (fun c_9 => ?_) (fun c_9 => ?_)
      · refine x_iconst (v := nI 0) eX5_cutsInto_90 (by decide) ?_
        exact s_iret eX5_cutsInto_91 rfl (by first | rfl | exact bI_nar _ | exact tI_nar _) ⟨tI_fs (fun ⟨j, hj, z⟩ => hno j (by omega) z), hx⟩
      · omega
    | succ μ ih =>
      intro k hk S1 h1
      obtain ⟨hx, hno⟩ := h1
      have h := h0.m hx
      have hp := hp0.m hx
      have lc := h.lt k
      refine x_iload eX5_cutsInto_3 rfl ?_
      refine x_aload_n eX5_cutsInto_5 rfl ?_
      refine s_geti eX5_cutsInto_6 fX5_19 (kd_ring h0.1.1) (show _ < 365 by omega) (by decide) ?_
      rw [h.1.2.2.1]
      refine x_icmp_geN eX5_cutsInto_9 (by omega) (by omega) (fun c_9 => ?_) (fun c_9 => ?_)
      · omega
      · refine x_aload_n eX5_cutsInto_12 rfl ?_
        refine x_iload eX5_cutsInto_13 rfl ?_
        refine s_callV1 (As := [_]) eX5_cutsInto_15 kX5_35 ⟨by decide, by decide⟩ (kd_ring h0.1.1) (by decide) (show _ < 365 by omega) rfl rfl (Nat.le_of_ble_eq_true rfl) (Nat.le_of_ble_eq_true rfl) (sp_X4_around _ h.1 h.2.1 (by omega)) (fun S_15 h_15 => ?_)
        subst h_15
        refine x_istore (lv' := [_, _, _, _, _, _]) eX5_cutsInto_18 (by decide) rfl ?_
        refine x_aload_n eX5_cutsInto_20 rfl ?_
        refine s_getR (k := 32) eX5_cutsInto_21 fX5_15 rfl (by decide) (by decide) rfl ?_
        refine x_iload_n eX5_cutsInto_24 rfl ?_
        refine x_iload_n eX5_cutsInto_25 rfl ?_
        refine x_iload eX5_cutsInto_26 rfl ?_
        refine x_aload_n eX5_cutsInto_28 rfl ?_
        refine x_iload eX5_cutsInto_29 rfl ?_
        refine x_iconst (v := nI 1) eX5_cutsInto_31 (by decide) ?_
        first | refine x_iaddN eX5_cutsInto_32 ?_ | refine x_iadd eX5_cutsInto_32 ?_
        refine s_callV1 (As := [_]) eX5_cutsInto_33 kX5_35 ⟨by decide, by decide⟩ (kd_ring h0.1.1) (by decide) (show _ < 365 by omega) rfl rfl (Nat.le_of_ble_eq_true rfl) (Nat.le_of_ble_eq_true rfl) (sp_X4_around _ h.1 h.2.1 (by omega)) (fun S_33 h_33 => ?_)
        subst h_33
        refine s_callV1 (As := [_, _, _, _]) eX5_cutsInto_36 kX5_39 ⟨by decide, by decide⟩ rfl (by decide) (by decide) rfl rfl (Nat.le_of_ble_eq_true rfl) (Nat.le_of_ble_eq_true rfl) (sp_X2_meeting _ (hp a ha) (hp b hb) (h.pt hp k) (h.pt hp (k + 1))) (fun S_36 h_36 => ?_)
        have hx := hx.tr h_36
        have h := h.m h_36
        have hp := hp.m h_36
        refine x_iconst (v := nI 1) eX5_cutsInto_39 (by decide) ?_
        refine x_icmp_ne eX5_cutsInto_40 (fun c_40 => ?_) (fun c_40 => ?_)
        · refine x_iload eX5_cutsInto_45 rfl ?_
          refine x_iload_n eX5_cutsInto_47 rfl ?_
          refine x_icmp_eqN eX5_cutsInto_48 (by omega) (by omega) (fun c_48 => ?_) (fun c_48 => ?_)
          · refine x_iinc (lv' := [_, _, _, _, _, _]) eX5_cutsInto_84 rfl (by first | exact nI_inc _ | exact rfl) (by decide) rfl ?_
            refine x_goto eX5_cutsInto_87 ?_
            refine x_pick [0, 2, 3, 4, 5] rfl ?_
            refine ih (k + 1) (by omega) _ ⟨hx, fun j hj z => ?_⟩
            by_cases q : j < k
            · exact hno j q z
            obtain rfl : j = k := by omega
            rcases z with z | ⟨z1, z2, z3, z4⟩
            · exact c_40 z
            · first
              | exact z1 c_48
              | exact z2 c_54
              | (rw [c_68] at z3; exact absurd z3 (by decide))
              | exact c_79 z4
          · refine x_iload eX5_cutsInto_51 rfl ?_
            refine x_iload_n eX5_cutsInto_53 rfl ?_
            refine x_icmp_eqN eX5_cutsInto_54 (by omega) (by omega) (fun c_54 => ?_) (fun c_54 => ?_)
            · refine x_iinc (lv' := [_, _, _, _, _, _]) eX5_cutsInto_84 rfl (by first | exact nI_inc _ | exact rfl) (by decide) rfl ?_
              refine x_goto eX5_cutsInto_87 ?_
              refine x_pick [0, 2, 3, 4, 5] rfl ?_
              refine ih (k + 1) (by omega) _ ⟨hx, fun j hj z => ?_⟩
              by_cases q : j < k
              · exact hno j q z
              obtain rfl : j = k := by omega
              rcases z with z | ⟨z1, z2, z3, z4⟩
              · exact c_40 z
              · first
                | exact z1 c_48
                | exact z2 c_54
                | (rw [c_68] at z3; exact absurd z3 (by decide))
                | exact c_79 z4
            · refine x_aload_n eX5_cutsInto_57 rfl ?_
              refine s_getR (k := 32) eX5_cutsInto_58 fX5_15 rfl (by decide) (by decide) rfl ?_
              refine x_iload eX5_cutsInto_61 rfl ?_
              refine x_iload_n eX5_cutsInto_63 rfl ?_
              refine x_iload_n eX5_cutsInto_64 rfl ?_
              refine s_callV1 (As := [_, _, _]) eX5_cutsInto_65 kX5_60 ⟨by decide, by decide⟩ rfl (by decide) (by decide) rfl rfl (Nat.le_of_ble_eq_true rfl) (Nat.le_of_ble_eq_true rfl) (sp_X2_isOn _ (h.pt hp k) (hp a ha) (hp b hb)) (fun S_65 h_65 => ?_)
              have hx := hx.tr h_65
              have h := h.m h_65
              have hp := hp.m h_65
              refine x_if_eqB eX5_cutsInto_68 (fun c_68 => ?_) (fun c_68 => ?_)
              · refine x_iinc (lv' := [_, _, _, _, _, _]) eX5_cutsInto_84 rfl (by first | exact nI_inc _ | exact rfl) (by decide) rfl ?_
                refine x_goto eX5_cutsInto_87 ?_
                refine x_pick [0, 2, 3, 4, 5] rfl ?_
                refine ih (k + 1) (by omega) _ ⟨hx, fun j hj z => ?_⟩
                by_cases q : j < k
                · exact hno j q z
                obtain rfl : j = k := by omega
                rcases z with z | ⟨z1, z2, z3, z4⟩
                · exact c_40 z
                · first
                  | exact z1 c_48
                  | exact z2 c_54
                  | (rw [c_68] at z3; exact absurd z3 (by decide))
                  | exact c_79 z4
              · refine x_aload_n eX5_cutsInto_71 rfl ?_
                refine x_aload_n eX5_cutsInto_72 rfl ?_
                refine x_iload eX5_cutsInto_73 rfl ?_
                refine x_iload_n eX5_cutsInto_75 rfl ?_
                refine s_callV1 (As := [_, _, _]) eX5_cutsInto_76 kX5_68 ⟨by decide, by decide⟩ rfl (by decide) (by decide) rfl rfl (Nat.le_of_ble_eq_true rfl) (Nat.le_of_ble_eq_true rfl) (sp_X5_opensTo _ hp h (by omega) hb) (fun S_76 h_76 => ?_)
                have hx := hx.tr h_76
                have h := h.m h_76
                have hp := hp.m h_76
                refine x_if_eqT eX5_cutsInto_79 (fun c_79 => ?_) (fun c_79 => ?_)
                · refine x_iinc (lv' := [_, _, _, _, _, _]) eX5_cutsInto_84 rfl (by first | exact nI_inc _ | exact rfl) (by decide) rfl ?_
                  refine x_goto eX5_cutsInto_87 ?_
                  refine x_pick [0, 2, 3, 4, 5] rfl ?_
                  refine ih (k + 1) (by omega) _ ⟨hx, fun j hj z => ?_⟩
                  by_cases q : j < k
                  · exact hno j q z
                  obtain rfl : j = k := by omega
                  rcases z with z | ⟨z1, z2, z3, z4⟩
                  · exact c_40 z
                  · first
                    | exact z1 c_48
                    | exact z2 c_54
                    | (rw [c_68] at z3; exact absurd z3 (by decide))
                    | exact c_79 z4
                · refine x_iconst (v := nI 1) eX5_cutsInto_82 (by decide) ?_
                  exact s_iret eX5_cutsInto_83 rfl (by first | rfl | exact bI_nar _ | exact tI_nar _) ⟨tI_ts ⟨k, by omega, Or.inr ⟨c_48, c_54, c_68, c_79⟩⟩, hx⟩
        · refine x_iconst (v := nI 1) eX5_cutsInto_43 (by decide) ?_
          exact s_iret eX5_cutsInto_44 rfl (by first | rfl | exact bI_nar _ | exact tI_nar _) ⟨tI_ts ⟨k, by omega, Or.inl c_40⟩, hx⟩
  show XP _ _ [_, _, _, _] _ _ _
  refine x_iconst (v := nI 0) eX5_cutsInto_0 (by decide) ?_
  refine x_istore (lv' := [_, _, _, _, _]) eX5_cutsInto_1 (by decide) rfl ?_
  refine x_pick [0, 1, 2, 3, 4] rfl ?_
  exact loop n 0 (by omega) _ ⟨Lx.rf _ _, fun j hj => by omega⟩
def onE (v : Nat → Pt) (T : Pt) (k : Nat) : Prop := onQ T (v k) (v (k + 1)) = true
noncomputable def plc (v : Nat → Pt) (n : Nat) (T : Pt) : Int32 := match fst1 (onE v T) n with
  | some k => nI k
  | none => if wnd v n T % 2 = 1 then -2 else -3
theorem plc_some {v : Nat → Pt} {n k : Nat} {T : Pt} (e : fst1 (onE v T) n = some k) : plc v n T = nI k := by unfold plc; rw [e]
theorem plc_none {v : Nat → Pt} {n : Nat} {T : Pt} (e : fst1 (onE v T) n = none) : plc v n T = if wnd v n T % 2 = 1 then -2 else -3 := by unfold plc; rw [e]
theorem plc_cases (v : Nat → Pt) (n : Nat) (T : Pt) : plc v n T = -2 ∨ plc v n T = -3 ∨ ∃ k, k < n ∧ plc v n T = nI k := by
  rcases fst1_cases (onE v T) n with ⟨k, hk, -, -, e⟩ | ⟨-, e⟩
  · exact Or.inr (Or.inr ⟨k, hk, plc_some e⟩)
  · rw [plc_none e]
    split
    · exact Or.inl rfl
    · exact Or.inr (Or.inl rfl)
theorem tog1 {s d : Int} (hd : d = 1 ∨ d = -1) (h : ¬ s % 2 = 1) : nI 1 = tI ((s + d) % 2 = 1) := (tI_t (by omega)).symm
theorem tog0 {s d : Int} (hd : d = 1 ∨ d = -1) (h : s % 2 = 1) : nI 0 = tI ((s + d) % 2 = 1) := (tI_f (by omega)).symm
theorem togn {s d : Int} (hd : d = 0) : tI (s % 2 = 1) = tI ((s + d) % 2 = 1) := by rw [hd, Int.add_zero]

theorem sp_X5_placeOf (S : xS) {nc r n s : Nat} {c : Nat → Nat} {P : Nat → Pt} (hp0 : cps S nc P) (h0 : CR S nc r n c) (hs : s < nc ∨ s = 200) (hnc : nc ≤ 200) : Sp mX5_placeOf [.ref 36, .int (nI s), .ref (45 + 2 * r)] S (fun x S' => x = some (.int (plc (vr P c n) n (P s))) ∧ Lx [364] S S') := by
  have hr := h0.1.1
  have hn := h0.1.2.1
  have loop : ∀ μ k, k + μ = n → ∀ x : Int32, ∀ S1, (Lx [364] S S1 ∧ (∀ j, j < k → ¬ onE (vr P c n) (P s) j) ∧ x = tI (sumZ (fun i => chi (vr P c n i) (vr P c n (i + 1)) (P s)) k % 2 = 1)) → XP mX5_placeOf 5 [(4, .int (nI k)), (3, .int x), (0, .ref 36), (1, .int (nI s)), (2, .ref (45 + 2 * r))] [] (xwS S1) (sQ (fun x S' => x = some (.int (plc (vr P c n) n (P s))) ∧ Lx [364] S S')) := by
    intro μ
    induction μ with
    | zero =>
      intro k hk x S1 h1
      obtain ⟨hx, hno, rfl⟩ := h1
      have h := h0.m hx
      have hp := hp0.m hx
      refine x_iload eX5_placeOf_5 rfl ?_
      refine x_aload_n eX5_placeOf_7 rfl ?_
      refine s_geti eX5_placeOf_8 fX5_19 (kd_ring h0.1.1) (show _ < 365 by omega) (by decide) ?_
      rw [h.1.2.2.1]
      refine x_icmp_geN eX5_placeOf_11 (by omega) (by omega) (fun c_11 => ?_) (fun c_11 => ?_)
      · refine x_iload_n eX5_placeOf_204 rfl ?_
        refine x_if_eqT eX5_placeOf_205 (fun c_205 => ?_) (fun c_205 => ?_)
        all_goals have ek : k = n := by omega
        all_goals subst ek
        all_goals have en := plc_none (fst1_none hno)
        · refine x_bipush (v := -3) eX5_placeOf_213 (by decide) ?_
          first
            | (refine s_iret eX5_placeOf_215 rfl rfl ⟨?_, hx⟩; rw [en, if_pos (show wnd _ _ _ % 2 = 1 from c_205)])
            | (refine s_iret eX5_placeOf_215 rfl rfl ⟨?_, hx⟩; rw [en, if_neg (show ¬ wnd _ _ _ % 2 = 1 from c_205)])
        · refine x_bipush (v := -2) eX5_placeOf_208 (by decide) ?_
          refine x_goto eX5_placeOf_210 ?_
          first
            | (refine s_iret eX5_placeOf_215 rfl rfl ⟨?_, hx⟩; rw [en, if_pos (show wnd _ _ _ % 2 = 1 from c_205)])
            | (refine s_iret eX5_placeOf_215 rfl rfl ⟨?_, hx⟩; rw [en, if_neg (show ¬ wnd _ _ _ % 2 = 1 from c_205)])
      · omega
    | succ μ ih =>
      intro k hk x S1 h1
      obtain ⟨hx, hno, rfl⟩ := h1
      have h := h0.m hx
      have hp := hp0.m hx
      have j148 : ∀ u d : Nat, (u = 1 ∧ ((P (c (k % n))).2 ≤ (P s).2 ∧ (P s).2 < (P (c ((k + 1) % n))).2) ∨ u = 0 ∧ ¬ ((P (c (k % n))).2 ≤ (P s).2 ∧ (P s).2 < (P (c ((k + 1) % n))).2)) → (d = 1 ∧ ((P (c ((k + 1) % n))).2 ≤ (P s).2 ∧ (P s).2 < (P (c (k % n))).2) ∨ d = 0 ∧ ¬ ((P (c ((k + 1) % n))).2 ≤ (P s).2 ∧ (P s).2 < (P (c (k % n))).2)) → onQ (P s) (vr P c n k) (vr P c n (k + 1)) = false → ∀ S2, Lx [364] S S2 → XP mX5_placeOf 148 [(8, .int (nI d)), (7, .int (nI u)), (6, .int (nI (c ((k + 1) % n)))), (5, .int (nI (c (k % n)))), (4, .int (nI k)), (3, .int (tI (sumZ (fun i => chi (vr P c n i) (vr P c n (i + 1)) (P s)) k % 2 = 1))), (0, .ref 36), (1, .int (nI s)), (2, .ref (45 + 2 * r))] [] (xwS S2) (sQ (fun x S' => x = some (.int (plc (vr P c n) n (P s))) ∧ Lx [364] S S')) := by
        intro u d hu hd hoff S2 hx
        have h := h0.m hx
        have hp := hp0.m hx
        have tA : cpt S2 (c (k % n)) (P (c (k % n))) := h.pt hp k
        have tB : cpt S2 (c ((k + 1) % n)) (P (c ((k + 1) % n))) := h.pt hp (k + 1)
        refine x_iload eX5_placeOf_148 rfl ?_
        refine x_if_eqN eX5_placeOf_150 (by omega) (fun c_150 => ?_) (fun c_150 => ?_)
        · refine x_iload eX5_placeOf_168 rfl ?_
          refine x_if_eqN eX5_placeOf_170 (by omega) (fun c_170 => ?_) (fun c_170 => ?_)
          · refine x_iinc (lv' := [_, _, _, _, _, _, _, _, _]) eX5_placeOf_198 rfl (by first | exact nI_inc _ | exact rfl) (by decide) rfl ?_
            refine x_goto eX5_placeOf_201 ?_
            refine x_pick [0, 5, 6, 7, 8] rfl ?_
            first
              | omega
              | (refine ih (k + 1) (by omega) _ _ ⟨hx, fun j hj z => ?_, ?_⟩
                 · by_cases q : j < k
                   · exact hno j q z
                   · obtain rfl : j = k := by omega
                     unfold onE at z; rw [hoff] at z; exact absurd z (by decide)
                 · show _ = tI ((_ + chi (P (c (k % n))) (P (c ((k + 1) % n))) (P s)) % 2 = 1)
                   first
                     | exact tog1 (by unfold chi; first | (left; rw [if_pos (by omega)]) | (right; rw [if_neg (by omega), if_pos (by omega)])) c_189
                     | exact tog0 (by unfold chi; first | (left; rw [if_pos (by omega)]) | (right; rw [if_neg (by omega), if_pos (by omega)])) c_189
                     | exact togn (by unfold chi; rw [if_neg (by omega), if_neg (by omega)]))
          · refine x_aload_n eX5_placeOf_173 rfl ?_
            refine s_getR (k := 32) eX5_placeOf_174 fX5_15 rfl (by decide) (by decide) rfl ?_
            refine x_iload eX5_placeOf_177 rfl ?_
            refine x_iload eX5_placeOf_179 rfl ?_
            refine x_iload_n eX5_placeOf_181 rfl ?_
            refine s_callV1 (As := [_, _, _]) eX5_placeOf_182 kX5_49 ⟨by decide, by decide⟩ rfl (by decide) (by decide) rfl rfl (Nat.le_of_ble_eq_true rfl) (Nat.le_of_ble_eq_true rfl) (sp_X2_turn _ tA tB (hp s hs)) (fun S_182 h_182 => ?_)
            have hx := hx.tr h_182
            refine x_if_geS eX5_placeOf_185 (fun c_185 => ?_) (fun c_185 => ?_)
            · refine x_iinc (lv' := [_, _, _, _, _, _, _, _, _]) eX5_placeOf_198 rfl (by first | exact nI_inc _ | exact rfl) (by decide) rfl ?_
              refine x_goto eX5_placeOf_201 ?_
              refine x_pick [0, 5, 6, 7, 8] rfl ?_
              first
                | omega
                | (refine ih (k + 1) (by omega) _ _ ⟨hx, fun j hj z => ?_, ?_⟩
                   · by_cases q : j < k
                     · exact hno j q z
                     · obtain rfl : j = k := by omega
                       unfold onE at z; rw [hoff] at z; exact absurd z (by decide)
                   · show _ = tI ((_ + chi (P (c (k % n))) (P (c ((k + 1) % n))) (P s)) % 2 = 1)
                     first
                       | exact tog1 (by unfold chi; first | (left; rw [if_pos (by omega)]) | (right; rw [if_neg (by omega), if_pos (by omega)])) c_189
                       | exact tog0 (by unfold chi; first | (left; rw [if_pos (by omega)]) | (right; rw [if_neg (by omega), if_pos (by omega)])) c_189
                       | exact togn (by unfold chi; rw [if_neg (by omega), if_neg (by omega)]))
            · refine x_iload_n eX5_placeOf_188 rfl ?_
              refine x_if_neT eX5_placeOf_189 (fun c_189 => ?_) (fun c_189 => ?_)
              · refine x_iconst (v := nI 0) eX5_placeOf_196 (by decide) ?_
                refine x_istore_n (lv' := [_, _, _, _, _, _, _, _, _]) eX5_placeOf_197 (by decide) rfl ?_
                refine x_iinc (lv' := [_, _, _, _, _, _, _, _, _]) eX5_placeOf_198 rfl (by first | exact nI_inc _ | exact rfl) (by decide) rfl ?_
                refine x_goto eX5_placeOf_201 ?_
                refine x_pick [0, 1, 6, 7, 8] rfl ?_
                first
                  | omega
                  | (refine ih (k + 1) (by omega) _ _ ⟨hx, fun j hj z => ?_, ?_⟩
                     · by_cases q : j < k
                       · exact hno j q z
                       · obtain rfl : j = k := by omega
                         unfold onE at z; rw [hoff] at z; exact absurd z (by decide)
                     · show _ = tI ((_ + chi (P (c (k % n))) (P (c ((k + 1) % n))) (P s)) % 2 = 1)
                       first
                         | exact tog1 (by unfold chi; first | (left; rw [if_pos (by omega)]) | (right; rw [if_neg (by omega), if_pos (by omega)])) c_189
                         | exact tog0 (by unfold chi; first | (left; rw [if_pos (by omega)]) | (right; rw [if_neg (by omega), if_pos (by omega)])) c_189
                         | exact togn (by unfold chi; rw [if_neg (by omega), if_neg (by omega)]))
              · refine x_iconst (v := nI 1) eX5_placeOf_192 (by decide) ?_
                refine x_goto eX5_placeOf_193 ?_
                refine x_istore_n (lv' := [_, _, _, _, _, _, _, _, _]) eX5_placeOf_197 (by decide) rfl ?_
                refine x_iinc (lv' := [_, _, _, _, _, _, _, _, _]) eX5_placeOf_198 rfl (by first | exact nI_inc _ | exact rfl) (by decide) rfl ?_
                refine x_goto eX5_placeOf_201 ?_
                refine x_pick [0, 1, 6, 7, 8] rfl ?_
                first
                  | omega
                  | (refine ih (k + 1) (by omega) _ _ ⟨hx, fun j hj z => ?_, ?_⟩
                     · by_cases q : j < k
                       · exact hno j q z
                       · obtain rfl : j = k := by omega
                         unfold onE at z; rw [hoff] at z; exact absurd z (by decide)
                     · show _ = tI ((_ + chi (P (c (k % n))) (P (c ((k + 1) % n))) (P s)) % 2 = 1)
                       first
                         | exact tog1 (by unfold chi; first | (left; rw [if_pos (by omega)]) | (right; rw [if_neg (by omega), if_pos (by omega)])) c_189
                         | exact tog0 (by unfold chi; first | (left; rw [if_pos (by omega)]) | (right; rw [if_neg (by omega), if_pos (by omega)])) c_189
                         | exact togn (by unfold chi; rw [if_neg (by omega), if_neg (by omega)]))
        · refine x_aload_n eX5_placeOf_153 rfl ?_
          refine s_getR (k := 32) eX5_placeOf_154 fX5_15 rfl (by decide) (by decide) rfl ?_
          refine x_iload eX5_placeOf_157 rfl ?_
          refine x_iload eX5_placeOf_159 rfl ?_
          refine x_iload_n eX5_placeOf_161 rfl ?_
          refine s_callV1 (As := [_, _, _]) eX5_placeOf_162 kX5_49 ⟨by decide, by decide⟩ rfl (by decide) (by decide) rfl rfl (Nat.le_of_ble_eq_true rfl) (Nat.le_of_ble_eq_true rfl) (sp_X2_turn _ tA tB (hp s hs)) (fun S_162 h_162 => ?_)
          have hx := hx.tr h_162
          have tA := tA.mv h_162 (by decide)
          have tB := tB.mv h_162 (by decide)
          have hp := hp.m h_162
          refine x_if_gtS eX5_placeOf_165 (fun c_165 => ?_) (fun c_165 => ?_)
          · refine x_iload_n eX5_placeOf_188 rfl ?_
            refine x_if_neT eX5_placeOf_189 (fun c_189 => ?_) (fun c_189 => ?_)
            · refine x_iconst (v := nI 0) eX5_placeOf_196 (by decide) ?_
              refine x_istore_n (lv' := [_, _, _, _, _, _, _, _, _]) eX5_placeOf_197 (by decide) rfl ?_
              refine x_iinc (lv' := [_, _, _, _, _, _, _, _, _]) eX5_placeOf_198 rfl (by first | exact nI_inc _ | exact rfl) (by decide) rfl ?_
              refine x_goto eX5_placeOf_201 ?_
              refine x_pick [0, 1, 6, 7, 8] rfl ?_
              first
                | omega
                | (refine ih (k + 1) (by omega) _ _ ⟨hx, fun j hj z => ?_, ?_⟩
                   · by_cases q : j < k
                     · exact hno j q z
                     · obtain rfl : j = k := by omega
                       unfold onE at z; rw [hoff] at z; exact absurd z (by decide)
                   · show _ = tI ((_ + chi (P (c (k % n))) (P (c ((k + 1) % n))) (P s)) % 2 = 1)
                     first
                       | exact tog1 (by unfold chi; first | (left; rw [if_pos (by omega)]) | (right; rw [if_neg (by omega), if_pos (by omega)])) c_189
                       | exact tog0 (by unfold chi; first | (left; rw [if_pos (by omega)]) | (right; rw [if_neg (by omega), if_pos (by omega)])) c_189
                       | exact togn (by unfold chi; rw [if_neg (by omega), if_neg (by omega)]))
            · refine x_iconst (v := nI 1) eX5_placeOf_192 (by decide) ?_
              refine x_goto eX5_placeOf_193 ?_
              refine x_istore_n (lv' := [_, _, _, _, _, _, _, _, _]) eX5_placeOf_197 (by decide) rfl ?_
              refine x_iinc (lv' := [_, _, _, _, _, _, _, _, _]) eX5_placeOf_198 rfl (by first | exact nI_inc _ | exact rfl) (by decide) rfl ?_
              refine x_goto eX5_placeOf_201 ?_
              refine x_pick [0, 1, 6, 7, 8] rfl ?_
              first
                | omega
                | (refine ih (k + 1) (by omega) _ _ ⟨hx, fun j hj z => ?_, ?_⟩
                   · by_cases q : j < k
                     · exact hno j q z
                     · obtain rfl : j = k := by omega
                       unfold onE at z; rw [hoff] at z; exact absurd z (by decide)
                   · show _ = tI ((_ + chi (P (c (k % n))) (P (c ((k + 1) % n))) (P s)) % 2 = 1)
                     first
                       | exact tog1 (by unfold chi; first | (left; rw [if_pos (by omega)]) | (right; rw [if_neg (by omega), if_pos (by omega)])) c_189
                       | exact tog0 (by unfold chi; first | (left; rw [if_pos (by omega)]) | (right; rw [if_neg (by omega), if_pos (by omega)])) c_189
                       | exact togn (by unfold chi; rw [if_neg (by omega), if_neg (by omega)]))
          · refine x_iload eX5_placeOf_168 rfl ?_
            refine x_if_eqN eX5_placeOf_170 (by omega) (fun c_170 => ?_) (fun c_170 => ?_)
            · refine x_iinc (lv' := [_, _, _, _, _, _, _, _, _]) eX5_placeOf_198 rfl (by first | exact nI_inc _ | exact rfl) (by decide) rfl ?_
              refine x_goto eX5_placeOf_201 ?_
              refine x_pick [0, 5, 6, 7, 8] rfl ?_
              first
                | omega
                | (refine ih (k + 1) (by omega) _ _ ⟨hx, fun j hj z => ?_, ?_⟩
                   · by_cases q : j < k
                     · exact hno j q z
                     · obtain rfl : j = k := by omega
                       unfold onE at z; rw [hoff] at z; exact absurd z (by decide)
                   · show _ = tI ((_ + chi (P (c (k % n))) (P (c ((k + 1) % n))) (P s)) % 2 = 1)
                     first
                       | exact tog1 (by unfold chi; first | (left; rw [if_pos (by omega)]) | (right; rw [if_neg (by omega), if_pos (by omega)])) c_189
                       | exact tog0 (by unfold chi; first | (left; rw [if_pos (by omega)]) | (right; rw [if_neg (by omega), if_pos (by omega)])) c_189
                       | exact togn (by unfold chi; rw [if_neg (by omega), if_neg (by omega)]))
            · refine x_aload_n eX5_placeOf_173 rfl ?_
              refine s_getR (k := 32) eX5_placeOf_174 fX5_15 rfl (by decide) (by decide) rfl ?_
              refine x_iload eX5_placeOf_177 rfl ?_
              refine x_iload eX5_placeOf_179 rfl ?_
              refine x_iload_n eX5_placeOf_181 rfl ?_
              refine s_callV1 (As := [_, _, _]) eX5_placeOf_182 kX5_49 ⟨by decide, by decide⟩ rfl (by decide) (by decide) rfl rfl (Nat.le_of_ble_eq_true rfl) (Nat.le_of_ble_eq_true rfl) (sp_X2_turn _ tA tB (hp s hs)) (fun S_182 h_182 => ?_)
              have hx := hx.tr h_182
              refine x_if_geS eX5_placeOf_185 (fun c_185 => ?_) (fun c_185 => ?_)
              · refine x_iinc (lv' := [_, _, _, _, _, _, _, _, _]) eX5_placeOf_198 rfl (by first | exact nI_inc _ | exact rfl) (by decide) rfl ?_
                refine x_goto eX5_placeOf_201 ?_
                refine x_pick [0, 5, 6, 7, 8] rfl ?_
                first
                  | omega
                  | (refine ih (k + 1) (by omega) _ _ ⟨hx, fun j hj z => ?_, ?_⟩
                     · by_cases q : j < k
                       · exact hno j q z
                       · obtain rfl : j = k := by omega
                         unfold onE at z; rw [hoff] at z; exact absurd z (by decide)
                     · show _ = tI ((_ + chi (P (c (k % n))) (P (c ((k + 1) % n))) (P s)) % 2 = 1)
                       first
                         | exact tog1 (by unfold chi; first | (left; rw [if_pos (by omega)]) | (right; rw [if_neg (by omega), if_pos (by omega)])) c_189
                         | exact tog0 (by unfold chi; first | (left; rw [if_pos (by omega)]) | (right; rw [if_neg (by omega), if_pos (by omega)])) c_189
                         | exact togn (by unfold chi; rw [if_neg (by omega), if_neg (by omega)]))
              · refine x_iload_n eX5_placeOf_188 rfl ?_
                refine x_if_neT eX5_placeOf_189 (fun c_189 => ?_) (fun c_189 => ?_)
                · refine x_iconst (v := nI 0) eX5_placeOf_196 (by decide) ?_
                  refine x_istore_n (lv' := [_, _, _, _, _, _, _, _, _]) eX5_placeOf_197 (by decide) rfl ?_
                  refine x_iinc (lv' := [_, _, _, _, _, _, _, _, _]) eX5_placeOf_198 rfl (by first | exact nI_inc _ | exact rfl) (by decide) rfl ?_
                  refine x_goto eX5_placeOf_201 ?_
                  refine x_pick [0, 1, 6, 7, 8] rfl ?_
                  first
                    | omega
                    | (refine ih (k + 1) (by omega) _ _ ⟨hx, fun j hj z => ?_, ?_⟩
                       · by_cases q : j < k
                         · exact hno j q z
                         · obtain rfl : j = k := by omega
                           unfold onE at z; rw [hoff] at z; exact absurd z (by decide)
                       · show _ = tI ((_ + chi (P (c (k % n))) (P (c ((k + 1) % n))) (P s)) % 2 = 1)
                         first
                           | exact tog1 (by unfold chi; first | (left; rw [if_pos (by omega)]) | (right; rw [if_neg (by omega), if_pos (by omega)])) c_189
                           | exact tog0 (by unfold chi; first | (left; rw [if_pos (by omega)]) | (right; rw [if_neg (by omega), if_pos (by omega)])) c_189
                           | exact togn (by unfold chi; rw [if_neg (by omega), if_neg (by omega)]))
                · refine x_iconst (v := nI 1) eX5_placeOf_192 (by decide) ?_
                  refine x_goto eX5_placeOf_193 ?_
                  refine x_istore_n (lv' := [_, _, _, _, _, _, _, _, _]) eX5_placeOf_197 (by decide) rfl ?_
                  refine x_iinc (lv' := [_, _, _, _, _, _, _, _, _]) eX5_placeOf_198 rfl (by first | exact nI_inc _ | exact rfl) (by decide) rfl ?_
                  refine x_goto eX5_placeOf_201 ?_
                  refine x_pick [0, 1, 6, 7, 8] rfl ?_
                  first
                    | omega
                    | (refine ih (k + 1) (by omega) _ _ ⟨hx, fun j hj z => ?_, ?_⟩
                       · by_cases q : j < k
                         · exact hno j q z
                         · obtain rfl : j = k := by omega
                           unfold onE at z; rw [hoff] at z; exact absurd z (by decide)
                       · show _ = tI ((_ + chi (P (c (k % n))) (P (c ((k + 1) % n))) (P s)) % 2 = 1)
                         first
                           | exact tog1 (by unfold chi; first | (left; rw [if_pos (by omega)]) | (right; rw [if_neg (by omega), if_pos (by omega)])) c_189
                           | exact tog0 (by unfold chi; first | (left; rw [if_pos (by omega)]) | (right; rw [if_neg (by omega), if_pos (by omega)])) c_189
                           | exact togn (by unfold chi; rw [if_neg (by omega), if_neg (by omega)]))
      refine x_iload eX5_placeOf_5 rfl ?_
      refine x_aload_n eX5_placeOf_7 rfl ?_
      refine s_geti eX5_placeOf_8 fX5_19 (kd_ring h0.1.1) (show _ < 365 by omega) (by decide) ?_
      rw [h.1.2.2.1]
      refine x_icmp_geN eX5_placeOf_11 (by omega) (by omega) (fun c_11 => ?_) (fun c_11 => ?_)
      · omega
      · refine x_aload_n eX5_placeOf_14 rfl ?_
        refine x_iload eX5_placeOf_15 rfl ?_
        refine s_callV1 (As := [_]) eX5_placeOf_17 kX5_35 ⟨by decide, by decide⟩ (kd_ring h0.1.1) (by decide) (show _ < 365 by omega) rfl rfl (Nat.le_of_ble_eq_true rfl) (Nat.le_of_ble_eq_true rfl) (sp_X4_around _ h.1 h.2.1 (by omega)) (fun S_17 h_17 => ?_)
        subst h_17
        refine x_istore (lv' := [_, _, _, _, _, _]) eX5_placeOf_20 (by decide) rfl ?_
        refine x_aload_n eX5_placeOf_22 rfl ?_
        refine x_iload eX5_placeOf_23 rfl ?_
        refine x_iconst (v := nI 1) eX5_placeOf_25 (by decide) ?_
        first | refine x_iaddN eX5_placeOf_26 ?_ | refine x_iadd eX5_placeOf_26 ?_
        refine s_callV1 (As := [_]) eX5_placeOf_27 kX5_35 ⟨by decide, by decide⟩ (kd_ring h0.1.1) (by decide) (show _ < 365 by omega) rfl rfl (Nat.le_of_ble_eq_true rfl) (Nat.le_of_ble_eq_true rfl) (sp_X4_around _ h.1 h.2.1 (by omega)) (fun S_27 h_27 => ?_)
        subst h_27
        refine x_istore (lv' := [_, _, _, _, _, _, _]) eX5_placeOf_30 (by decide) rfl ?_
        refine x_aload_n eX5_placeOf_32 rfl ?_
        refine s_getR (k := 32) eX5_placeOf_33 fX5_15 rfl (by decide) (by decide) rfl ?_
        refine x_iload_n eX5_placeOf_36 rfl ?_
        refine x_iload eX5_placeOf_37 rfl ?_
        refine x_iload eX5_placeOf_39 rfl ?_
        refine s_callV1 (As := [_, _, _]) eX5_placeOf_41 kX5_60 ⟨by decide, by decide⟩ rfl (by decide) (by decide) rfl rfl (Nat.le_of_ble_eq_true rfl) (Nat.le_of_ble_eq_true rfl) (sp_X2_isOn _ (hp s hs) (h.pt hp k) (h.pt hp (k + 1))) (fun S_41 h_41 => ?_)
        have hx := hx.tr h_41
        have h := h.m h_41
        have hp := hp.m h_41
        have tA : cpt S_41 (c (k % n)) (P (c (k % n))) := h.pt hp k
        have tB : cpt S_41 (c ((k + 1) % n)) (P (c ((k + 1) % n))) := h.pt hp (k + 1)
        have tT := hp s hs
        refine x_if_eqB eX5_placeOf_44 (fun c_44 => ?_) (fun c_44 => ?_)
        · refine x_aload_n eX5_placeOf_50 rfl ?_
          refine s_getR (k := 32) eX5_placeOf_51 fX5_15 rfl (by decide) (by decide) rfl ?_
          refine x_iload eX5_placeOf_54 rfl ?_
          refine s_callV1 (As := [_]) eX5_placeOf_56 kX5_64 ⟨by decide, by decide⟩ rfl (by decide) (by decide) rfl rfl (Nat.le_of_ble_eq_true rfl) (Nat.le_of_ble_eq_true rfl) (sp_X2_y _ tA.1) (fun S_56 h_56 => ?_)
          subst h_56
          refine x_aload_n eX5_placeOf_59 rfl ?_
          refine s_getR (k := 32) eX5_placeOf_60 fX5_15 rfl (by decide) (by decide) rfl ?_
          refine x_iload_n eX5_placeOf_63 rfl ?_
          refine s_callV1 (As := [_]) eX5_placeOf_64 kX5_64 ⟨by decide, by decide⟩ rfl (by decide) (by decide) rfl rfl (Nat.le_of_ble_eq_true rfl) (Nat.le_of_ble_eq_true rfl) (sp_X2_y _ tT.1) (fun S_64 h_64 => ?_)
          subst h_64
          refine x_dcmp eX5_placeOf_67 ?_
          rw [cmpV tA.2.2.1 tT.2.2.1]
          refine x_if_gtS eX5_placeOf_68 (fun c_68 => ?_) (fun c_68 => ?_)
          · refine x_iconst (v := nI 0) eX5_placeOf_96 (by decide) ?_
            refine x_istore (lv' := [_, _, _, _, _, _, _, _]) eX5_placeOf_97 (by decide) rfl ?_
            refine x_aload_n eX5_placeOf_99 rfl ?_
            refine s_getR (k := 32) eX5_placeOf_100 fX5_15 rfl (by decide) (by decide) rfl ?_
            refine x_iload eX5_placeOf_103 rfl ?_
            refine s_callV1 (As := [_]) eX5_placeOf_105 kX5_64 ⟨by decide, by decide⟩ rfl (by decide) (by decide) rfl rfl (Nat.le_of_ble_eq_true rfl) (Nat.le_of_ble_eq_true rfl) (sp_X2_y _ tB.1) (fun S_105 h_105 => ?_)
            subst h_105
            refine x_aload_n eX5_placeOf_108 rfl ?_
            refine s_getR (k := 32) eX5_placeOf_109 fX5_15 rfl (by decide) (by decide) rfl ?_
            refine x_iload_n eX5_placeOf_112 rfl ?_
            refine s_callV1 (As := [_]) eX5_placeOf_113 kX5_64 ⟨by decide, by decide⟩ rfl (by decide) (by decide) rfl rfl (Nat.le_of_ble_eq_true rfl) (Nat.le_of_ble_eq_true rfl) (sp_X2_y _ tT.1) (fun S_113 h_113 => ?_)
            subst h_113
            refine x_dcmp eX5_placeOf_116 ?_
            rw [cmpV tB.2.2.1 tT.2.2.1]
            refine x_if_gtS eX5_placeOf_117 (fun c_117 => ?_) (fun c_117 => ?_)
            · refine x_iconst (v := nI 0) eX5_placeOf_145 (by decide) ?_
              refine x_istore (lv' := [_, _, _, _, _, _, _, _, _]) eX5_placeOf_146 (by decide) rfl ?_
              refine x_pick [0, 1, 2, 3, 4, 5, 6, 7, 8] rfl ?_
              refine j148 _ _ ?_ ?_ c_44 _ hx <;> first | (left; exact ⟨rfl, by omega, by omega⟩) | (right; refine ⟨rfl, ?_⟩; omega)
            · refine x_aload_n eX5_placeOf_120 rfl ?_
              refine s_getR (k := 32) eX5_placeOf_121 fX5_15 rfl (by decide) (by decide) rfl ?_
              refine x_iload_n eX5_placeOf_124 rfl ?_
              refine s_callV1 (As := [_]) eX5_placeOf_125 kX5_64 ⟨by decide, by decide⟩ rfl (by decide) (by decide) rfl rfl (Nat.le_of_ble_eq_true rfl) (Nat.le_of_ble_eq_true rfl) (sp_X2_y _ tT.1) (fun S_125 h_125 => ?_)
              subst h_125
              refine x_aload_n eX5_placeOf_128 rfl ?_
              refine s_getR (k := 32) eX5_placeOf_129 fX5_15 rfl (by decide) (by decide) rfl ?_
              refine x_iload eX5_placeOf_132 rfl ?_
              refine s_callV1 (As := [_]) eX5_placeOf_134 kX5_64 ⟨by decide, by decide⟩ rfl (by decide) (by decide) rfl rfl (Nat.le_of_ble_eq_true rfl) (Nat.le_of_ble_eq_true rfl) (sp_X2_y _ tA.1) (fun S_134 h_134 => ?_)
              subst h_134
              refine x_dcmp eX5_placeOf_137 ?_
              rw [cmpV tT.2.2.1 tA.2.2.1]
              refine x_if_geS eX5_placeOf_138 (fun c_138 => ?_) (fun c_138 => ?_)
              · refine x_iconst (v := nI 0) eX5_placeOf_145 (by decide) ?_
                refine x_istore (lv' := [_, _, _, _, _, _, _, _, _]) eX5_placeOf_146 (by decide) rfl ?_
                refine x_pick [0, 1, 2, 3, 4, 5, 6, 7, 8] rfl ?_
                refine j148 _ _ ?_ ?_ c_44 _ hx <;> first | (left; exact ⟨rfl, by omega, by omega⟩) | (right; refine ⟨rfl, ?_⟩; omega)
              · refine x_iconst (v := nI 1) eX5_placeOf_141 (by decide) ?_
                refine x_goto eX5_placeOf_142 ?_
                refine x_istore (lv' := [_, _, _, _, _, _, _, _, _]) eX5_placeOf_146 (by decide) rfl ?_
                refine x_pick [0, 1, 2, 3, 4, 5, 6, 7, 8] rfl ?_
                refine j148 _ _ ?_ ?_ c_44 _ hx <;> first | (left; exact ⟨rfl, by omega, by omega⟩) | (right; refine ⟨rfl, ?_⟩; omega)
          · refine x_aload_n eX5_placeOf_71 rfl ?_
            refine s_getR (k := 32) eX5_placeOf_72 fX5_15 rfl (by decide) (by decide) rfl ?_
            refine x_iload_n eX5_placeOf_75 rfl ?_
            refine s_callV1 (As := [_]) eX5_placeOf_76 kX5_64 ⟨by decide, by decide⟩ rfl (by decide) (by decide) rfl rfl (Nat.le_of_ble_eq_true rfl) (Nat.le_of_ble_eq_true rfl) (sp_X2_y _ tT.1) (fun S_76 h_76 => ?_)
            subst h_76
            refine x_aload_n eX5_placeOf_79 rfl ?_
            refine s_getR (k := 32) eX5_placeOf_80 fX5_15 rfl (by decide) (by decide) rfl ?_
            refine x_iload eX5_placeOf_83 rfl ?_
            refine s_callV1 (As := [_]) eX5_placeOf_85 kX5_64 ⟨by decide, by decide⟩ rfl (by decide) (by decide) rfl rfl (Nat.le_of_ble_eq_true rfl) (Nat.le_of_ble_eq_true rfl) (sp_X2_y _ tB.1) (fun S_85 h_85 => ?_)
            subst h_85
            refine x_dcmp eX5_placeOf_88 ?_
            rw [cmpV tT.2.2.1 tB.2.2.1]
            refine x_if_geS eX5_placeOf_89 (fun c_89 => ?_) (fun c_89 => ?_)
            · refine x_iconst (v := nI 0) eX5_placeOf_96 (by decide) ?_
              refine x_istore (lv' := [_, _, _, _, _, _, _, _]) eX5_placeOf_97 (by decide) rfl ?_
              refine x_aload_n eX5_placeOf_99 rfl ?_
              refine s_getR (k := 32) eX5_placeOf_100 fX5_15 rfl (by decide) (by decide) rfl ?_
              refine x_iload eX5_placeOf_103 rfl ?_
              refine s_callV1 (As := [_]) eX5_placeOf_105 kX5_64 ⟨by decide, by decide⟩ rfl (by decide) (by decide) rfl rfl (Nat.le_of_ble_eq_true rfl) (Nat.le_of_ble_eq_true rfl) (sp_X2_y _ tB.1) (fun S_105 h_105 => ?_)
              subst h_105
              refine x_aload_n eX5_placeOf_108 rfl ?_
              refine s_getR (k := 32) eX5_placeOf_109 fX5_15 rfl (by decide) (by decide) rfl ?_
              refine x_iload_n eX5_placeOf_112 rfl ?_
              refine s_callV1 (As := [_]) eX5_placeOf_113 kX5_64 ⟨by decide, by decide⟩ rfl (by decide) (by decide) rfl rfl (Nat.le_of_ble_eq_true rfl) (Nat.le_of_ble_eq_true rfl) (sp_X2_y _ tT.1) (fun S_113 h_113 => ?_)
              subst h_113
              refine x_dcmp eX5_placeOf_116 ?_
              rw [cmpV tB.2.2.1 tT.2.2.1]
              refine x_if_gtS eX5_placeOf_117 (fun c_117 => ?_) (fun c_117 => ?_)
              · refine x_iconst (v := nI 0) eX5_placeOf_145 (by decide) ?_
                refine x_istore (lv' := [_, _, _, _, _, _, _, _, _]) eX5_placeOf_146 (by decide) rfl ?_
                refine x_pick [0, 1, 2, 3, 4, 5, 6, 7, 8] rfl ?_
                refine j148 _ _ ?_ ?_ c_44 _ hx <;> first | (left; exact ⟨rfl, by omega, by omega⟩) | (right; refine ⟨rfl, ?_⟩; omega)
              · refine x_aload_n eX5_placeOf_120 rfl ?_
                refine s_getR (k := 32) eX5_placeOf_121 fX5_15 rfl (by decide) (by decide) rfl ?_
                refine x_iload_n eX5_placeOf_124 rfl ?_
                refine s_callV1 (As := [_]) eX5_placeOf_125 kX5_64 ⟨by decide, by decide⟩ rfl (by decide) (by decide) rfl rfl (Nat.le_of_ble_eq_true rfl) (Nat.le_of_ble_eq_true rfl) (sp_X2_y _ tT.1) (fun S_125 h_125 => ?_)
                subst h_125
                refine x_aload_n eX5_placeOf_128 rfl ?_
                refine s_getR (k := 32) eX5_placeOf_129 fX5_15 rfl (by decide) (by decide) rfl ?_
                refine x_iload eX5_placeOf_132 rfl ?_
                refine s_callV1 (As := [_]) eX5_placeOf_134 kX5_64 ⟨by decide, by decide⟩ rfl (by decide) (by decide) rfl rfl (Nat.le_of_ble_eq_true rfl) (Nat.le_of_ble_eq_true rfl) (sp_X2_y _ tA.1) (fun S_134 h_134 => ?_)
                subst h_134
                refine x_dcmp eX5_placeOf_137 ?_
                rw [cmpV tT.2.2.1 tA.2.2.1]
                refine x_if_geS eX5_placeOf_138 (fun c_138 => ?_) (fun c_138 => ?_)
                · refine x_iconst (v := nI 0) eX5_placeOf_145 (by decide) ?_
                  refine x_istore (lv' := [_, _, _, _, _, _, _, _, _]) eX5_placeOf_146 (by decide) rfl ?_
                  refine x_pick [0, 1, 2, 3, 4, 5, 6, 7, 8] rfl ?_
                  refine j148 _ _ ?_ ?_ c_44 _ hx <;> first | (left; exact ⟨rfl, by omega, by omega⟩) | (right; refine ⟨rfl, ?_⟩; omega)
                · refine x_iconst (v := nI 1) eX5_placeOf_141 (by decide) ?_
                  refine x_goto eX5_placeOf_142 ?_
                  refine x_istore (lv' := [_, _, _, _, _, _, _, _, _]) eX5_placeOf_146 (by decide) rfl ?_
                  refine x_pick [0, 1, 2, 3, 4, 5, 6, 7, 8] rfl ?_
                  refine j148 _ _ ?_ ?_ c_44 _ hx <;> first | (left; exact ⟨rfl, by omega, by omega⟩) | (right; refine ⟨rfl, ?_⟩; omega)
            · refine x_iconst (v := nI 1) eX5_placeOf_92 (by decide) ?_
              refine x_goto eX5_placeOf_93 ?_
              refine x_istore (lv' := [_, _, _, _, _, _, _, _]) eX5_placeOf_97 (by decide) rfl ?_
              refine x_aload_n eX5_placeOf_99 rfl ?_
              refine s_getR (k := 32) eX5_placeOf_100 fX5_15 rfl (by decide) (by decide) rfl ?_
              refine x_iload eX5_placeOf_103 rfl ?_
              refine s_callV1 (As := [_]) eX5_placeOf_105 kX5_64 ⟨by decide, by decide⟩ rfl (by decide) (by decide) rfl rfl (Nat.le_of_ble_eq_true rfl) (Nat.le_of_ble_eq_true rfl) (sp_X2_y _ tB.1) (fun S_105 h_105 => ?_)
              subst h_105
              refine x_aload_n eX5_placeOf_108 rfl ?_
              refine s_getR (k := 32) eX5_placeOf_109 fX5_15 rfl (by decide) (by decide) rfl ?_
              refine x_iload_n eX5_placeOf_112 rfl ?_
              refine s_callV1 (As := [_]) eX5_placeOf_113 kX5_64 ⟨by decide, by decide⟩ rfl (by decide) (by decide) rfl rfl (Nat.le_of_ble_eq_true rfl) (Nat.le_of_ble_eq_true rfl) (sp_X2_y _ tT.1) (fun S_113 h_113 => ?_)
              subst h_113
              refine x_dcmp eX5_placeOf_116 ?_
              rw [cmpV tB.2.2.1 tT.2.2.1]
              refine x_if_gtS eX5_placeOf_117 (fun c_117 => ?_) (fun c_117 => ?_)
              · refine x_iconst (v := nI 0) eX5_placeOf_145 (by decide) ?_
                refine x_istore (lv' := [_, _, _, _, _, _, _, _, _]) eX5_placeOf_146 (by decide) rfl ?_
                refine x_pick [0, 1, 2, 3, 4, 5, 6, 7, 8] rfl ?_
                refine j148 _ _ ?_ ?_ c_44 _ hx <;> first | (left; exact ⟨rfl, by omega, by omega⟩) | (right; refine ⟨rfl, ?_⟩; omega)
              · refine x_aload_n eX5_placeOf_120 rfl ?_
                refine s_getR (k := 32) eX5_placeOf_121 fX5_15 rfl (by decide) (by decide) rfl ?_
                refine x_iload_n eX5_placeOf_124 rfl ?_
                refine s_callV1 (As := [_]) eX5_placeOf_125 kX5_64 ⟨by decide, by decide⟩ rfl (by decide) (by decide) rfl rfl (Nat.le_of_ble_eq_true rfl) (Nat.le_of_ble_eq_true rfl) (sp_X2_y _ tT.1) (fun S_125 h_125 => ?_)
                subst h_125
                refine x_aload_n eX5_placeOf_128 rfl ?_
                refine s_getR (k := 32) eX5_placeOf_129 fX5_15 rfl (by decide) (by decide) rfl ?_
                refine x_iload eX5_placeOf_132 rfl ?_
                refine s_callV1 (As := [_]) eX5_placeOf_134 kX5_64 ⟨by decide, by decide⟩ rfl (by decide) (by decide) rfl rfl (Nat.le_of_ble_eq_true rfl) (Nat.le_of_ble_eq_true rfl) (sp_X2_y _ tA.1) (fun S_134 h_134 => ?_)
                subst h_134
                refine x_dcmp eX5_placeOf_137 ?_
                rw [cmpV tT.2.2.1 tA.2.2.1]
                refine x_if_geS eX5_placeOf_138 (fun c_138 => ?_) (fun c_138 => ?_)
                · refine x_iconst (v := nI 0) eX5_placeOf_145 (by decide) ?_
                  refine x_istore (lv' := [_, _, _, _, _, _, _, _, _]) eX5_placeOf_146 (by decide) rfl ?_
                  refine x_pick [0, 1, 2, 3, 4, 5, 6, 7, 8] rfl ?_
                  refine j148 _ _ ?_ ?_ c_44 _ hx <;> first | (left; exact ⟨rfl, by omega, by omega⟩) | (right; refine ⟨rfl, ?_⟩; omega)
                · refine x_iconst (v := nI 1) eX5_placeOf_141 (by decide) ?_
                  refine x_goto eX5_placeOf_142 ?_
                  refine x_istore (lv' := [_, _, _, _, _, _, _, _, _]) eX5_placeOf_146 (by decide) rfl ?_
                  refine x_pick [0, 1, 2, 3, 4, 5, 6, 7, 8] rfl ?_
                  refine j148 _ _ ?_ ?_ c_44 _ hx <;> first | (left; exact ⟨rfl, by omega, by omega⟩) | (right; refine ⟨rfl, ?_⟩; omega)
        · refine x_iload eX5_placeOf_47 rfl ?_
          exact s_iret eX5_placeOf_49 rfl rfl ⟨by rw [plc_some (fst1_some (by omega) c_44 hno)], hx⟩
  show XP _ _ [_, _, _] _ _ _
  refine x_iconst (v := nI 0) eX5_placeOf_0 (by decide) ?_
  refine x_istore_n (lv' := [_, _, _, _]) eX5_placeOf_1 (by decide) rfl ?_
  refine x_iconst (v := nI 0) eX5_placeOf_2 (by decide) ?_
  refine x_istore (lv' := [_, _, _, _, _]) eX5_placeOf_3 (by decide) rfl ?_
  refine x_pick [0, 1, 2, 3, 4] rfl ?_
  exact loop n 0 (by omega) _ _ ⟨Lx.rf _ _, fun j hj => by omega, (tI_f (by show ¬ ((0 : Int) % 2 = 1); decide)).symm⟩
