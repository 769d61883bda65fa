/-! ===== hull: a corner comes; the class goes round ===== -/
theorem pt.fx {fs is ls ds : List Nat} {S S1 : xS} {s : Nat} {P : Pt} (h : pt S s P) (hx : Fx fs is ls ds S S1) (a : 3 ∉ ls) (b : 4 ∉ ls) : pt S1 s P := by
  obtain ⟨a1, a2, a3, a4, a5⟩ := h
  exact ⟨fun i hi => by rw [hx.2.2.1 3 a]; exact a1 i hi, fun i hi => by rw [hx.2.2.1 4 b]; exact a2 i hi, a3, a4, a5⟩
theorem sp_X0_append (S : xS) {nc k c least : Nat} {r : Nat → Nat} {P : Nat → Pt} (hp : cps S nc P) (hk : S.1 41 4 = nI k) (hr : ∀ i, i < k → S.2.1 44 i = nI (r i) ∧ r i < nc) (hc : c < nc) (k201 : k ≤ 201) (l1 : 1 ≤ least) (l2 : least ≤ 201) (hK : (pops P r c least k) ≤ 200) : Sp mX0_append [.ref 41, .ref 32, .int (nI c), .int (nI least)] S (fun x S' => x = none ∧ Fx [41] [44] [364] [] S S' ∧ S'.1 41 3 = S.1 41 3 ∧ S'.1 41 4 = nI (cm P c least (k, r)).1 ∧ ∀ i, i < (cm P c least (k, r)).1 → S'.2.1 44 i = nI ((cm P c least (k, r)).2 i)) := by
  have ple := pops_le P r c least k
  have j51 : ∀ S1, Fx [41] [44] [364] [] S S1 → S1.2.1 44 = S.2.1 44 → S1.1 41 3 = S.1 41 3 → S1.1 41 4 = nI (pops P r c least k) → XP mX0_append 51 [(0, .ref 41), (1, .ref 32), (2, .int (nI c)), (3, .int (nI least))] [] (xwS S1) (sQ (fun x S' => x = none ∧ Fx [41] [44] [364] [] S S' ∧ S'.1 41 3 = S.1 41 3 ∧ S'.1 41 4 = nI (cm P c least (k, r)).1 ∧ ∀ i, i < (cm P c least (k, r)).1 → S'.2.1 44 i = nI ((cm P c least (k, r)).2 i))) := by
    intro S1 hx e44 e3 e4
    refine x_aload_n eX0_append_51 rfl ?_
    refine s_geti eX0_append_52 fX0_26 rfl (by decide) (by decide) ?_
    rw [e4]
    refine x_sipush (v := nI 200) eX0_append_55 (by decide) ?_
    refine x_icmp_gtN eX0_append_58 (by omega) (by omega) (fun c_58 => ?_) (fun c_58 => ?_)
    · omega
    · refine x_aload_n eX0_append_61 rfl ?_
      refine s_getR (k := 44) eX0_append_62 fX0_19 rfl (by decide) (by decide) rfl ?_
      refine x_aload_n eX0_append_65 rfl ?_
      refine s_geti eX0_append_66 fX0_26 rfl (by decide) (by decide) ?_
      rw [e4]
      refine x_iload_n eX0_append_69 rfl ?_
      refine s_iast eX0_append_70 rfl (by decide) rfl (show _ < 201 by omega) ?_
      refine x_aload_n eX0_append_71 rfl ?_
      refine x_dup eX0_append_72 rfl ?_
      refine s_geti eX0_append_73 fX0_26 rfl (by decide) (by decide) ?_
      rw [show (setI S1 44 (upd (S1.2.1 44) (pops P r c least k) (nI c))).1 41 4 = nI (pops P r c least k) from e4]
      refine x_iconst (v := nI 1) eX0_append_76 (by decide) ?_
      first | refine x_iaddN eX0_append_77 ?_ | refine x_iadd eX0_append_77 ?_
      refine s_puti eX0_append_78 fX0_26 wX0_4 rfl (by decide) (by decide) ?_
      refine s_vret eX0_append_81 rfl ⟨rfl, hx.tr ((Fx.sI (by simp)).tr (Fx.sF (by simp))), by rw [setF_at, upd_ne _ _ (by decide)]; exact e3, by rw [setF_at, upd_at]; rfl, fun i hi => ?_⟩
      show rw1 S1.2.1 44 (upd (S1.2.1 44) (pops P r c least k) (nI c)) 44 i = nI (if i = (pops P r c least k) then c else r i)
      rw [rw1_same]
      have hi : i < (pops P r c least k) + 1 := hi
      by_cases z : i = (pops P r c least k)
      · rw [z, upd_at, if_pos rfl]
      · rw [upd_ne _ _ z, if_neg z, e44]; exact (hr i (by omega)).1
  have loop : ∀ k1, k1 ≤ k → ∀ S1, Fx [41] [44] [364] [] S S1 → S1.2.1 44 = S.2.1 44 → S1.1 41 3 = S.1 41 3 → S1.1 41 4 = nI k1 → pops P r c least k1 = (pops P r c least k) → XP mX0_append 0 [(0, .ref 41), (1, .ref 32), (2, .int (nI c)), (3, .int (nI least))] [] (xwS S1) (sQ (fun x S' => x = none ∧ Fx [41] [44] [364] [] S S' ∧ S'.1 41 3 = S.1 41 3 ∧ S'.1 41 4 = nI (cm P c least (k, r)).1 ∧ ∀ i, i < (cm P c least (k, r)).1 → S'.2.1 44 i = nI ((cm P c least (k, r)).2 i))) := by
    intro k1
    induction k1 with
    | zero =>
      intro hk1 S1 hx e44 e3 e4 ep
      refine x_aload_n eX0_append_0 rfl ?_
      refine s_geti eX0_append_1 fX0_26 rfl (by decide) (by decide) ?_
      rw [e4]
      refine x_iload_n eX0_append_4 rfl ?_
      refine x_icmp_leN eX0_append_5 (by omega) (by omega) (fun c_5 => ?_) (fun c_5 => ?_)
      · exact j51 S1 hx e44 e3 (by rw [e4, ← ep]; rfl)
      · omega
    | succ k1 ih =>
      intro hk1 S1 hx e44 e3 e4 ep
      refine x_aload_n eX0_append_0 rfl ?_
      refine s_geti eX0_append_1 fX0_26 rfl (by decide) (by decide) ?_
      rw [e4]
      refine x_iload_n eX0_append_4 rfl ?_
      refine x_icmp_leN eX0_append_5 (by omega) (by omega) (fun c_5 => ?_) (fun c_5 => ?_)
      · exact j51 S1 hx e44 e3 (by rw [e4, ← ep, pops_n (fun z => by omega)])
      · have pts := hp.fx hx (by simp) (by simp)
        refine x_aload_n eX0_append_8 rfl ?_
        refine x_aload_n eX0_append_9 rfl ?_
        refine s_getR (k := 44) eX0_append_10 fX0_19 rfl (by decide) (by decide) rfl ?_
        refine x_aload_n eX0_append_13 rfl ?_
        refine s_geti eX0_append_14 fX0_26 rfl (by decide) (by decide) ?_
        rw [e4]
        refine x_iconst (v := nI 2) eX0_append_17 (by decide) ?_
        first | refine x_isubN eX0_append_18 (by omega) ?_ | refine x_isub eX0_append_18 ?_
        rw [show k1 + 1 - 2 = k1 - 1 by omega]
        refine s_iald eX0_append_19 rfl (by decide) rfl (show _ < 201 by omega) ?_
        rw [e44, (hr (k1 - 1) (by omega)).1]
        refine x_aload_n eX0_append_20 rfl ?_
        refine s_getR (k := 44) eX0_append_21 fX0_19 rfl (by decide) (by decide) rfl ?_
        refine x_aload_n eX0_append_24 rfl ?_
        refine s_geti eX0_append_25 fX0_26 rfl (by decide) (by decide) ?_
        rw [e4]
        refine x_iconst (v := nI 1) eX0_append_28 (by decide) ?_
        first | refine x_isubN eX0_append_29 (by omega) ?_ | refine x_isub eX0_append_29 ?_
        rw [show k1 + 1 - 1 = k1 by omega]
        refine s_iald eX0_append_30 rfl (by decide) rfl (show _ < 201 by omega) ?_
        rw [e44, (hr k1 (by omega)).1]
        refine x_iload_n eX0_append_31 rfl ?_
        refine s_callV1 (As := [_, _, _]) eX0_append_32 kX0_67 ⟨by decide, by decide⟩ rfl (by decide) (by decide) rfl rfl (Nat.le_of_ble_eq_true rfl) (Nat.le_of_ble_eq_true rfl) (sp_X2_turn _ (pts (r (k1 - 1)) (Or.inl (hr _ (by omega)).2)) (pts (r k1) (Or.inl (hr _ (by omega)).2)) (pts c (Or.inl hc))) (fun S_32 h_32 => ?_)
        have hx2 := hx.tr (h_32.fx (fs := [41]) (is := [44]) (ls := [364]) (ds := []) (by simp))
        have e4b : S_32.1 41 4 = nI (k1 + 1) := by rw [h_32.1]; exact e4
        have e44b : S_32.2.1 44 = S.2.1 44 := by rw [h_32.2.1]; exact e44
        have e3b : S_32.1 41 3 = S.1 41 3 := by rw [h_32.1]; exact e3
        refine x_if_gtS eX0_append_35 (fun c_35 => ?_) (fun c_35 => ?_)
        · exact j51 S_32 hx2 e44b e3b (by rw [e4b, ← ep, pops_n (fun z => by omega)])
        · refine x_aload_n eX0_append_38 rfl ?_
          refine x_dup eX0_append_39 rfl ?_
          refine s_geti eX0_append_40 fX0_26 rfl (by decide) (by decide) ?_
          rw [e4b]
          refine x_iconst (v := nI 1) eX0_append_43 (by decide) ?_
          first | refine x_isubN eX0_append_44 (by omega) ?_ | refine x_isub eX0_append_44 ?_
          rw [show k1 + 1 - 1 = k1 by omega]
          refine s_puti eX0_append_45 fX0_26 wX0_4 rfl (by decide) (by decide) ?_
          refine x_goto eX0_append_48 ?_
          exact ih (by omega) _ (hx2.tr (Fx.sF (by simp))) e44b (by rw [setF_at, upd_ne _ _ (by decide)]; exact e3b) (by rw [setF_at, upd_at]) (by rw [← ep, pops_y c_5 c_35])
  exact loop k (Nat.le_refl _) S (Fx.rf _ _ _ _ _) rfl rfl hk rfl
theorem sp_X9_comes (S : xS) {nc k c least : Nat} {r : Nat → Nat} {P : Nat → Pt} (hp : ∀ s, s < nc → pt S s (scP 2 (P s))) (hk : S.1 0 35 = nI k) (hr : ∀ i, i < k → S.2.1 24 i = nI (r i) ∧ r i < nc) (hc : c < nc) (k201 : k ≤ 201) (l1 : 1 ≤ least) (l2 : least ≤ 201) (hK : (pops P r c least k) ≤ 200) : Sp mX9_comes [.ref 0, .int (nI c), .int (nI least)] S (fun x S' => x = none ∧ Fx [0] [24] [5, 6, 7] [] S S' ∧ (∀ f, f ≠ 35 → S'.1 0 f = S.1 0 f) ∧ S'.1 0 35 = nI (cm P c least (k, r)).1 ∧ ∀ i, i < (cm P c least (k, r)).1 → S'.2.1 24 i = nI ((cm P c least (k, r)).2 i)) := by
  have ple := pops_le P r c least k
  have j51 : ∀ S1, Fx [0] [24] [5, 6, 7] [] S S1 → S1.2.1 24 = S.2.1 24 → (∀ f, f ≠ 35 → S1.1 0 f = S.1 0 f) → S1.1 0 35 = nI (pops P r c least k) → XP mX9_comes 51 [(0, .ref 0), (1, .int (nI c)), (2, .int (nI least))] [] (xwS S1) (sQ (fun x S' => x = none ∧ Fx [0] [24] [5, 6, 7] [] S S' ∧ (∀ f, f ≠ 35 → S'.1 0 f = S.1 0 f) ∧ S'.1 0 35 = nI (cm P c least (k, r)).1 ∧ ∀ i, i < (cm P c least (k, r)).1 → S'.2.1 24 i = nI ((cm P c least (k, r)).2 i))) := by
    intro S1 hx e44 e3 e4
    refine x_aload_n eX9_comes_51 rfl ?_
    refine s_getR (k := 24) eX9_comes_52 fX9_88 rfl (by decide) (by decide) rfl ?_
    refine x_aload_n eX9_comes_55 rfl ?_
    refine s_geti eX9_comes_56 fX9_109 rfl (by decide) (by decide) ?_
    rw [e4]
    refine x_iload_n eX9_comes_59 rfl ?_
    refine s_iast eX9_comes_60 rfl (by decide) rfl (show _ < 402 by omega) ?_
    refine x_aload_n eX9_comes_61 rfl ?_
    refine x_dup eX9_comes_62 rfl ?_
    refine s_geti eX9_comes_63 fX9_109 rfl (by decide) (by decide) ?_
    rw [show (setI S1 24 (upd (S1.2.1 24) (pops P r c least k) (nI c))).1 0 35 = nI (pops P r c least k) from e4]
    refine x_iconst (v := nI 1) eX9_comes_66 (by decide) ?_
    first | refine x_iaddN eX9_comes_67 ?_ | refine x_iadd eX9_comes_67 ?_
    refine s_puti eX9_comes_68 fX9_109 wX9_35 rfl (by decide) (by decide) ?_
    refine s_vret eX9_comes_71 rfl ⟨rfl, hx.tr ((Fx.sI (by simp)).tr (Fx.sF (by simp))), fun f hf => by rw [setF_at, upd_ne _ _ hf]; exact e3 f hf, by rw [setF_at, upd_at]; rfl, fun i hi => ?_⟩
    show rw1 S1.2.1 24 (upd (S1.2.1 24) (pops P r c least k) (nI c)) 24 i = nI (if i = (pops P r c least k) then c else r i)
    rw [rw1_same]
    have hi : i < (pops P r c least k) + 1 := hi
    by_cases z : i = (pops P r c least k)
    · rw [z, upd_at, if_pos rfl]
    · rw [upd_ne _ _ z, if_neg z, e44]; exact (hr i (by omega)).1
  have loop : ∀ k1, k1 ≤ k → ∀ S1, Fx [0] [24] [5, 6, 7] [] S S1 → S1.2.1 24 = S.2.1 24 → (∀ f, f ≠ 35 → S1.1 0 f = S.1 0 f) → S1.1 0 35 = nI k1 → pops P r c least k1 = (pops P r c least k) → XP mX9_comes 0 [(0, .ref 0), (1, .int (nI c)), (2, .int (nI least))] [] (xwS S1) (sQ (fun x S' => x = none ∧ Fx [0] [24] [5, 6, 7] [] S S' ∧ (∀ f, f ≠ 35 → S'.1 0 f = S.1 0 f) ∧ S'.1 0 35 = nI (cm P c least (k, r)).1 ∧ ∀ i, i < (cm P c least (k, r)).1 → S'.2.1 24 i = nI ((cm P c least (k, r)).2 i))) := by
    intro k1
    induction k1 with
    | zero =>
      intro hk1 S1 hx e44 e3 e4 ep
      refine x_aload_n eX9_comes_0 rfl ?_
      refine s_geti eX9_comes_1 fX9_109 rfl (by decide) (by decide) ?_
      rw [e4]
      refine x_iload_n eX9_comes_4 rfl ?_
      refine x_icmp_leN eX9_comes_5 (by omega) (by omega) (fun c_5 => ?_) (fun c_5 => ?_)
      · exact j51 S1 hx e44 e3 (by rw [e4, ← ep]; rfl)
      · omega
    | succ k1 ih =>
      intro hk1 S1 hx e44 e3 e4 ep
      refine x_aload_n eX9_comes_0 rfl ?_
      refine s_geti eX9_comes_1 fX9_109 rfl (by decide) (by decide) ?_
      rw [e4]
      refine x_iload_n eX9_comes_4 rfl ?_
      refine x_icmp_leN eX9_comes_5 (by omega) (by omega) (fun c_5 => ?_) (fun c_5 => ?_)
      · exact j51 S1 hx e44 e3 (by rw [e4, ← ep, pops_n (fun z => by omega)])
      · have pts : ∀ s, s < nc → pt S1 s (scP 2 (P s)) := fun s hs => (hp s hs).fx hx (by simp) (by simp)
        refine x_aload_n eX9_comes_8 rfl ?_
        refine x_aload_n eX9_comes_9 rfl ?_
        refine s_getR (k := 24) eX9_comes_10 fX9_88 rfl (by decide) (by decide) rfl ?_
        refine x_aload_n eX9_comes_13 rfl ?_
        refine s_geti eX9_comes_14 fX9_109 rfl (by decide) (by decide) ?_
        rw [e4]
        refine x_iconst (v := nI 2) eX9_comes_17 (by decide) ?_
        first | refine x_isubN eX9_comes_18 (by omega) ?_ | refine x_isub eX9_comes_18 ?_
        rw [show k1 + 1 - 2 = k1 - 1 by omega]
        refine s_iald eX9_comes_19 rfl (by decide) rfl (show _ < 402 by omega) ?_
        rw [e44, (hr (k1 - 1) (by omega)).1]
        refine x_aload_n eX9_comes_20 rfl ?_
        refine s_getR (k := 24) eX9_comes_21 fX9_88 rfl (by decide) (by decide) rfl ?_
        refine x_aload_n eX9_comes_24 rfl ?_
        refine s_geti eX9_comes_25 fX9_109 rfl (by decide) (by decide) ?_
        rw [e4]
        refine x_iconst (v := nI 1) eX9_comes_28 (by decide) ?_
        first | refine x_isubN eX9_comes_29 (by omega) ?_ | refine x_isub eX9_comes_29 ?_
        rw [show k1 + 1 - 1 = k1 by omega]
        refine s_iald eX9_comes_30 rfl (by decide) rfl (show _ < 402 by omega) ?_
        rw [e44, (hr k1 (by omega)).1]
        refine x_iload_n eX9_comes_31 rfl ?_
        refine s_callV1 (As := [_, _, _]) eX9_comes_32 kX9_162 ⟨by decide, by decide⟩ rfl (by decide) (by decide) rfl rfl (Nat.le_of_ble_eq_true rfl) (Nat.le_of_ble_eq_true rfl) (sp_X9_turn _ (pts (r (k1 - 1)) (hr _ (by omega)).2) (pts (r k1) (hr _ (by omega)).2) (pts c hc)) (fun S_32 h_32 => ?_)
        rw [orP_2]
        have hx2 := hx.tr (h_32.fx (fs := [0]) (is := [24]) (ls := [5, 6, 7]) (ds := []) (by simp))
        have e4b : S_32.1 0 35 = nI (k1 + 1) := by rw [h_32.1]; exact e4
        have e44b : S_32.2.1 24 = S.2.1 24 := by rw [h_32.2.1]; exact e44
        have e3b : (∀ f, f ≠ 35 → S_32.1 0 f = S.1 0 f) := fun f hf => by rw [h_32.1]; exact e3 f hf
        refine x_if_gtS eX9_comes_35 (fun c_35 => ?_) (fun c_35 => ?_)
        · exact j51 S_32 hx2 e44b e3b (by rw [e4b, ← ep, pops_n (fun z => by omega)])
        · refine x_aload_n eX9_comes_38 rfl ?_
          refine x_dup eX9_comes_39 rfl ?_
          refine s_geti eX9_comes_40 fX9_109 rfl (by decide) (by decide) ?_
          rw [e4b]
          refine x_iconst (v := nI 1) eX9_comes_43 (by decide) ?_
          first | refine x_isubN eX9_comes_44 (by omega) ?_ | refine x_isub eX9_comes_44 ?_
          rw [show k1 + 1 - 1 = k1 by omega]
          refine s_puti eX9_comes_45 fX9_109 wX9_35 rfl (by decide) (by decide) ?_
          refine x_goto eX9_comes_48 ?_
          exact ih (by omega) _ (hx2.tr (Fx.sF (by simp))) e44b (fun f hf => by rw [setF_at, upd_ne _ _ hf]; exact e3b f hf) (by rw [setF_at, upd_at]) (by rw [← ep, pops_y c_5 c_35])
  exact loop k (Nat.le_refl _) S (Fx.rf _ _ _ _ _) rfl (fun _ _ => rfl) hk rfl
theorem fwd_nc {P : Nat → Pt} {f : Nat → Nat} {n nc j : Nat} (srt : ∀ i i', i < i' → i' < n → ltP (P (f i)) (P (f i')) = true) (fc : ∀ i, i < n → f i < nc) (hj : j ≤ n) : ∀ i, i < (fwd P f j).1 → (fwd P f j).2 i < nc := by
  intro i hi
  by_cases q : j = 0
  · subst q
    have hi : i < 0 := hi
    omega
  · obtain ⟨m, hm, e⟩ := (fwd_HI srt j (by omega) hj).2.2.2.2.2.2 i (by omega) hi
    rw [e]; exact fc m (by omega)
theorem bwd_nc {P : Nat → Pt} {f : Nat → Nat} {n nc j : Nat} (n2 : 2 ≤ n) (srt : ∀ i i', i < i' → i' < n → ltP (P (f i)) (P (f i')) = true) (fc : ∀ i, i < n → f i < nc) (hj : j < n) : ∀ i, i < (bwd P f n j).1 → (bwd P f n j).2 i < nc := by
  intro i hi
  obtain ⟨hI, low, -⟩ := bwd_HI n2 srt fc j hj
  by_cases q : i < (fwd P f n).1
  · rw [low i q]; exact fwd_nc srt fc (Nat.le_refl _) i q
  · obtain ⟨m, hm, e⟩ := hI.2.2.2.2.2.2 i (by omega) hi
    rw [e]; exact fc _ (by omega)
theorem bwd_bd {P : Nat → Pt} {f : Nat → Nat} {n nc j : Nat} (n2 : 2 ≤ n) (srt : ∀ i i', i < i' → i' < n → ltP (P (f i)) (P (f i')) = true) (fc : ∀ i, i < n → f i < nc) (n200 : n ≤ 200) (nc2 : nc ≤ 200) (hj : j < n) : (bwd P f n j).1 ≤ 201 ∧ 0 < (bwd P f n j).1 ∧ (fwd P f n).1 ≤ 201 ∧ 1 ≤ (fwd P f n).1 := by
  obtain ⟨hI, -, hb⟩ := bwd_HI n2 srt fc j hj
  have a := fwd_le P f n
  have b := (fwd_HI srt n (by omega) (Nat.le_refl _)).1
  refine ⟨?_, by have := hI.1; omega, by omega, by omega⟩
  by_cases q : j = 0
  · subst q; show (fwd P f n).1 ≤ 201; omega
  · have := hb (by omega); omega
theorem bwd_pop {P : Nat → Pt} {f : Nat → Nat} {n nc j : Nat} (n2 : 2 ≤ n) (srt : ∀ i i', i < i' → i' < n → ltP (P (f i)) (P (f i')) = true) (fc : ∀ i, i < n → f i < nc) (nc2 : nc ≤ 200) (hj : j + 1 < n) : pops P (bwd P f n j).2 (f (n - 2 - j)) (fwd P f n).1 (bwd P f n j).1 ≤ 200 := by
  have : pops P (bwd P f n j).2 (f (n - 2 - j)) (fwd P f n).1 (bwd P f n j).1 + 1 ≤ nc + 1 := (bwd_HI n2 srt fc (j + 1) hj).2.2 (by omega)
  omega
theorem sp_X0_wrap (S : xS) {nc n : Nat} {f : Nat → Nat} {P : Nat → Pt} (hp : cps S nc P) (hm : S.1 41 3 = nI n) (hr : ∀ i, i < n → S.2.1 42 i = nI (f i)) (fc : ∀ i, i < n → f i < nc) (n2 : 2 ≤ n) (n200 : n ≤ 200) (nc2 : nc ≤ 200) (srt : ∀ i i', i < i' → i' < n → ltP (P (f i)) (P (f i')) = true) : Sp mX0_wrap [.ref 41, .ref 32] S (fun x S' => x = none ∧ Fx [41] [44] [364] [] S S' ∧ S'.1 41 4 = nI ((bwd P f n (n - 1)).1 - 1) ∧ ∀ i, i < (bwd P f n (n - 1)).1 - 1 → S'.2.1 44 i = nI ((bwd P f n (n - 1)).2 i)) := by
  have back : ∀ μ j, j + μ = n - 1 → ∀ S1, (Fx [41] [44] [364] [] S S1 ∧ S1.1 41 3 = nI n ∧ S1.1 41 4 = nI (bwd P f n j).1 ∧ ∀ i, i < (bwd P f n j).1 → S1.2.1 44 i = nI ((bwd P f n j).2 i)) → XP mX0_wrap 45 [(3, .int (dI μ)), (2, .int (nI (fwd P f n).1)), (0, .ref 41), (1, .ref 32)] [] (xwS S1) (sQ (fun x S' => x = none ∧ Fx [41] [44] [364] [] S S' ∧ S'.1 41 4 = nI ((bwd P f n (n - 1)).1 - 1) ∧ ∀ i, i < (bwd P f n (n - 1)).1 - 1 → S'.2.1 44 i = nI ((bwd P f n (n - 1)).2 i))) := by
    intro μ
    induction μ with
    | zero =>
      intro j hj S1 h1
      obtain ⟨hx, e3, e4, e44⟩ := h1
      obtain rfl : j = n - 1 := (by omega)
      have bd := bwd_bd (nc := nc) n2 srt fc n200 nc2 (show n - 1 < n by omega)
      rw [dI_0]
      refine x_iload_n eX0_wrap_45 rfl ?_
      refine x_if_lt eX0_wrap_46 (fun c_46 => ?_) (fun c_46 => ?_)
      · refine x_aload_n eX0_wrap_67 rfl ?_
        refine x_dup eX0_wrap_68 rfl ?_
        refine s_geti eX0_wrap_69 fX0_26 rfl (by decide) (by decide) ?_
        rw [e4]
        refine x_iconst (v := nI 1) eX0_wrap_72 (by decide) ?_
        first | refine x_isubN eX0_wrap_73 (by omega) ?_ | refine x_isub eX0_wrap_73 ?_
        refine s_puti eX0_wrap_74 fX0_26 wX0_4 rfl (by decide) (by decide) ?_
        exact s_vret eX0_wrap_77 rfl ⟨rfl, hx.tr (Fx.sF (by simp)), by rw [setF_at, upd_at], fun i hi => e44 i (by omega)⟩
      · exact absurd (by decide) c_46
    | succ μ ih =>
      intro j hj S1 h1
      obtain ⟨hx, e3, e4, e44⟩ := h1
      have bd := bwd_bd (nc := nc) n2 srt fc n200 nc2 (show j < n by omega)
      have pts := hp.fx hx (by simp) (by simp)
      rw [dI_s]
      refine x_iload_n eX0_wrap_45 rfl ?_
      refine x_if_ltN eX0_wrap_46 (by omega) ?_
      refine x_aload_n eX0_wrap_49 rfl ?_
      refine x_aload_n eX0_wrap_50 rfl ?_
      refine x_aload_n eX0_wrap_51 rfl ?_
      refine s_getR (k := 42) eX0_wrap_52 fX0_9 rfl (by decide) (by decide) rfl ?_
      refine x_iload_n eX0_wrap_55 rfl ?_
      refine s_iald eX0_wrap_56 rfl (by decide) rfl (show _ < 200 by omega) ?_
      rw [hx.2.1 42 (by simp), hr μ (by omega), show μ = n - 2 - j by omega]
      refine x_iload_n eX0_wrap_57 rfl ?_
      refine s_callV0 (As := [_, _, _]) eX0_wrap_58 kX0_63 ⟨by decide, by decide⟩ rfl (by decide) (by decide) rfl rfl (Nat.le_of_ble_eq_true rfl) (Nat.le_of_ble_eq_true rfl) (sp_X0_append _ pts e4 (fun i hi => ⟨e44 i hi, bwd_nc n2 srt fc (by omega) i hi⟩) (fc _ (by omega)) bd.1 bd.2.2.2 bd.2.2.1 (bwd_pop n2 srt fc nc2 (by omega))) (fun S_58 h_58 => ?_)
      obtain ⟨g1, g2, g3, g4⟩ := h_58
      refine x_iinc (lv' := [_, _, _, _]) eX0_wrap_61 rfl (nI_dec _) (by decide) rfl ?_
      refine x_goto eX0_wrap_64 ?_
      refine x_pick [0, 1, 2, 3] rfl ?_
      rw [show n - 2 - j = μ by omega]
      exact ih (j + 1) (by omega) _ ⟨hx.tr g1, by rw [g2]; exact e3, g3, g4⟩
  have loop : ∀ μ j, j + μ = n → ∀ S1, (Fx [41] [44] [364] [] S S1 ∧ S1.1 41 3 = nI n ∧ S1.1 41 4 = nI (fwd P f j).1 ∧ ∀ i, i < (fwd P f j).1 → S1.2.1 44 i = nI ((fwd P f j).2 i)) → XP mX0_wrap 7 [(2, .int (nI j)), (0, .ref 41), (1, .ref 32)] [] (xwS S1) (sQ (fun x S' => x = none ∧ Fx [41] [44] [364] [] S S' ∧ S'.1 41 4 = nI ((bwd P f n (n - 1)).1 - 1) ∧ ∀ i, i < (bwd P f n (n - 1)).1 - 1 → S'.2.1 44 i = nI ((bwd P f n (n - 1)).2 i))) := by
    intro μ
    induction μ with
    | zero =>
      intro j hk S1 h1
      obtain ⟨hx, e3, e4, e44⟩ := h1
      refine x_iload_n eX0_wrap_7 rfl ?_
      refine x_aload_n eX0_wrap_8 rfl ?_
      refine s_geti eX0_wrap_9 fX0_22 rfl (by decide) (by decide) ?_
      rw [e3]
      refine x_icmp_geN eX0_wrap_12 (by omega) (by omega) (fun c_12 => ?_) (fun c_12 => ?_)
      · refine x_aload_n eX0_wrap_33 rfl ?_
        obtain rfl : j = n := (by omega)
        refine s_geti eX0_wrap_34 fX0_26 rfl (by decide) (by decide) ?_
        rw [e4]
        refine x_istore_n (lv' := [_, _, _]) eX0_wrap_37 (by decide) rfl ?_
        refine x_aload_n eX0_wrap_38 rfl ?_
        refine s_geti eX0_wrap_39 fX0_22 rfl (by decide) (by decide) ?_
        rw [e3]
        refine x_iconst (v := nI 2) eX0_wrap_42 (by decide) ?_
        first | refine x_isubN eX0_wrap_43 (by omega) ?_ | refine x_isub eX0_wrap_43 ?_
        rw [show nI (j - 2) = dI (j - 1) by rw [show j - 1 = (j - 2) + 1 by omega, dI_s]]
        refine x_istore_n (lv' := [_, _, _, _]) eX0_wrap_44 (by decide) rfl ?_
        refine x_pick [0, 1, 2, 3] rfl ?_
        exact back (j - 1) 0 (by omega) S1 ⟨hx, e3, e4, e44⟩
      · omega
    | succ μ ih =>
      intro j hk S1 h1
      obtain ⟨hx, e3, e4, e44⟩ := h1
      refine x_iload_n eX0_wrap_7 rfl ?_
      refine x_aload_n eX0_wrap_8 rfl ?_
      refine s_geti eX0_wrap_9 fX0_22 rfl (by decide) (by decide) ?_
      rw [e3]
      refine x_icmp_geN eX0_wrap_12 (by omega) (by omega) (fun c_12 => ?_) (fun c_12 => ?_)
      · omega
      · have pts := hp.fx hx (by simp) (by simp)
        have fl := fwd_le P f j
        have pl := pops_le P (fwd P f j).2 (f j) 1 (fwd P f j).1
        refine x_aload_n eX0_wrap_15 rfl ?_
        refine x_aload_n eX0_wrap_16 rfl ?_
        refine x_aload_n eX0_wrap_17 rfl ?_
        refine s_getR (k := 42) eX0_wrap_18 fX0_9 rfl (by decide) (by decide) rfl ?_
        refine x_iload_n eX0_wrap_21 rfl ?_
        refine s_iald eX0_wrap_22 rfl (by decide) rfl (show _ < 200 by omega) ?_
        rw [hx.2.1 42 (by simp), hr j (by omega)]
        refine x_iconst (v := nI 1) eX0_wrap_23 (by decide) ?_
        refine s_callV0 (As := [_, _, _]) eX0_wrap_24 kX0_63 ⟨by decide, by decide⟩ rfl (by decide) (by decide) rfl rfl (Nat.le_of_ble_eq_true rfl) (Nat.le_of_ble_eq_true rfl) (sp_X0_append _ pts e4 (fun i hi => ⟨e44 i hi, fwd_nc srt fc (by omega) i hi⟩) (fc _ (by omega)) (by omega) (by decide) (by decide) (by omega)) (fun S_24 h_24 => ?_)
        obtain ⟨g1, g2, g3, g4⟩ := h_24
        refine x_iinc (lv' := [_, _, _]) eX0_wrap_27 rfl (by first | exact nI_inc _ | exact rfl) (by decide) rfl ?_
        refine x_goto eX0_wrap_30 ?_
        refine x_pick [0, 1, 2] rfl ?_
        exact ih (j + 1) (by omega) _ ⟨hx.tr g1, by rw [g2]; exact e3, g3, g4⟩
  show XP _ _ [_, _] _ _ _
  refine x_aload_n eX0_wrap_0 rfl ?_
  refine x_iconst (v := nI 0) eX0_wrap_1 (by decide) ?_
  refine s_puti eX0_wrap_2 fX0_26 wX0_4 rfl (by decide) (by decide) ?_
  refine x_iconst (v := nI 0) eX0_wrap_5 (by decide) ?_
  refine x_istore_n (lv' := [_, _, _]) eX0_wrap_6 (by decide) rfl ?_
  refine x_pick [0, 1, 2] rfl ?_
  exact loop n 0 (by omega) _ ⟨Fx.sF (by simp), by rw [setF_at, upd_ne _ _ (by decide)]; exact hm, by rw [setF_at, upd_at]; rfl, fun i hi => absurd hi (by show ¬ i < 0; omega)⟩
