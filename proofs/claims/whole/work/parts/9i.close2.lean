/-! ===== close ===== -/
theorem ftM_PT {X : LM} (w : wf X) (T : Pt) {n : Nat} {c : Nat → Nat} (hc : ∀ i, i < n → c i < xNc X) : ft comP (vr (dbl (PT (PX X) T)) c n) n c = xFt X n c := by
  have n200 := w.1
  by_cases z : n < 3 ∨ 12 < n
  · unfold xFt ft; rw [if_pos z, if_pos z]
  · unfold xFt
    rw [vr_PTd (by omega) (fun i hi => by have := hc i hi; omega)]
theorem stM_PT {X : LM} (w : wf X) (T : Pt) {n : Nat} {c : Nat → Nat} (hc : ∀ i, i < n → c i < xNc X) (h : (xFt X n c).1 = 0) : stlA (vr (dbl (PT (PX X) T)) c n) n c = xSt X n c := by
  have n200 := w.1
  have s := sound_X w hc h
  have n3 := s.1.1
  rw [vr_PTd (by omega) (fun i hi => by have := hc i hi; omega), stl_eq s.1]
  rfl
theorem ov_PT {X : LM} (w : wf X) (T : Pt) {n : Nat} {cs : Nat → Nat} (g : good (xNc X) (PX X) n cs) {q : Nat} (t : xTh X q = true) : ovP (vr (dbl (PT (PX X) T)) cs n) n (vr (dbl (PT (PX X) T)) (xRg X q) (xSz X q)) (xSz X q) = ovP (vr (dbl (PX X)) cs n) n (vr (dbl (PX X)) (xRg X q) (xSz X q)) (xSz X q) := by
  have n200 := w.1
  rw [vr_PTd (by have := g.1; omega) (fun i hi => by have := g.2.2.1 i hi; omega), vr_PTd (good_c w t).1 (fun i hi => by have := (good_c w t).2 i hi; omega)]

theorem m_close_no {S : xS} {X : LM} (w : wf X) (h : RM S X) {kl : Nat} (hl : kl < 4) (o : Int32) (h60 : xNp X < 60) (hf : (xFi X (xNd X) (xDr X) (nI kl) (-1)).1 ≠ 0) : Sp mX9_close [.ref 0, .int (nI kl), .int o] S (fun r S' => r = some (.int (xFi X (xNd X) (xDr X) (nI kl) (-1)).1) ∧ RM S' (uS X (xFi X (xNd X) (xDr X) (nI kl) (-1)).2 (xSu X) (xEd X)) ∧ frM S S') := by
  have n20 := w.2.2.2.1.1
  have n200 := w.1
  have z60 : ∀ S1, Zx X S S1 → S1.1 0 12 = xWh X → mrg S1 (xNd X) (xDr X) → XP mX9_close 60 [(0, .ref 0), (1, .int (nI kl)), (2, .int o)] [] (xwS S1) (sQ (fun r S' => r = some (.int (xFi X (xNd X) (xDr X) (nI kl) (-1)).1) ∧ RM S' (uS X (xFi X (xNd X) (xDr X) (nI kl) (-1)).2 (xSu X) (xEd X)) ∧ frM S S')) := by
    intro S1 z1 e12 mr
    have h1 : RM S1 X := RM_Z w h z1 e12
    obtain ⟨T, hT⟩ := h1.pts w
    have eft := ftM_PT w T w.2.2.2.1.2
    have eR : (xFt X (xNd X) (xDr X)).1 = 0 → fst1 (fun q => q ≠ xNp X ∧ xTh X q = true ∧ nI (xLy X q) = nI kl ∧ ovP (vr (dbl (PT (PX X) T)) (xSt X (xNd X) (xDr X)) (xNd X)) (xNd X) (vr (dbl (PT (PX X) T)) (xRg X q) (xSz X q)) (xSz X q)) (xNp X) = fst1 (xOv X (xNd X) (xSt X (xNd X) (xDr X)) (nI kl) (-1)) (xNp X) := fun f0 => fst1_congr (fun q hq => by
      constructor
      · rintro ⟨-, a, b, d⟩
        rw [ov_PT w T (st_good w w.2.2.2.1.2 f0) a] at d
        exact ⟨nI_ne_m1 (by omega), a, b, d⟩
      · rintro ⟨-, a, b, d⟩
        rw [← ov_PT w T (st_good w w.2.2.2.1.2 f0) a] at d
        exact ⟨by omega, a, b, d⟩)
    refine x_aload_n eX9_close_60 rfl ?_
    refine s_callV1 (As := []) eX9_close_61 kX9_268 ⟨by decide, by decide⟩ rfl (by decide) (by decide) rfl rfl (Nat.le_of_ble_eq_true rfl) (Nat.le_of_ble_eq_true rfl) (sp_X9_faultOf _ hT mr w.2.2.2.1.2) (fun S_61 h_61 => ?_)
    rw [eft] at h_61 ⊢
    obtain ⟨wx, f12⟩ := h_61
    have z2 := z1.tr wx.zx
    refine x_istore_n (lv' := [_, _, _, _]) eX9_close_64 (by decide) rfl ?_
    refine x_iload_n eX9_close_65 rfl ?_
    refine x_if_eq eX9_close_66 (fun c_66 => ?_) (fun c_66 => ?_)
    · have f0 := c_66
      have sg := st_good w w.2.2.2.1.2 f0
      have e1 : S_61.1 0 14 = S1.1 0 14 := wx.2.1 14 (by decide)
      have mr2 : mrg S_61 (xNd X) (xDr X) := mr.zx e1 (by rw [wx.2.2.1])
      have hT2 : mps S_61 (xNc X) (dbl (PT (PX X) T)) := fun s hs => by
        obtain ⟨a1, a2, a3, a4, a5⟩ := hT s hs
        exact ⟨fun i hi => by rw [wx.2.2.2.2 3 (by decide)]; exact a1 i hi, fun i hi => by rw [wx.2.2.2.2 4 (by decide)]; exact a2 i hi, a3, a4, a5⟩
      refine x_aload_n eX9_close_71 rfl ?_
      refine s_callV0 (As := []) eX9_close_72 kX9_272 ⟨by decide, by decide⟩ rfl (by decide) (by decide) rfl rfl (Nat.le_of_ble_eq_true rfl) (Nat.le_of_ble_eq_true rfl) (sp_X9_turnLeft _ (hT2) mr2 w.2.2.2.1.2 (by have := sg.1; omega)) (fun S_72 h_72 => ?_)
      obtain ⟨x3, mr3⟩ := h_72
      rw [stM_PT w T w.2.2.2.1.2 f0] at mr3
      have z3 : Zx X S S_72 := z2.tr (Fx.zx (x3.mono (by simp) (by simp) (by simp) (by simp)) (fun f _ _ => by rw [x3.1 0 (by simp)]) (fun j _ => by rw [x3.2.1 15 (by simp)]) (fun j _ => by rw [x3.2.1 16 (by simp)]))
      have e16 : S_72.1 0 16 = nI (xNp X) := by rw [z3.1 16 (by decide)]; exact h.2.2.2.1.1
      refine x_aload_n eX9_close_75 rfl ?_
      refine x_aload_n eX9_close_76 rfl ?_
      refine s_geti eX9_close_77 fX9_224 rfl (by decide) (by decide) ?_
      rw [e16]
      refine s_callV0 (As := [_]) eX9_close_80 kX9_234 ⟨by decide, by decide⟩ rfl (by decide) (by decide) rfl rfl (Nat.le_of_ble_eq_true rfl) (Nat.le_of_ble_eq_true rfl) (sp_X9_store _ h60 mr3 sg.2.1) (fun S_80 h_80 => ?_)
      obtain ⟨x4, r15, r16⟩ := h_80
      have z4 : Zx X S S_80 := z3.tr (Fx.zx (x4.mono (by simp) (by simp) (by simp) (by simp)) (fun f _ _ => by rw [x4.1 0 (by simp)]) (fun j hj => by rw [r15, if_neg (by omega)]) (fun j hj => by rw [r16, if_neg (by omega)]))
      have e12b : S_80.1 0 12 = xWh X := by rw [x4.1 0 (by simp), x3.1 0 (by simp), f12, if_pos f0]; exact e12
      have h4 : RM S_80 X := RM_Z w h z4 e12b
      have mr4 : mrg S_80 (xNd X) (xSt X (xNd X) (xDr X)) := mr3.zx (by rw [x4.1 0 (by simp)]) (x4.2.1 10 (by simp))
      have pr : mpr S_80 (xNp X) (xNd X) (xSt X (xNd X) (xDr X)) := store_own h60 mr3 (by have := sg.1; omega) sg.2.1 r15 r16
      have hT4 : mps S_80 (xNc X) (dbl (PT (PX X) T)) := (hT2.fx x3 (by decide) (by decide)).fx x4 (by decide) (by decide)
      refine x_aload_n eX9_close_83 rfl ?_
      refine x_aload_n eX9_close_84 rfl ?_
      refine s_geti eX9_close_85 fX9_224 rfl (by decide) (by decide) ?_
      rw [show S_80.1 0 16 = nI (xNp X) by rw [x4.1 0 (by simp)]; exact e16]
      refine x_iload_n eX9_close_88 rfl ?_
      refine x_iconst (v := -1) eX9_close_89 (by decide) ?_
      refine s_callV1 (As := [_, _, _]) eX9_close_90 kX9_275 ⟨by decide, by decide⟩ rfl (by decide) (by decide) rfl rfl (Nat.le_of_ble_eq_true rfl) (Nat.le_of_ble_eq_true rfl) (sp_X9_overOf (show mtab S_80 (xNp X) (xTh X) (xLy X) (tOw (xTb X)) (xSz X) (xRg X) from h4.tab w) hT4 (MP_X w T) pr (good_RGd (good_PT w.1 sg)) (fun q _ t => RGd_X w t T) (nI kl) (-1) (Or.inl rfl)) (fun S_90 h_90 => ?_)
      rw [eR f0]
      have z5 := z4.tr h_90.zx
      have e12c : S_90.1 0 12 = xWh X := by rw [h_90.2.1 12 (by decide) (by decide) (by decide)]; exact e12b
      refine x_istore (lv' := [_, _, _, _, _]) eX9_close_93 (by decide) rfl ?_
      refine x_iload eX9_close_95 rfl ?_
      refine x_iconst (v := -1) eX9_close_97 (by decide) ?_
      refine x_icmp_eq eX9_close_98 (fun c_98 => ?_) (fun c_98 => ?_)
      · exfalso
        apply hf
        unfold xFi
        rw [if_neg (fun z => z f0)]
        rcases fst1_cases (xOv X (xNd X) (xSt X (xNd X) (xDr X)) (nI kl) (-1)) (xNp X) with ⟨q, hq, -, -, e⟩ | ⟨-, e⟩
        · simp only [e] at c_98; exact absurd c_98 (nI_ne_m1 (by omega))
        · simp only [e]
      · refine x_aload_n eX9_close_101 rfl ?_
        refine x_sipush (v := -204) eX9_close_102 (by decide) ?_
        refine x_iload eX9_close_105 rfl ?_
        refine s_callV1 (As := [_, _]) eX9_close_107 kX9_221 ⟨by decide, by decide⟩ rfl (by decide) (by decide) rfl rfl (Nat.le_of_ble_eq_true rfl) (Nat.le_of_ble_eq_true rfl) (sp_X9_fault _ _ _) (fun S_107 h_107 => ?_)
        subst h_107
        rcases fst1_cases (xOv X (xNd X) (xSt X (xNd X) (xDr X)) (nI kl) (-1)) (xNp X) with ⟨q, hq, -, -, e⟩ | ⟨-, e⟩
        · have ef : (xFi X (xNd X) (xDr X) (nI kl) (-1)) = (-204, nI q) := by unfold xFi; rw [if_neg (fun z => z f0)]; simp only [e]
          have z6 := z5.tr (Wx.zx (X := X) (Wx.set (S := S_90) (nI q)))
          refine s_iret eX9_close_110 rfl rfl ⟨?_, ?_, ?_⟩
          · rw [ef] <;> rfl
          · rw [ef]; simp only [e]; exact RM_Z w h z6 (by rw [setF_at, upd_at])
          · simp only [e]; exact z6.2.2.2.2.2.2
        · simp only [e] at c_98; exact absurd trivial c_98
    · refine x_iload_n eX9_close_69 rfl ?_
      have ef : (xFi X (xNd X) (xDr X) (nI kl) (-1)) = xFt X (xNd X) (xDr X) := by unfold xFi; rw [if_pos c_66]
      exact s_iret eX9_close_70 rfl rfl ⟨by rw [ef], RM_Z w h z2 (by rw [f12, if_neg c_66, ef]), z2.2.2.2.2.2.2⟩
  have loop : ∀ μ j, j + μ = (xNd X) → ∀ S1, (Fx [0] [10] [] [] S S1 ∧ (∀ f, f ≠ 14 → S1.1 0 f = S.1 0 f) ∧ S1.1 0 14 = nI (xNd X) ∧ ∀ i, i < j → S1.2.1 10 i = nI (xDr X i)) → XP mX9_close 34 [(3, .int (nI j)), (0, .ref 0), (1, .int (nI kl)), (2, .int o)] [] (xwS S1) (sQ (fun r S' => r = some (.int (xFi X (xNd X) (xDr X) (nI kl) (-1)).1) ∧ RM S' (uS X (xFi X (xNd X) (xDr X) (nI kl) (-1)).2 (xSu X) (xEd X)) ∧ frM S S')) := by
    intro μ
    induction μ with
    | zero =>
      intro j hk S1 h1
      obtain ⟨hx, fo, e14, r10⟩ := h1
      have e11 : S1.1 0 11 = nI (xNd X) := by rw [fo 11 (by decide)]; exact h.2.1.1
      refine x_iload_n eX9_close_34 rfl ?_
      refine x_aload_n eX9_close_35 rfl ?_
      refine s_geti eX9_close_36 fX9_212 rfl (by decide) (by decide) ?_
      rw [e11]
      refine x_icmp_geN eX9_close_39 (by omega) (by omega) (fun c_39 => ?_) (fun c_39 => ?_)
      · refine x_pick [1, 2, 3] rfl ?_
        refine z60 S1 (Fx.zx (hx.mono (by simp) (by simp) (by simp) (by simp)) (fun f a _ => fo f a) (fun i _ => by rw [hx.2.1 15 (by simp)]) (fun i _ => by rw [hx.2.1 16 (by simp)])) (by rw [fo 12 (by decide)]; exact h.2.2.1.1) ⟨e14, by omega, fun i hi => ⟨r10 i (by omega), by have := w.2.2.2.1.2 i hi; omega⟩⟩
      · omega
    | succ μ ih =>
      intro j hk S1 h1
      obtain ⟨hx, fo, e14, r10⟩ := h1
      have e11 : S1.1 0 11 = nI (xNd X) := by rw [fo 11 (by decide)]; exact h.2.1.1
      refine x_iload_n eX9_close_34 rfl ?_
      refine x_aload_n eX9_close_35 rfl ?_
      refine s_geti eX9_close_36 fX9_212 rfl (by decide) (by decide) ?_
      rw [e11]
      refine x_icmp_geN eX9_close_39 (by omega) (by omega) (fun c_39 => ?_) (fun c_39 => ?_)
      · omega
      · refine x_aload_n eX9_close_42 rfl ?_
        refine s_getR (k := 10) eX9_close_43 fX9_42 rfl (by decide) (by decide) rfl ?_
        refine x_iload_n eX9_close_46 rfl ?_
        refine x_aload_n eX9_close_47 rfl ?_
        refine s_getR (k := 9) eX9_close_48 fX9_38 rfl (by decide) (by decide) rfl ?_
        refine x_iload_n eX9_close_51 rfl ?_
        refine s_iald eX9_close_52 rfl (by decide) rfl (show _ < 20 by omega) ?_
        rw [hx.2.1 9 (by simp), h.2.1.2 j (by omega)]
        refine s_iast eX9_close_53 rfl (by decide) rfl (show _ < 24 by omega) ?_
        refine x_iinc (lv' := [_, _, _, _]) eX9_close_54 rfl (by first | exact nI_inc _ | exact rfl) (by decide) rfl ?_
        refine x_goto eX9_close_57 ?_
        refine x_pick [0, 1, 2, 3] rfl ?_
        refine ih (j + 1) (by omega) _ ⟨hx.tr (Fx.sI (by simp)), fo, e14, fun i hi => ?_⟩
        rw [setI_at]
        by_cases z : i = j
        · subst z; rw [upd_at]
        · rw [upd_ne _ _ z]; exact r10 i (by omega)
  show XP _ _ [_, _, _] _ _ _
  refine x_iload_n eX9_close_0 rfl ?_
  refine x_iconst (v := nI 0) eX9_close_1 (by decide) ?_
  refine x_iconst (v := nI 3) eX9_close_2 (by decide) ?_
  refine s_callS1 (As := [_, _, _]) eX9_close_3 kX9_173 ⟨by decide, by decide⟩ rfl rfl (Nat.le_of_ble_eq_true rfl) (Nat.le_of_ble_eq_true rfl) (sp_X9_in _ _ _ _) (fun S_3 h_3 => ?_)
  have h_3 := h_3.symm
  subst h_3
  rw [in03]
  refine x_if_neB eX9_close_6 (fun c_6 => ?_) (fun c_6 => ?_)
  · refine x_aload_n eX9_close_12 rfl ?_
    refine s_geti eX9_close_13 fX9_224 rfl (by decide) (by decide) ?_
    rw [h.2.2.2.1.1]
    refine x_bipush (v := nI 60) eX9_close_16 (by decide) ?_
    refine x_icmp_neN eX9_close_18 (by omega) (by omega) (fun c_18 => ?_) (fun c_18 => ?_)
    · refine x_aload_n eX9_close_24 rfl ?_
      refine x_aload_n eX9_close_25 rfl ?_
      refine s_geti eX9_close_26 fX9_212 rfl (by decide) (by decide) ?_
      rw [h.2.1.1]
      refine s_puti eX9_close_29 fX9_218 wX9_14 rfl (by decide) (by decide) ?_
      refine x_iconst (v := nI 0) eX9_close_32 (by decide) ?_
      refine x_istore_n (lv' := [_, _, _, _]) eX9_close_33 (by decide) rfl ?_
      refine x_pick [0, 1, 2, 3] rfl ?_
      exact loop (xNd X) 0 (by omega) _ ⟨Fx.sF (by simp), fun f hf => by rw [setF_at, upd_ne _ _ hf], by rw [setF_at, upd_at], fun i hi => by omega⟩
    · omega
  · exact absurd ⟨kl, hl, rfl⟩ (of_decide_eq_false c_6)
theorem m_close_yes {S : xS} {X : LM} (w : wf X) (h : RM S X) {kl : Nat} (hl : kl < 4) (o : Int32) (h60 : xNp X < 60) (hf : (xFi X (xNd X) (xDr X) (nI kl) (-1)).1 = 0) : Sp mX9_close [.ref 0, .int (nI kl), .int o] S (fun r S' => r = some (.int (nI (xNp X))) ∧ RM S' (uDr (uT X (xNp X + 1) (addT (xTb X) (xNp X) kl o (xNd X) (xSt X (xNd X) (xDr X)))) 0 (fun _ => 0)) ∧ frM S S') := by
  have n20 := w.2.2.2.1.1
  have n200 := w.1
  have z60 : ∀ S1, Zx X S S1 → S1.1 0 12 = xWh X → mrg S1 (xNd X) (xDr X) → XP mX9_close 60 [(0, .ref 0), (1, .int (nI kl)), (2, .int o)] [] (xwS S1) (sQ (fun r S' => r = some (.int (nI (xNp X))) ∧ RM S' (uDr (uT X (xNp X + 1) (addT (xTb X) (xNp X) kl o (xNd X) (xSt X (xNd X) (xDr X)))) 0 (fun _ => 0)) ∧ frM S S')) := by
    intro S1 z1 e12 mr
    have h1 : RM S1 X := RM_Z w h z1 e12
    obtain ⟨T, hT⟩ := h1.pts w
    have eft := ftM_PT w T w.2.2.2.1.2
    have eR : (xFt X (xNd X) (xDr X)).1 = 0 → fst1 (fun q => q ≠ xNp X ∧ xTh X q = true ∧ nI (xLy X q) = nI kl ∧ ovP (vr (dbl (PT (PX X) T)) (xSt X (xNd X) (xDr X)) (xNd X)) (xNd X) (vr (dbl (PT (PX X) T)) (xRg X q) (xSz X q)) (xSz X q)) (xNp X) = fst1 (xOv X (xNd X) (xSt X (xNd X) (xDr X)) (nI kl) (-1)) (xNp X) := fun f0 => fst1_congr (fun q hq => by
      constructor
      · rintro ⟨-, a, b, d⟩
        rw [ov_PT w T (st_good w w.2.2.2.1.2 f0) a] at d
        exact ⟨nI_ne_m1 (by omega), a, b, d⟩
      · rintro ⟨-, a, b, d⟩
        rw [← ov_PT w T (st_good w w.2.2.2.1.2 f0) a] at d
        exact ⟨by omega, a, b, d⟩)
    refine x_aload_n eX9_close_60 rfl ?_
    refine s_callV1 (As := []) eX9_close_61 kX9_268 ⟨by decide, by decide⟩ rfl (by decide) (by decide) rfl rfl (Nat.le_of_ble_eq_true rfl) (Nat.le_of_ble_eq_true rfl) (sp_X9_faultOf _ hT mr w.2.2.2.1.2) (fun S_61 h_61 => ?_)
    rw [eft] at h_61 ⊢
    obtain ⟨wx, f12⟩ := h_61
    have z2 := z1.tr wx.zx
    refine x_istore_n (lv' := [_, _, _, _]) eX9_close_64 (by decide) rfl ?_
    refine x_iload_n eX9_close_65 rfl ?_
    refine x_if_eq eX9_close_66 (fun c_66 => ?_) (fun c_66 => ?_)
    · have f0 := c_66
      have sg := st_good w w.2.2.2.1.2 f0
      have e1 : S_61.1 0 14 = S1.1 0 14 := wx.2.1 14 (by decide)
      have mr2 : mrg S_61 (xNd X) (xDr X) := mr.zx e1 (by rw [wx.2.2.1])
      have hT2 : mps S_61 (xNc X) (dbl (PT (PX X) T)) := fun s hs => by
        obtain ⟨a1, a2, a3, a4, a5⟩ := hT s hs
        exact ⟨fun i hi => by rw [wx.2.2.2.2 3 (by decide)]; exact a1 i hi, fun i hi => by rw [wx.2.2.2.2 4 (by decide)]; exact a2 i hi, a3, a4, a5⟩
      refine x_aload_n eX9_close_71 rfl ?_
      refine s_callV0 (As := []) eX9_close_72 kX9_272 ⟨by decide, by decide⟩ rfl (by decide) (by decide) rfl rfl (Nat.le_of_ble_eq_true rfl) (Nat.le_of_ble_eq_true rfl) (sp_X9_turnLeft _ (hT2) mr2 w.2.2.2.1.2 (by have := sg.1; omega)) (fun S_72 h_72 => ?_)
      obtain ⟨x3, mr3⟩ := h_72
      rw [stM_PT w T w.2.2.2.1.2 f0] at mr3
      have z3 : Zx X S S_72 := z2.tr (Fx.zx (x3.mono (by simp) (by simp) (by simp) (by simp)) (fun f _ _ => by rw [x3.1 0 (by simp)]) (fun j _ => by rw [x3.2.1 15 (by simp)]) (fun j _ => by rw [x3.2.1 16 (by simp)]))
      have e16 : S_72.1 0 16 = nI (xNp X) := by rw [z3.1 16 (by decide)]; exact h.2.2.2.1.1
      refine x_aload_n eX9_close_75 rfl ?_
      refine x_aload_n eX9_close_76 rfl ?_
      refine s_geti eX9_close_77 fX9_224 rfl (by decide) (by decide) ?_
      rw [e16]
      refine s_callV0 (As := [_]) eX9_close_80 kX9_234 ⟨by decide, by decide⟩ rfl (by decide) (by decide) rfl rfl (Nat.le_of_ble_eq_true rfl) (Nat.le_of_ble_eq_true rfl) (sp_X9_store _ h60 mr3 sg.2.1) (fun S_80 h_80 => ?_)
      obtain ⟨x4, r15, r16⟩ := h_80
      have z4 : Zx X S S_80 := z3.tr (Fx.zx (x4.mono (by simp) (by simp) (by simp) (by simp)) (fun f _ _ => by rw [x4.1 0 (by simp)]) (fun j hj => by rw [r15, if_neg (by omega)]) (fun j hj => by rw [r16, if_neg (by omega)]))
      have e12b : S_80.1 0 12 = xWh X := by rw [x4.1 0 (by simp), x3.1 0 (by simp), f12, if_pos f0]; exact e12
      have h4 : RM S_80 X := RM_Z w h z4 e12b
      have mr4 : mrg S_80 (xNd X) (xSt X (xNd X) (xDr X)) := mr3.zx (by rw [x4.1 0 (by simp)]) (x4.2.1 10 (by simp))
      have pr : mpr S_80 (xNp X) (xNd X) (xSt X (xNd X) (xDr X)) := store_own h60 mr3 (by have := sg.1; omega) sg.2.1 r15 r16
      have hT4 : mps S_80 (xNc X) (dbl (PT (PX X) T)) := (hT2.fx x3 (by decide) (by decide)).fx x4 (by decide) (by decide)
      refine x_aload_n eX9_close_83 rfl ?_
      refine x_aload_n eX9_close_84 rfl ?_
      refine s_geti eX9_close_85 fX9_224 rfl (by decide) (by decide) ?_
      rw [show S_80.1 0 16 = nI (xNp X) by rw [x4.1 0 (by simp)]; exact e16]
      refine x_iload_n eX9_close_88 rfl ?_
      refine x_iconst (v := -1) eX9_close_89 (by decide) ?_
      refine s_callV1 (As := [_, _, _]) eX9_close_90 kX9_275 ⟨by decide, by decide⟩ rfl (by decide) (by decide) rfl rfl (Nat.le_of_ble_eq_true rfl) (Nat.le_of_ble_eq_true rfl) (sp_X9_overOf (show mtab S_80 (xNp X) (xTh X) (xLy X) (tOw (xTb X)) (xSz X) (xRg X) from h4.tab w) hT4 (MP_X w T) pr (good_RGd (good_PT w.1 sg)) (fun q _ t => RGd_X w t T) (nI kl) (-1) (Or.inl rfl)) (fun S_90 h_90 => ?_)
      rw [eR f0]
      have z5 := z4.tr h_90.zx
      have e12c : S_90.1 0 12 = xWh X := by rw [h_90.2.1 12 (by decide) (by decide) (by decide)]; exact e12b
      refine x_istore (lv' := [_, _, _, _, _]) eX9_close_93 (by decide) rfl ?_
      refine x_iload eX9_close_95 rfl ?_
      refine x_iconst (v := -1) eX9_close_97 (by decide) ?_
      refine x_icmp_eq eX9_close_98 (fun c_98 => ?_) (fun c_98 => ?_)
      · refine x_aload_n eX9_close_111 rfl ?_
        refine s_callV0 (As := []) eX9_close_112 kX9_278 ⟨by decide, by decide⟩ rfl (by decide) (by decide) rfl rfl (Nat.le_of_ble_eq_true rfl) (Nat.le_of_ble_eq_true rfl) (sp_mkp w (show RM S_90 X from RM_Z w h z5 e12c)) (fun S_112 h_112 => ?_)
        have k1 := h_112
        refine x_aload_n eX9_close_115 rfl ?_
        refine x_iconst (v := nI 0) eX9_close_116 (by decide) ?_
        refine s_puti eX9_close_117 fX9_212 wX9_11 rfl (by decide) (by decide) ?_
        refine x_aload_n eX9_close_120 rfl ?_
        refine x_iload_n eX9_close_121 rfl ?_
        refine x_iload_n eX9_close_122 rfl ?_
        refine s_callV1 (As := [_, _]) eX9_close_123 kX9_281 ⟨by decide, by decide⟩ rfl (by decide) (by decide) rfl rfl (Nat.le_of_ble_eq_true rfl) (Nat.le_of_ble_eq_true rfl) (sp_X9_made (setF S_112 0 (upd (S_112.1 0) 11 (nI 0))) (show upd (S_112.1 0) 11 (nI 0) 16 = nI (xNp X) by rw [upd_ne _ _ (by decide), k1.2.2.1 16 (by decide) (by decide), z5.1 16 (by decide)]; exact h.2.2.2.1.1) h60 (mr4.zx (show upd (S_112.1 0) 11 (nI 0) 14 = S_80.1 0 14 by rw [upd_ne _ _ (by decide), k1.2.2.1 14 (by decide) (by decide), h_90.2.1 14 (by decide) (by decide) (by decide)]) (show S_112.2.1 10 = S_80.2.1 10 by rw [k1.1.2.1 10 (by simp), h_90.2.2.1 10 (by decide)])) sg.2.1 (nI kl) o) (fun S_123 h_123 => ?_)
        obtain ⟨x8, m16, mf, r12, r13, r14, r15b, r16b⟩ := h_123
        have h5 : RM S_90 X := RM_Z w h z5 e12c
        have h5d : RM (setF S_90 0 (upd (S_90.1 0) 11 (nI 0))) (uDr X 0 (fun _ => 0)) := RM_dr h5 (fun g hg => by rw [setF_at, upd_ne _ _ hg]) (fun _ _ => rfl) rfl (by rw [setF_at, upd_at]) (fun i hi => by omega)
        have wd : wf (uDr X 0 (fun _ => 0)) := wf_dr w (by omega) (fun i hi => by omega)
        have k2 : mkp (setF S_90 0 (upd (S_90.1 0) 11 (nI 0))) (uDr X 0 (fun _ => 0)) (setF S_112 0 (upd (S_112.1 0) 11 (nI 0))) := by
          refine ⟨⟨fun p hp => by rw [setF_ne _ _ (by simp at hp; omega), setF_ne _ _ (by simp at hp; omega)]; exact k1.1.1 p hp, fun p hp => k1.1.2.1 p hp, fun p hp => k1.1.2.2.1 p hp, fun p hp => k1.1.2.2.2 p hp⟩, by rw [setF_at, upd_ne _ _ (by decide)]; exact k1.2.1, fun f a b => ?_, k1.2.2.2.1, k1.2.2.2.2.1, k1.2.2.2.2.2⟩
          rw [setF_at, setF_at]
          by_cases z : f = 11
          · subst z; rw [upd_at, upd_at]
          · rw [upd_ne _ _ z, upd_ne _ _ z]; exact k1.2.2.1 f a b
        have fr : frM S S_123 := (z5.2.2.2.2.2.2.tr (k1.1.frM (by simp) (by simp) (by simp) (by simp))).tr (((Fx.sF (S := S_112) (p := 0) (g := upd (S_112.1 0) 11 (nI 0)) (fs := [0]) (is := []) (ls := []) (ds := []) (by simp)).frM (by simp) (by simp) (by simp) (by simp)).tr (x8.frM (by simp) (by simp) (by simp) (by simp)))
        have own := add_own (xTb X) (xNp X) kl o (xNd X) (xSt X (xNd X) (xDr X))
        refine s_iret eX9_close_126 rfl rfl ⟨rfl, RM_mut (t := addT (xTb X) (xNp X) kl o (xNd X) (xSt X (xNd X) (xDr X))) wd h5d k2 (x8.mono (by simp) (by simp) (by simp) (by simp)) (fun f _ b => mf f b) m16 (fun e he => ?_), fr⟩
        by_cases z : e = xNp X
        · subst z
          refine ⟨by rw [r12, if_pos rfl, own.1]; rfl, fun _ => ?_⟩
          rw [own.2.1, own.2.2.1, own.2.2.2.1, own.2.2.2.2]
          exact ⟨by rw [r13, if_pos rfl], by rw [r14, if_pos rfl], by rw [r15b, if_pos rfl], fun i hi => by rw [r16b, if_pos (by omega), show 12 * xNp X + i - 12 * xNp X = i by omega]⟩
        · have m := h5.2.2.2.1.2 e (by omega)
          have ir : ∀ r, r ∉ [17, 18, 19, 20, 21] → S_112.2.1 r = S_90.2.1 r := fun r hr => k1.1.2.1 r hr
          refine ment_ag (add_ag z) ⟨by rw [r12, if_neg z]; show S_112.2.1 12 e = _; rw [ir 12 (by decide)]; exact m.1, fun q => ?_⟩
          have b := m.2 q
          have sz := (wf_good w q).2.1
          refine ⟨by rw [r13, if_neg z]; show S_112.2.1 13 e = _; rw [ir 13 (by decide)]; exact b.1, by rw [r14, if_neg z]; show S_112.2.1 14 e = _; rw [ir 14 (by decide)]; exact b.2.1, by rw [r15b, if_neg z]; show S_112.2.1 15 e = _; rw [ir 15 (by decide)]; exact b.2.2.1, fun i hi => ?_⟩
          have hi : i < tSz (xTb X) e := hi
          rw [r16b, if_neg (by omega)]
          show S_112.2.1 16 _ = _
          rw [ir 16 (by decide)]; exact b.2.2.2 i hi
      · exfalso
        have hf2 := hf
        unfold xFi at hf2
        rw [if_neg (fun z => z f0)] at hf2
        rcases fst1_cases (xOv X (xNd X) (xSt X (xNd X) (xDr X)) (nI kl) (-1)) (xNp X) with ⟨q, hq, -, -, e⟩ | ⟨-, e⟩
        · simp only [e] at hf2; exact absurd hf2 (by decide)
        · simp only [e] at c_98; exact absurd trivial c_98
    · exact absurd (FI_ft hf) c_66
  have loop : ∀ μ j, j + μ = (xNd X) → ∀ S1, (Fx [0] [10] [] [] S S1 ∧ (∀ f, f ≠ 14 → S1.1 0 f = S.1 0 f) ∧ S1.1 0 14 = nI (xNd X) ∧ ∀ i, i < j → S1.2.1 10 i = nI (xDr X i)) → XP mX9_close 34 [(3, .int (nI j)), (0, .ref 0), (1, .int (nI kl)), (2, .int o)] [] (xwS S1) (sQ (fun r S' => r = some (.int (nI (xNp X))) ∧ RM S' (uDr (uT X (xNp X + 1) (addT (xTb X) (xNp X) kl o (xNd X) (xSt X (xNd X) (xDr X)))) 0 (fun _ => 0)) ∧ frM S S')) := by
    intro μ
    induction μ with
    | zero =>
      intro j hk S1 h1
      obtain ⟨hx, fo, e14, r10⟩ := h1
      have e11 : S1.1 0 11 = nI (xNd X) := by rw [fo 11 (by decide)]; exact h.2.1.1
      refine x_iload_n eX9_close_34 rfl ?_
      refine x_aload_n eX9_close_35 rfl ?_
      refine s_geti eX9_close_36 fX9_212 rfl (by decide) (by decide) ?_
      rw [e11]
      refine x_icmp_geN eX9_close_39 (by omega) (by omega) (fun c_39 => ?_) (fun c_39 => ?_)
      · refine x_pick [1, 2, 3] rfl ?_
        refine z60 S1 (Fx.zx (hx.mono (by simp) (by simp) (by simp) (by simp)) (fun f a _ => fo f a) (fun i _ => by rw [hx.2.1 15 (by simp)]) (fun i _ => by rw [hx.2.1 16 (by simp)])) (by rw [fo 12 (by decide)]; exact h.2.2.1.1) ⟨e14, by omega, fun i hi => ⟨r10 i (by omega), by have := w.2.2.2.1.2 i hi; omega⟩⟩
      · omega
    | succ μ ih =>
      intro j hk S1 h1
      obtain ⟨hx, fo, e14, r10⟩ := h1
      have e11 : S1.1 0 11 = nI (xNd X) := by rw [fo 11 (by decide)]; exact h.2.1.1
      refine x_iload_n eX9_close_34 rfl ?_
      refine x_aload_n eX9_close_35 rfl ?_
      refine s_geti eX9_close_36 fX9_212 rfl (by decide) (by decide) ?_
      rw [e11]
      refine x_icmp_geN eX9_close_39 (by omega) (by omega) (fun c_39 => ?_) (fun c_39 => ?_)
      · omega
      · refine x_aload_n eX9_close_42 rfl ?_
        refine s_getR (k := 10) eX9_close_43 fX9_42 rfl (by decide) (by decide) rfl ?_
        refine x_iload_n eX9_close_46 rfl ?_
        refine x_aload_n eX9_close_47 rfl ?_
        refine s_getR (k := 9) eX9_close_48 fX9_38 rfl (by decide) (by decide) rfl ?_
        refine x_iload_n eX9_close_51 rfl ?_
        refine s_iald eX9_close_52 rfl (by decide) rfl (show _ < 20 by omega) ?_
        rw [hx.2.1 9 (by simp), h.2.1.2 j (by omega)]
        refine s_iast eX9_close_53 rfl (by decide) rfl (show _ < 24 by omega) ?_
        refine x_iinc (lv' := [_, _, _, _]) eX9_close_54 rfl (by first | exact nI_inc _ | exact rfl) (by decide) rfl ?_
        refine x_goto eX9_close_57 ?_
        refine x_pick [0, 1, 2, 3] rfl ?_
        refine ih (j + 1) (by omega) _ ⟨hx.tr (Fx.sI (by simp)), fo, e14, fun i hi => ?_⟩
        rw [setI_at]
        by_cases z : i = j
        · subst z; rw [upd_at]
        · rw [upd_ne _ _ z]; exact r10 i (by omega)
  show XP _ _ [_, _, _] _ _ _
  refine x_iload_n eX9_close_0 rfl ?_
  refine x_iconst (v := nI 0) eX9_close_1 (by decide) ?_
  refine x_iconst (v := nI 3) eX9_close_2 (by decide) ?_
  refine s_callS1 (As := [_, _, _]) eX9_close_3 kX9_173 ⟨by decide, by decide⟩ rfl rfl (Nat.le_of_ble_eq_true rfl) (Nat.le_of_ble_eq_true rfl) (sp_X9_in _ _ _ _) (fun S_3 h_3 => ?_)
  have h_3 := h_3.symm
  subst h_3
  rw [in03]
  refine x_if_neB eX9_close_6 (fun c_6 => ?_) (fun c_6 => ?_)
  · refine x_aload_n eX9_close_12 rfl ?_
    refine s_geti eX9_close_13 fX9_224 rfl (by decide) (by decide) ?_
    rw [h.2.2.2.1.1]
    refine x_bipush (v := nI 60) eX9_close_16 (by decide) ?_
    refine x_icmp_neN eX9_close_18 (by omega) (by omega) (fun c_18 => ?_) (fun c_18 => ?_)
    · refine x_aload_n eX9_close_24 rfl ?_
      refine x_aload_n eX9_close_25 rfl ?_
      refine s_geti eX9_close_26 fX9_212 rfl (by decide) (by decide) ?_
      rw [h.2.1.1]
      refine s_puti eX9_close_29 fX9_218 wX9_14 rfl (by decide) (by decide) ?_
      refine x_iconst (v := nI 0) eX9_close_32 (by decide) ?_
      refine x_istore_n (lv' := [_, _, _, _]) eX9_close_33 (by decide) rfl ?_
      refine x_pick [0, 1, 2, 3] rfl ?_
      exact loop (xNd X) 0 (by omega) _ ⟨Fx.sF (by simp), fun f hf => by rw [setF_at, upd_ne _ _ hf], by rw [setF_at, upd_at], fun i hi => by omega⟩
    · omega
  · exact absurd ⟨kl, hl, rfl⟩ (of_decide_eq_false c_6)
theorem b_close {X : LM} (w : wf X) (l o : Int32) : both X mX8_close mX9_close [.int l, .int o] := by
  have n60 : xNp X ≤ 60 := w.2.2.2.2.1.1
  by_cases zl : ∃ k : Nat, k < 4 ∧ l = nI k
  rotate_left
  · refine ⟨.int (-102), X, w, fun S h => ?_, fun S h => ?_⟩
    · show XP _ _ [_, _, _] _ _ _
      refine x_iload_n eX8_close_0 rfl ?_
      refine s_callS1 (As := [_]) eX8_close_1 kX8_125 ⟨by decide, by decide⟩ rfl rfl (Nat.le_of_ble_eq_true rfl) (Nat.le_of_ble_eq_true rfl) (sp_X8_isLayer _ _) (fun S_1 h_1 => ?_)
      have h_1 := h_1.symm
      subst h_1
      refine x_if_neT eX8_close_4 (fun c_4 => ?_) (fun c_4 => ?_)
      · exact absurd c_4 zl
      · refine x_bipush (v := -102) eX8_close_7 (by decide) ?_
        exact s_iret eX8_close_9 rfl rfl ⟨rfl, h, frC.rf _⟩
    · show XP _ _ [_, _, _] _ _ _
      refine x_iload_n eX9_close_0 rfl ?_
      refine x_iconst (v := nI 0) eX9_close_1 (by decide) ?_
      refine x_iconst (v := nI 3) eX9_close_2 (by decide) ?_
      refine s_callS1 (As := [_, _, _]) eX9_close_3 kX9_173 ⟨by decide, by decide⟩ rfl rfl (Nat.le_of_ble_eq_true rfl) (Nat.le_of_ble_eq_true rfl) (sp_X9_in _ _ _ _) (fun S_3 h_3 => ?_)
      have h_3 := h_3.symm
      subst h_3
      rw [in03]
      refine x_if_neB eX9_close_6 (fun c_6 => ?_) (fun c_6 => ?_)
      · exact absurd (of_decide_eq_true c_6) zl
      · refine x_bipush (v := -102) eX9_close_9 (by decide) ?_
        exact s_iret eX9_close_11 rfl rfl ⟨rfl, h, frM.rf _⟩
  obtain ⟨kl, hl, rfl⟩ := zl
  by_cases h60 : xNp X < 60
  rotate_left
  · refine ⟨.int (-104), X, w, fun S h => ?_, fun S h => ?_⟩
    · show XP _ _ [_, _, _] _ _ _
      refine x_iload_n eX8_close_0 rfl ?_
      refine s_callS1 (As := [_]) eX8_close_1 kX8_125 ⟨by decide, by decide⟩ rfl rfl (Nat.le_of_ble_eq_true rfl) (Nat.le_of_ble_eq_true rfl) (sp_X8_isLayer _ _) (fun S_1 h_1 => ?_)
      have h_1 := h_1.symm
      subst h_1
      refine x_if_neT eX8_close_4 (fun c_4 => ?_) (fun c_4 => ?_)
      · refine x_aload_n eX8_close_10 rfl ?_
        refine s_getR (k := 37) eX8_close_11 fX8_28 rfl (by decide) (by decide) rfl ?_
        refine s_callV1 (As := []) eX8_close_14 kX8_128 ⟨by decide, by decide⟩ rfl (by decide) (by decide) rfl rfl (Nat.le_of_ble_eq_true rfl) (Nat.le_of_ble_eq_true rfl) (sp_X3_hasRoom (h.tab w)) (fun S_14 h_14 => ?_)
        have h_14 := h_14.symm
        subst h_14
        refine x_if_neT eX8_close_17 (fun c_17 => ?_) (fun c_17 => ?_)
        · exact absurd c_17 h60
        · refine x_bipush (v := -104) eX8_close_20 (by decide) ?_
          exact s_iret eX8_close_22 rfl rfl ⟨rfl, h, frC.rf _⟩
      · exact absurd ⟨kl, hl, rfl⟩ c_4
    · show XP _ _ [_, _, _] _ _ _
      refine x_iload_n eX9_close_0 rfl ?_
      refine x_iconst (v := nI 0) eX9_close_1 (by decide) ?_
      refine x_iconst (v := nI 3) eX9_close_2 (by decide) ?_
      refine s_callS1 (As := [_, _, _]) eX9_close_3 kX9_173 ⟨by decide, by decide⟩ rfl rfl (Nat.le_of_ble_eq_true rfl) (Nat.le_of_ble_eq_true rfl) (sp_X9_in _ _ _ _) (fun S_3 h_3 => ?_)
      have h_3 := h_3.symm
      subst h_3
      rw [in03]
      refine x_if_neB eX9_close_6 (fun c_6 => ?_) (fun c_6 => ?_)
      · refine x_aload_n eX9_close_12 rfl ?_
        refine s_geti eX9_close_13 fX9_224 rfl (by decide) (by decide) ?_
        rw [h.2.2.2.1.1]
        refine x_bipush (v := nI 60) eX9_close_16 (by decide) ?_
        refine x_icmp_neN eX9_close_18 (by omega) (by omega) (fun c_18 => ?_) (fun c_18 => ?_)
        · omega
        · refine x_bipush (v := -104) eX9_close_21 (by decide) ?_
          exact s_iret eX9_close_23 rfl rfl ⟨rfl, h, frM.rf _⟩
      · exact absurd ⟨kl, hl, rfl⟩ (of_decide_eq_false c_6)
  by_cases hf : (xFi X (xNd X) (xDr X) (nI kl) (-1)).1 = 0
  · exact ⟨.int (nI (xNp X)), uDr (uT X (xNp X + 1) (addT (xTb X) (xNp X) kl o (xNd X) (xSt X (xNd X) (xDr X)))) 0 (fun _ => 0), wf_dr (wf_add w h60 hl (st_good w w.2.2.2.1.2 (FI_ft hf))) (by omega) (fun i hi => by omega), fun S h => c_close_yes w h hl o h60 hf, fun S h => m_close_yes w h hl o h60 hf⟩
  · exact ⟨.int (xFi X (xNd X) (xDr X) (nI kl) (-1)).1, uS X (xFi X (xNd X) (xDr X) (nI kl) (-1)).2 (xSu X) (xEd X), wf_uS w _ _ _, fun S h => c_close_no w h hl o h60 hf, fun S h => m_close_no w h hl o h60 hf⟩
