/-! ===== the reference's keep ===== -/
theorem sp_X9_keep {S : xS} {np : Nat} {th : Nat → Bool} {ly : Nat → Nat} {ow : Nat → Int32} {sz : Nat → Nat} {rg : Nat → Nat → Nat} (h : mtab S np th ly ow sz rg) : Sp mX9_keep [.ref 0] S (fun r S' => r = none ∧ Fx [0] [17, 18, 19, 20, 21] [] [] S S' ∧ S'.1 0 22 = 1 ∧ (∀ f, f ≠ 22 → f ≠ 23 → S'.1 0 f = S.1 0 f) ∧ (∀ j, j < 60 → S'.2.1 17 j = bI (decide (j < np) && th j)) ∧ (∀ j, j < 60 → S'.2.1 18 j = S.2.1 13 j ∧ S'.2.1 19 j = S.2.1 14 j ∧ S'.2.1 20 j = S.2.1 15 j) ∧ ∀ j, j < 720 → S'.2.1 21 j = S.2.1 16 j) := by
  have n60 := h.2.1
  have loop2 : ∀ μ k, k + μ = 720 → ∀ S1, (Fx [0] [17, 18, 19, 20, 21] [] [] S S1 ∧ S1.1 0 22 = 1 ∧ (∀ f, f ≠ 22 → f ≠ 23 → S1.1 0 f = S.1 0 f) ∧ (∀ j, j < 60 → S1.2.1 17 j = bI (decide (j < np) && th j)) ∧ (∀ j, j < 60 → S1.2.1 18 j = S.2.1 13 j ∧ S1.2.1 19 j = S.2.1 14 j ∧ S1.2.1 20 j = S.2.1 15 j) ∧ ∀ j, j < k → S1.2.1 21 j = S.2.1 16 j) → XP mX9_keep 93 [(1, .int (nI k)), (0, .ref 0)] [] (xwS S1) (sQ (fun r S' => r = none ∧ Fx [0] [17, 18, 19, 20, 21] [] [] S S' ∧ S'.1 0 22 = 1 ∧ (∀ f, f ≠ 22 → f ≠ 23 → S'.1 0 f = S.1 0 f) ∧ (∀ j, j < 60 → S'.2.1 17 j = bI (decide (j < np) && th j)) ∧ (∀ j, j < 60 → S'.2.1 18 j = S.2.1 13 j ∧ S'.2.1 19 j = S.2.1 14 j ∧ S'.2.1 20 j = S.2.1 15 j) ∧ ∀ j, j < 720 → S'.2.1 21 j = S.2.1 16 j)) := by
    intro μ
    induction μ with
    | zero =>
      intro k hk S1 h1
      obtain ⟨hx, f22, fo, a1, a2, a3⟩ := h1
      refine x_iload_n eX9_keep_93 rfl ?_
      refine x_sipush (v := nI 720) eX9_keep_94 (by decide) ?_
      refine x_icmp_geN eX9_keep_97 (by omega) (by omega) (fun c_97 => ?_) (fun c_97 => ?_)
      · exact s_vret eX9_keep_118 rfl ⟨rfl, hx, f22, fo, a1, a2, fun j hj => a3 j (by omega)⟩
      · omega
    | succ μ ih =>
      intro k hk S1 h1
      obtain ⟨hx, f22, fo, a1, a2, a3⟩ := h1
      refine x_iload_n eX9_keep_93 rfl ?_
      refine x_sipush (v := nI 720) eX9_keep_94 (by decide) ?_
      refine x_icmp_geN eX9_keep_97 (by omega) (by omega) (fun c_97 => ?_) (fun c_97 => ?_)
      · omega
      · refine x_aload_n eX9_keep_100 rfl ?_
        refine s_getR (k := 21) eX9_keep_101 fX9_76 rfl (by decide) (by decide) rfl ?_
        refine x_iload_n eX9_keep_104 rfl ?_
        refine x_aload_n eX9_keep_105 rfl ?_
        refine s_getR (k := 16) eX9_keep_106 fX9_61 rfl (by decide) (by decide) rfl ?_
        refine x_iload_n eX9_keep_109 rfl ?_
        refine s_iald eX9_keep_110 rfl (by decide) rfl (show _ < 720 by omega) ?_
        rw [hx.2.1 16 (by simp)]
        refine s_iast eX9_keep_111 rfl (by decide) rfl (show _ < 720 by omega) ?_
        refine x_iinc (lv' := [_, _]) eX9_keep_112 rfl (by first | exact nI_inc _ | exact rfl) (by decide) rfl ?_
        refine x_goto eX9_keep_115 ?_
        refine x_pick [0, 1] rfl ?_
        refine ih (k + 1) (by omega) _ ⟨hx.tr (Fx.sI (by simp)), f22, fo, fun j hj => by rw [setI_ne _ _ (by decide)]; exact a1 j hj, fun j hj => by rw [setI_ne _ _ (by decide), setI_ne _ _ (by decide), setI_ne _ _ (by decide)]; exact a2 j hj, fun j hj => ?_⟩
        rw [setI_at]
        by_cases q : j = k
        · subst q; rw [upd_at]
        · rw [upd_ne _ _ q]; exact a3 j (by omega)
  have loop : ∀ μ k, k + μ = 60 → ∀ S1, (Fx [0] [17, 18, 19, 20, 21] [] [] S S1 ∧ S1.1 0 22 = 1 ∧ (∀ f, f ≠ 22 → f ≠ 23 → S1.1 0 f = S.1 0 f) ∧ (∀ j, j < k → S1.2.1 17 j = bI (decide (j < np) && th j)) ∧ ∀ j, j < k → S1.2.1 18 j = S.2.1 13 j ∧ S1.2.1 19 j = S.2.1 14 j ∧ S1.2.1 20 j = S.2.1 15 j) → XP mX9_keep 15 [(1, .int (nI k)), (0, .ref 0)] [] (xwS S1) (sQ (fun r S' => r = none ∧ Fx [0] [17, 18, 19, 20, 21] [] [] S S' ∧ S'.1 0 22 = 1 ∧ (∀ f, f ≠ 22 → f ≠ 23 → S'.1 0 f = S.1 0 f) ∧ (∀ j, j < 60 → S'.2.1 17 j = bI (decide (j < np) && th j)) ∧ (∀ j, j < 60 → S'.2.1 18 j = S.2.1 13 j ∧ S'.2.1 19 j = S.2.1 14 j ∧ S'.2.1 20 j = S.2.1 15 j) ∧ ∀ j, j < 720 → S'.2.1 21 j = S.2.1 16 j)) := by
    intro μ
    induction μ with
    | zero =>
      intro k hk S1 h1
      obtain ⟨hx, f22, fo, a1, a2⟩ := h1
      have e16 : S1.1 0 16 = nI np := by rw [fo 16 (by decide) (by decide)]; exact h.1
      refine x_iload_n eX9_keep_15 rfl ?_
      refine x_bipush (v := nI 60) eX9_keep_16 (by decide) ?_
      refine x_icmp_geN eX9_keep_18 (by omega) (by omega) (fun c_18 => ?_) (fun c_18 => ?_)
      · refine x_iconst (v := nI 0) eX9_keep_91 (by decide) ?_
        refine x_istore_n (lv' := [_, _]) eX9_keep_92 (by decide) rfl ?_
        refine x_pick [0, 1] rfl ?_
        exact loop2 720 0 (by omega) _ ⟨hx, f22, fo, fun j hj => a1 j (by omega), fun j hj => a2 j (by omega), fun j hj => by omega⟩
      · omega
    | succ μ ih =>
      intro k hk S1 h1
      obtain ⟨hx, f22, fo, a1, a2⟩ := h1
      have e16 : S1.1 0 16 = nI np := by rw [fo 16 (by decide) (by decide)]; exact h.1
      refine x_iload_n eX9_keep_15 rfl ?_
      refine x_bipush (v := nI 60) eX9_keep_16 (by decide) ?_
      refine x_icmp_geN eX9_keep_18 (by omega) (by omega) (fun c_18 => ?_) (fun c_18 => ?_)
      · omega
      · refine x_aload_n eX9_keep_21 rfl ?_
        refine s_getR (k := 17) eX9_keep_22 fX9_64 rfl (by decide) (by decide) rfl ?_
        refine x_iload_n eX9_keep_25 rfl ?_
        refine x_iload_n eX9_keep_26 rfl ?_
        refine x_aload_n eX9_keep_27 rfl ?_
        refine s_geti eX9_keep_28 fX9_224 rfl (by decide) (by decide) ?_
        rw [e16]
        refine x_icmp_geN eX9_keep_31 (by omega) (by omega) (fun c_31 => ?_) (fun c_31 => ?_)
        · refine x_iconst (v := nI 0) eX9_keep_47 (by decide) ?_
          refine s_zast eX9_keep_48 rfl (by decide) rfl (show _ < 60 by omega) (by first | exact Or.inl rfl | exact Or.inr rfl | exact bI_01 _) ?_
          refine x_aload_n eX9_keep_49 rfl ?_
          refine s_getR (k := 18) eX9_keep_50 fX9_67 rfl (by decide) (by decide) rfl ?_
          refine x_iload_n eX9_keep_53 rfl ?_
          refine x_aload_n eX9_keep_54 rfl ?_
          refine s_getR (k := 13) eX9_keep_55 fX9_52 rfl (by decide) (by decide) rfl ?_
          refine x_iload_n eX9_keep_58 rfl ?_
          refine s_iald eX9_keep_59 rfl (by decide) rfl (show _ < 60 by omega) ?_
          rw [setI_ne _ _ (by decide), hx.2.1 13 (by simp)]
          refine s_iast eX9_keep_60 rfl (by decide) rfl (show _ < 60 by omega) ?_
          refine x_aload_n eX9_keep_61 rfl ?_
          refine s_getR (k := 19) eX9_keep_62 fX9_70 rfl (by decide) (by decide) rfl ?_
          refine x_iload_n eX9_keep_65 rfl ?_
          refine x_aload_n eX9_keep_66 rfl ?_
          refine s_getR (k := 14) eX9_keep_67 fX9_55 rfl (by decide) (by decide) rfl ?_
          refine x_iload_n eX9_keep_70 rfl ?_
          refine s_iald eX9_keep_71 rfl (by decide) rfl (show _ < 60 by omega) ?_
          rw [setI_ne _ _ (by decide), setI_ne _ _ (by decide), hx.2.1 14 (by simp)]
          refine s_iast eX9_keep_72 rfl (by decide) rfl (show _ < 60 by omega) ?_
          refine x_aload_n eX9_keep_73 rfl ?_
          refine s_getR (k := 20) eX9_keep_74 fX9_73 rfl (by decide) (by decide) rfl ?_
          refine x_iload_n eX9_keep_77 rfl ?_
          refine x_aload_n eX9_keep_78 rfl ?_
          refine s_getR (k := 15) eX9_keep_79 fX9_58 rfl (by decide) (by decide) rfl ?_
          refine x_iload_n eX9_keep_82 rfl ?_
          refine s_iald eX9_keep_83 rfl (by decide) rfl (show _ < 60 by omega) ?_
          rw [setI_ne _ _ (by decide), setI_ne _ _ (by decide), setI_ne _ _ (by decide), hx.2.1 15 (by simp)]
          refine s_iast eX9_keep_84 rfl (by decide) rfl (show _ < 60 by omega) ?_
          refine x_iinc (lv' := [_, _]) eX9_keep_85 rfl (by first | exact nI_inc _ | exact rfl) (by decide) rfl ?_
          refine x_goto eX9_keep_88 ?_
          refine x_pick [0, 1] rfl ?_
          refine ih (k + 1) (by omega) _ ⟨(((hx.tr (Fx.sI (by simp))).tr (Fx.sI (by simp))).tr (Fx.sI (by simp))).tr (Fx.sI (by simp)), f22, fo, fun j hj => ?_, fun j hj => ?_⟩
          · rw [setI_ne _ _ (by decide), setI_ne _ _ (by decide), setI_ne _ _ (by decide), setI_at]
            by_cases q : j = k
            · subst q; rw [upd_at]
              first
                | (rw [decide_eq_false (by omega)]; rfl)
                | (rw [decide_eq_true (by omega), c_40]; rfl)
            · rw [upd_ne _ _ q]; exact a1 j (by omega)
          · by_cases q : j = k
            · subst q
              refine ⟨?_, ?_, ?_⟩
              · rw [setI_ne _ _ (by decide), setI_ne _ _ (by decide), setI_at, upd_at]
              · rw [setI_ne _ _ (by decide), setI_at, upd_at]
              · rw [setI_at, upd_at]
            · have b := a2 j (by omega)
              refine ⟨?_, ?_, ?_⟩
              · rw [setI_ne _ _ (by decide), setI_ne _ _ (by decide), setI_at, upd_ne _ _ q, setI_ne _ _ (by decide)]; exact b.1
              · rw [setI_ne _ _ (by decide), setI_at, upd_ne _ _ q, setI_ne _ _ (by decide), setI_ne _ _ (by decide)]; exact b.2.1
              · rw [setI_at, upd_ne _ _ q, setI_ne _ _ (by decide), setI_ne _ _ (by decide), setI_ne _ _ (by decide)]; exact b.2.2
        · refine x_aload_n eX9_keep_34 rfl ?_
          refine s_getR (k := 12) eX9_keep_35 fX9_48 rfl (by decide) (by decide) rfl ?_
          refine x_iload_n eX9_keep_38 rfl ?_
          refine s_zald eX9_keep_39 rfl (by decide) rfl (show _ < 60 by omega) ?_
          rw [hx.2.1 12 (by simp), (h.2.2 k (by omega)).1]
          refine x_if_eqB eX9_keep_40 (fun c_40 => ?_) (fun c_40 => ?_)
          · refine x_iconst (v := nI 0) eX9_keep_47 (by decide) ?_
            refine s_zast eX9_keep_48 rfl (by decide) rfl (show _ < 60 by omega) (by first | exact Or.inl rfl | exact Or.inr rfl | exact bI_01 _) ?_
            refine x_aload_n eX9_keep_49 rfl ?_
            refine s_getR (k := 18) eX9_keep_50 fX9_67 rfl (by decide) (by decide) rfl ?_
            refine x_iload_n eX9_keep_53 rfl ?_
            refine x_aload_n eX9_keep_54 rfl ?_
            refine s_getR (k := 13) eX9_keep_55 fX9_52 rfl (by decide) (by decide) rfl ?_
            refine x_iload_n eX9_keep_58 rfl ?_
            refine s_iald eX9_keep_59 rfl (by decide) rfl (show _ < 60 by omega) ?_
            rw [setI_ne _ _ (by decide), hx.2.1 13 (by simp)]
            refine s_iast eX9_keep_60 rfl (by decide) rfl (show _ < 60 by omega) ?_
            refine x_aload_n eX9_keep_61 rfl ?_
            refine s_getR (k := 19) eX9_keep_62 fX9_70 rfl (by decide) (by decide) rfl ?_
            refine x_iload_n eX9_keep_65 rfl ?_
            refine x_aload_n eX9_keep_66 rfl ?_
            refine s_getR (k := 14) eX9_keep_67 fX9_55 rfl (by decide) (by decide) rfl ?_
            refine x_iload_n eX9_keep_70 rfl ?_
            refine s_iald eX9_keep_71 rfl (by decide) rfl (show _ < 60 by omega) ?_
            rw [setI_ne _ _ (by decide), setI_ne _ _ (by decide), hx.2.1 14 (by simp)]
            refine s_iast eX9_keep_72 rfl (by decide) rfl (show _ < 60 by omega) ?_
            refine x_aload_n eX9_keep_73 rfl ?_
            refine s_getR (k := 20) eX9_keep_74 fX9_73 rfl (by decide) (by decide) rfl ?_
            refine x_iload_n eX9_keep_77 rfl ?_
            refine x_aload_n eX9_keep_78 rfl ?_
            refine s_getR (k := 15) eX9_keep_79 fX9_58 rfl (by decide) (by decide) rfl ?_
            refine x_iload_n eX9_keep_82 rfl ?_
            refine s_iald eX9_keep_83 rfl (by decide) rfl (show _ < 60 by omega) ?_
            rw [setI_ne _ _ (by decide), setI_ne _ _ (by decide), setI_ne _ _ (by decide), hx.2.1 15 (by simp)]
            refine s_iast eX9_keep_84 rfl (by decide) rfl (show _ < 60 by omega) ?_
            refine x_iinc (lv' := [_, _]) eX9_keep_85 rfl (by first | exact nI_inc _ | exact rfl) (by decide) rfl ?_
            refine x_goto eX9_keep_88 ?_
            refine x_pick [0, 1] rfl ?_
            refine ih (k + 1) (by omega) _ ⟨(((hx.tr (Fx.sI (by simp))).tr (Fx.sI (by simp))).tr (Fx.sI (by simp))).tr (Fx.sI (by simp)), f22, fo, fun j hj => ?_, fun j hj => ?_⟩
            · rw [setI_ne _ _ (by decide), setI_ne _ _ (by decide), setI_ne _ _ (by decide), setI_at]
              by_cases q : j = k
              · subst q; rw [upd_at]
                first
                  | (rw [decide_eq_false (by omega)]; rfl)
                  | (rw [decide_eq_true (by omega), c_40]; rfl)
              · rw [upd_ne _ _ q]; exact a1 j (by omega)
            · by_cases q : j = k
              · subst q
                refine ⟨?_, ?_, ?_⟩
                · rw [setI_ne _ _ (by decide), setI_ne _ _ (by decide), setI_at, upd_at]
                · rw [setI_ne _ _ (by decide), setI_at, upd_at]
                · rw [setI_at, upd_at]
              · have b := a2 j (by omega)
                refine ⟨?_, ?_, ?_⟩
                · rw [setI_ne _ _ (by decide), setI_ne _ _ (by decide), setI_at, upd_ne _ _ q, setI_ne _ _ (by decide)]; exact b.1
                · rw [setI_ne _ _ (by decide), setI_at, upd_ne _ _ q, setI_ne _ _ (by decide), setI_ne _ _ (by decide)]; exact b.2.1
                · rw [setI_at, upd_ne _ _ q, setI_ne _ _ (by decide), setI_ne _ _ (by decide), setI_ne _ _ (by decide)]; exact b.2.2
          · refine x_iconst (v := nI 1) eX9_keep_43 (by decide) ?_
            refine x_goto eX9_keep_44 ?_
            refine s_zast eX9_keep_48 rfl (by decide) rfl (show _ < 60 by omega) (by first | exact Or.inl rfl | exact Or.inr rfl | exact bI_01 _) ?_
            refine x_aload_n eX9_keep_49 rfl ?_
            refine s_getR (k := 18) eX9_keep_50 fX9_67 rfl (by decide) (by decide) rfl ?_
            refine x_iload_n eX9_keep_53 rfl ?_
            refine x_aload_n eX9_keep_54 rfl ?_
            refine s_getR (k := 13) eX9_keep_55 fX9_52 rfl (by decide) (by decide) rfl ?_
            refine x_iload_n eX9_keep_58 rfl ?_
            refine s_iald eX9_keep_59 rfl (by decide) rfl (show _ < 60 by omega) ?_
            rw [setI_ne _ _ (by decide), hx.2.1 13 (by simp)]
            refine s_iast eX9_keep_60 rfl (by decide) rfl (show _ < 60 by omega) ?_
            refine x_aload_n eX9_keep_61 rfl ?_
            refine s_getR (k := 19) eX9_keep_62 fX9_70 rfl (by decide) (by decide) rfl ?_
            refine x_iload_n eX9_keep_65 rfl ?_
            refine x_aload_n eX9_keep_66 rfl ?_
            refine s_getR (k := 14) eX9_keep_67 fX9_55 rfl (by decide) (by decide) rfl ?_
            refine x_iload_n eX9_keep_70 rfl ?_
            refine s_iald eX9_keep_71 rfl (by decide) rfl (show _ < 60 by omega) ?_
            rw [setI_ne _ _ (by decide), setI_ne _ _ (by decide), hx.2.1 14 (by simp)]
            refine s_iast eX9_keep_72 rfl (by decide) rfl (show _ < 60 by omega) ?_
            refine x_aload_n eX9_keep_73 rfl ?_
            refine s_getR (k := 20) eX9_keep_74 fX9_73 rfl (by decide) (by decide) rfl ?_
            refine x_iload_n eX9_keep_77 rfl ?_
            refine x_aload_n eX9_keep_78 rfl ?_
            refine s_getR (k := 15) eX9_keep_79 fX9_58 rfl (by decide) (by decide) rfl ?_
            refine x_iload_n eX9_keep_82 rfl ?_
            refine s_iald eX9_keep_83 rfl (by decide) rfl (show _ < 60 by omega) ?_
            rw [setI_ne _ _ (by decide), setI_ne _ _ (by decide), setI_ne _ _ (by decide), hx.2.1 15 (by simp)]
            refine s_iast eX9_keep_84 rfl (by decide) rfl (show _ < 60 by omega) ?_
            refine x_iinc (lv' := [_, _]) eX9_keep_85 rfl (by first | exact nI_inc _ | exact rfl) (by decide) rfl ?_
            refine x_goto eX9_keep_88 ?_
            refine x_pick [0, 1] rfl ?_
            refine ih (k + 1) (by omega) _ ⟨(((hx.tr (Fx.sI (by simp))).tr (Fx.sI (by simp))).tr (Fx.sI (by simp))).tr (Fx.sI (by simp)), f22, fo, fun j hj => ?_, fun j hj => ?_⟩
            · rw [setI_ne _ _ (by decide), setI_ne _ _ (by decide), setI_ne _ _ (by decide), setI_at]
              by_cases q : j = k
              · subst q; rw [upd_at]
                first
                  | (rw [decide_eq_false (by omega)]; rfl)
                  | (rw [decide_eq_true (by omega), c_40]; rfl)
              · rw [upd_ne _ _ q]; exact a1 j (by omega)
            · by_cases q : j = k
              · subst q
                refine ⟨?_, ?_, ?_⟩
                · rw [setI_ne _ _ (by decide), setI_ne _ _ (by decide), setI_at, upd_at]
                · rw [setI_ne _ _ (by decide), setI_at, upd_at]
                · rw [setI_at, upd_at]
              · have b := a2 j (by omega)
                refine ⟨?_, ?_, ?_⟩
                · rw [setI_ne _ _ (by decide), setI_ne _ _ (by decide), setI_at, upd_ne _ _ q, setI_ne _ _ (by decide)]; exact b.1
                · rw [setI_ne _ _ (by decide), setI_at, upd_ne _ _ q, setI_ne _ _ (by decide), setI_ne _ _ (by decide)]; exact b.2.1
                · rw [setI_at, upd_ne _ _ q, setI_ne _ _ (by decide), setI_ne _ _ (by decide), setI_ne _ _ (by decide)]; exact b.2.2
  show XP _ _ [_] _ _ _
  refine x_aload_n eX9_keep_0 rfl ?_
  refine x_iconst (v := nI 1) eX9_keep_1 (by decide) ?_
  refine s_putz eX9_keep_2 fX9_227 wX9_22 rfl (by decide) (by decide) (by first | exact Or.inl rfl | exact Or.inr rfl | exact bI_01 _) ?_
  refine x_aload_n eX9_keep_5 rfl ?_
  refine x_aload_n eX9_keep_6 rfl ?_
  refine s_geti eX9_keep_7 fX9_224 rfl (by decide) (by decide) ?_
  refine s_puti eX9_keep_10 fX9_231 wX9_23 rfl (by decide) (by decide) ?_
  refine x_iconst (v := nI 0) eX9_keep_13 (by decide) ?_
  refine x_istore_n (lv' := [_, _]) eX9_keep_14 (by decide) rfl ?_
  refine x_pick [0, 1] rfl ?_
  refine loop 60 0 (by omega) _ ⟨(Fx.sF (by simp)).tr (Fx.sF (by simp)), ?_, fun f a b => ?_, fun j hj => by omega, fun j hj => by omega⟩
  · rw [setF_at, upd_ne _ _ (by decide), setF_at, upd_at]; rfl
  · rw [setF_at, upd_ne _ _ b, setF_at, upd_ne _ _ a]
theorem sp_X9_undoYes (S : xS) (hc : S.1 0 22 = 1) (hz : ∀ j, j < 60 → S.2.1 17 j = 0 ∨ S.2.1 17 j = 1) : Sp mX9_undo [.ref 0] S (fun r S' => r = some (.int 1) ∧ Fx [0] [12, 13, 14, 15, 16] [] [] S S' ∧ S'.1 0 22 = 0 ∧ (∀ f, f ≠ 22 → S'.1 0 f = S.1 0 f) ∧ (∀ j, j < 60 → S'.2.1 12 j = S.2.1 17 j ∧ S'.2.1 13 j = S.2.1 18 j ∧ S'.2.1 14 j = S.2.1 19 j ∧ S'.2.1 15 j = S.2.1 20 j) ∧ ∀ j, j < 720 → S'.2.1 16 j = S.2.1 21 j) := by
  have loop2 : ∀ μ k, k + μ = 720 → ∀ S1, (Fx [0] [12, 13, 14, 15, 16] [] [] S S1 ∧ S1.1 0 22 = 0 ∧ (∀ f, f ≠ 22 → S1.1 0 f = S.1 0 f) ∧ (∀ j, j < 60 → S1.2.1 12 j = S.2.1 17 j ∧ S1.2.1 13 j = S.2.1 18 j ∧ S1.2.1 14 j = S.2.1 19 j ∧ S1.2.1 15 j = S.2.1 20 j) ∧ ∀ j, j < k → S1.2.1 16 j = S.2.1 21 j) → XP mX9_undo 79 [(1, .int (nI k)), (0, .ref 0)] [] (xwS S1) (sQ (fun r S' => r = some (.int 1) ∧ Fx [0] [12, 13, 14, 15, 16] [] [] S S' ∧ S'.1 0 22 = 0 ∧ (∀ f, f ≠ 22 → S'.1 0 f = S.1 0 f) ∧ (∀ j, j < 60 → S'.2.1 12 j = S.2.1 17 j ∧ S'.2.1 13 j = S.2.1 18 j ∧ S'.2.1 14 j = S.2.1 19 j ∧ S'.2.1 15 j = S.2.1 20 j) ∧ ∀ j, j < 720 → S'.2.1 16 j = S.2.1 21 j)) := by
    intro μ
    induction μ with
    | zero =>
      intro k hk S1 h1
      obtain ⟨hx, f22, fo, a2, a3⟩ := h1
      refine x_iload_n eX9_undo_79 rfl ?_
      refine x_sipush (v := nI 720) eX9_undo_80 (by decide) ?_
      refine x_icmp_geN eX9_undo_83 (by omega) (by omega) (fun c_83 => ?_) (fun c_83 => ?_)
      · refine x_iconst (v := nI 1) eX9_undo_104 (by decide) ?_
        exact s_iret eX9_undo_105 rfl rfl ⟨rfl, hx, f22, fo, a2, fun j hj => a3 j (by omega)⟩
      · omega
    | succ μ ih =>
      intro k hk S1 h1
      obtain ⟨hx, f22, fo, a2, a3⟩ := h1
      refine x_iload_n eX9_undo_79 rfl ?_
      refine x_sipush (v := nI 720) eX9_undo_80 (by decide) ?_
      refine x_icmp_geN eX9_undo_83 (by omega) (by omega) (fun c_83 => ?_) (fun c_83 => ?_)
      · omega
      · refine x_aload_n eX9_undo_86 rfl ?_
        refine s_getR (k := 16) eX9_undo_87 fX9_61 rfl (by decide) (by decide) rfl ?_
        refine x_iload_n eX9_undo_90 rfl ?_
        refine x_aload_n eX9_undo_91 rfl ?_
        refine s_getR (k := 21) eX9_undo_92 fX9_76 rfl (by decide) (by decide) rfl ?_
        refine x_iload_n eX9_undo_95 rfl ?_
        refine s_iald eX9_undo_96 rfl (by decide) rfl (show _ < 720 by omega) ?_
        rw [hx.2.1 21 (by simp)]
        refine s_iast eX9_undo_97 rfl (by decide) rfl (show _ < 720 by omega) ?_
        refine x_iinc (lv' := [_, _]) eX9_undo_98 rfl (by first | exact nI_inc _ | exact rfl) (by decide) rfl ?_
        refine x_goto eX9_undo_101 ?_
        refine x_pick [0, 1] rfl ?_
        refine ih (k + 1) (by omega) _ ⟨hx.tr (Fx.sI (by simp)), f22, fo, fun j hj => by rw [setI_ne _ _ (by decide), setI_ne _ _ (by decide), setI_ne _ _ (by decide), setI_ne _ _ (by decide)]; exact a2 j hj, fun j hj => ?_⟩
        rw [setI_at]
        by_cases q : j = k
        · subst q; rw [upd_at]
        · rw [upd_ne _ _ q]; exact a3 j (by omega)
  have loop : ∀ μ k, k + μ = 60 → ∀ S1, (Fx [0] [12, 13, 14, 15, 16] [] [] S S1 ∧ S1.1 0 22 = 0 ∧ (∀ f, f ≠ 22 → S1.1 0 f = S.1 0 f) ∧ (∀ j, j < k → S1.2.1 12 j = S.2.1 17 j ∧ S1.2.1 13 j = S.2.1 18 j ∧ S1.2.1 14 j = S.2.1 19 j ∧ S1.2.1 15 j = S.2.1 20 j)) → XP mX9_undo 17 [(1, .int (nI k)), (0, .ref 0)] [] (xwS S1) (sQ (fun r S' => r = some (.int 1) ∧ Fx [0] [12, 13, 14, 15, 16] [] [] S S' ∧ S'.1 0 22 = 0 ∧ (∀ f, f ≠ 22 → S'.1 0 f = S.1 0 f) ∧ (∀ j, j < 60 → S'.2.1 12 j = S.2.1 17 j ∧ S'.2.1 13 j = S.2.1 18 j ∧ S'.2.1 14 j = S.2.1 19 j ∧ S'.2.1 15 j = S.2.1 20 j) ∧ ∀ j, j < 720 → S'.2.1 16 j = S.2.1 21 j)) := by
    intro μ
    induction μ with
    | zero =>
      intro k hk S1 h1
      obtain ⟨hx, f22, fo, a2⟩ := h1
      refine x_iload_n eX9_undo_17 rfl ?_
      refine x_bipush (v := nI 60) eX9_undo_18 (by decide) ?_
      refine x_icmp_geN eX9_undo_20 (by omega) (by omega) (fun c_20 => ?_) (fun c_20 => ?_)
      · refine x_iconst (v := nI 0) eX9_undo_77 (by decide) ?_
        refine x_istore_n (lv' := [_, _]) eX9_undo_78 (by decide) rfl ?_
        refine x_pick [0, 1] rfl ?_
        exact loop2 720 0 (by omega) _ ⟨hx, f22, fo, fun j hj => a2 j (by omega), fun j hj => by omega⟩
      · omega
    | succ μ ih =>
      intro k hk S1 h1
      obtain ⟨hx, f22, fo, a2⟩ := h1
      refine x_iload_n eX9_undo_17 rfl ?_
      refine x_bipush (v := nI 60) eX9_undo_18 (by decide) ?_
      refine x_icmp_geN eX9_undo_20 (by omega) (by omega) (fun c_20 => ?_) (fun c_20 => ?_)
      · omega
      · refine x_aload_n eX9_undo_23 rfl ?_
        refine s_getR (k := 12) eX9_undo_24 fX9_48 rfl (by decide) (by decide) rfl ?_
        refine x_iload_n eX9_undo_27 rfl ?_
        refine x_aload_n eX9_undo_28 rfl ?_
        refine s_getR (k := 17) eX9_undo_29 fX9_64 rfl (by decide) (by decide) rfl ?_
        refine x_iload_n eX9_undo_32 rfl ?_
        refine s_zald eX9_undo_33 rfl (by decide) rfl (show _ < 60 by omega) ?_
        rw [hx.2.1 17 (by simp)]
        refine s_zast eX9_undo_34 rfl (by decide) rfl (show _ < 60 by omega) (hz k (by omega)) ?_
        refine x_aload_n eX9_undo_35 rfl ?_
        refine s_getR (k := 13) eX9_undo_36 fX9_52 rfl (by decide) (by decide) rfl ?_
        refine x_iload_n eX9_undo_39 rfl ?_
        refine x_aload_n eX9_undo_40 rfl ?_
        refine s_getR (k := 18) eX9_undo_41 fX9_67 rfl (by decide) (by decide) rfl ?_
        refine x_iload_n eX9_undo_44 rfl ?_
        refine s_iald eX9_undo_45 rfl (by decide) rfl (show _ < 60 by omega) ?_
        rw [setI_ne _ _ (by decide), hx.2.1 18 (by simp)]
        refine s_iast eX9_undo_46 rfl (by decide) rfl (show _ < 60 by omega) ?_
        refine x_aload_n eX9_undo_47 rfl ?_
        refine s_getR (k := 14) eX9_undo_48 fX9_55 rfl (by decide) (by decide) rfl ?_
        refine x_iload_n eX9_undo_51 rfl ?_
        refine x_aload_n eX9_undo_52 rfl ?_
        refine s_getR (k := 19) eX9_undo_53 fX9_70 rfl (by decide) (by decide) rfl ?_
        refine x_iload_n eX9_undo_56 rfl ?_
        refine s_iald eX9_undo_57 rfl (by decide) rfl (show _ < 60 by omega) ?_
        rw [setI_ne _ _ (by decide), setI_ne _ _ (by decide), hx.2.1 19 (by simp)]
        refine s_iast eX9_undo_58 rfl (by decide) rfl (show _ < 60 by omega) ?_
        refine x_aload_n eX9_undo_59 rfl ?_
        refine s_getR (k := 15) eX9_undo_60 fX9_58 rfl (by decide) (by decide) rfl ?_
        refine x_iload_n eX9_undo_63 rfl ?_
        refine x_aload_n eX9_undo_64 rfl ?_
        refine s_getR (k := 20) eX9_undo_65 fX9_73 rfl (by decide) (by decide) rfl ?_
        refine x_iload_n eX9_undo_68 rfl ?_
        refine s_iald eX9_undo_69 rfl (by decide) rfl (show _ < 60 by omega) ?_
        rw [setI_ne _ _ (by decide), setI_ne _ _ (by decide), setI_ne _ _ (by decide), hx.2.1 20 (by simp)]
        refine s_iast eX9_undo_70 rfl (by decide) rfl (show _ < 60 by omega) ?_
        refine x_iinc (lv' := [_, _]) eX9_undo_71 rfl (by first | exact nI_inc _ | exact rfl) (by decide) rfl ?_
        refine x_goto eX9_undo_74 ?_
        refine x_pick [0, 1] rfl ?_
        refine ih (k + 1) (by omega) _ ⟨(((hx.tr (Fx.sI (by simp))).tr (Fx.sI (by simp))).tr (Fx.sI (by simp))).tr (Fx.sI (by simp)), f22, fo, fun j hj => ?_⟩
        by_cases q : j = k
        · subst q
          refine ⟨?_, ?_, ?_, ?_⟩
          · rw [setI_ne _ _ (by decide), setI_ne _ _ (by decide), setI_ne _ _ (by decide), setI_at, upd_at]
          · rw [setI_ne _ _ (by decide), setI_ne _ _ (by decide), setI_at, upd_at]
          · rw [setI_ne _ _ (by decide), setI_at, upd_at]
          · rw [setI_at, upd_at]
        · have b := a2 j (by omega)
          refine ⟨?_, ?_, ?_, ?_⟩
          · rw [setI_ne _ _ (by decide), setI_ne _ _ (by decide), setI_ne _ _ (by decide), setI_at, upd_ne _ _ q]; exact b.1
          · rw [setI_ne _ _ (by decide), setI_ne _ _ (by decide), setI_at, upd_ne _ _ q, setI_ne _ _ (by decide)]; exact b.2.1
          · rw [setI_ne _ _ (by decide), setI_at, upd_ne _ _ q, setI_ne _ _ (by decide), setI_ne _ _ (by decide)]; exact b.2.2.1
          · rw [setI_at, upd_ne _ _ q, setI_ne _ _ (by decide), setI_ne _ _ (by decide), setI_ne _ _ (by decide)]; exact b.2.2.2
  show XP _ _ [_] _ _ _
  refine x_aload_n eX9_undo_0 rfl ?_
  refine s_geti eX9_undo_1 fX9_227 rfl (by decide) (by decide) ?_
  rw [hc]
  refine x_if_ne eX9_undo_4 (fun c_4 => ?_) (fun c_4 => ?_)
  · refine x_aload_n eX9_undo_10 rfl ?_
    refine x_iconst (v := nI 0) eX9_undo_11 (by decide) ?_
    refine s_putz eX9_undo_12 fX9_227 wX9_22 rfl (by decide) (by decide) (by first | exact Or.inl rfl | exact Or.inr rfl | exact bI_01 _) ?_
    refine x_iconst (v := nI 0) eX9_undo_15 (by decide) ?_
    refine x_istore_n (lv' := [_, _]) eX9_undo_16 (by decide) rfl ?_
    refine x_pick [0, 1] rfl ?_
    exact loop 60 0 (by omega) _ ⟨Fx.sF (by simp), by rw [setF_at, upd_at]; rfl, fun f a => by rw [setF_at, upd_ne _ _ a], fun j hj => by omega⟩
  · exact absurd c_4 (by decide)
theorem sp_X9_undoNo (S : xS) (hc : S.1 0 22 = 0) : Sp mX9_undo [.ref 0] S (fun r S' => r = some (.int (-103)) ∧ S' = S) := by
  show XP _ _ [_] _ _ _
  refine x_aload_n eX9_undo_0 rfl ?_
  refine s_geti eX9_undo_1 fX9_227 rfl (by decide) (by decide) ?_
  rw [hc]
  refine x_if_ne eX9_undo_4 (fun c_4 => ?_) (fun c_4 => ?_)
  · exact absurd rfl c_4
  · refine x_bipush (v := -103) eX9_undo_7 (by decide) ?_
    exact s_iret eX9_undo_9 rfl rfl ⟨rfl, rfl⟩
/-! ===== the reference's overOf ===== -/
theorem sp_X9_overOf {S : xS} {np : Nat} {th : Nat → Bool} {ly : Nat → Nat} {ow : Nat → Int32} {sz : Nat → Nat} {rg : Nat → Nat → Nat} (h : mtab S np th ly ow sz rg) {nc p n : Nat} {c : Nat → Nat} {P P0 : Nat → Pt} (hp : mps S nc P) (hmp : MP nc P P0) (g : mpr S p n c) (hr : RGd nc P n c) (hq : ∀ q, q < np → th q = true → RGd nc P (sz q) (rg q)) (l b : Int32) (hb : b = -1 ∨ b = nI p) : Sp mX9_overOf [.ref 0, .int (nI p), .int l, .int b] S (fun r S' => r = some (.int (match fst1 (fun q => q ≠ p ∧ th q = true ∧ nI (ly q) = l ∧ ovP (vr P c n) n (vr P (rg q) (sz q)) (sz q)) np with | some q => nI q | none => -1)) ∧ Gx S S') := by
  have n60 := h.2.1
  have p60 := g.1
  have loop : ∀ μ k, k + μ = np → ∀ S1, (Gx S S1 ∧ ∀ j, j < k → ¬ (fun q => q ≠ p ∧ th q = true ∧ nI (ly q) = l ∧ ovP (vr P c n) n (vr P (rg q) (sz q)) (sz q)) j) → XP mX9_overOf 3 [(4, .int (nI k)), (0, .ref 0), (1, .int (nI p)), (2, .int l), (3, .int b)] [] (xwS S1) (sQ (fun r S' => r = some (.int (match fst1 (fun q => q ≠ p ∧ th q = true ∧ nI (ly q) = l ∧ ovP (vr P c n) n (vr P (rg q) (sz q)) (sz q)) np with | some q => nI q | none => -1)) ∧ Gx S S')) := by
    intro μ
    induction μ with
    | zero =>
      intro k hk S1 h1
      obtain ⟨hg, hno⟩ := h1
      have t := h.gx hg
      refine x_iload eX9_overOf_3 rfl ?_
      refine x_aload_n eX9_overOf_5 rfl ?_
      refine s_geti eX9_overOf_6 fX9_224 rfl (by decide) (by decide) ?_
      rw [t.1]
      refine x_icmp_geN eX9_overOf_9 (by omega) (by omega) (fun c_9 => ?_) (fun c_9 => ?_)
      · refine x_iconst (v := -1) eX9_overOf_64 (by decide) ?_
        exact s_iret eX9_overOf_65 rfl rfl ⟨by rw [fst1_none (fun j hj => hno j (by omega))], hg⟩
      · omega
    | succ μ ih =>
      intro k hk S1 h1
      obtain ⟨hg, hno⟩ := h1
      have t := h.gx hg
      refine x_iload eX9_overOf_3 rfl ?_
      refine x_aload_n eX9_overOf_5 rfl ?_
      refine s_geti eX9_overOf_6 fX9_224 rfl (by decide) (by decide) ?_
      rw [t.1]
      refine x_icmp_geN eX9_overOf_9 (by omega) (by omega) (fun c_9 => ?_) (fun c_9 => ?_)
      · omega
      · refine x_iload eX9_overOf_12 rfl ?_
        refine x_iload_n eX9_overOf_14 rfl ?_
        refine x_icmp_eqN eX9_overOf_15 (by omega) (by omega) (fun c_15 => ?_) (fun c_15 => ?_)
        · refine x_iinc (lv' := [_, _, _, _, _]) eX9_overOf_58 rfl (by first | exact nI_inc _ | exact rfl) (by decide) rfl ?_
          refine x_goto eX9_overOf_61 ?_
          refine x_pick [0, 1, 2, 3, 4] rfl ?_
          refine ih (k + 1) (by omega) _ ⟨hg, fun j hj z => ?_⟩
          by_cases q : j < k
          · exact hno j q z
          obtain rfl : j = k := by omega
          first
            | exact z.1 c_15
            | exact c_42 z.2.2.1
            | exact c_52 z.2.2.2
            | (rw [z.2.1] at c_31; exact absurd c_31 (by decide))
            | (rcases hb with rfl | rfl; exact absurd c_21 (nI_ne_m1 (by omega)); exact z.1 ((nI_eq (by omega) (by omega)).mp c_21))
        · refine x_iload eX9_overOf_18 rfl ?_
          refine x_iload_n eX9_overOf_20 rfl ?_
          refine x_icmp_eq eX9_overOf_21 (fun c_21 => ?_) (fun c_21 => ?_)
          · refine x_iinc (lv' := [_, _, _, _, _]) eX9_overOf_58 rfl (by first | exact nI_inc _ | exact rfl) (by decide) rfl ?_
            refine x_goto eX9_overOf_61 ?_
            refine x_pick [0, 1, 2, 3, 4] rfl ?_
            refine ih (k + 1) (by omega) _ ⟨hg, fun j hj z => ?_⟩
            by_cases q : j < k
            · exact hno j q z
            obtain rfl : j = k := by omega
            first
              | exact z.1 c_15
              | exact c_42 z.2.2.1
              | exact c_52 z.2.2.2
              | (rw [z.2.1] at c_31; exact absurd c_31 (by decide))
              | (rcases hb with rfl | rfl; exact absurd c_21 (nI_ne_m1 (by omega)); exact z.1 ((nI_eq (by omega) (by omega)).mp c_21))
          · refine x_aload_n eX9_overOf_24 rfl ?_
            refine s_getR (k := 12) eX9_overOf_25 fX9_48 rfl (by decide) (by decide) rfl ?_
            refine x_iload eX9_overOf_28 rfl ?_
            refine s_zald eX9_overOf_30 rfl (by decide) rfl (show _ < 60 by omega) ?_
            rw [(t.2.2 k (by omega)).1]
            refine x_if_eqB eX9_overOf_31 (fun c_31 => ?_) (fun c_31 => ?_)
            · refine x_iinc (lv' := [_, _, _, _, _]) eX9_overOf_58 rfl (by first | exact nI_inc _ | exact rfl) (by decide) rfl ?_
              refine x_goto eX9_overOf_61 ?_
              refine x_pick [0, 1, 2, 3, 4] rfl ?_
              refine ih (k + 1) (by omega) _ ⟨hg, fun j hj z => ?_⟩
              by_cases q : j < k
              · exact hno j q z
              obtain rfl : j = k := by omega
              first
                | exact z.1 c_15
                | exact c_42 z.2.2.1
                | exact c_52 z.2.2.2
                | (rw [z.2.1] at c_31; exact absurd c_31 (by decide))
                | (rcases hb with rfl | rfl; exact absurd c_21 (nI_ne_m1 (by omega)); exact z.1 ((nI_eq (by omega) (by omega)).mp c_21))
            · refine x_aload_n eX9_overOf_34 rfl ?_
              refine s_getR (k := 13) eX9_overOf_35 fX9_52 rfl (by decide) (by decide) rfl ?_
              refine x_iload eX9_overOf_38 rfl ?_
              refine s_iald eX9_overOf_40 rfl (by decide) rfl (show _ < 60 by omega) ?_
              rw [((t.2.2 k (by omega)).2 c_31).1]
              refine x_iload_n eX9_overOf_41 rfl ?_
              refine x_icmp_ne eX9_overOf_42 (fun c_42 => ?_) (fun c_42 => ?_)
              · refine x_iinc (lv' := [_, _, _, _, _]) eX9_overOf_58 rfl (by first | exact nI_inc _ | exact rfl) (by decide) rfl ?_
                refine x_goto eX9_overOf_61 ?_
                refine x_pick [0, 1, 2, 3, 4] rfl ?_
                refine ih (k + 1) (by omega) _ ⟨hg, fun j hj z => ?_⟩
                by_cases q : j < k
                · exact hno j q z
                obtain rfl : j = k := by omega
                first
                  | exact z.1 c_15
                  | exact c_42 z.2.2.1
                  | exact c_52 z.2.2.2
                  | (rw [z.2.1] at c_31; exact absurd c_31 (by decide))
                  | (rcases hb with rfl | rfl; exact absurd c_21 (nI_ne_m1 (by omega)); exact z.1 ((nI_eq (by omega) (by omega)).mp c_21))
              · refine x_aload_n eX9_overOf_45 rfl ?_
                refine x_iload_n eX9_overOf_46 rfl ?_
                refine x_iload eX9_overOf_47 rfl ?_
                refine s_callV1 (As := [_, _]) eX9_overOf_49 kX9_264 ⟨by decide, by decide⟩ rfl (by decide) (by decide) rfl rfl (Nat.le_of_ble_eq_true rfl) (Nat.le_of_ble_eq_true rfl) (sp_X9_lieOver _ (hp.gx hmp.1 hg) hmp (g.gx hg) ((t.2.2 k (by omega)).2 c_31).2.2 hr (hq k (by omega) c_31)) (fun S_49 h_49 => ?_)
                have hg := hg.tr h_49
                refine x_if_eqT eX9_overOf_52 (fun c_52 => ?_) (fun c_52 => ?_)
                · refine x_iinc (lv' := [_, _, _, _, _]) eX9_overOf_58 rfl (by first | exact nI_inc _ | exact rfl) (by decide) rfl ?_
                  refine x_goto eX9_overOf_61 ?_
                  refine x_pick [0, 1, 2, 3, 4] rfl ?_
                  refine ih (k + 1) (by omega) _ ⟨hg, fun j hj z => ?_⟩
                  by_cases q : j < k
                  · exact hno j q z
                  obtain rfl : j = k := by omega
                  first
                    | exact z.1 c_15
                    | exact c_42 z.2.2.1
                    | exact c_52 z.2.2.2
                    | (rw [z.2.1] at c_31; exact absurd c_31 (by decide))
                    | (rcases hb with rfl | rfl; exact absurd c_21 (nI_ne_m1 (by omega)); exact z.1 ((nI_eq (by omega) (by omega)).mp c_21))
                · refine x_iload eX9_overOf_55 rfl ?_
                  exact s_iret eX9_overOf_57 rfl rfl ⟨by rw [fst1_some (by omega) ⟨c_15, c_31, c_42, c_52⟩ hno], hg⟩
  show XP _ _ [_, _, _, _] _ _ _
  refine x_iconst (v := nI 0) eX9_overOf_0 (by decide) ?_
  refine x_istore (lv' := [_, _, _, _, _]) eX9_overOf_1 (by decide) rfl ?_
  refine x_pick [0, 1, 2, 3, 4] rfl ?_
  exact loop np 0 (by omega) _ ⟨Gx.rf _, fun j hj => by omega⟩
