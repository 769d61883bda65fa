/-! ===== join ===== -/
theorem jm_count {S : xS} {a b n m : Nat} {c d : Nat → Nat} (pa : mpr S a n c) (pb : mpr S b m d) (id' : ∀ i j, i < m → j < m → d i = d j → i = j) {Q : Option Value → xS → Prop} (K : XP mX9_join 113 [(6, .int (nI (lastS (stE c n d m) n))), (5, .int (nI (cnt (stE c n d m) n))), (4, .int (nI (cnt (shE c n d m) n))), (3, .int (nI n)), (0, .ref 0), (1, .int (nI a)), (2, .int (nI b))] [] (xwS S) (sQ Q)) : XP mX9_join 61 [(7, .int (nI 0)), (6, .int (nI 0)), (5, .int (nI 0)), (4, .int (nI 0)), (3, .int (nI n)), (0, .ref 0), (1, .int (nI a)), (2, .int (nI b))] [] (xwS S) (sQ Q) := by
  have n12 := pa.2.2.1
  have m12 := pb.2.2.1
  have n0 := pa.2.1
  have ha := pa.1
  have hb := pb.1
  have loop : ∀ μ i, i + μ = n → ∀ S1, (S1 = S) → XP mX9_join 61 [(7, .int (nI i)), (6, .int (nI (lastS (stE c n d m) i))), (5, .int (nI (cnt (stE c n d m) i))), (4, .int (nI (cnt (shE c n d m) i))), (3, .int (nI n)), (0, .ref 0), (1, .int (nI a)), (2, .int (nI b))] [] (xwS S1) (sQ Q) := by
    intro μ
    induction μ with
    | zero =>
      intro i hk S1 h1
      subst h1
      refine x_iload eX9_join_61 rfl ?_
      refine x_iload_n eX9_join_63 rfl ?_
      refine x_icmp_geN eX9_join_64 (by omega) (by omega) (fun c_64 => ?_) (fun c_64 => ?_)
      · refine x_pick [1, 2, 3, 4, 5, 6, 7] rfl ?_
        obtain rfl : i = n := by omega
        exact K
      · omega
    | succ μ ih =>
      intro i hk S1 h1
      subst h1
      refine x_iload eX9_join_61 rfl ?_
      refine x_iload_n eX9_join_63 rfl ?_
      refine x_icmp_geN eX9_join_64 (by omega) (by omega) (fun c_64 => ?_) (fun c_64 => ?_)
      · omega
      · refine x_aload_n eX9_join_67 rfl ?_
        refine x_iload_n eX9_join_68 rfl ?_
        refine x_iload eX9_join_69 rfl ?_
        refine x_iload_n eX9_join_71 rfl ?_
        refine s_callV1 (As := [_, _, _]) eX9_join_72 kX9_294 ⟨by decide, by decide⟩ rfl (by decide) (by decide) rfl rfl (Nat.le_of_ble_eq_true rfl) (Nat.le_of_ble_eq_true rfl) (sp_X9_reverse _ pa pb (by omega) id') (fun S_72 h_72 => ?_)
        have h_72 := h_72.symm
        subst h_72
        refine x_iconst (v := -1) eX9_join_75 (by decide) ?_
        refine x_icmp_eq eX9_join_76 (fun c_76 => ?_) (fun c_76 => ?_)
        · refine x_iinc (lv' := [_, _, _, _, _, _, _, _]) eX9_join_107 rfl (by first | exact nI_inc _ | exact rfl) (by decide) rfl ?_
          refine x_goto eX9_join_110 ?_
          refine x_pick [0, 1, 2, 3, 4, 5, 6, 7] rfl ?_
          have := ih (i + 1) (by omega) S1 rfl
          first
            | (have c1 : ¬ (shE c n d m) i := (rvI_sh (by omega)).mp c_76; rw [cnt_f c1, cnt_f (R := (stE c n d m)) (fun z => c1 z.1), lastS_f (R := (stE c n d m)) (fun z => c1 z.1)] at this; exact this)
            | (have c1 : (shE c n d m) i := Classical.byContradiction fun z => c_76 ((rvI_sh (by omega)).mpr z); have c2 : (shE c n d m) ((i + n - 1) % n) := Classical.byContradiction fun z => c_97 ((rvI_sh (by omega)).mpr z); rw [cnt_t c1, cnt_f (R := (stE c n d m)) (fun z => z.2 c2), lastS_f (R := (stE c n d m)) (fun z => z.2 c2)] at this; exact this)
            | (have c1 : (shE c n d m) i := Classical.byContradiction fun z => c_76 ((rvI_sh (by omega)).mpr z); have c2 : ¬ (shE c n d m) ((i + n - 1) % n) := (rvI_sh (by omega)).mp c_97; rw [cnt_t c1, cnt_t (R := (stE c n d m)) ⟨c1, c2⟩, lastS_t (R := (stE c n d m)) ⟨c1, c2⟩] at this; exact this)
        · refine x_iinc (lv' := [_, _, _, _, _, _, _, _]) eX9_join_79 rfl (by first | exact nI_inc _ | exact rfl) (by decide) rfl ?_
          refine x_aload_n eX9_join_82 rfl ?_
          refine x_iload_n eX9_join_83 rfl ?_
          refine x_iload eX9_join_84 rfl ?_
          refine x_iload_n eX9_join_86 rfl ?_
          first | refine x_iaddN eX9_join_87 ?_ | refine x_iadd eX9_join_87 ?_
          refine x_iconst (v := nI 1) eX9_join_88 (by decide) ?_
          first | refine x_isubN eX9_join_89 (by omega) ?_ | refine x_isub eX9_join_89 ?_
          refine x_iload_n eX9_join_90 rfl ?_
          refine x_iremN eX9_join_91 (by omega) (by omega) (by omega) ?_
          refine x_iload_n eX9_join_92 rfl ?_
          refine s_callV1 (As := [_, _, _]) eX9_join_93 kX9_294 ⟨by decide, by decide⟩ rfl (by decide) (by decide) rfl rfl (Nat.le_of_ble_eq_true rfl) (Nat.le_of_ble_eq_true rfl) (sp_X9_reverse _ pa pb (by have := Nat.mod_lt (i + n - 1) n0; omega) id') (fun S_93 h_93 => ?_)
          have h_93 := h_93.symm
          subst h_93
          refine x_iconst (v := -1) eX9_join_96 (by decide) ?_
          refine x_icmp_ne eX9_join_97 (fun c_97 => ?_) (fun c_97 => ?_)
          · refine x_iinc (lv' := [_, _, _, _, _, _, _, _]) eX9_join_107 rfl (by first | exact nI_inc _ | exact rfl) (by decide) rfl ?_
            refine x_goto eX9_join_110 ?_
            refine x_pick [0, 2, 3, 1, 4, 5, 6, 7] rfl ?_
            have := ih (i + 1) (by omega) S1 rfl
            first
              | (have c1 : ¬ (shE c n d m) i := (rvI_sh (by omega)).mp c_76; rw [cnt_f c1, cnt_f (R := (stE c n d m)) (fun z => c1 z.1), lastS_f (R := (stE c n d m)) (fun z => c1 z.1)] at this; exact this)
              | (have c1 : (shE c n d m) i := Classical.byContradiction fun z => c_76 ((rvI_sh (by omega)).mpr z); have c2 : (shE c n d m) ((i + n - 1) % n) := Classical.byContradiction fun z => c_97 ((rvI_sh (by omega)).mpr z); rw [cnt_t c1, cnt_f (R := (stE c n d m)) (fun z => z.2 c2), lastS_f (R := (stE c n d m)) (fun z => z.2 c2)] at this; exact this)
              | (have c1 : (shE c n d m) i := Classical.byContradiction fun z => c_76 ((rvI_sh (by omega)).mpr z); have c2 : ¬ (shE c n d m) ((i + n - 1) % n) := (rvI_sh (by omega)).mp c_97; rw [cnt_t c1, cnt_t (R := (stE c n d m)) ⟨c1, c2⟩, lastS_t (R := (stE c n d m)) ⟨c1, c2⟩] at this; exact this)
          · refine x_iinc (lv' := [_, _, _, _, _, _, _, _]) eX9_join_100 rfl (by first | exact nI_inc _ | exact rfl) (by decide) rfl ?_
            refine x_iload eX9_join_103 rfl ?_
            refine x_istore (lv' := [_, _, _, _, _, _, _, _]) eX9_join_105 (by decide) rfl ?_
            refine x_iinc (lv' := [_, _, _, _, _, _, _, _]) eX9_join_107 rfl (by first | exact nI_inc _ | exact rfl) (by decide) rfl ?_
            refine x_goto eX9_join_110 ?_
            refine x_pick [0, 1, 2, 3, 4, 5, 6, 7] rfl ?_
            have := ih (i + 1) (by omega) S1 rfl
            first
              | (have c1 : ¬ (shE c n d m) i := (rvI_sh (by omega)).mp c_76; rw [cnt_f c1, cnt_f (R := (stE c n d m)) (fun z => c1 z.1), lastS_f (R := (stE c n d m)) (fun z => c1 z.1)] at this; exact this)
              | (have c1 : (shE c n d m) i := Classical.byContradiction fun z => c_76 ((rvI_sh (by omega)).mpr z); have c2 : (shE c n d m) ((i + n - 1) % n) := Classical.byContradiction fun z => c_97 ((rvI_sh (by omega)).mpr z); rw [cnt_t c1, cnt_f (R := (stE c n d m)) (fun z => z.2 c2), lastS_f (R := (stE c n d m)) (fun z => z.2 c2)] at this; exact this)
              | (have c1 : (shE c n d m) i := Classical.byContradiction fun z => c_76 ((rvI_sh (by omega)).mpr z); have c2 : ¬ (shE c n d m) ((i + n - 1) % n) := (rvI_sh (by omega)).mp c_97; rw [cnt_t c1, cnt_t (R := (stE c n d m)) ⟨c1, c2⟩, lastS_t (R := (stE c n d m)) ⟨c1, c2⟩] at this; exact this)
  exact loop n 0 (by omega) S rfl
theorem jm_one {S : xS} {a b n i s : Nat} {c : Nat → Nat} {v : Int32} (pa : mpr S a n c) (hi : i < 12) (hs : s < n) (e14 : S.1 0 14 = nI 0) {Q : Option Value → xS → Prop} (K : ∀ S1, Fx [0] [10] [] [] S S1 → (∀ f, f ≠ 14 → S1.1 0 f = S.1 0 f) → S1.1 0 14 = nI (n - s + 1) → (∀ z, z < n - s + 1 → S1.2.1 10 z = nI (c ((i + s + z) % n))) → XP mX9_join 178 [(6, .int (nI i)), (5, .int v), (4, .int (nI s)), (3, .int (nI n)), (0, .ref 0), (1, .int (nI a)), (2, .int (nI b))] [] (xwS S1) (sQ Q)) : XP mX9_join 131 [(7, .int (nI 0)), (6, .int (nI i)), (5, .int v), (4, .int (nI s)), (3, .int (nI n)), (0, .ref 0), (1, .int (nI a)), (2, .int (nI b))] [] (xwS S) (sQ Q) := by
  have n12 := pa.2.2.1
  have ha := pa.1
  have loop : ∀ μ k, k + μ = (n - s + 1) → ∀ S1, (Fx [0] [10] [] [] S S1 ∧ (∀ f, f ≠ 14 → S1.1 0 f = S.1 0 f) ∧ S1.1 0 14 = nI k ∧ ∀ z, z < k → S1.2.1 10 z = nI (c ((i + s + z) % n))) → XP mX9_join 131 [(7, .int (nI k)), (6, .int (nI i)), (5, .int v), (4, .int (nI s)), (3, .int (nI n)), (0, .ref 0), (1, .int (nI a)), (2, .int (nI b))] [] (xwS S1) (sQ Q) := by
    intro μ
    induction μ with
    | zero =>
      intro k hk S1 h1
      obtain ⟨hx, fo, e1, hr⟩ := h1
      have pr := pa.fx hx (by simp) (by simp)
      refine x_iload eX9_join_131 rfl ?_
      refine x_iload_n eX9_join_133 rfl ?_
      refine x_iload eX9_join_134 rfl ?_
      first | refine x_isubN eX9_join_136 (by omega) ?_ | refine x_isub eX9_join_136 ?_
      refine x_icmp_gtN eX9_join_137 (by omega) (by omega) (fun c_137 => ?_) (fun c_137 => ?_)
      · refine x_pick [1, 2, 3, 4, 5, 6, 7] rfl ?_
        obtain rfl : k = n - s + 1 := by omega
        exact K S1 hx fo e1 hr
      · omega
    | succ μ ih =>
      intro k hk S1 h1
      obtain ⟨hx, fo, e1, hr⟩ := h1
      have pr := pa.fx hx (by simp) (by simp)
      refine x_iload eX9_join_131 rfl ?_
      refine x_iload_n eX9_join_133 rfl ?_
      refine x_iload eX9_join_134 rfl ?_
      first | refine x_isubN eX9_join_136 (by omega) ?_ | refine x_isub eX9_join_136 ?_
      refine x_icmp_gtN eX9_join_137 (by omega) (by omega) (fun c_137 => ?_) (fun c_137 => ?_)
      · omega
      · refine x_aload_n eX9_join_140 rfl ?_
        refine s_getR (k := 10) eX9_join_141 fX9_42 rfl (by decide) (by decide) rfl ?_
        refine x_aload_n eX9_join_144 rfl ?_
        refine s_geti eX9_join_145 fX9_218 rfl (by decide) (by decide) ?_
        rw [e1]
        refine x_aload_n eX9_join_148 rfl ?_
        refine x_iload_n eX9_join_149 rfl ?_
        refine x_iload eX9_join_150 rfl ?_
        refine x_iload eX9_join_152 rfl ?_
        first | refine x_iaddN eX9_join_154 ?_ | refine x_iadd eX9_join_154 ?_
        refine x_iload eX9_join_155 rfl ?_
        first | refine x_iaddN eX9_join_157 ?_ | refine x_iadd eX9_join_157 ?_
        refine s_callV1 (As := [_, _]) eX9_join_158 kX9_241 ⟨by decide, by decide⟩ rfl (by decide) (by decide) rfl rfl (Nat.le_of_ble_eq_true rfl) (Nat.le_of_ble_eq_true rfl) (sp_X9_of _ pr (by omega)) (fun S_158 h_158 => ?_)
        have h_158 := h_158.symm
        subst h_158
        refine s_iast eX9_join_161 rfl (by decide) rfl (show _ < 24 by omega) ?_
        refine x_aload_n eX9_join_162 rfl ?_
        refine x_dup eX9_join_163 rfl ?_
        refine s_geti eX9_join_164 fX9_218 rfl (by decide) (by decide) ?_
        rw [show (setI S1 10 (upd (S1.2.1 10) k (nI (c ((i + s + k) % n))))).1 0 14 = nI k from e1]
        refine x_iconst (v := nI 1) eX9_join_167 (by decide) ?_
        first | refine x_iaddN eX9_join_168 ?_ | refine x_iadd eX9_join_168 ?_
        refine s_puti eX9_join_169 fX9_218 wX9_14 rfl (by decide) (by decide) ?_
        refine x_iinc (lv' := [_, _, _, _, _, _, _, _]) eX9_join_172 rfl (by first | exact nI_inc _ | exact rfl) (by decide) rfl ?_
        refine x_goto eX9_join_175 ?_
        refine x_pick [0, 1, 2, 3, 4, 5, 6, 7] rfl ?_
        refine ih (k + 1) (by omega) _ ⟨(hx.tr (Fx.sI (by simp))).tr (Fx.sF (by simp)), fun f hf => ?_, by rw [setF_at, upd_at], fun z hz => ?_⟩
        · rw [setF_at, upd_ne _ _ hf]; exact fo f hf
        · show (setI S1 10 (upd (S1.2.1 10) k (nI (c ((i + s + k) % n))))).2.1 10 z = _
          rw [setI_at]
          by_cases y : z = k
          · subst y; rw [upd_at]
          · rw [upd_ne _ _ y]; exact hr z (by omega)
  exact loop (n - s + 1) 0 (by omega) S ⟨Fx.rf _ _ _ _ _, fun _ _ => rfl, e14, fun z hz => by omega⟩
theorem jm_two {S : xS} {a b n m i s k0 n1 : Nat} {d : Nat → Nat} {v : Int32} (pb : mpr S b m d) (hs : s < m) (hk : k0 < 24) (hn : n1 < 13) (e14 : S.1 0 14 = nI n1) {Q : Option Value → xS → Prop} (K : ∀ S1, Fx [0] [10] [] [] S S1 → (∀ f, f ≠ 14 → S1.1 0 f = S.1 0 f) → S1.1 0 14 = nI (n1 + (m - s - 1)) → (∀ z, z < n1 → S1.2.1 10 z = S.2.1 10 z) → (∀ z, z < m - s - 1 → S1.2.1 10 (n1 + z) = nI (d ((k0 + (z + 1)) % m))) → XP mX9_join 242 [(7, .int (nI k0)), (6, .int (nI i)), (5, .int v), (4, .int (nI s)), (3, .int (nI n)), (0, .ref 0), (1, .int (nI a)), (2, .int (nI b))] [] (xwS S1) (sQ Q)) : XP mX9_join 193 [(8, .int (nI 1)), (7, .int (nI k0)), (6, .int (nI i)), (5, .int v), (4, .int (nI s)), (3, .int (nI n)), (0, .ref 0), (1, .int (nI a)), (2, .int (nI b))] [] (xwS S) (sQ Q) := by
  have m12 := pb.2.2.1
  have hb := pb.1
  have loop : ∀ μ k, k + μ = (m - s) → ∀ S1, (0 < k ∧ Fx [0] [10] [] [] S S1 ∧ (∀ f, f ≠ 14 → S1.1 0 f = S.1 0 f) ∧ S1.1 0 14 = nI (n1 + (k - 1)) ∧ (∀ z, z < n1 → S1.2.1 10 z = S.2.1 10 z) ∧ ∀ z, z < k - 1 → S1.2.1 10 (n1 + z) = nI (d ((k0 + (z + 1)) % m))) → XP mX9_join 193 [(8, .int (nI k)), (7, .int (nI k0)), (6, .int (nI i)), (5, .int v), (4, .int (nI s)), (3, .int (nI n)), (0, .ref 0), (1, .int (nI a)), (2, .int (nI b))] [] (xwS S1) (sQ Q) := by
    intro μ
    induction μ with
    | zero =>
      intro k hk S1 h1
      obtain ⟨k1, hx, fo, e1, ho, hr⟩ := h1
      have pr := pb.fx hx (by simp) (by simp)
      refine x_iload eX9_join_193 rfl ?_
      refine x_aload_n eX9_join_195 rfl ?_
      refine s_getR (k := 15) eX9_join_196 fX9_58 rfl (by decide) (by decide) rfl ?_
      refine x_iload_n eX9_join_199 rfl ?_
      refine s_iald eX9_join_200 rfl (by decide) rfl (show _ < 60 by omega) ?_
      rw [pr.2.2.2.1]
      refine x_iload eX9_join_201 rfl ?_
      first | refine x_isubN eX9_join_203 (by omega) ?_ | refine x_isub eX9_join_203 ?_
      refine x_icmp_geN eX9_join_204 (by omega) (by omega) (fun c_204 => ?_) (fun c_204 => ?_)
      · refine x_pick [1, 2, 3, 4, 5, 6, 7, 8] rfl ?_
        obtain rfl : k = m - s := by omega
        exact K S1 hx fo e1 ho hr
      · omega
    | succ μ ih =>
      intro k hk S1 h1
      obtain ⟨k1, hx, fo, e1, ho, hr⟩ := h1
      have pr := pb.fx hx (by simp) (by simp)
      refine x_iload eX9_join_193 rfl ?_
      refine x_aload_n eX9_join_195 rfl ?_
      refine s_getR (k := 15) eX9_join_196 fX9_58 rfl (by decide) (by decide) rfl ?_
      refine x_iload_n eX9_join_199 rfl ?_
      refine s_iald eX9_join_200 rfl (by decide) rfl (show _ < 60 by omega) ?_
      rw [pr.2.2.2.1]
      refine x_iload eX9_join_201 rfl ?_
      first | refine x_isubN eX9_join_203 (by omega) ?_ | refine x_isub eX9_join_203 ?_
      refine x_icmp_geN eX9_join_204 (by omega) (by omega) (fun c_204 => ?_) (fun c_204 => ?_)
      · omega
      · refine x_aload_n eX9_join_207 rfl ?_
        refine s_getR (k := 10) eX9_join_208 fX9_42 rfl (by decide) (by decide) rfl ?_
        refine x_aload_n eX9_join_211 rfl ?_
        refine s_geti eX9_join_212 fX9_218 rfl (by decide) (by decide) ?_
        rw [e1]
        refine x_aload_n eX9_join_215 rfl ?_
        refine x_iload_n eX9_join_216 rfl ?_
        refine x_iload eX9_join_217 rfl ?_
        refine x_iload eX9_join_219 rfl ?_
        first | refine x_iaddN eX9_join_221 ?_ | refine x_iadd eX9_join_221 ?_
        refine s_callV1 (As := [_, _]) eX9_join_222 kX9_241 ⟨by decide, by decide⟩ rfl (by decide) (by decide) rfl rfl (Nat.le_of_ble_eq_true rfl) (Nat.le_of_ble_eq_true rfl) (sp_X9_of _ pr (by omega)) (fun S_222 h_222 => ?_)
        have h_222 := h_222.symm
        subst h_222
        refine s_iast eX9_join_225 rfl (by decide) rfl (show _ < 24 by omega) ?_
        refine x_aload_n eX9_join_226 rfl ?_
        refine x_dup eX9_join_227 rfl ?_
        refine s_geti eX9_join_228 fX9_218 rfl (by decide) (by decide) ?_
        rw [show (setI S1 10 (upd (S1.2.1 10) (n1 + (k - 1)) (nI (d ((k0 + k) % m))))).1 0 14 = nI (n1 + (k - 1)) from e1]
        refine x_iconst (v := nI 1) eX9_join_231 (by decide) ?_
        first | refine x_iaddN eX9_join_232 ?_ | refine x_iadd eX9_join_232 ?_
        refine s_puti eX9_join_233 fX9_218 wX9_14 rfl (by decide) (by decide) ?_
        refine x_iinc (lv' := [_, _, _, _, _, _, _, _, _]) eX9_join_236 rfl (by first | exact nI_inc _ | exact rfl) (by decide) rfl ?_
        refine x_goto eX9_join_239 ?_
        refine x_pick [0, 1, 2, 3, 4, 5, 6, 7, 8] rfl ?_
        refine ih (k + 1) (by omega) _ ⟨by omega, (hx.tr (Fx.sI (by simp))).tr (Fx.sF (by simp)), fun f hf => ?_, by rw [setF_at, upd_at, show n1 + (k + 1 - 1) = n1 + (k - 1) + 1 by omega], fun z hz => ?_, fun z hz => ?_⟩
        · rw [setF_at, upd_ne _ _ hf]; exact fo f hf
        · show (setI S1 10 (upd (S1.2.1 10) (n1 + (k - 1)) (nI (d ((k0 + k) % m))))).2.1 10 z = _
          rw [setI_at, upd_ne _ _ (by omega)]; exact ho z hz
        · show (setI S1 10 (upd (S1.2.1 10) (n1 + (k - 1)) (nI (d ((k0 + k) % m))))).2.1 10 (n1 + z) = _
          rw [setI_at]
          by_cases y : z = k - 1
          · subst y; rw [upd_at, show k - 1 + 1 = k by omega]
          · rw [upd_ne _ _ (by omega)]; exact hr z (by omega)
  exact loop (m - s - 1) 1 (by omega) S ⟨by omega, Fx.rf _ _ _ _ _, fun _ _ => rfl, e14, fun _ _ => rfl, fun z hz => by omega⟩
theorem m_join_apart {S : xS} {X : LM} (w : wf X) (h : RM S X) {a b : Nat} (ha : a < xNp X) (ta : xTh X a = true) (hb : b < xNp X) (tb : xTh X b = true) (hab : a ≠ b) (hl : xLy X a = xLy X b) (hu : ¬ cnt (stX X a b) (xSz X a) = 1) : Sp mX9_join [.ref 0, .int (nI a), .int (nI b)] S (fun r S' => r = some (.int (-205)) ∧ RM S' X ∧ frM S S') := by
  have n60 : xNp X ≤ 60 := w.2.2.2.2.1.1
  have n200 := w.1
  have na : xSz X a ≤ 12 := (wf_good w ta).2.1
  have nb : xSz X b ≤ 12 := (wf_good w tb).2.1
  have ya : hasP (xNp X) (tTh (xTb X)) (nI a) := ⟨a, ha, rfl, ta⟩
  have yb : hasP (xNp X) (tTh (xTb X)) (nI b) := ⟨b, hb, rfl, tb⟩
  have pa := h.pr w ha ta
  have pb := h.pr w hb tb
  have ic : ∀ i j, i < xSz X a → j < xSz X a → xRg X a i = xRg X a j → i = j := (wf_good w ta).2.2.2.1
  have id' : ∀ i j, i < xSz X b → j < xSz X b → xRg X b i = xRg X b j → i = j := (wf_good w tb).2.2.2.1
  have la : S.2.1 13 a = nI (xLy X a) := ((h.2.2.2.1.2 a ha).2 ta).1
  have lb : S.2.1 13 b = nI (xLy X b) := ((h.2.2.2.1.2 b hb).2 tb).1
  have l4 : xLy X a < 4 := (w.2.2.2.2.1.2.1 a ta).1
  have cl := cnt_le (stX X a b) (xSz X a)
  show XP _ _ [_, _, _] _ _ _
  refine x_aload_n eX9_join_0 rfl ?_
  refine x_iload_n eX9_join_1 rfl ?_
  refine s_callV1 (As := [_]) eX9_join_2 kX9_284 ⟨by decide, by decide⟩ rfl (by decide) (by decide) rfl rfl (Nat.le_of_ble_eq_true rfl) (Nat.le_of_ble_eq_true rfl) (sp_X9_isParcel (h.tab w) (nI a)) (fun S_2 h_2 => ?_)
  have h_2 := h_2.symm
  subst h_2
  refine x_if_eqT eX9_join_5 (fun c_5 => ?_) (fun c_5 => ?_)
  · exact absurd ya c_5
  · refine x_aload_n eX9_join_8 rfl ?_
    refine x_iload_n eX9_join_9 rfl ?_
    refine s_callV1 (As := [_]) eX9_join_10 kX9_284 ⟨by decide, by decide⟩ rfl (by decide) (by decide) rfl rfl (Nat.le_of_ble_eq_true rfl) (Nat.le_of_ble_eq_true rfl) (sp_X9_isParcel (h.tab w) (nI b)) (fun S_10 h_10 => ?_)
    have h_10 := h_10.symm
    subst h_10
    refine x_if_neT eX9_join_13 (fun c_13 => ?_) (fun c_13 => ?_)
    · refine x_iload_n eX9_join_19 rfl ?_
      refine x_iload_n eX9_join_20 rfl ?_
      refine x_icmp_eqN eX9_join_21 (by omega) (by omega) (fun c_21 => ?_) (fun c_21 => ?_)
      · omega
      · refine x_aload_n eX9_join_24 rfl ?_
        refine s_getR (k := 13) eX9_join_25 fX9_52 rfl (by decide) (by decide) rfl ?_
        refine x_iload_n eX9_join_28 rfl ?_
        refine s_iald eX9_join_29 rfl (by decide) rfl (show _ < 60 by omega) ?_
        rw [la]
        refine x_aload_n eX9_join_30 rfl ?_
        refine s_getR (k := 13) eX9_join_31 fX9_52 rfl (by decide) (by decide) rfl ?_
        refine x_iload_n eX9_join_34 rfl ?_
        refine s_iald eX9_join_35 rfl (by decide) rfl (show _ < 60 by omega) ?_
        rw [lb]
        refine x_icmp_eqN eX9_join_36 (by omega) (by omega) (fun c_36 => ?_) (fun c_36 => ?_)
        · refine x_aload_n eX9_join_42 rfl ?_
          refine s_getR (k := 15) eX9_join_43 fX9_58 rfl (by decide) (by decide) rfl ?_
          refine x_iload_n eX9_join_46 rfl ?_
          refine s_iald eX9_join_47 rfl (by decide) rfl (show _ < 60 by omega) ?_
          rw [pa.2.2.2.1]
          refine x_istore_n (lv' := [_, _, _, _]) eX9_join_48 (by decide) rfl ?_
          refine x_iconst (v := nI 0) eX9_join_49 (by decide) ?_
          refine x_istore (lv' := [_, _, _, _, _]) eX9_join_50 (by decide) rfl ?_
          refine x_iconst (v := nI 0) eX9_join_52 (by decide) ?_
          refine x_istore (lv' := [_, _, _, _, _, _]) eX9_join_53 (by decide) rfl ?_
          refine x_iconst (v := nI 0) eX9_join_55 (by decide) ?_
          refine x_istore (lv' := [_, _, _, _, _, _, _]) eX9_join_56 (by decide) rfl ?_
          refine x_iconst (v := nI 0) eX9_join_58 (by decide) ?_
          refine x_istore (lv' := [_, _, _, _, _, _, _, _]) eX9_join_59 (by decide) rfl ?_
          refine x_pick [0, 1, 2, 3, 4, 5, 6, 7] rfl ?_
          refine jm_count pa pb id' ?_
          show XP _ _ [_, (5, .int (nI (cnt (stX X a b) (xSz X a)))), _, _, _, _, _] _ _ _
          refine x_iload eX9_join_113 rfl ?_
          refine x_iconst (v := nI 1) eX9_join_115 (by decide) ?_
          refine x_icmp_eqN eX9_join_116 (by omega) (by omega) (fun c_116 => ?_) (fun c_116 => ?_)
          · omega
          · refine x_sipush (v := -205) eX9_join_119 (by decide) ?_
            exact s_iret eX9_join_122 rfl rfl ⟨rfl, h, frM.rf _⟩
        · omega
    · exact absurd yb c_13
theorem m_join_no {S : xS} {X : LM} (w : wf X) (h : RM S X) {a b : Nat} (ha : a < xNp X) (ta : xTh X a = true) (hb : b < xNp X) (tb : xTh X b = true) (hab : a ≠ b) (hl : xLy X a = xLy X b) {i y : Nat} (u : uniq (stX X a b) (xSz X a) i) (hy : ∀ k, k < xSz X b → rev (xRg X a) (xSz X a) (xRg X b) (xSz X b) i k → (y + shN X a b) % xSz X b = (k + 1) % xSz X b) (hf : (xFt X (jnN X a b) (jnX X a b i y)).1 ≠ 0) : Sp mX9_join [.ref 0, .int (nI a), .int (nI b)] S (fun r S' => r = some (.int (xFt X (jnN X a b) (jnX X a b i y)).1) ∧ RM S' (uS X (xFt X (jnN X a b) (jnX X a b i y)).2 (xSu X) (xEd X)) ∧ frM S S') := by
  have n60 : xNp X ≤ 60 := w.2.2.2.2.1.1
  have n200 := w.1
  have na : xSz X a ≤ 12 := (wf_good w ta).2.1
  have nb : xSz X b ≤ 12 := (wf_good w tb).2.1
  have ya : hasP (xNp X) (tTh (xTb X)) (nI a) := ⟨a, ha, rfl, ta⟩
  have yb : hasP (xNp X) (tTh (xTb X)) (nI b) := ⟨b, hb, rfl, tb⟩
  have pa := h.pr w ha ta
  have pb := h.pr w hb tb
  have ic : ∀ i j, i < xSz X a → j < xSz X a → xRg X a i = xRg X a j → i = j := (wf_good w ta).2.2.2.1
  have id' : ∀ i j, i < xSz X b → j < xSz X b → xRg X b i = xRg X b j → i = j := (wf_good w tb).2.2.2.1
  have la : S.2.1 13 a = nI (xLy X a) := ((h.2.2.2.1.2 a ha).2 ta).1
  have lb : S.2.1 13 b = nI (xLy X b) := ((h.2.2.2.1.2 b hb).2 tb).1
  have l4 : xLy X a < 4 := (w.2.2.2.2.1.2.1 a ta).1
  obtain ⟨s0, sa, sb, -⟩ := jn_facts w ta tb u
  have hia := u.1
  have jl := fun (k : Nat) (_ : k < jnN X a b) => jn_lt w ta tb i y k
  have nl : jnN X a b ≤ 24 := by unfold jnN; omega
  obtain ⟨k0, hk0, r0, e0⟩ := rvI_at (c := xRg X a) (n := xSz X a) (d := xRg X b) (m := xSz X b) u.2.1.1
  have hy0 := hy k0 hk0 r0
  have e1 : lastS (stE (xRg X a) (xSz X a) (xRg X b) (xSz X b)) (xSz X a) = i := lastS_uniq u
  have e2 : cnt (stE (xRg X a) (xSz X a) (xRg X b) (xSz X b)) (xSz X a) = 1 := uniq_cnt u
  show XP _ _ [_, _, _] _ _ _
  refine x_aload_n eX9_join_0 rfl ?_
  refine x_iload_n eX9_join_1 rfl ?_
  refine s_callV1 (As := [_]) eX9_join_2 kX9_284 ⟨by decide, by decide⟩ rfl (by decide) (by decide) rfl rfl (Nat.le_of_ble_eq_true rfl) (Nat.le_of_ble_eq_true rfl) (sp_X9_isParcel (h.tab w) (nI a)) (fun S_2 h_2 => ?_)
  have h_2 := h_2.symm
  subst h_2
  refine x_if_eqT eX9_join_5 (fun c_5 => ?_) (fun c_5 => ?_)
  · exact absurd ya c_5
  · refine x_aload_n eX9_join_8 rfl ?_
    refine x_iload_n eX9_join_9 rfl ?_
    refine s_callV1 (As := [_]) eX9_join_10 kX9_284 ⟨by decide, by decide⟩ rfl (by decide) (by decide) rfl rfl (Nat.le_of_ble_eq_true rfl) (Nat.le_of_ble_eq_true rfl) (sp_X9_isParcel (h.tab w) (nI b)) (fun S_10 h_10 => ?_)
    have h_10 := h_10.symm
    subst h_10
    refine x_if_neT eX9_join_13 (fun c_13 => ?_) (fun c_13 => ?_)
    · refine x_iload_n eX9_join_19 rfl ?_
      refine x_iload_n eX9_join_20 rfl ?_
      refine x_icmp_eqN eX9_join_21 (by omega) (by omega) (fun c_21 => ?_) (fun c_21 => ?_)
      · omega
      · refine x_aload_n eX9_join_24 rfl ?_
        refine s_getR (k := 13) eX9_join_25 fX9_52 rfl (by decide) (by decide) rfl ?_
        refine x_iload_n eX9_join_28 rfl ?_
        refine s_iald eX9_join_29 rfl (by decide) rfl (show _ < 60 by omega) ?_
        rw [la]
        refine x_aload_n eX9_join_30 rfl ?_
        refine s_getR (k := 13) eX9_join_31 fX9_52 rfl (by decide) (by decide) rfl ?_
        refine x_iload_n eX9_join_34 rfl ?_
        refine s_iald eX9_join_35 rfl (by decide) rfl (show _ < 60 by omega) ?_
        rw [lb]
        refine x_icmp_eqN eX9_join_36 (by omega) (by omega) (fun c_36 => ?_) (fun c_36 => ?_)
        · refine x_aload_n eX9_join_42 rfl ?_
          refine s_getR (k := 15) eX9_join_43 fX9_58 rfl (by decide) (by decide) rfl ?_
          refine x_iload_n eX9_join_46 rfl ?_
          refine s_iald eX9_join_47 rfl (by decide) rfl (show _ < 60 by omega) ?_
          rw [pa.2.2.2.1]
          refine x_istore_n (lv' := [_, _, _, _]) eX9_join_48 (by decide) rfl ?_
          refine x_iconst (v := nI 0) eX9_join_49 (by decide) ?_
          refine x_istore (lv' := [_, _, _, _, _]) eX9_join_50 (by decide) rfl ?_
          refine x_iconst (v := nI 0) eX9_join_52 (by decide) ?_
          refine x_istore (lv' := [_, _, _, _, _, _]) eX9_join_53 (by decide) rfl ?_
          refine x_iconst (v := nI 0) eX9_join_55 (by decide) ?_
          refine x_istore (lv' := [_, _, _, _, _, _, _]) eX9_join_56 (by decide) rfl ?_
          refine x_iconst (v := nI 0) eX9_join_58 (by decide) ?_
          refine x_istore (lv' := [_, _, _, _, _, _, _, _]) eX9_join_59 (by decide) rfl ?_
          refine x_pick [0, 1, 2, 3, 4, 5, 6, 7] rfl ?_
          refine jm_count pa pb id' ?_
          rw [e1, e2, show cnt (shE (xRg X a) (xSz X a) (xRg X b) (xSz X b)) (xSz X a) = shN X a b from rfl]
          refine x_iload eX9_join_113 rfl ?_
          refine x_iconst (v := nI 1) eX9_join_115 (by decide) ?_
          refine x_icmp_eqN eX9_join_116 (by omega) (by omega) (fun c_116 => ?_) (fun c_116 => ?_)
          · refine x_aload_n eX9_join_123 rfl ?_
            refine x_iconst (v := nI 0) eX9_join_124 (by decide) ?_
            refine s_puti eX9_join_125 fX9_218 wX9_14 rfl (by decide) (by decide) ?_
            refine x_iconst (v := nI 0) eX9_join_128 (by decide) ?_
            refine x_istore (lv' := [_, _, _, _, _, _, _, _]) eX9_join_129 (by decide) rfl ?_
            refine x_pick [0, 1, 2, 3, 4, 5, 6, 7] rfl ?_
            have xa : Fx [0] [10] [] [] S (setF S 0 (upd (S.1 0) 14 (nI 0))) := Fx.sF (by simp)
            refine jm_one (pa.fx xa (by simp) (by simp)) (by omega) sa (by rw [setF_at, upd_at]) (fun S3 x3 fo3 e14a r3 => ?_)
            have pa1 := (pa.fx xa (by simp) (by simp)).fx x3 (by simp) (by simp)
            have pb1 := (pb.fx xa (by simp) (by simp)).fx x3 (by simp) (by simp)
            refine x_aload_n eX9_join_178 rfl ?_
            refine x_iload_n eX9_join_179 rfl ?_
            refine x_iload eX9_join_180 rfl ?_
            refine x_iload_n eX9_join_182 rfl ?_
            refine s_callV1 (As := [_, _, _]) eX9_join_183 kX9_294 ⟨by decide, by decide⟩ rfl (by decide) (by decide) rfl rfl (Nat.le_of_ble_eq_true rfl) (Nat.le_of_ble_eq_true rfl) (sp_X9_reverse _ pa1 pb1 (by omega) id') (fun S_183 h_183 => ?_)
            have h_183 := h_183.symm
            subst h_183
            rw [e0]
            refine x_iconst (v := nI 1) eX9_join_186 (by decide) ?_
            first | refine x_iaddN eX9_join_187 ?_ | refine x_iadd eX9_join_187 ?_
            refine x_istore (lv' := [_, _, _, _, _, _, _, _]) eX9_join_188 (by decide) rfl ?_
            refine x_iconst (v := nI 1) eX9_join_190 (by decide) ?_
            refine x_istore (lv' := [_, _, _, _, _, _, _, _, _]) eX9_join_191 (by decide) rfl ?_
            refine x_pick [0, 1, 2, 3, 4, 5, 6, 7, 8] rfl ?_
            refine jm_two (n1 := xSz X a - shN X a b + 1) pb1 sb (by omega) (by omega) e14a (fun S4 x4 fo4 e14b rk rl => ?_)
            have xx : Fx [0] [10] [] [] S S4 := (xa.tr x3).tr x4
            have fo : ∀ f, f ≠ 14 → S4.1 0 f = S.1 0 f := fun f hf => by rw [fo4 f hf, fo3 f hf, setF_at, upd_ne _ _ hf]
            have mr : mrg S4 (jnN X a b) (jnX X a b i y) := by
              refine ⟨e14b, nl, fun z hz => ⟨?_, by have := jl z hz; omega⟩⟩
              unfold jnX jnR
              by_cases q : z < xSz X a - shN X a b + 1
              · rw [if_pos q, rk z q]; exact r3 z q
              · rw [if_neg q]
                have hz2 : z < xSz X a - shN X a b + 1 + (xSz X b - shN X a b - 1) := hz
                have := rl (z - (xSz X a - shN X a b + 1)) (by omega)
                rw [show xSz X a - shN X a b + 1 + (z - (xSz X a - shN X a b + 1)) = z by omega] at this
                rw [this]
                have em : (k0 + 1 + (z - (xSz X a - shN X a b + 1) + 1)) % xSz X b = (y + shN X a b + 1 + (z - (xSz X a - shN X a b + 1))) % xSz X b := by
                  rw [← Nat.mod_add_mod, ← hy0, Nat.mod_add_mod]; congr 1; omega
                rw [em]
            have z2 : Zx X S S4 := Fx.zx (xx.mono (by simp) (by simp) (by simp) (by simp)) (fun f a _ => fo f a) (fun j _ => by rw [xx.2.1 15 (by simp)]) (fun j _ => by rw [xx.2.1 16 (by simp)])
            have e12 : S4.1 0 12 = xWh X := (fo 12 (by decide)).trans h.2.2.1.1
            have h2 : RM S4 X := RM_Z w h z2 e12
            refine x_aload_n eX9_join_242 rfl ?_
            obtain ⟨T, hT⟩ := h2.pts w
            have eft := ftM_PT w T jl
            refine s_callV1 (As := []) eX9_join_243 kX9_268 ⟨by decide, by decide⟩ rfl (by decide) (by decide) rfl rfl (Nat.le_of_ble_eq_true rfl) (Nat.le_of_ble_eq_true rfl) (sp_X9_faultOf _ hT mr jl) (fun S_243 h_243 => ?_)
            rw [eft] at h_243 ⊢
            obtain ⟨wx, f12⟩ := h_243
            have z3 := z2.tr wx.zx
            refine x_istore (lv' := [_, _, _, _, _, _, _, _, _]) eX9_join_246 (by decide) rfl ?_
            refine x_iload eX9_join_248 rfl ?_
            refine x_if_eq eX9_join_250 (fun c_250 => ?_) (fun c_250 => ?_)
            · exact absurd c_250 hf
            · refine x_iload eX9_join_253 rfl ?_
              exact s_iret eX9_join_255 rfl rfl ⟨rfl, RM_Z w h z3 (by rw [f12, if_neg hf]), z3.2.2.2.2.2.2⟩
          · omega
        · omega
    · exact absurd yb c_13
theorem m_join_yes {S : xS} {X : LM} (w : wf X) (h : RM S X) {a b : Nat} (ha : a < xNp X) (ta : xTh X a = true) (hb : b < xNp X) (tb : xTh X b = true) (hab : a ≠ b) (hl : xLy X a = xLy X b) {i y : Nat} (u : uniq (stX X a b) (xSz X a) i) (hy : ∀ k, k < xSz X b → rev (xRg X a) (xSz X a) (xRg X b) (xSz X b) i k → (y + shN X a b) % xSz X b = (k + 1) % xSz X b) (hf : (xFt X (jnN X a b) (jnX X a b i y)).1 = 0) : Sp mX9_join [.ref 0, .int (nI a), .int (nI b)] S (fun r S' => r = some (.int (nI (jnN X a b))) ∧ RM S' (uT X (xNp X) (jnT X a b i y)) ∧ frM S S') := by
  have n60 : xNp X ≤ 60 := w.2.2.2.2.1.1
  have n200 := w.1
  have na : xSz X a ≤ 12 := (wf_good w ta).2.1
  have nb : xSz X b ≤ 12 := (wf_good w tb).2.1
  have ya : hasP (xNp X) (tTh (xTb X)) (nI a) := ⟨a, ha, rfl, ta⟩
  have yb : hasP (xNp X) (tTh (xTb X)) (nI b) := ⟨b, hb, rfl, tb⟩
  have pa := h.pr w ha ta
  have pb := h.pr w hb tb
  have ic : ∀ i j, i < xSz X a → j < xSz X a → xRg X a i = xRg X a j → i = j := (wf_good w ta).2.2.2.1
  have id' : ∀ i j, i < xSz X b → j < xSz X b → xRg X b i = xRg X b j → i = j := (wf_good w tb).2.2.2.1
  have la : S.2.1 13 a = nI (xLy X a) := ((h.2.2.2.1.2 a ha).2 ta).1
  have lb : S.2.1 13 b = nI (xLy X b) := ((h.2.2.2.1.2 b hb).2 tb).1
  have l4 : xLy X a < 4 := (w.2.2.2.2.1.2.1 a ta).1
  obtain ⟨s0, sa, sb, -⟩ := jn_facts w ta tb u
  have hia := u.1
  have jl := fun (k : Nat) (_ : k < jnN X a b) => jn_lt w ta tb i y k
  have nl : jnN X a b ≤ 24 := by unfold jnN; omega
  obtain ⟨k0, hk0, r0, e0⟩ := rvI_at (c := xRg X a) (n := xSz X a) (d := xRg X b) (m := xSz X b) u.2.1.1
  have hy0 := hy k0 hk0 r0
  have e1 : lastS (stE (xRg X a) (xSz X a) (xRg X b) (xSz X b)) (xSz X a) = i := lastS_uniq u
  have e2 : cnt (stE (xRg X a) (xSz X a) (xRg X b) (xSz X b)) (xSz X a) = 1 := uniq_cnt u
  show XP _ _ [_, _, _] _ _ _
  refine x_aload_n eX9_join_0 rfl ?_
  refine x_iload_n eX9_join_1 rfl ?_
  refine s_callV1 (As := [_]) eX9_join_2 kX9_284 ⟨by decide, by decide⟩ rfl (by decide) (by decide) rfl rfl (Nat.le_of_ble_eq_true rfl) (Nat.le_of_ble_eq_true rfl) (sp_X9_isParcel (h.tab w) (nI a)) (fun S_2 h_2 => ?_)
  have h_2 := h_2.symm
  subst h_2
  refine x_if_eqT eX9_join_5 (fun c_5 => ?_) (fun c_5 => ?_)
  · exact absurd ya c_5
  · refine x_aload_n eX9_join_8 rfl ?_
    refine x_iload_n eX9_join_9 rfl ?_
    refine s_callV1 (As := [_]) eX9_join_10 kX9_284 ⟨by decide, by decide⟩ rfl (by decide) (by decide) rfl rfl (Nat.le_of_ble_eq_true rfl) (Nat.le_of_ble_eq_true rfl) (sp_X9_isParcel (h.tab w) (nI b)) (fun S_10 h_10 => ?_)
    have h_10 := h_10.symm
    subst h_10
    refine x_if_neT eX9_join_13 (fun c_13 => ?_) (fun c_13 => ?_)
    · refine x_iload_n eX9_join_19 rfl ?_
      refine x_iload_n eX9_join_20 rfl ?_
      refine x_icmp_eqN eX9_join_21 (by omega) (by omega) (fun c_21 => ?_) (fun c_21 => ?_)
      · omega
      · refine x_aload_n eX9_join_24 rfl ?_
        refine s_getR (k := 13) eX9_join_25 fX9_52 rfl (by decide) (by decide) rfl ?_
        refine x_iload_n eX9_join_28 rfl ?_
        refine s_iald eX9_join_29 rfl (by decide) rfl (show _ < 60 by omega) ?_
        rw [la]
        refine x_aload_n eX9_join_30 rfl ?_
        refine s_getR (k := 13) eX9_join_31 fX9_52 rfl (by decide) (by decide) rfl ?_
        refine x_iload_n eX9_join_34 rfl ?_
        refine s_iald eX9_join_35 rfl (by decide) rfl (show _ < 60 by omega) ?_
        rw [lb]
        refine x_icmp_eqN eX9_join_36 (by omega) (by omega) (fun c_36 => ?_) (fun c_36 => ?_)
        · refine x_aload_n eX9_join_42 rfl ?_
          refine s_getR (k := 15) eX9_join_43 fX9_58 rfl (by decide) (by decide) rfl ?_
          refine x_iload_n eX9_join_46 rfl ?_
          refine s_iald eX9_join_47 rfl (by decide) rfl (show _ < 60 by omega) ?_
          rw [pa.2.2.2.1]
          refine x_istore_n (lv' := [_, _, _, _]) eX9_join_48 (by decide) rfl ?_
          refine x_iconst (v := nI 0) eX9_join_49 (by decide) ?_
          refine x_istore (lv' := [_, _, _, _, _]) eX9_join_50 (by decide) rfl ?_
          refine x_iconst (v := nI 0) eX9_join_52 (by decide) ?_
          refine x_istore (lv' := [_, _, _, _, _, _]) eX9_join_53 (by decide) rfl ?_
          refine x_iconst (v := nI 0) eX9_join_55 (by decide) ?_
          refine x_istore (lv' := [_, _, _, _, _, _, _]) eX9_join_56 (by decide) rfl ?_
          refine x_iconst (v := nI 0) eX9_join_58 (by decide) ?_
          refine x_istore (lv' := [_, _, _, _, _, _, _, _]) eX9_join_59 (by decide) rfl ?_
          refine x_pick [0, 1, 2, 3, 4, 5, 6, 7] rfl ?_
          refine jm_count pa pb id' ?_
          rw [e1, e2, show cnt (shE (xRg X a) (xSz X a) (xRg X b) (xSz X b)) (xSz X a) = shN X a b from rfl]
          refine x_iload eX9_join_113 rfl ?_
          refine x_iconst (v := nI 1) eX9_join_115 (by decide) ?_
          refine x_icmp_eqN eX9_join_116 (by omega) (by omega) (fun c_116 => ?_) (fun c_116 => ?_)
          · refine x_aload_n eX9_join_123 rfl ?_
            refine x_iconst (v := nI 0) eX9_join_124 (by decide) ?_
            refine s_puti eX9_join_125 fX9_218 wX9_14 rfl (by decide) (by decide) ?_
            refine x_iconst (v := nI 0) eX9_join_128 (by decide) ?_
            refine x_istore (lv' := [_, _, _, _, _, _, _, _]) eX9_join_129 (by decide) rfl ?_
            refine x_pick [0, 1, 2, 3, 4, 5, 6, 7] rfl ?_
            have xa : Fx [0] [10] [] [] S (setF S 0 (upd (S.1 0) 14 (nI 0))) := Fx.sF (by simp)
            refine jm_one (pa.fx xa (by simp) (by simp)) (by omega) sa (by rw [setF_at, upd_at]) (fun S3 x3 fo3 e14a r3 => ?_)
            have pa1 := (pa.fx xa (by simp) (by simp)).fx x3 (by simp) (by simp)
            have pb1 := (pb.fx xa (by simp) (by simp)).fx x3 (by simp) (by simp)
            refine x_aload_n eX9_join_178 rfl ?_
            refine x_iload_n eX9_join_179 rfl ?_
            refine x_iload eX9_join_180 rfl ?_
            refine x_iload_n eX9_join_182 rfl ?_
            refine s_callV1 (As := [_, _, _]) eX9_join_183 kX9_294 ⟨by decide, by decide⟩ rfl (by decide) (by decide) rfl rfl (Nat.le_of_ble_eq_true rfl) (Nat.le_of_ble_eq_true rfl) (sp_X9_reverse _ pa1 pb1 (by omega) id') (fun S_183 h_183 => ?_)
            have h_183 := h_183.symm
            subst h_183
            rw [e0]
            refine x_iconst (v := nI 1) eX9_join_186 (by decide) ?_
            first | refine x_iaddN eX9_join_187 ?_ | refine x_iadd eX9_join_187 ?_
            refine x_istore (lv' := [_, _, _, _, _, _, _, _]) eX9_join_188 (by decide) rfl ?_
            refine x_iconst (v := nI 1) eX9_join_190 (by decide) ?_
            refine x_istore (lv' := [_, _, _, _, _, _, _, _, _]) eX9_join_191 (by decide) rfl ?_
            refine x_pick [0, 1, 2, 3, 4, 5, 6, 7, 8] rfl ?_
            refine jm_two (n1 := xSz X a - shN X a b + 1) pb1 sb (by omega) (by omega) e14a (fun S4 x4 fo4 e14b rk rl => ?_)
            have xx : Fx [0] [10] [] [] S S4 := (xa.tr x3).tr x4
            have fo : ∀ f, f ≠ 14 → S4.1 0 f = S.1 0 f := fun f hf => by rw [fo4 f hf, fo3 f hf, setF_at, upd_ne _ _ hf]
            have mr : mrg S4 (jnN X a b) (jnX X a b i y) := by
              refine ⟨e14b, nl, fun z hz => ⟨?_, by have := jl z hz; omega⟩⟩
              unfold jnX jnR
              by_cases q : z < xSz X a - shN X a b + 1
              · rw [if_pos q, rk z q]; exact r3 z q
              · rw [if_neg q]
                have hz2 : z < xSz X a - shN X a b + 1 + (xSz X b - shN X a b - 1) := hz
                have := rl (z - (xSz X a - shN X a b + 1)) (by omega)
                rw [show xSz X a - shN X a b + 1 + (z - (xSz X a - shN X a b + 1)) = z by omega] at this
                rw [this]
                have em : (k0 + 1 + (z - (xSz X a - shN X a b + 1) + 1)) % xSz X b = (y + shN X a b + 1 + (z - (xSz X a - shN X a b + 1))) % xSz X b := by
                  rw [← Nat.mod_add_mod, ← hy0, Nat.mod_add_mod]; congr 1; omega
                rw [em]
            have z2 : Zx X S S4 := Fx.zx (xx.mono (by simp) (by simp) (by simp) (by simp)) (fun f a _ => fo f a) (fun j _ => by rw [xx.2.1 15 (by simp)]) (fun j _ => by rw [xx.2.1 16 (by simp)])
            have e12 : S4.1 0 12 = xWh X := (fo 12 (by decide)).trans h.2.2.1.1
            have h2 : RM S4 X := RM_Z w h z2 e12
            refine x_aload_n eX9_join_242 rfl ?_
            obtain ⟨T, hT⟩ := h2.pts w
            have eft := ftM_PT w T jl
            refine s_callV1 (As := []) eX9_join_243 kX9_268 ⟨by decide, by decide⟩ rfl (by decide) (by decide) rfl rfl (Nat.le_of_ble_eq_true rfl) (Nat.le_of_ble_eq_true rfl) (sp_X9_faultOf _ hT mr jl) (fun S_243 h_243 => ?_)
            rw [eft] at h_243 ⊢
            obtain ⟨wx, f12⟩ := h_243
            have z3 := z2.tr wx.zx
            refine x_istore (lv' := [_, _, _, _, _, _, _, _, _]) eX9_join_246 (by decide) rfl ?_
            refine x_iload eX9_join_248 rfl ?_
            refine x_if_eq eX9_join_250 (fun c_250 => ?_) (fun c_250 => ?_)
            · refine x_aload_n eX9_join_256 rfl ?_
              have e12b : S_243.1 0 12 = xWh X := by rw [f12, if_pos hf]; exact e12
              have h3 : RM S_243 X := RM_Z w h z3 e12b
              have sg := st_good w jl hf
              have mr3 : mrg S_243 (jnN X a b) (jnX X a b i y) := mr.zx (wx.2.1 14 (by decide)) (by rw [wx.2.2.1])
              obtain ⟨T3, hT3⟩ := h3.pts w
              refine s_callV0 (As := []) eX9_join_257 kX9_278 ⟨by decide, by decide⟩ rfl (by decide) (by decide) rfl rfl (Nat.le_of_ble_eq_true rfl) (Nat.le_of_ble_eq_true rfl) (sp_mkp w h3) (fun S_257 h_257 => ?_)
              have k1 := h_257
              have mr4 : mrg S_257 (jnN X a b) (jnX X a b i y) := mr3.zx (k1.2.2.1 14 (by decide) (by decide)) (k1.1.2.1 10 (by simp))
              have hT4 := hT3.fx k1.1 (by simp) (by simp)
              refine x_aload_n eX9_join_260 rfl ?_
              refine s_callV0 (As := []) eX9_join_261 kX9_272 ⟨by decide, by decide⟩ rfl (by decide) (by decide) rfl rfl (Nat.le_of_ble_eq_true rfl) (Nat.le_of_ble_eq_true rfl) (sp_X9_turnLeft _ hT4 mr4 jl (by have := sg.1; omega)) (fun S_261 h_261 => ?_)
              obtain ⟨x5, mr5⟩ := h_261
              rw [stM_PT w T3 jl hf] at mr5
              refine x_aload_n eX9_join_264 rfl ?_
              refine x_iload_n eX9_join_265 rfl ?_
              refine s_callV0 (As := [_]) eX9_join_266 kX9_234 ⟨by decide, by decide⟩ rfl (by decide) (by decide) rfl rfl (Nat.le_of_ble_eq_true rfl) (Nat.le_of_ble_eq_true rfl) (sp_X9_store _ (p := a) (by omega) mr5 sg.2.1) (fun S_266 h_266 => ?_)
              obtain ⟨x6, r15, r16⟩ := h_266
              refine x_aload_n eX9_join_269 rfl ?_
              refine s_getR (k := 12) eX9_join_270 fX9_48 rfl (by decide) (by decide) rfl ?_
              refine x_iload_n eX9_join_273 rfl ?_
              refine x_iconst (v := nI 0) eX9_join_274 (by decide) ?_
              refine s_zast eX9_join_275 rfl (by decide) rfl (show _ < 60 by omega) (by first | exact Or.inl rfl | exact Or.inr rfl | exact bI_01 _) ?_
              refine x_aload_n eX9_join_276 rfl ?_
              refine s_geti eX9_join_277 fX9_218 rfl (by decide) (by decide) ?_
              rw [show (setI S_266 12 (upd (S_266.2.1 12) b (nI 0))).1 0 14 = nI (jnN X a b) by show S_266.1 0 14 = _; rw [x6.1 0 (by simp)]; exact mr5.1]
              have x2 : Fx [0] [10, 11, 12, 13, 14, 15, 16, 23] [5, 6, 7] [] S_257 (setI S_266 12 (upd (S_266.2.1 12) b (nI 0))) := ((x5.mono (by simp) (by simp) (by simp) (by simp)).tr (x6.mono (by simp) (by simp) (by simp) (by simp))).tr (Fx.sI (by simp))
              have f0 : ∀ f, (setI S_266 12 (upd (S_266.2.1 12) b (nI 0))).1 0 f = S_257.1 0 f := fun f => by show S_266.1 0 f = _; rw [x6.1 0 (by simp), x5.1 0 (by simp)]
              have ir : ∀ r, r = 12 ∨ r = 13 ∨ r = 14 → S_266.2.1 r = S_243.2.1 r := fun r hr => by rw [x6.2.1 r (by simp; omega), x5.2.1 r (by simp; omega)]; exact k1.1.2.1 r (by simp; omega)
              have i5 : ∀ r, r = 15 ∨ r = 16 → S_261.2.1 r = S_243.2.1 r := fun r hr => by rw [x5.2.1 r (by simp; omega)]; exact k1.1.2.1 r (by simp; omega)
              have own := rg_own (xTb X) a (jnN X a b) (xSt X (jnN X a b) (jnX X a b i y))
              refine s_iret eX9_join_280 rfl rfl ⟨rfl, RM_mut w h3 k1 x2 (fun f _ _ => f0 f) (by rw [f0, k1.2.2.1 16 (by decide) (by decide)]; exact h3.2.2.2.1.1) (fun e he => ?_), (z3.2.2.2.2.2.2.tr (k1.1.frM (by simp) (by simp) (by simp) (by simp))).tr (x2.frM (by simp) (by simp) (by simp) (by simp))⟩
              have m := h3.2.2.2.1.2 e he
              by_cases z : e = b
              · subst z
                have eb : tTh (jnT X a e i y) e = false := if_pos rfl
                exact ⟨by rw [setI_at, upd_at, eb]; rfl, fun q => by rw [eb] at q; exact absurd q (by decide)⟩
              · have zt := th_ag (t := setRg (xTb X) a (jnN X a b) (xSt X (jnN X a b) (jnX X a b i y))) (b := false) z
                have et : tTh (jnT X a b i y) e = tTh (xTb X) e := zt.1
                refine ⟨by rw [setI_at, upd_ne _ _ z, ir 12 (by simp), et]; exact m.1, fun t => ?_⟩
                have t : tTh (xTb X) e = true := et.symm.trans t
                have bb := m.2 t
                have sz : tSz (xTb X) e ≤ 12 := (wf_good w (show xTh X e = true from t)).2.1
                refine ⟨by rw [setI_ne _ _ (by decide), ir 13 (by simp)]; exact bb.1, by rw [setI_ne _ _ (by decide), ir 14 (by simp)]; exact bb.2.1, ?_, fun k hk => ?_⟩
                · rw [setI_ne _ _ (by decide), r15]
                  by_cases q : e = a
                  · subst q; rw [if_pos rfl, show tSz (jnT X e b i y) e = jnN X e b from own.1]
                  · have z2 := rg_ag (t := xTb X) (n := jnN X a b) (c := (xSt X (jnN X a b) (jnX X a b i y))) q
                    rw [if_neg q, i5 15 (by simp), show tSz (jnT X a b i y) e = tSz (xTb X) e from z2.2.2.2.1]; exact bb.2.2.1
                · rw [setI_ne _ _ (by decide), r16]
                  by_cases q : e = a
                  · subst q; rw [show tSz (jnT X e b i y) e = jnN X e b from own.1] at hk; rw [if_pos (by omega), show tRg (jnT X e b i y) e = (xSt X (jnN X e b) (jnX X e b i y)) from own.2, show 12 * e + k - 12 * e = k by omega]
                  · have z2 := rg_ag (t := xTb X) (n := jnN X a b) (c := (xSt X (jnN X a b) (jnX X a b i y))) q
                    rw [show tSz (jnT X a b i y) e = tSz (xTb X) e from z2.2.2.2.1] at hk
                    have s12 := sg.2.1
                    rw [if_neg (by omega), i5 16 (by simp), show tRg (jnT X a b i y) e = tRg (xTb X) e from z2.2.2.2.2]; exact bb.2.2.2 k hk
            · exact absurd hf c_250
          · omega
        · omega
    · exact absurd yb c_13
theorem b_join {X : LM} (w : wf X) (p q : Int32) : both X mX8_join mX9_join [.int p, .int q] := by
  have n60 : xNp X ≤ 60 := w.2.2.2.2.1.1
  by_cases hp : xHas X p
  rotate_left
  · refine ⟨.int (-101), X, w, fun S h => ?_, fun S h => ?_⟩
    · show XP _ _ [_, _, _] _ _ _
      refine x_aload_n eX8_join_0 rfl ?_
      refine s_getR (k := 37) eX8_join_1 fX8_28 rfl (by decide) (by decide) rfl ?_
      refine x_iload_n eX8_join_4 rfl ?_
      refine s_callV1 (As := [_]) eX8_join_5 kX8_144 ⟨by decide, by decide⟩ rfl (by decide) (by decide) rfl rfl (Nat.le_of_ble_eq_true rfl) (Nat.le_of_ble_eq_true rfl) (sp_X3_has (h.tab w) p) (fun S_5 h_5 => ?_)
      have h_5 := h_5.symm
      subst h_5
      refine x_if_eqT eX8_join_8 (fun c_8 => ?_) (fun c_8 => ?_)
      · refine x_bipush (v := -101) eX8_join_22 (by decide) ?_
        exact s_iret eX8_join_24 rfl rfl ⟨rfl, h, frC.rf _⟩
      · exact absurd c_8 hp
    · show XP _ _ [_, _, _] _ _ _
      refine x_aload_n eX9_join_0 rfl ?_
      refine x_iload_n eX9_join_1 rfl ?_
      refine s_callV1 (As := [_]) eX9_join_2 kX9_284 ⟨by decide, by decide⟩ rfl (by decide) (by decide) rfl rfl (Nat.le_of_ble_eq_true rfl) (Nat.le_of_ble_eq_true rfl) (sp_X9_isParcel (h.tab w) p) (fun S_2 h_2 => ?_)
      have h_2 := h_2.symm
      subst h_2
      refine x_if_eqT eX9_join_5 (fun c_5 => ?_) (fun c_5 => ?_)
      · refine x_bipush (v := -101) eX9_join_16 (by decide) ?_
        exact s_iret eX9_join_18 rfl rfl ⟨rfl, h, frM.rf _⟩
      · exact absurd c_5 hp
  by_cases hq : xHas X q
  rotate_left
  · refine ⟨.int (-101), X, w, fun S h => ?_, fun S h => ?_⟩
    · show XP _ _ [_, _, _] _ _ _
      refine x_aload_n eX8_join_0 rfl ?_
      refine s_getR (k := 37) eX8_join_1 fX8_28 rfl (by decide) (by decide) rfl ?_
      refine x_iload_n eX8_join_4 rfl ?_
      refine s_callV1 (As := [_]) eX8_join_5 kX8_144 ⟨by decide, by decide⟩ rfl (by decide) (by decide) rfl rfl (Nat.le_of_ble_eq_true rfl) (Nat.le_of_ble_eq_true rfl) (sp_X3_has (h.tab w) p) (fun S_5 h_5 => ?_)
      have h_5 := h_5.symm
      subst h_5
      refine x_if_eqT eX8_join_8 (fun c_8 => ?_) (fun c_8 => ?_)
      · exact absurd hp c_8
      · refine x_aload_n eX8_join_11 rfl ?_
        refine s_getR (k := 37) eX8_join_12 fX8_28 rfl (by decide) (by decide) rfl ?_
        refine x_iload_n eX8_join_15 rfl ?_
        refine s_callV1 (As := [_]) eX8_join_16 kX8_144 ⟨by decide, by decide⟩ rfl (by decide) (by decide) rfl rfl (Nat.le_of_ble_eq_true rfl) (Nat.le_of_ble_eq_true rfl) (sp_X3_has (h.tab w) q) (fun S_16 h_16 => ?_)
        have h_16 := h_16.symm
        subst h_16
        refine x_if_neT eX8_join_19 (fun c_19 => ?_) (fun c_19 => ?_)
        · exact absurd c_19 hq
        · refine x_bipush (v := -101) eX8_join_22 (by decide) ?_
          exact s_iret eX8_join_24 rfl rfl ⟨rfl, h, frC.rf _⟩
    · show XP _ _ [_, _, _] _ _ _
      refine x_aload_n eX9_join_0 rfl ?_
      refine x_iload_n eX9_join_1 rfl ?_
      refine s_callV1 (As := [_]) eX9_join_2 kX9_284 ⟨by decide, by decide⟩ rfl (by decide) (by decide) rfl rfl (Nat.le_of_ble_eq_true rfl) (Nat.le_of_ble_eq_true rfl) (sp_X9_isParcel (h.tab w) p) (fun S_2 h_2 => ?_)
      have h_2 := h_2.symm
      subst h_2
      refine x_if_eqT eX9_join_5 (fun c_5 => ?_) (fun c_5 => ?_)
      · exact absurd hp c_5
      · refine x_aload_n eX9_join_8 rfl ?_
        refine x_iload_n eX9_join_9 rfl ?_
        refine s_callV1 (As := [_]) eX9_join_10 kX9_284 ⟨by decide, by decide⟩ rfl (by decide) (by decide) rfl rfl (Nat.le_of_ble_eq_true rfl) (Nat.le_of_ble_eq_true rfl) (sp_X9_isParcel (h.tab w) q) (fun S_10 h_10 => ?_)
        have h_10 := h_10.symm
        subst h_10
        refine x_if_neT eX9_join_13 (fun c_13 => ?_) (fun c_13 => ?_)
        · exact absurd c_13 hq
        · refine x_bipush (v := -101) eX9_join_16 (by decide) ?_
          exact s_iret eX9_join_18 rfl rfl ⟨rfl, h, frM.rf _⟩
  obtain ⟨a, ha, rfl, ta⟩ := hp
  obtain ⟨b, hb, rfl, tb⟩ := hq
  have ya : hasP (xNp X) (tTh (xTb X)) (nI a) := ⟨a, ha, rfl, ta⟩
  have yb : hasP (xNp X) (tTh (xTb X)) (nI b) := ⟨b, hb, rfl, tb⟩
  have la4 : xLy X a < 4 := (w.2.2.2.2.1.2.1 a ta).1
  have lb4 : xLy X b < 4 := (w.2.2.2.2.1.2.1 b tb).1
  by_cases hab : a = b
  · refine ⟨.int (-102), X, w, fun S h => ?_, fun S h => ?_⟩
    · show XP _ _ [_, _, _] _ _ _
      refine x_aload_n eX8_join_0 rfl ?_
      refine s_getR (k := 37) eX8_join_1 fX8_28 rfl (by decide) (by decide) rfl ?_
      refine x_iload_n eX8_join_4 rfl ?_
      refine s_callV1 (As := [_]) eX8_join_5 kX8_144 ⟨by decide, by decide⟩ rfl (by decide) (by decide) rfl rfl (Nat.le_of_ble_eq_true rfl) (Nat.le_of_ble_eq_true rfl) (sp_X3_has (h.tab w) (nI a)) (fun S_5 h_5 => ?_)
      have h_5 := h_5.symm
      subst h_5
      refine x_if_eqT eX8_join_8 (fun c_8 => ?_) (fun c_8 => ?_)
      · exact absurd ya c_8
      · refine x_aload_n eX8_join_11 rfl ?_
        refine s_getR (k := 37) eX8_join_12 fX8_28 rfl (by decide) (by decide) rfl ?_
        refine x_iload_n eX8_join_15 rfl ?_
        refine s_callV1 (As := [_]) eX8_join_16 kX8_144 ⟨by decide, by decide⟩ rfl (by decide) (by decide) rfl rfl (Nat.le_of_ble_eq_true rfl) (Nat.le_of_ble_eq_true rfl) (sp_X3_has (h.tab w) (nI b)) (fun S_16 h_16 => ?_)
        have h_16 := h_16.symm
        subst h_16
        refine x_if_neT eX8_join_19 (fun c_19 => ?_) (fun c_19 => ?_)
        · refine x_iload_n eX8_join_25 rfl ?_
          refine x_iload_n eX8_join_26 rfl ?_
          refine x_icmp_eqN eX8_join_27 (by omega) (by omega) (fun c_27 => ?_) (fun c_27 => ?_)
          · refine x_bipush (v := -102) eX8_join_57 (by decide) ?_
            exact s_iret eX8_join_59 rfl rfl ⟨rfl, h, frC.rf _⟩
          · omega
        · exact absurd yb c_19
    · show XP _ _ [_, _, _] _ _ _
      refine x_aload_n eX9_join_0 rfl ?_
      refine x_iload_n eX9_join_1 rfl ?_
      refine s_callV1 (As := [_]) eX9_join_2 kX9_284 ⟨by decide, by decide⟩ rfl (by decide) (by decide) rfl rfl (Nat.le_of_ble_eq_true rfl) (Nat.le_of_ble_eq_true rfl) (sp_X9_isParcel (h.tab w) (nI a)) (fun S_2 h_2 => ?_)
      have h_2 := h_2.symm
      subst h_2
      refine x_if_eqT eX9_join_5 (fun c_5 => ?_) (fun c_5 => ?_)
      · exact absurd ya c_5
      · refine x_aload_n eX9_join_8 rfl ?_
        refine x_iload_n eX9_join_9 rfl ?_
        refine s_callV1 (As := [_]) eX9_join_10 kX9_284 ⟨by decide, by decide⟩ rfl (by decide) (by decide) rfl rfl (Nat.le_of_ble_eq_true rfl) (Nat.le_of_ble_eq_true rfl) (sp_X9_isParcel (h.tab w) (nI b)) (fun S_10 h_10 => ?_)
        have h_10 := h_10.symm
        subst h_10
        refine x_if_neT eX9_join_13 (fun c_13 => ?_) (fun c_13 => ?_)
        · refine x_iload_n eX9_join_19 rfl ?_
          refine x_iload_n eX9_join_20 rfl ?_
          refine x_icmp_eqN eX9_join_21 (by omega) (by omega) (fun c_21 => ?_) (fun c_21 => ?_)
          · refine x_bipush (v := -102) eX9_join_39 (by decide) ?_
            exact s_iret eX9_join_41 rfl rfl ⟨rfl, h, frM.rf _⟩
          · omega
        · exact absurd yb c_13
  by_cases hl : xLy X a = xLy X b
  rotate_left
  · refine ⟨.int (-102), X, w, fun S h => ?_, fun S h => ?_⟩
    · show XP _ _ [_, _, _] _ _ _
      refine x_aload_n eX8_join_0 rfl ?_
      refine s_getR (k := 37) eX8_join_1 fX8_28 rfl (by decide) (by decide) rfl ?_
      refine x_iload_n eX8_join_4 rfl ?_
      refine s_callV1 (As := [_]) eX8_join_5 kX8_144 ⟨by decide, by decide⟩ rfl (by decide) (by decide) rfl rfl (Nat.le_of_ble_eq_true rfl) (Nat.le_of_ble_eq_true rfl) (sp_X3_has (h.tab w) (nI a)) (fun S_5 h_5 => ?_)
      have h_5 := h_5.symm
      subst h_5
      refine x_if_eqT eX8_join_8 (fun c_8 => ?_) (fun c_8 => ?_)
      · exact absurd ya c_8
      · refine x_aload_n eX8_join_11 rfl ?_
        refine s_getR (k := 37) eX8_join_12 fX8_28 rfl (by decide) (by decide) rfl ?_
        refine x_iload_n eX8_join_15 rfl ?_
        refine s_callV1 (As := [_]) eX8_join_16 kX8_144 ⟨by decide, by decide⟩ rfl (by decide) (by decide) rfl rfl (Nat.le_of_ble_eq_true rfl) (Nat.le_of_ble_eq_true rfl) (sp_X3_has (h.tab w) (nI b)) (fun S_16 h_16 => ?_)
        have h_16 := h_16.symm
        subst h_16
        refine x_if_neT eX8_join_19 (fun c_19 => ?_) (fun c_19 => ?_)
        · refine x_iload_n eX8_join_25 rfl ?_
          refine x_iload_n eX8_join_26 rfl ?_
          refine x_icmp_eqN eX8_join_27 (by omega) (by omega) (fun c_27 => ?_) (fun c_27 => ?_)
          · omega
          · refine x_aload_n eX8_join_30 rfl ?_
            refine s_getR (k := 37) eX8_join_31 fX8_28 rfl (by decide) (by decide) rfl ?_
            refine s_getR (k := 38) eX8_join_34 fX8_145 rfl (by decide) (by decide) rfl ?_
            refine x_iload_n eX8_join_37 rfl ?_
            refine s_raldR eX8_join_38 (by first | exact Or.inl rfl | exact Or.inr rfl) (by decide) rfl (show _ < 60 by omega) (rf_parcels a) ?_
            refine s_geti eX8_join_39 fX8_149 (kd_parcel (by omega)) (show _ < 365 by omega) (by decide) ?_
            rw [show S.1 (175 + a) 2 = nI (xLy X a) from ((h.2.2.2.1.2 a (by omega)).2 ta).1]
            refine x_aload_n eX8_join_42 rfl ?_
            refine s_getR (k := 37) eX8_join_43 fX8_28 rfl (by decide) (by decide) rfl ?_
            refine s_getR (k := 38) eX8_join_46 fX8_145 rfl (by decide) (by decide) rfl ?_
            refine x_iload_n eX8_join_49 rfl ?_
            refine s_raldR eX8_join_50 (by first | exact Or.inl rfl | exact Or.inr rfl) (by decide) rfl (show _ < 60 by omega) (rf_parcels b) ?_
            refine s_geti eX8_join_51 fX8_149 (kd_parcel (by omega)) (show _ < 365 by omega) (by decide) ?_
            rw [show S.1 (175 + b) 2 = nI (xLy X b) from ((h.2.2.2.1.2 b (by omega)).2 tb).1]
            refine x_icmp_eqN eX8_join_54 (by omega) (by omega) (fun c_54 => ?_) (fun c_54 => ?_)
            · omega
            · refine x_bipush (v := -102) eX8_join_57 (by decide) ?_
              exact s_iret eX8_join_59 rfl rfl ⟨rfl, h, frC.rf _⟩
        · exact absurd yb c_19
    · show XP _ _ [_, _, _] _ _ _
      refine x_aload_n eX9_join_0 rfl ?_
      refine x_iload_n eX9_join_1 rfl ?_
      refine s_callV1 (As := [_]) eX9_join_2 kX9_284 ⟨by decide, by decide⟩ rfl (by decide) (by decide) rfl rfl (Nat.le_of_ble_eq_true rfl) (Nat.le_of_ble_eq_true rfl) (sp_X9_isParcel (h.tab w) (nI a)) (fun S_2 h_2 => ?_)
      have h_2 := h_2.symm
      subst h_2
      refine x_if_eqT eX9_join_5 (fun c_5 => ?_) (fun c_5 => ?_)
      · exact absurd ya c_5
      · refine x_aload_n eX9_join_8 rfl ?_
        refine x_iload_n eX9_join_9 rfl ?_
        refine s_callV1 (As := [_]) eX9_join_10 kX9_284 ⟨by decide, by decide⟩ rfl (by decide) (by decide) rfl rfl (Nat.le_of_ble_eq_true rfl) (Nat.le_of_ble_eq_true rfl) (sp_X9_isParcel (h.tab w) (nI b)) (fun S_10 h_10 => ?_)
        have h_10 := h_10.symm
        subst h_10
        refine x_if_neT eX9_join_13 (fun c_13 => ?_) (fun c_13 => ?_)
        · refine x_iload_n eX9_join_19 rfl ?_
          refine x_iload_n eX9_join_20 rfl ?_
          refine x_icmp_eqN eX9_join_21 (by omega) (by omega) (fun c_21 => ?_) (fun c_21 => ?_)
          · omega
          · refine x_aload_n eX9_join_24 rfl ?_
            refine s_getR (k := 13) eX9_join_25 fX9_52 rfl (by decide) (by decide) rfl ?_
            refine x_iload_n eX9_join_28 rfl ?_
            refine s_iald eX9_join_29 rfl (by decide) rfl (show _ < 60 by omega) ?_
            rw [show S.2.1 13 a = nI (xLy X a) from ((h.2.2.2.1.2 a ha).2 ta).1]
            refine x_aload_n eX9_join_30 rfl ?_
            refine s_getR (k := 13) eX9_join_31 fX9_52 rfl (by decide) (by decide) rfl ?_
            refine x_iload_n eX9_join_34 rfl ?_
            refine s_iald eX9_join_35 rfl (by decide) rfl (show _ < 60 by omega) ?_
            rw [show S.2.1 13 b = nI (xLy X b) from ((h.2.2.2.1.2 b hb).2 tb).1]
            refine x_icmp_eqN eX9_join_36 (by omega) (by omega) (fun c_36 => ?_) (fun c_36 => ?_)
            · omega
            · refine x_bipush (v := -102) eX9_join_39 (by decide) ?_
              exact s_iret eX9_join_41 rfl rfl ⟨rfl, h, frM.rf _⟩
        · exact absurd yb c_13
  by_cases hu : cnt (stX X a b) (xSz X a) = 1
  rotate_left
  · exact ⟨.int (-205), X, w, fun S h => c_join_apart w h ha ta hb tb hab hl hu, fun S h => m_join_apart w h ha ta hb tb hab hl hu⟩
  obtain ⟨i, u⟩ := cnt_one hu
  obtain ⟨-, -, -, y, uy, hy⟩ := jn_facts w ta tb u
  by_cases hf : (xFt X (jnN X a b) (jnX X a b i y)).1 = 0
  · exact ⟨.int (nI (jnN X a b)), uT X (xNp X) (jnT X a b i y), wf_join w ta tb hf, fun S h => c_join_yes w h ha ta hb tb hab hl u uy hf, fun S h => m_join_yes w h ha ta hb tb hab hl u hy hf⟩
  · exact ⟨.int (xFt X (jnN X a b) (jnX X a b i y)).1, uS X (xFt X (jnN X a b) (jnX X a b i y)).2 (xSu X) (xEd X), wf_uS w _ _ _, fun S h => c_join_no w h ha ta hb tb hab hl u uy hf, fun S h => m_join_no w h ha ta hb tb hab hl u hy hf⟩
