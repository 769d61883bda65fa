/-! ===== the reference's ring in hand; its faults ===== -/
def mrg (S : xS) (n : Nat) (c : Nat → Nat) : Prop := S.1 0 14 = nI n ∧ n ≤ 24 ∧ ∀ i, i < n → S.2.1 10 i = nI (c i) ∧ c i < 200
theorem mrg.lx {ps : List Nat} {S S' : xS} {n : Nat} {c : Nat → Nat} (h : mrg S n c) (hx : Lx ps S S') : mrg S' n c := ⟨by rw [hx.1]; exact h.1, h.2.1, fun i hi => by rw [hx.2.1]; exact h.2.2 i hi⟩
theorem mps.lx {S S' : xS} {nc : Nat} {P : Nat → Pt} (h : mps S nc P) (hx : Lx [5, 6, 7] S S') : mps S' nc P := fun s hs => (h s hs).mv hx (by decide) (by decide)
/-- what faultOf changes -/
def Wx (S S' : xS) : Prop := (∀ p, p ≠ 0 → S'.1 p = S.1 p) ∧ (∀ f, f ≠ 12 → S'.1 0 f = S.1 0 f) ∧ S'.2.1 = S.2.1 ∧ S'.2.2.2 = S.2.2.2 ∧ ∀ p, p ∉ [5, 6, 7] → S'.2.2.1 p = S.2.2.1 p
theorem Lx.wx {S S1 : xS} (h : Lx [5, 6, 7] S S1) : Wx S S1 := ⟨fun p _ => by rw [h.1], fun f _ => by rw [h.1], h.2.1, h.2.2.1, h.2.2.2⟩
theorem Wx.tr {S S1 S2 : xS} (h : Wx S S1) (g : Wx S1 S2) : Wx S S2 := ⟨fun p hp => (g.1 p hp).trans (h.1 p hp), fun f a => (g.2.1 f a).trans (h.2.1 f a), g.2.2.1.trans h.2.2.1, g.2.2.2.1.trans h.2.2.2.1, fun p hp => (g.2.2.2.2 p hp).trans (h.2.2.2.2 p hp)⟩
theorem Wx.set {S : xS} (x : Int32) : Wx S (setF S 0 (upd (S.1 0) 12 x)) := ⟨fun p hp => setF_ne S _ hp, fun f hf => by rw [setF_at, upd_ne _ _ hf], rfl, rfl, fun _ _ => rfl⟩
theorem ne0c (a b : Int32) (h : a ≠ 0) : ¬ (a, b).1 = 0 := h
theorem sp_X9_fault (S : xS) (code place : Int32) : Sp mX9_fault [.ref 0, .int code, .int place] S (fun r S' => r = some (.int code) ∧ S' = setF S 0 (upd (S.1 0) 12 place)) := by
  show XP _ _ [_, _, _] _ _ _
  refine x_aload_n eX9_fault_0 rfl ?_
  refine x_iload_n eX9_fault_1 rfl ?_
  refine s_puti eX9_fault_2 fX9_215 wX9_12 rfl (by decide) (by decide) ?_
  refine x_iload_n eX9_fault_5 rfl ?_
  exact s_iret eX9_fault_6 rfl rfl ⟨rfl, rfl⟩
theorem sp_X9_faultOf (S : xS) {nc n : Nat} {c : Nat → Nat} {P : Nat → Pt} (hp0 : mps S nc P) (h0 : mrg S n c) (hc : ∀ i, i < n → c i < nc) : Sp mX9_faultOf [.ref 0] S (fun r S' => r = some (.int (ft comP (vr P c n) n c).1) ∧ Wx S S' ∧ S'.1 0 12 = if (ft comP (vr P c n) n c).1 = 0 then S.1 0 12 else (ft comP (vr P c n) n c).2) := by
  have n24 := h0.2.1
  have lc : ∀ k, k < n → c k < 200 := fun k hk => (h0.2.2 k hk).2
  by_cases h3 : n < 3 ∨ 12 < n
  · show XP _ _ [_] _ _ _
    have ein : decide (nI 3 ≤ nI n ∧ nI n ≤ nI 12) = false := decide_eq_false (fun z => by rw [nI_leI (by omega) (by omega), nI_leI (by omega) (by omega)] at z; omega)
    refine x_aload_n eX9_faultOf_0 rfl ?_
    refine s_geti eX9_faultOf_1 fX9_218 rfl (by decide) (by decide) ?_
    rw [h0.1]
    refine x_iconst (v := nI 3) eX9_faultOf_4 (by decide) ?_
    refine x_bipush (v := nI 12) eX9_faultOf_5 (by decide) ?_
    refine s_callS1 (As := [_, _, _]) eX9_faultOf_7 kX9_173 ⟨by decide, by decide⟩ rfl rfl (Nat.le_of_ble_eq_true rfl) (Nat.le_of_ble_eq_true rfl) (sp_X9_in _ _ _ _) (fun S_7 h_7 => ?_)
    have h_7 := h_7.symm
    subst h_7
    rw [ein]
    refine x_if_neB eX9_faultOf_10 (fun c_10 => ?_) (fun c_10 => ?_)
    · exact absurd c_10 (by decide)
    · refine x_aload_n eX9_faultOf_13 rfl ?_
      refine x_sipush (v := -201) eX9_faultOf_14 (by decide) ?_
      refine x_aload_n eX9_faultOf_17 rfl ?_
      refine s_geti eX9_faultOf_18 fX9_218 rfl (by decide) (by decide) ?_
      rw [h0.1]
      have e2 : (ft comP (vr P c n) n c) = (-201, nI n) := by unfold ft; rw [if_pos h3]
      refine s_callV1 (As := [_, _]) eX9_faultOf_21 kX9_221 ⟨by decide, by decide⟩ rfl (by decide) (by decide) rfl rfl (Nat.le_of_ble_eq_true rfl) (Nat.le_of_ble_eq_true rfl) (sp_X9_fault _ _ _) (fun S_f h_f => ?_)
      have h_f := h_f.symm
      subst h_f
      refine s_iret eX9_faultOf_24 rfl rfl ⟨?_, (show Wx S S from (Lx.rf _ _).wx).tr (Wx.set _), ?_⟩
      · rw [e2]
      · rw [e2, setF_at, upd_at, if_neg (ne0c _ _ (by decide))]
  · have n0 : 0 < n := by omega
    have ein : decide (nI 3 ≤ nI n ∧ nI n ≤ nI 12) = true := decide_eq_true (by rw [nI_leI (by omega) (by omega), nI_leI (by omega) (by omega)]; omega)
    have loopB : (∀ i k, i < k → k < n → c i ≠ c k) → ∀ μ a, a + μ = n → ∀ S1, (Lx [5, 6, 7] S S1 ∧ ∀ i k, i < a → i < k → k < n → ¬ crR comP (vr P c n) n i k) → XP mX9_faultOf 85 [(1, .int (nI a)), (0, .ref 0)] [] (xwS S1) (sQ (fun r S' => r = some (.int (ft comP (vr P c n) n c).1) ∧ Wx S S' ∧ S'.1 0 12 = if (ft comP (vr P c n) n c).1 = 0 then S.1 0 12 else (ft comP (vr P c n) n c).2)) := by
      intro ntw μ
      have etw : fstP (twR c) n = none := fstP_none ntw
      have adj : ∀ k, k < n → c k ≠ c ((k + 1) % n) := fun k hk => by
        by_cases q : k + 1 < n
        · rw [Nat.mod_eq_of_lt q]; exact ntw k (k + 1) (by omega) q
        · rw [show k + 1 = n by omega, Nat.mod_self]; exact fun e => ntw 0 k (by omega) hk e.symm
      induction μ with
      | zero =>
        intro a hk S1 h1
        obtain ⟨hx, hno⟩ := h1
        have h := h0.lx hx
        refine x_iload_n eX9_faultOf_85 rfl ?_
        refine x_aload_n eX9_faultOf_86 rfl ?_
        refine s_geti eX9_faultOf_87 fX9_218 rfl (by decide) (by decide) ?_
        rw [h.1]
        refine x_icmp_geN eX9_faultOf_90 (by omega) (by omega) (fun c_90 => ?_) (fun c_90 => ?_)
        · refine x_iconst (v := nI 0) eX9_faultOf_212 (by decide) ?_
          have e := fstP_none (R := crR comP (vr P c n) n) (n := n) (fun i k h1 h2 => hno i k (by omega) h1 h2)
          have e2 : (ft comP (vr P c n) n c) = (0, 0) := by unfold ft; rw [if_neg h3, etw]; simp only [e]
          refine s_iret eX9_faultOf_213 rfl rfl ⟨?_, hx.wx, ?_⟩
          · rw [e2] <;> rfl
          · rw [e2, if_pos rfl, hx.1]
        · omega
      | succ μ ih =>
        intro a hk S1 h1
        obtain ⟨hx, hno⟩ := h1
        have h := h0.lx hx
        have oh := ih
        have inner : ∀ μ b, b + μ = n → ∀ S2, (Lx [5, 6, 7] S S2 ∧ a < b ∧ ∀ k, a < k → k < b → ¬ crR comP (vr P c n) n a k) → XP mX9_faultOf 97 [(2, .int (nI b)), (1, .int (nI a)), (0, .ref 0)] [] (xwS S2) (sQ (fun r S' => r = some (.int (ft comP (vr P c n) n c).1) ∧ Wx S S' ∧ S'.1 0 12 = if (ft comP (vr P c n) n c).1 = 0 then S.1 0 12 else (ft comP (vr P c n) n c).2)) := by
          intro μ
          induction μ with
          | zero =>
            intro b hk S2 h1
            obtain ⟨hx, ab, hno2⟩ := h1
            have h := h0.lx hx
            have hp := hp0.lx hx
            have l1 := lc _ (Nat.mod_lt (a + 1) (by omega : 0 < n))
            have l2 := lc _ (Nat.mod_lt (b + 1) (by omega : 0 < n))
            refine x_iload_n eX9_faultOf_97 rfl ?_
            refine x_aload_n eX9_faultOf_98 rfl ?_
            refine s_geti eX9_faultOf_99 fX9_218 rfl (by decide) (by decide) ?_
            rw [h.1]
            refine x_icmp_geN eX9_faultOf_102 (by omega) (by omega) (fun c_102 => ?_) (fun c_102 => ?_)
            · refine x_iinc (lv' := [_, _, _]) eX9_faultOf_206 rfl (by first | exact nI_inc _ | exact rfl) (by decide) rfl ?_
              refine x_goto eX9_faultOf_209 ?_
              refine x_pick [0, 2] rfl ?_
              refine oh (a + 1) (by omega) _ ⟨hx, fun i k h1 h2 h3 => ?_⟩
              by_cases q : i < a
              · exact hno i k q h2 h3
              · obtain rfl : i = a := by omega
                exact hno2 k h2 (by omega)
            · omega
          | succ μ ih =>
            intro b hk S2 h1
            obtain ⟨hx, ab, hno2⟩ := h1
            have h := h0.lx hx
            have hp := hp0.lx hx
            have l1 := lc _ (Nat.mod_lt (a + 1) (by omega : 0 < n))
            have l2 := lc _ (Nat.mod_lt (b + 1) (by omega : 0 < n))
            refine x_iload_n eX9_faultOf_97 rfl ?_
            refine x_aload_n eX9_faultOf_98 rfl ?_
            refine s_geti eX9_faultOf_99 fX9_218 rfl (by decide) (by decide) ?_
            rw [h.1]
            refine x_icmp_geN eX9_faultOf_102 (by omega) (by omega) (fun c_102 => ?_) (fun c_102 => ?_)
            · omega
            · refine x_iload_n eX9_faultOf_105 rfl ?_
              refine x_iload_n eX9_faultOf_106 rfl ?_
              refine x_iconst (v := nI 1) eX9_faultOf_107 (by decide) ?_
              first | refine x_iaddN eX9_faultOf_108 ?_ | refine x_iadd eX9_faultOf_108 ?_
              refine x_icmp_eqN eX9_faultOf_109 (by omega) (by omega) (fun c_109 => ?_) (fun c_109 => ?_)
              · refine x_iconst (v := nI 1) eX9_faultOf_126 (by decide) ?_
                refine x_goto eX9_faultOf_127 ?_
                refine x_istore_n (lv' := [_, _, _, _]) eX9_faultOf_131 (by decide) rfl ?_
                refine x_aload_n eX9_faultOf_132 rfl ?_
                refine x_aload_n eX9_faultOf_133 rfl ?_
                refine s_getR (k := 10) eX9_faultOf_134 fX9_42 rfl (by decide) (by decide) rfl ?_
                refine x_iload_n eX9_faultOf_137 rfl ?_
                refine s_iald eX9_faultOf_138 rfl (by decide) rfl (show _ < 24 by omega) ?_
                rw [(h.2.2 a (by omega)).1]
                refine x_aload_n eX9_faultOf_139 rfl ?_
                refine s_getR (k := 10) eX9_faultOf_140 fX9_42 rfl (by decide) (by decide) rfl ?_
                refine x_iload_n eX9_faultOf_143 rfl ?_
                refine x_iconst (v := nI 1) eX9_faultOf_144 (by decide) ?_
                first | refine x_iaddN eX9_faultOf_145 ?_ | refine x_iadd eX9_faultOf_145 ?_
                refine x_aload_n eX9_faultOf_146 rfl ?_
                refine s_geti eX9_faultOf_147 fX9_218 rfl (by decide) (by decide) ?_
                rw [h.1]
                refine x_iremN eX9_faultOf_150 (by omega) (by omega) (by omega) ?_
                refine s_iald eX9_faultOf_151 rfl (by decide) rfl (show _ < 24 by have := Nat.mod_lt (a + 1) (by omega : 0 < n); omega) ?_
                rw [(h.2.2 _ (Nat.mod_lt (a + 1) (by omega : 0 < n))).1]
                refine x_aload_n eX9_faultOf_152 rfl ?_
                refine s_getR (k := 10) eX9_faultOf_153 fX9_42 rfl (by decide) (by decide) rfl ?_
                refine x_iload_n eX9_faultOf_156 rfl ?_
                refine s_iald eX9_faultOf_157 rfl (by decide) rfl (show _ < 24 by omega) ?_
                rw [(h.2.2 b (by omega)).1]
                refine x_aload_n eX9_faultOf_158 rfl ?_
                refine s_getR (k := 10) eX9_faultOf_159 fX9_42 rfl (by decide) (by decide) rfl ?_
                refine x_iload_n eX9_faultOf_162 rfl ?_
                refine x_iconst (v := nI 1) eX9_faultOf_163 (by decide) ?_
                first | refine x_iaddN eX9_faultOf_164 ?_ | refine x_iadd eX9_faultOf_164 ?_
                refine x_aload_n eX9_faultOf_165 rfl ?_
                refine s_geti eX9_faultOf_166 fX9_218 rfl (by decide) (by decide) ?_
                rw [h.1]
                refine x_iremN eX9_faultOf_169 (by omega) (by omega) (by omega) ?_
                refine s_iald eX9_faultOf_170 rfl (by decide) rfl (show _ < 24 by have := Nat.mod_lt (b + 1) (by omega : 0 < n); omega) ?_
                rw [(h.2.2 _ (Nat.mod_lt (b + 1) (by omega : 0 < n))).1]
                refine s_callV1 (As := [_, _, _, _]) eX9_faultOf_171 kX9_204 ⟨by decide, by decide⟩ rfl (by decide) (by decide) rfl rfl (Nat.le_of_ble_eq_true rfl) (Nat.le_of_ble_eq_true rfl) (sp_X9_common _ (hp _ (Or.inl (hc a (by omega)))) (hp _ (Or.inl (hc _ (Nat.mod_lt (a + 1) (by omega : 0 < n))))) (hp _ (Or.inl (hc b (by omega)))) (hp _ (Or.inl (hc _ (Nat.mod_lt (b + 1) (by omega : 0 < n))))) (adj a (by omega)) (adj b (by omega))) (fun S_171 h_171 => ?_)
                have hx := hx.tr h_171
                have ev : comP (P (c a)) (P (c ((a + 1) % n))) (P (c b)) (P (c ((b + 1) % n))) = comP (vr P c n a) (vr P c n (a + 1)) (vr P c n b) (vr P c n (b + 1)) := by unfold vr; rw [Nat.mod_eq_of_lt (show a < n by omega), Nat.mod_eq_of_lt (show b < n by omega)]
                rw [ev]
                refine x_iload_n eX9_faultOf_174 rfl ?_
                refine x_if_eqN eX9_faultOf_175 (by omega) (fun c_175 => ?_) (fun c_175 => ?_)
                · refine x_iconst (v := nI 0) eX9_faultOf_182 (by decide) ?_
                  refine x_icmp_eq eX9_faultOf_183 (fun c_183 => ?_) (fun c_183 => ?_)
                  · refine x_iinc (lv' := [_, _, _, _]) eX9_faultOf_200 rfl (by first | exact nI_inc _ | exact rfl) (by decide) rfl ?_
                    refine x_goto eX9_faultOf_203 ?_
                    refine x_pick [0, 2, 3] rfl ?_
                    first
                      | omega
                      | (refine ih (b + 1) (by omega) _ ⟨hx, by omega, fun k h1 h2 => ?_⟩
                         by_cases q : k < b
                         · exact hno2 k h1 q
                         · obtain rfl : k = b := by omega
                           unfold crR
                           first
                             | (rw [if_pos (by omega)]; exact fun z => z c_183)
                             | (rw [if_neg (by omega)]; exact fun z => z c_183))
                  · refine x_aload_n eX9_faultOf_186 rfl ?_
                    refine x_sipush (v := -203) eX9_faultOf_187 (by decide) ?_
                    refine x_bipush (v := nI 100) eX9_faultOf_190 (by decide) ?_
                    refine x_iload_n eX9_faultOf_192 rfl ?_
                    first | refine x_imulN eX9_faultOf_193 ?_ | refine x_imul eX9_faultOf_193 ?_
                    refine x_iload_n eX9_faultOf_194 rfl ?_
                    first | refine x_iaddN eX9_faultOf_195 ?_ | refine x_iadd eX9_faultOf_195 ?_
                    first
                      | omega
                      | (have bad : crR comP (vr P c n) n a b := by
                           unfold crR
                           first
                             | (rw [if_pos (by omega)]; exact c_183)
                             | (rw [if_neg (by omega)]; exact c_183)
                         have f : fp (crR comP (vr P c n) n) n a b := ⟨ab, by omega, bad, fun i k h1 h2 h3 r => by
                           rcases h3 with h3 | ⟨h3, h4⟩
                           · exact hno i k h3 h1 h2 r
                           · subst h3; exact hno2 k h1 h4 r⟩
                         have e2 : (ft comP (vr P c n) n c) = (-203, nI (100 * a + b)) := by unfold ft; rw [if_neg h3, etw]; simp only [fstP_some f]
                         refine s_callV1 (As := [_, _]) eX9_faultOf_196 kX9_221 ⟨by decide, by decide⟩ rfl (by decide) (by decide) rfl rfl (Nat.le_of_ble_eq_true rfl) (Nat.le_of_ble_eq_true rfl) (sp_X9_fault _ _ _) (fun S_f h_f => ?_)
                         have h_f := h_f.symm
                         subst h_f
                         refine s_iret eX9_faultOf_199 rfl rfl ⟨?_, hx.wx.tr (Wx.set _), ?_⟩
                         · rw [e2]
                         · rw [e2, setF_at, upd_at, if_neg (ne0c _ _ (by decide))])
                · refine x_iconst (v := nI 2) eX9_faultOf_178 (by decide) ?_
                  refine x_goto eX9_faultOf_179 ?_
                  refine x_icmp_eq eX9_faultOf_183 (fun c_183 => ?_) (fun c_183 => ?_)
                  · refine x_iinc (lv' := [_, _, _, _]) eX9_faultOf_200 rfl (by first | exact nI_inc _ | exact rfl) (by decide) rfl ?_
                    refine x_goto eX9_faultOf_203 ?_
                    refine x_pick [0, 2, 3] rfl ?_
                    first
                      | omega
                      | (refine ih (b + 1) (by omega) _ ⟨hx, by omega, fun k h1 h2 => ?_⟩
                         by_cases q : k < b
                         · exact hno2 k h1 q
                         · obtain rfl : k = b := by omega
                           unfold crR
                           first
                             | (rw [if_pos (by omega)]; exact fun z => z c_183)
                             | (rw [if_neg (by omega)]; exact fun z => z c_183))
                  · refine x_aload_n eX9_faultOf_186 rfl ?_
                    refine x_sipush (v := -203) eX9_faultOf_187 (by decide) ?_
                    refine x_bipush (v := nI 100) eX9_faultOf_190 (by decide) ?_
                    refine x_iload_n eX9_faultOf_192 rfl ?_
                    first | refine x_imulN eX9_faultOf_193 ?_ | refine x_imul eX9_faultOf_193 ?_
                    refine x_iload_n eX9_faultOf_194 rfl ?_
                    first | refine x_iaddN eX9_faultOf_195 ?_ | refine x_iadd eX9_faultOf_195 ?_
                    first
                      | omega
                      | (have bad : crR comP (vr P c n) n a b := by
                           unfold crR
                           first
                             | (rw [if_pos (by omega)]; exact c_183)
                             | (rw [if_neg (by omega)]; exact c_183)
                         have f : fp (crR comP (vr P c n) n) n a b := ⟨ab, by omega, bad, fun i k h1 h2 h3 r => by
                           rcases h3 with h3 | ⟨h3, h4⟩
                           · exact hno i k h3 h1 h2 r
                           · subst h3; exact hno2 k h1 h4 r⟩
                         have e2 : (ft comP (vr P c n) n c) = (-203, nI (100 * a + b)) := by unfold ft; rw [if_neg h3, etw]; simp only [fstP_some f]
                         refine s_callV1 (As := [_, _]) eX9_faultOf_196 kX9_221 ⟨by decide, by decide⟩ rfl (by decide) (by decide) rfl rfl (Nat.le_of_ble_eq_true rfl) (Nat.le_of_ble_eq_true rfl) (sp_X9_fault _ _ _) (fun S_f h_f => ?_)
                         have h_f := h_f.symm
                         subst h_f
                         refine s_iret eX9_faultOf_199 rfl rfl ⟨?_, hx.wx.tr (Wx.set _), ?_⟩
                         · rw [e2]
                         · rw [e2, setF_at, upd_at, if_neg (ne0c _ _ (by decide))])
              · refine x_iload_n eX9_faultOf_112 rfl ?_
                refine x_if_neN eX9_faultOf_113 (by omega) (fun c_113 => ?_) (fun c_113 => ?_)
                · refine x_iconst (v := nI 0) eX9_faultOf_130 (by decide) ?_
                  refine x_istore_n (lv' := [_, _, _, _]) eX9_faultOf_131 (by decide) rfl ?_
                  refine x_aload_n eX9_faultOf_132 rfl ?_
                  refine x_aload_n eX9_faultOf_133 rfl ?_
                  refine s_getR (k := 10) eX9_faultOf_134 fX9_42 rfl (by decide) (by decide) rfl ?_
                  refine x_iload_n eX9_faultOf_137 rfl ?_
                  refine s_iald eX9_faultOf_138 rfl (by decide) rfl (show _ < 24 by omega) ?_
                  rw [(h.2.2 a (by omega)).1]
                  refine x_aload_n eX9_faultOf_139 rfl ?_
                  refine s_getR (k := 10) eX9_faultOf_140 fX9_42 rfl (by decide) (by decide) rfl ?_
                  refine x_iload_n eX9_faultOf_143 rfl ?_
                  refine x_iconst (v := nI 1) eX9_faultOf_144 (by decide) ?_
                  first | refine x_iaddN eX9_faultOf_145 ?_ | refine x_iadd eX9_faultOf_145 ?_
                  refine x_aload_n eX9_faultOf_146 rfl ?_
                  refine s_geti eX9_faultOf_147 fX9_218 rfl (by decide) (by decide) ?_
                  rw [h.1]
                  refine x_iremN eX9_faultOf_150 (by omega) (by omega) (by omega) ?_
                  refine s_iald eX9_faultOf_151 rfl (by decide) rfl (show _ < 24 by have := Nat.mod_lt (a + 1) (by omega : 0 < n); omega) ?_
                  rw [(h.2.2 _ (Nat.mod_lt (a + 1) (by omega : 0 < n))).1]
                  refine x_aload_n eX9_faultOf_152 rfl ?_
                  refine s_getR (k := 10) eX9_faultOf_153 fX9_42 rfl (by decide) (by decide) rfl ?_
                  refine x_iload_n eX9_faultOf_156 rfl ?_
                  refine s_iald eX9_faultOf_157 rfl (by decide) rfl (show _ < 24 by omega) ?_
                  rw [(h.2.2 b (by omega)).1]
                  refine x_aload_n eX9_faultOf_158 rfl ?_
                  refine s_getR (k := 10) eX9_faultOf_159 fX9_42 rfl (by decide) (by decide) rfl ?_
                  refine x_iload_n eX9_faultOf_162 rfl ?_
                  refine x_iconst (v := nI 1) eX9_faultOf_163 (by decide) ?_
                  first | refine x_iaddN eX9_faultOf_164 ?_ | refine x_iadd eX9_faultOf_164 ?_
                  refine x_aload_n eX9_faultOf_165 rfl ?_
                  refine s_geti eX9_faultOf_166 fX9_218 rfl (by decide) (by decide) ?_
                  rw [h.1]
                  refine x_iremN eX9_faultOf_169 (by omega) (by omega) (by omega) ?_
                  refine s_iald eX9_faultOf_170 rfl (by decide) rfl (show _ < 24 by have := Nat.mod_lt (b + 1) (by omega : 0 < n); omega) ?_
                  rw [(h.2.2 _ (Nat.mod_lt (b + 1) (by omega : 0 < n))).1]
                  refine s_callV1 (As := [_, _, _, _]) eX9_faultOf_171 kX9_204 ⟨by decide, by decide⟩ rfl (by decide) (by decide) rfl rfl (Nat.le_of_ble_eq_true rfl) (Nat.le_of_ble_eq_true rfl) (sp_X9_common _ (hp _ (Or.inl (hc a (by omega)))) (hp _ (Or.inl (hc _ (Nat.mod_lt (a + 1) (by omega : 0 < n))))) (hp _ (Or.inl (hc b (by omega)))) (hp _ (Or.inl (hc _ (Nat.mod_lt (b + 1) (by omega : 0 < n))))) (adj a (by omega)) (adj b (by omega))) (fun S_171 h_171 => ?_)
                  have hx := hx.tr h_171
                  have ev : comP (P (c a)) (P (c ((a + 1) % n))) (P (c b)) (P (c ((b + 1) % n))) = comP (vr P c n a) (vr P c n (a + 1)) (vr P c n b) (vr P c n (b + 1)) := by unfold vr; rw [Nat.mod_eq_of_lt (show a < n by omega), Nat.mod_eq_of_lt (show b < n by omega)]
                  rw [ev]
                  refine x_iload_n eX9_faultOf_174 rfl ?_
                  refine x_if_eqN eX9_faultOf_175 (by omega) (fun c_175 => ?_) (fun c_175 => ?_)
                  · refine x_iconst (v := nI 0) eX9_faultOf_182 (by decide) ?_
                    refine x_icmp_eq eX9_faultOf_183 (fun c_183 => ?_) (fun c_183 => ?_)
                    · refine x_iinc (lv' := [_, _, _, _]) eX9_faultOf_200 rfl (by first | exact nI_inc _ | exact rfl) (by decide) rfl ?_
                      refine x_goto eX9_faultOf_203 ?_
                      refine x_pick [0, 2, 3] rfl ?_
                      first
                        | omega
                        | (refine ih (b + 1) (by omega) _ ⟨hx, by omega, fun k h1 h2 => ?_⟩
                           by_cases q : k < b
                           · exact hno2 k h1 q
                           · obtain rfl : k = b := by omega
                             unfold crR
                             first
                               | (rw [if_pos (by omega)]; exact fun z => z c_183)
                               | (rw [if_neg (by omega)]; exact fun z => z c_183))
                    · refine x_aload_n eX9_faultOf_186 rfl ?_
                      refine x_sipush (v := -203) eX9_faultOf_187 (by decide) ?_
                      refine x_bipush (v := nI 100) eX9_faultOf_190 (by decide) ?_
                      refine x_iload_n eX9_faultOf_192 rfl ?_
                      first | refine x_imulN eX9_faultOf_193 ?_ | refine x_imul eX9_faultOf_193 ?_
                      refine x_iload_n eX9_faultOf_194 rfl ?_
                      first | refine x_iaddN eX9_faultOf_195 ?_ | refine x_iadd eX9_faultOf_195 ?_
                      first
                        | omega
                        | (have bad : crR comP (vr P c n) n a b := by
                             unfold crR
                             first
                               | (rw [if_pos (by omega)]; exact c_183)
                               | (rw [if_neg (by omega)]; exact c_183)
                           have f : fp (crR comP (vr P c n) n) n a b := ⟨ab, by omega, bad, fun i k h1 h2 h3 r => by
                             rcases h3 with h3 | ⟨h3, h4⟩
                             · exact hno i k h3 h1 h2 r
                             · subst h3; exact hno2 k h1 h4 r⟩
                           have e2 : (ft comP (vr P c n) n c) = (-203, nI (100 * a + b)) := by unfold ft; rw [if_neg h3, etw]; simp only [fstP_some f]
                           refine s_callV1 (As := [_, _]) eX9_faultOf_196 kX9_221 ⟨by decide, by decide⟩ rfl (by decide) (by decide) rfl rfl (Nat.le_of_ble_eq_true rfl) (Nat.le_of_ble_eq_true rfl) (sp_X9_fault _ _ _) (fun S_f h_f => ?_)
                           have h_f := h_f.symm
                           subst h_f
                           refine s_iret eX9_faultOf_199 rfl rfl ⟨?_, hx.wx.tr (Wx.set _), ?_⟩
                           · rw [e2]
                           · rw [e2, setF_at, upd_at, if_neg (ne0c _ _ (by decide))])
                  · refine x_iconst (v := nI 2) eX9_faultOf_178 (by decide) ?_
                    refine x_goto eX9_faultOf_179 ?_
                    refine x_icmp_eq eX9_faultOf_183 (fun c_183 => ?_) (fun c_183 => ?_)
                    · refine x_iinc (lv' := [_, _, _, _]) eX9_faultOf_200 rfl (by first | exact nI_inc _ | exact rfl) (by decide) rfl ?_
                      refine x_goto eX9_faultOf_203 ?_
                      refine x_pick [0, 2, 3] rfl ?_
                      first
                        | omega
                        | (refine ih (b + 1) (by omega) _ ⟨hx, by omega, fun k h1 h2 => ?_⟩
                           by_cases q : k < b
                           · exact hno2 k h1 q
                           · obtain rfl : k = b := by omega
                             unfold crR
                             first
                               | (rw [if_pos (by omega)]; exact fun z => z c_183)
                               | (rw [if_neg (by omega)]; exact fun z => z c_183))
                    · refine x_aload_n eX9_faultOf_186 rfl ?_
                      refine x_sipush (v := -203) eX9_faultOf_187 (by decide) ?_
                      refine x_bipush (v := nI 100) eX9_faultOf_190 (by decide) ?_
                      refine x_iload_n eX9_faultOf_192 rfl ?_
                      first | refine x_imulN eX9_faultOf_193 ?_ | refine x_imul eX9_faultOf_193 ?_
                      refine x_iload_n eX9_faultOf_194 rfl ?_
                      first | refine x_iaddN eX9_faultOf_195 ?_ | refine x_iadd eX9_faultOf_195 ?_
                      first
                        | omega
                        | (have bad : crR comP (vr P c n) n a b := by
                             unfold crR
                             first
                               | (rw [if_pos (by omega)]; exact c_183)
                               | (rw [if_neg (by omega)]; exact c_183)
                           have f : fp (crR comP (vr P c n) n) n a b := ⟨ab, by omega, bad, fun i k h1 h2 h3 r => by
                             rcases h3 with h3 | ⟨h3, h4⟩
                             · exact hno i k h3 h1 h2 r
                             · subst h3; exact hno2 k h1 h4 r⟩
                           have e2 : (ft comP (vr P c n) n c) = (-203, nI (100 * a + b)) := by unfold ft; rw [if_neg h3, etw]; simp only [fstP_some f]
                           refine s_callV1 (As := [_, _]) eX9_faultOf_196 kX9_221 ⟨by decide, by decide⟩ rfl (by decide) (by decide) rfl rfl (Nat.le_of_ble_eq_true rfl) (Nat.le_of_ble_eq_true rfl) (sp_X9_fault _ _ _) (fun S_f h_f => ?_)
                           have h_f := h_f.symm
                           subst h_f
                           refine s_iret eX9_faultOf_199 rfl rfl ⟨?_, hx.wx.tr (Wx.set _), ?_⟩
                           · rw [e2]
                           · rw [e2, setF_at, upd_at, if_neg (ne0c _ _ (by decide))])
                · refine x_iload_n eX9_faultOf_116 rfl ?_
                  refine x_aload_n eX9_faultOf_117 rfl ?_
                  refine s_geti eX9_faultOf_118 fX9_218 rfl (by decide) (by decide) ?_
                  rw [h.1]
                  refine x_iconst (v := nI 1) eX9_faultOf_121 (by decide) ?_
                  first | refine x_isubN eX9_faultOf_122 (by omega) ?_ | refine x_isub eX9_faultOf_122 ?_
                  refine x_icmp_neN eX9_faultOf_123 (by omega) (by omega) (fun c_123 => ?_) (fun c_123 => ?_)
                  · refine x_iconst (v := nI 0) eX9_faultOf_130 (by decide) ?_
                    refine x_istore_n (lv' := [_, _, _, _]) eX9_faultOf_131 (by decide) rfl ?_
                    refine x_aload_n eX9_faultOf_132 rfl ?_
                    refine x_aload_n eX9_faultOf_133 rfl ?_
                    refine s_getR (k := 10) eX9_faultOf_134 fX9_42 rfl (by decide) (by decide) rfl ?_
                    refine x_iload_n eX9_faultOf_137 rfl ?_
                    refine s_iald eX9_faultOf_138 rfl (by decide) rfl (show _ < 24 by omega) ?_
                    rw [(h.2.2 a (by omega)).1]
                    refine x_aload_n eX9_faultOf_139 rfl ?_
                    refine s_getR (k := 10) eX9_faultOf_140 fX9_42 rfl (by decide) (by decide) rfl ?_
                    refine x_iload_n eX9_faultOf_143 rfl ?_
                    refine x_iconst (v := nI 1) eX9_faultOf_144 (by decide) ?_
                    first | refine x_iaddN eX9_faultOf_145 ?_ | refine x_iadd eX9_faultOf_145 ?_
                    refine x_aload_n eX9_faultOf_146 rfl ?_
                    refine s_geti eX9_faultOf_147 fX9_218 rfl (by decide) (by decide) ?_
                    rw [h.1]
                    refine x_iremN eX9_faultOf_150 (by omega) (by omega) (by omega) ?_
                    refine s_iald eX9_faultOf_151 rfl (by decide) rfl (show _ < 24 by have := Nat.mod_lt (a + 1) (by omega : 0 < n); omega) ?_
                    rw [(h.2.2 _ (Nat.mod_lt (a + 1) (by omega : 0 < n))).1]
                    refine x_aload_n eX9_faultOf_152 rfl ?_
                    refine s_getR (k := 10) eX9_faultOf_153 fX9_42 rfl (by decide) (by decide) rfl ?_
                    refine x_iload_n eX9_faultOf_156 rfl ?_
                    refine s_iald eX9_faultOf_157 rfl (by decide) rfl (show _ < 24 by omega) ?_
                    rw [(h.2.2 b (by omega)).1]
                    refine x_aload_n eX9_faultOf_158 rfl ?_
                    refine s_getR (k := 10) eX9_faultOf_159 fX9_42 rfl (by decide) (by decide) rfl ?_
                    refine x_iload_n eX9_faultOf_162 rfl ?_
                    refine x_iconst (v := nI 1) eX9_faultOf_163 (by decide) ?_
                    first | refine x_iaddN eX9_faultOf_164 ?_ | refine x_iadd eX9_faultOf_164 ?_
                    refine x_aload_n eX9_faultOf_165 rfl ?_
                    refine s_geti eX9_faultOf_166 fX9_218 rfl (by decide) (by decide) ?_
                    rw [h.1]
                    refine x_iremN eX9_faultOf_169 (by omega) (by omega) (by omega) ?_
                    refine s_iald eX9_faultOf_170 rfl (by decide) rfl (show _ < 24 by have := Nat.mod_lt (b + 1) (by omega : 0 < n); omega) ?_
                    rw [(h.2.2 _ (Nat.mod_lt (b + 1) (by omega : 0 < n))).1]
                    refine s_callV1 (As := [_, _, _, _]) eX9_faultOf_171 kX9_204 ⟨by decide, by decide⟩ rfl (by decide) (by decide) rfl rfl (Nat.le_of_ble_eq_true rfl) (Nat.le_of_ble_eq_true rfl) (sp_X9_common _ (hp _ (Or.inl (hc a (by omega)))) (hp _ (Or.inl (hc _ (Nat.mod_lt (a + 1) (by omega : 0 < n))))) (hp _ (Or.inl (hc b (by omega)))) (hp _ (Or.inl (hc _ (Nat.mod_lt (b + 1) (by omega : 0 < n))))) (adj a (by omega)) (adj b (by omega))) (fun S_171 h_171 => ?_)
                    have hx := hx.tr h_171
                    have ev : comP (P (c a)) (P (c ((a + 1) % n))) (P (c b)) (P (c ((b + 1) % n))) = comP (vr P c n a) (vr P c n (a + 1)) (vr P c n b) (vr P c n (b + 1)) := by unfold vr; rw [Nat.mod_eq_of_lt (show a < n by omega), Nat.mod_eq_of_lt (show b < n by omega)]
                    rw [ev]
                    refine x_iload_n eX9_faultOf_174 rfl ?_
                    refine x_if_eqN eX9_faultOf_175 (by omega) (fun c_175 => ?_) (fun c_175 => ?_)
                    · refine x_iconst (v := nI 0) eX9_faultOf_182 (by decide) ?_
                      refine x_icmp_eq eX9_faultOf_183 (fun c_183 => ?_) (fun c_183 => ?_)
                      · refine x_iinc (lv' := [_, _, _, _]) eX9_faultOf_200 rfl (by first | exact nI_inc _ | exact rfl) (by decide) rfl ?_
                        refine x_goto eX9_faultOf_203 ?_
                        refine x_pick [0, 2, 3] rfl ?_
                        first
                          | omega
                          | (refine ih (b + 1) (by omega) _ ⟨hx, by omega, fun k h1 h2 => ?_⟩
                             by_cases q : k < b
                             · exact hno2 k h1 q
                             · obtain rfl : k = b := by omega
                               unfold crR
                               first
                                 | (rw [if_pos (by omega)]; exact fun z => z c_183)
                                 | (rw [if_neg (by omega)]; exact fun z => z c_183))
                      · refine x_aload_n eX9_faultOf_186 rfl ?_
                        refine x_sipush (v := -203) eX9_faultOf_187 (by decide) ?_
                        refine x_bipush (v := nI 100) eX9_faultOf_190 (by decide) ?_
                        refine x_iload_n eX9_faultOf_192 rfl ?_
                        first | refine x_imulN eX9_faultOf_193 ?_ | refine x_imul eX9_faultOf_193 ?_
                        refine x_iload_n eX9_faultOf_194 rfl ?_
                        first | refine x_iaddN eX9_faultOf_195 ?_ | refine x_iadd eX9_faultOf_195 ?_
                        first
                          | omega
                          | (have bad : crR comP (vr P c n) n a b := by
                               unfold crR
                               first
                                 | (rw [if_pos (by omega)]; exact c_183)
                                 | (rw [if_neg (by omega)]; exact c_183)
                             have f : fp (crR comP (vr P c n) n) n a b := ⟨ab, by omega, bad, fun i k h1 h2 h3 r => by
                               rcases h3 with h3 | ⟨h3, h4⟩
                               · exact hno i k h3 h1 h2 r
                               · subst h3; exact hno2 k h1 h4 r⟩
                             have e2 : (ft comP (vr P c n) n c) = (-203, nI (100 * a + b)) := by unfold ft; rw [if_neg h3, etw]; simp only [fstP_some f]
                             refine s_callV1 (As := [_, _]) eX9_faultOf_196 kX9_221 ⟨by decide, by decide⟩ rfl (by decide) (by decide) rfl rfl (Nat.le_of_ble_eq_true rfl) (Nat.le_of_ble_eq_true rfl) (sp_X9_fault _ _ _) (fun S_f h_f => ?_)
                             have h_f := h_f.symm
                             subst h_f
                             refine s_iret eX9_faultOf_199 rfl rfl ⟨?_, hx.wx.tr (Wx.set _), ?_⟩
                             · rw [e2]
                             · rw [e2, setF_at, upd_at, if_neg (ne0c _ _ (by decide))])
                    · refine x_iconst (v := nI 2) eX9_faultOf_178 (by decide) ?_
                      refine x_goto eX9_faultOf_179 ?_
                      refine x_icmp_eq eX9_faultOf_183 (fun c_183 => ?_) (fun c_183 => ?_)
                      · refine x_iinc (lv' := [_, _, _, _]) eX9_faultOf_200 rfl (by first | exact nI_inc _ | exact rfl) (by decide) rfl ?_
                        refine x_goto eX9_faultOf_203 ?_
                        refine x_pick [0, 2, 3] rfl ?_
                        first
                          | omega
                          | (refine ih (b + 1) (by omega) _ ⟨hx, by omega, fun k h1 h2 => ?_⟩
                             by_cases q : k < b
                             · exact hno2 k h1 q
                             · obtain rfl : k = b := by omega
                               unfold crR
                               first
                                 | (rw [if_pos (by omega)]; exact fun z => z c_183)
                                 | (rw [if_neg (by omega)]; exact fun z => z c_183))
                      · refine x_aload_n eX9_faultOf_186 rfl ?_
                        refine x_sipush (v := -203) eX9_faultOf_187 (by decide) ?_
                        refine x_bipush (v := nI 100) eX9_faultOf_190 (by decide) ?_
                        refine x_iload_n eX9_faultOf_192 rfl ?_
                        first | refine x_imulN eX9_faultOf_193 ?_ | refine x_imul eX9_faultOf_193 ?_
                        refine x_iload_n eX9_faultOf_194 rfl ?_
                        first | refine x_iaddN eX9_faultOf_195 ?_ | refine x_iadd eX9_faultOf_195 ?_
                        first
                          | omega
                          | (have bad : crR comP (vr P c n) n a b := by
                               unfold crR
                               first
                                 | (rw [if_pos (by omega)]; exact c_183)
                                 | (rw [if_neg (by omega)]; exact c_183)
                             have f : fp (crR comP (vr P c n) n) n a b := ⟨ab, by omega, bad, fun i k h1 h2 h3 r => by
                               rcases h3 with h3 | ⟨h3, h4⟩
                               · exact hno i k h3 h1 h2 r
                               · subst h3; exact hno2 k h1 h4 r⟩
                             have e2 : (ft comP (vr P c n) n c) = (-203, nI (100 * a + b)) := by unfold ft; rw [if_neg h3, etw]; simp only [fstP_some f]
                             refine s_callV1 (As := [_, _]) eX9_faultOf_196 kX9_221 ⟨by decide, by decide⟩ rfl (by decide) (by decide) rfl rfl (Nat.le_of_ble_eq_true rfl) (Nat.le_of_ble_eq_true rfl) (sp_X9_fault _ _ _) (fun S_f h_f => ?_)
                             have h_f := h_f.symm
                             subst h_f
                             refine s_iret eX9_faultOf_199 rfl rfl ⟨?_, hx.wx.tr (Wx.set _), ?_⟩
                             · rw [e2]
                             · rw [e2, setF_at, upd_at, if_neg (ne0c _ _ (by decide))])
                  · refine x_iconst (v := nI 1) eX9_faultOf_126 (by decide) ?_
                    refine x_goto eX9_faultOf_127 ?_
                    refine x_istore_n (lv' := [_, _, _, _]) eX9_faultOf_131 (by decide) rfl ?_
                    refine x_aload_n eX9_faultOf_132 rfl ?_
                    refine x_aload_n eX9_faultOf_133 rfl ?_
                    refine s_getR (k := 10) eX9_faultOf_134 fX9_42 rfl (by decide) (by decide) rfl ?_
                    refine x_iload_n eX9_faultOf_137 rfl ?_
                    refine s_iald eX9_faultOf_138 rfl (by decide) rfl (show _ < 24 by omega) ?_
                    rw [(h.2.2 a (by omega)).1]
                    refine x_aload_n eX9_faultOf_139 rfl ?_
                    refine s_getR (k := 10) eX9_faultOf_140 fX9_42 rfl (by decide) (by decide) rfl ?_
                    refine x_iload_n eX9_faultOf_143 rfl ?_
                    refine x_iconst (v := nI 1) eX9_faultOf_144 (by decide) ?_
                    first | refine x_iaddN eX9_faultOf_145 ?_ | refine x_iadd eX9_faultOf_145 ?_
                    refine x_aload_n eX9_faultOf_146 rfl ?_
                    refine s_geti eX9_faultOf_147 fX9_218 rfl (by decide) (by decide) ?_
                    rw [h.1]
                    refine x_iremN eX9_faultOf_150 (by omega) (by omega) (by omega) ?_
                    refine s_iald eX9_faultOf_151 rfl (by decide) rfl (show _ < 24 by have := Nat.mod_lt (a + 1) (by omega : 0 < n); omega) ?_
                    rw [(h.2.2 _ (Nat.mod_lt (a + 1) (by omega : 0 < n))).1]
                    refine x_aload_n eX9_faultOf_152 rfl ?_
                    refine s_getR (k := 10) eX9_faultOf_153 fX9_42 rfl (by decide) (by decide) rfl ?_
                    refine x_iload_n eX9_faultOf_156 rfl ?_
                    refine s_iald eX9_faultOf_157 rfl (by decide) rfl (show _ < 24 by omega) ?_
                    rw [(h.2.2 b (by omega)).1]
                    refine x_aload_n eX9_faultOf_158 rfl ?_
                    refine s_getR (k := 10) eX9_faultOf_159 fX9_42 rfl (by decide) (by decide) rfl ?_
                    refine x_iload_n eX9_faultOf_162 rfl ?_
                    refine x_iconst (v := nI 1) eX9_faultOf_163 (by decide) ?_
                    first | refine x_iaddN eX9_faultOf_164 ?_ | refine x_iadd eX9_faultOf_164 ?_
                    refine x_aload_n eX9_faultOf_165 rfl ?_
                    refine s_geti eX9_faultOf_166 fX9_218 rfl (by decide) (by decide) ?_
                    rw [h.1]
                    refine x_iremN eX9_faultOf_169 (by omega) (by omega) (by omega) ?_
                    refine s_iald eX9_faultOf_170 rfl (by decide) rfl (show _ < 24 by have := Nat.mod_lt (b + 1) (by omega : 0 < n); omega) ?_
                    rw [(h.2.2 _ (Nat.mod_lt (b + 1) (by omega : 0 < n))).1]
                    refine s_callV1 (As := [_, _, _, _]) eX9_faultOf_171 kX9_204 ⟨by decide, by decide⟩ rfl (by decide) (by decide) rfl rfl (Nat.le_of_ble_eq_true rfl) (Nat.le_of_ble_eq_true rfl) (sp_X9_common _ (hp _ (Or.inl (hc a (by omega)))) (hp _ (Or.inl (hc _ (Nat.mod_lt (a + 1) (by omega : 0 < n))))) (hp _ (Or.inl (hc b (by omega)))) (hp _ (Or.inl (hc _ (Nat.mod_lt (b + 1) (by omega : 0 < n))))) (adj a (by omega)) (adj b (by omega))) (fun S_171 h_171 => ?_)
                    have hx := hx.tr h_171
                    have ev : comP (P (c a)) (P (c ((a + 1) % n))) (P (c b)) (P (c ((b + 1) % n))) = comP (vr P c n a) (vr P c n (a + 1)) (vr P c n b) (vr P c n (b + 1)) := by unfold vr; rw [Nat.mod_eq_of_lt (show a < n by omega), Nat.mod_eq_of_lt (show b < n by omega)]
                    rw [ev]
                    refine x_iload_n eX9_faultOf_174 rfl ?_
                    refine x_if_eqN eX9_faultOf_175 (by omega) (fun c_175 => ?_) (fun c_175 => ?_)
                    · refine x_iconst (v := nI 0) eX9_faultOf_182 (by decide) ?_
                      refine x_icmp_eq eX9_faultOf_183 (fun c_183 => ?_) (fun c_183 => ?_)
                      · refine x_iinc (lv' := [_, _, _, _]) eX9_faultOf_200 rfl (by first | exact nI_inc _ | exact rfl) (by decide) rfl ?_
                        refine x_goto eX9_faultOf_203 ?_
                        refine x_pick [0, 2, 3] rfl ?_
                        first
                          | omega
                          | (refine ih (b + 1) (by omega) _ ⟨hx, by omega, fun k h1 h2 => ?_⟩
                             by_cases q : k < b
                             · exact hno2 k h1 q
                             · obtain rfl : k = b := by omega
                               unfold crR
                               first
                                 | (rw [if_pos (by omega)]; exact fun z => z c_183)
                                 | (rw [if_neg (by omega)]; exact fun z => z c_183))
                      · refine x_aload_n eX9_faultOf_186 rfl ?_
                        refine x_sipush (v := -203) eX9_faultOf_187 (by decide) ?_
                        refine x_bipush (v := nI 100) eX9_faultOf_190 (by decide) ?_
                        refine x_iload_n eX9_faultOf_192 rfl ?_
                        first | refine x_imulN eX9_faultOf_193 ?_ | refine x_imul eX9_faultOf_193 ?_
                        refine x_iload_n eX9_faultOf_194 rfl ?_
                        first | refine x_iaddN eX9_faultOf_195 ?_ | refine x_iadd eX9_faultOf_195 ?_
                        first
                          | omega
                          | (have bad : crR comP (vr P c n) n a b := by
                               unfold crR
                               first
                                 | (rw [if_pos (by omega)]; exact c_183)
                                 | (rw [if_neg (by omega)]; exact c_183)
                             have f : fp (crR comP (vr P c n) n) n a b := ⟨ab, by omega, bad, fun i k h1 h2 h3 r => by
                               rcases h3 with h3 | ⟨h3, h4⟩
                               · exact hno i k h3 h1 h2 r
                               · subst h3; exact hno2 k h1 h4 r⟩
                             have e2 : (ft comP (vr P c n) n c) = (-203, nI (100 * a + b)) := by unfold ft; rw [if_neg h3, etw]; simp only [fstP_some f]
                             refine s_callV1 (As := [_, _]) eX9_faultOf_196 kX9_221 ⟨by decide, by decide⟩ rfl (by decide) (by decide) rfl rfl (Nat.le_of_ble_eq_true rfl) (Nat.le_of_ble_eq_true rfl) (sp_X9_fault _ _ _) (fun S_f h_f => ?_)
                             have h_f := h_f.symm
                             subst h_f
                             refine s_iret eX9_faultOf_199 rfl rfl ⟨?_, hx.wx.tr (Wx.set _), ?_⟩
                             · rw [e2]
                             · rw [e2, setF_at, upd_at, if_neg (ne0c _ _ (by decide))])
                    · refine x_iconst (v := nI 2) eX9_faultOf_178 (by decide) ?_
                      refine x_goto eX9_faultOf_179 ?_
                      refine x_icmp_eq eX9_faultOf_183 (fun c_183 => ?_) (fun c_183 => ?_)
                      · refine x_iinc (lv' := [_, _, _, _]) eX9_faultOf_200 rfl (by first | exact nI_inc _ | exact rfl) (by decide) rfl ?_
                        refine x_goto eX9_faultOf_203 ?_
                        refine x_pick [0, 2, 3] rfl ?_
                        first
                          | omega
                          | (refine ih (b + 1) (by omega) _ ⟨hx, by omega, fun k h1 h2 => ?_⟩
                             by_cases q : k < b
                             · exact hno2 k h1 q
                             · obtain rfl : k = b := by omega
                               unfold crR
                               first
                                 | (rw [if_pos (by omega)]; exact fun z => z c_183)
                                 | (rw [if_neg (by omega)]; exact fun z => z c_183))
                      · refine x_aload_n eX9_faultOf_186 rfl ?_
                        refine x_sipush (v := -203) eX9_faultOf_187 (by decide) ?_
                        refine x_bipush (v := nI 100) eX9_faultOf_190 (by decide) ?_
                        refine x_iload_n eX9_faultOf_192 rfl ?_
                        first | refine x_imulN eX9_faultOf_193 ?_ | refine x_imul eX9_faultOf_193 ?_
                        refine x_iload_n eX9_faultOf_194 rfl ?_
                        first | refine x_iaddN eX9_faultOf_195 ?_ | refine x_iadd eX9_faultOf_195 ?_
                        first
                          | omega
                          | (have bad : crR comP (vr P c n) n a b := by
                               unfold crR
                               first
                                 | (rw [if_pos (by omega)]; exact c_183)
                                 | (rw [if_neg (by omega)]; exact c_183)
                             have f : fp (crR comP (vr P c n) n) n a b := ⟨ab, by omega, bad, fun i k h1 h2 h3 r => by
                               rcases h3 with h3 | ⟨h3, h4⟩
                               · exact hno i k h3 h1 h2 r
                               · subst h3; exact hno2 k h1 h4 r⟩
                             have e2 : (ft comP (vr P c n) n c) = (-203, nI (100 * a + b)) := by unfold ft; rw [if_neg h3, etw]; simp only [fstP_some f]
                             refine s_callV1 (As := [_, _]) eX9_faultOf_196 kX9_221 ⟨by decide, by decide⟩ rfl (by decide) (by decide) rfl rfl (Nat.le_of_ble_eq_true rfl) (Nat.le_of_ble_eq_true rfl) (sp_X9_fault _ _ _) (fun S_f h_f => ?_)
                             have h_f := h_f.symm
                             subst h_f
                             refine s_iret eX9_faultOf_199 rfl rfl ⟨?_, hx.wx.tr (Wx.set _), ?_⟩
                             · rw [e2]
                             · rw [e2, setF_at, upd_at, if_neg (ne0c _ _ (by decide))])
        refine x_iload_n eX9_faultOf_85 rfl ?_
        refine x_aload_n eX9_faultOf_86 rfl ?_
        refine s_geti eX9_faultOf_87 fX9_218 rfl (by decide) (by decide) ?_
        rw [h.1]
        refine x_icmp_geN eX9_faultOf_90 (by omega) (by omega) (fun c_90 => ?_) (fun c_90 => ?_)
        · omega
        · refine x_iload_n eX9_faultOf_93 rfl ?_
          refine x_iconst (v := nI 1) eX9_faultOf_94 (by decide) ?_
          first | refine x_iaddN eX9_faultOf_95 ?_ | refine x_iadd eX9_faultOf_95 ?_
          refine x_istore_n (lv' := [_, _, _]) eX9_faultOf_96 (by decide) rfl ?_
          refine x_pick [0, 1, 2] rfl ?_
          exact inner (n - (a + 1)) (a + 1) (by omega) _ ⟨hx, by omega, fun k h1 h2 => by omega⟩
    have loopA : ∀ μ a, a + μ = n → ∀ S1, (S1 = S ∧ ∀ i k, i < a → i < k → k < n → c i ≠ c k) → XP mX9_faultOf 27 [(1, .int (nI a)), (0, .ref 0)] [] (xwS S1) (sQ (fun r S' => r = some (.int (ft comP (vr P c n) n c).1) ∧ Wx S S' ∧ S'.1 0 12 = if (ft comP (vr P c n) n c).1 = 0 then S.1 0 12 else (ft comP (vr P c n) n c).2)) := by
      intro μ
      induction μ with
      | zero =>
        intro a hk S1 h1
        obtain ⟨e1, hno⟩ := h1
        have e1 := e1.symm
        subst e1
        refine x_iload_n eX9_faultOf_27 rfl ?_
        refine x_aload_n eX9_faultOf_28 rfl ?_
        refine s_geti eX9_faultOf_29 fX9_218 rfl (by decide) (by decide) ?_
        rw [h0.1]
        refine x_icmp_geN eX9_faultOf_32 (by omega) (by omega) (fun c_32 => ?_) (fun c_32 => ?_)
        · refine x_iconst (v := nI 0) eX9_faultOf_83 (by decide) ?_
          refine x_istore_n (lv' := [_, _]) eX9_faultOf_84 (by decide) rfl ?_
          refine x_pick [0, 1] rfl ?_
          exact loopB (fun i k h1 h2 => hno i k (by omega) h1 h2) n 0 (by omega) _ ⟨Lx.rf _ _, fun i k h => by omega⟩
        · omega
      | succ μ ih =>
        intro a hk S1 h1
        obtain ⟨e1, hno⟩ := h1
        have e1 := e1.symm
        subst e1
        have oh := ih
        have inner : ∀ μ b, b + μ = n → ∀ S2, (S2 = S ∧ a < b ∧ ∀ k, a < k → k < b → c a ≠ c k) → XP mX9_faultOf 39 [(2, .int (nI b)), (1, .int (nI a)), (0, .ref 0)] [] (xwS S2) (sQ (fun r S' => r = some (.int (ft comP (vr P c n) n c).1) ∧ Wx S S' ∧ S'.1 0 12 = if (ft comP (vr P c n) n c).1 = 0 then S.1 0 12 else (ft comP (vr P c n) n c).2)) := by
          intro μ
          induction μ with
          | zero =>
            intro b hk S2 h1
            obtain ⟨e1, ab, hno2⟩ := h1
            have e1 := e1.symm
            subst e1
            refine x_iload_n eX9_faultOf_39 rfl ?_
            refine x_aload_n eX9_faultOf_40 rfl ?_
            refine s_geti eX9_faultOf_41 fX9_218 rfl (by decide) (by decide) ?_
            rw [h0.1]
            refine x_icmp_geN eX9_faultOf_44 (by omega) (by omega) (fun c_44 => ?_) (fun c_44 => ?_)
            · refine x_iinc (lv' := [_, _, _]) eX9_faultOf_77 rfl (by first | exact nI_inc _ | exact rfl) (by decide) rfl ?_
              refine x_goto eX9_faultOf_80 ?_
              refine x_pick [0, 2] rfl ?_
              refine oh (a + 1) (by omega) _ ⟨rfl, fun i k h1 h2 h3 => ?_⟩
              by_cases q : i < a
              · exact hno i k q h2 h3
              · obtain rfl : i = a := by omega
                exact hno2 k h2 (by omega)
            · omega
          | succ μ ih =>
            intro b hk S2 h1
            obtain ⟨e1, ab, hno2⟩ := h1
            have e1 := e1.symm
            subst e1
            refine x_iload_n eX9_faultOf_39 rfl ?_
            refine x_aload_n eX9_faultOf_40 rfl ?_
            refine s_geti eX9_faultOf_41 fX9_218 rfl (by decide) (by decide) ?_
            rw [h0.1]
            refine x_icmp_geN eX9_faultOf_44 (by omega) (by omega) (fun c_44 => ?_) (fun c_44 => ?_)
            · omega
            · refine x_aload_n eX9_faultOf_47 rfl ?_
              refine s_getR (k := 10) eX9_faultOf_48 fX9_42 rfl (by decide) (by decide) rfl ?_
              refine x_iload_n eX9_faultOf_51 rfl ?_
              refine s_iald eX9_faultOf_52 rfl (by decide) rfl (show _ < 24 by omega) ?_
              rw [(h0.2.2 a (by omega)).1]
              have la := lc a (by omega)
              refine x_aload_n eX9_faultOf_53 rfl ?_
              refine s_getR (k := 10) eX9_faultOf_54 fX9_42 rfl (by decide) (by decide) rfl ?_
              refine x_iload_n eX9_faultOf_57 rfl ?_
              refine s_iald eX9_faultOf_58 rfl (by decide) rfl (show _ < 24 by omega) ?_
              rw [(h0.2.2 b (by omega)).1]
              have lb := lc b (by omega)
              refine x_icmp_neN eX9_faultOf_59 (by omega) (by omega) (fun c_59 => ?_) (fun c_59 => ?_)
              · refine x_iinc (lv' := [_, _, _]) eX9_faultOf_71 rfl (by first | exact nI_inc _ | exact rfl) (by decide) rfl ?_
                refine x_goto eX9_faultOf_74 ?_
                refine x_pick [0, 1, 2] rfl ?_
                refine ih (b + 1) (by omega) _ ⟨rfl, by omega, fun k h1 h2 => ?_⟩
                by_cases q : k < b
                · exact hno2 k h1 q
                · obtain rfl : k = b := by omega
                  exact c_59
              · refine x_aload_n eX9_faultOf_62 rfl ?_
                refine x_sipush (v := -202) eX9_faultOf_63 (by decide) ?_
                refine x_iload_n eX9_faultOf_66 rfl ?_
                have f : fp (twR c) n a b := ⟨ab, by omega, c_59, fun i k h1 h2 h3 r => by
                  rcases h3 with h3 | ⟨h3, h4⟩
                  · exact hno i k h3 h1 h2 r
                  · subst h3; exact hno2 k h1 h4 r⟩
                have e2 : (ft comP (vr P c n) n c) = (-202, nI b) := by unfold ft; rw [if_neg h3, fstP_some f]
                refine s_callV1 (As := [_, _]) eX9_faultOf_67 kX9_221 ⟨by decide, by decide⟩ rfl (by decide) (by decide) rfl rfl (Nat.le_of_ble_eq_true rfl) (Nat.le_of_ble_eq_true rfl) (sp_X9_fault _ _ _) (fun S_f h_f => ?_)
                have h_f := h_f.symm
                subst h_f
                refine s_iret eX9_faultOf_70 rfl rfl ⟨?_, (show Wx S S from (Lx.rf _ _).wx).tr (Wx.set _), ?_⟩
                · rw [e2]
                · rw [e2, setF_at, upd_at, if_neg (ne0c _ _ (by decide))]
        refine x_iload_n eX9_faultOf_27 rfl ?_
        refine x_aload_n eX9_faultOf_28 rfl ?_
        refine s_geti eX9_faultOf_29 fX9_218 rfl (by decide) (by decide) ?_
        rw [h0.1]
        refine x_icmp_geN eX9_faultOf_32 (by omega) (by omega) (fun c_32 => ?_) (fun c_32 => ?_)
        · omega
        · refine x_iload_n eX9_faultOf_35 rfl ?_
          refine x_iconst (v := nI 1) eX9_faultOf_36 (by decide) ?_
          first | refine x_iaddN eX9_faultOf_37 ?_ | refine x_iadd eX9_faultOf_37 ?_
          refine x_istore_n (lv' := [_, _, _]) eX9_faultOf_38 (by decide) rfl ?_
          refine x_pick [0, 1, 2] rfl ?_
          exact inner (n - (a + 1)) (a + 1) (by omega) _ ⟨rfl, by omega, fun k h1 h2 => by omega⟩
    show XP _ _ [_] _ _ _
    refine x_aload_n eX9_faultOf_0 rfl ?_
    refine s_geti eX9_faultOf_1 fX9_218 rfl (by decide) (by decide) ?_
    rw [h0.1]
    refine x_iconst (v := nI 3) eX9_faultOf_4 (by decide) ?_
    refine x_bipush (v := nI 12) eX9_faultOf_5 (by decide) ?_
    refine s_callS1 (As := [_, _, _]) eX9_faultOf_7 kX9_173 ⟨by decide, by decide⟩ rfl rfl (Nat.le_of_ble_eq_true rfl) (Nat.le_of_ble_eq_true rfl) (sp_X9_in _ _ _ _) (fun S_7 h_7 => ?_)
    have h_7 := h_7.symm
    subst h_7
    rw [ein]
    refine x_if_neB eX9_faultOf_10 (fun c_10 => ?_) (fun c_10 => ?_)
    · refine x_iconst (v := nI 0) eX9_faultOf_25 (by decide) ?_
      refine x_istore_n (lv' := [_, _]) eX9_faultOf_26 (by decide) rfl ?_
      refine x_pick [0, 1] rfl ?_
      exact loopA n 0 (by omega) _ ⟨rfl, fun i k h => by omega⟩
    · exact absurd c_10 (by decide)
