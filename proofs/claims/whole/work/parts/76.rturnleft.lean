/-! ===== the reference's turnLeft ===== -/
theorem mps.fx {fs is ls ds : List Nat} {S S1 : xS} {nc : Nat} {P : Nat → Pt} (h : mps S nc P) (hx : Fx fs is ls ds S S1) (a : 3 ∉ ls) (b : 4 ∉ ls) : mps S1 nc P := by
  intro s hs
  obtain ⟨x1, x2, x3, x4, x5⟩ := h s hs
  exact ⟨fun i hi => by rw [hx.2.2.1 _ a]; exact x1 i hi, fun i hi => by rw [hx.2.2.1 _ b]; exact x2 i hi, x3, x4, x5⟩
def stlA (v : Nat → Pt) (n : Nat) (c : Nat → Nat) : Nat → Nat := fun k => if are v n < 0 then c ((ldr v n + n - k) % n) else c ((ldr v n + k) % n)
def arf (v : Nat → Pt) (k : Nat) : Int := (v k).1 * (v (k + 1)).2 - (v k).2 * (v (k + 1)).1
theorem are_arf (v : Nat → Pt) (n : Nat) : are v n = sumZ (arf v) n := rfl
theorem sumZ_bB (f : Nat → Int) (B : Int) (h : ∀ i, -B ≤ f i ∧ f i ≤ B) : ∀ n : Nat, -((n : Int) * B) ≤ sumZ f n ∧ sumZ f n ≤ (n : Int) * B := by
  intro n
  induction n with
  | zero => rw [show ((0 : Nat) : Int) * B = 0 from Int.zero_mul B]; exact ⟨Int.le_refl _, Int.le_refl _⟩
  | succ n ih =>
    have := h n
    have e : ((n + 1 : Nat) : Int) * B = (n : Int) * B + B := by rw [Int.natCast_add, Int.add_mul, show ((1 : Nat) : Int) = 1 from rfl, Int.one_mul]
    rw [e]
    show _ ≤ sumZ f n + f n ∧ sumZ f n + f n ≤ _
    omega
theorem tb9 {T : Int} (h : -(2 ^ 214) ≤ T ∧ T ≤ 2 ^ 214) : -(2 ^ 24) ≤ T / (2 ^ 24) ^ 9 ∧ T / (2 ^ 24) ^ 9 ≤ 2 ^ 24 := by
  rw [show ((2 : Int) ^ 24) ^ 9 = 105312291668557186697918027683670432318895095400549111254310977536 by decide]
  omega
def pbd (A : Pt) : Prop := (-(2 ^ 102) ≤ A.1 ∧ A.1 ≤ 2 ^ 102) ∧ (-(2 ^ 102) ≤ A.2 ∧ A.2 ≤ 2 ^ 102)
theorem pp_bd {A B : Pt} (ha : pbd A) (hb : pbd B) : (-(2 ^ 204) ≤ A.1 * B.2 ∧ A.1 * B.2 ≤ 2 ^ 204) ∧ (-(2 ^ 204) ≤ A.2 * B.1 ∧ A.2 * B.1 ≤ 2 ^ 204) := by
  have p1 := mulB (a := A.1) (b := B.2) (A := 2 ^ 102) (B := 2 ^ 102) ha.1 hb.2
  have p2 := mulB (a := A.2) (b := B.1) (A := 2 ^ 102) (B := 2 ^ 102) ha.2 hb.1
  exact ⟨⟨by omega, by omega⟩, ⟨by omega, by omega⟩⟩
theorem arf_bd {v : Nat → Pt} (h : ∀ k, pbd (v k)) (k : Nat) : -(2 ^ 205) ≤ arf v k ∧ arf v k ≤ 2 ^ 205 := by
  have := pp_bd (h k) (h (k + 1))
  unfold arf
  generalize (v k).1 * (v (k + 1)).2 = x at *
  generalize (v k).2 * (v (k + 1)).1 = y at *
  omega
theorem area_bd {v : Nat → Pt} (h : ∀ k, pbd (v k)) {k : Nat} (hk : k ≤ 24) : -(2 ^ 210) ≤ sumZ (arf v) k ∧ sumZ (arf v) k ≤ 2 ^ 210 := by
  have := sumZ_bB (arf v) (2 ^ 205) (arf_bd h) k
  have : (k : Int) * 2 ^ 205 ≤ 24 * 2 ^ 205 := Int.mul_le_mul_of_nonneg_right (by omega) (by decide)
  omega
theorem nI_subadd {f i n : Nat} (h : i ≤ f + n) : nI f - nI i + nI n = nI (f + n - i) := by
  rw [Int32.sub_eq_add_neg, Int32.add_assoc, Int32.add_comm (-nI i), ← Int32.add_assoc, nI_add, ← Int32.sub_eq_add_neg, pk_sub h]

theorem sp_X9_turnLeft (S : xS) {nc n : Nat} {c : Nat → Nat} {P : Nat → Pt} (hp0 : mps S nc P) (h0 : mrg S n c) (hc : ∀ i, i < n → c i < nc) (n0 : 0 < n) : Sp mX9_turnLeft [.ref 0] S (fun r S' => r = none ∧ Fx [] [10, 11] [5, 6, 7] [] S S' ∧ mrg S' n (stlA (vr P c n) n c)) := by
  have n24 := h0.2.1
  have bd : ∀ k, pbd ((vr P c n) k) := fun k => by
    have := hp0 (c (k % n)) (Or.inl (hc _ (Nat.mod_lt _ n0)))
    exact ⟨this.2.2.1, this.2.2.2.1⟩
  have ln := ldr_lt (vr P c n) n n0
  have loopC : ∀ rb : Nat, (rb = 1 ∧ are (vr P c n) n < 0 ∨ rb = 0 ∧ ¬ are (vr P c n) n < 0) → ∀ μ k, k + μ = n → ∀ S1, (Fx [] [10, 11] [5, 6, 7] [] S S1 ∧ (∀ j, j < n → S1.2.1 11 j = nI (c j)) ∧ ∀ j, j < k → S1.2.1 10 j = nI (stlA (vr P c n) n c j)) → XP mX9_turnLeft 182 [(3, .int (nI k)), (2, .int (nI (ldr (vr P c n) n))), (1, .int (nI rb)), (0, .ref 0)] [] (xwS S1) (sQ (fun r S' => r = none ∧ Fx [] [10, 11] [5, 6, 7] [] S S' ∧ mrg S' n (stlA (vr P c n) n c))) := by
    intro rb hrb μ
    induction μ with
    | zero =>
      intro k hk S1 h1
      obtain ⟨hx, hh, hs⟩ := h1
      have e14 : S1.1 0 14 = nI n := by rw [hx.1 0 (by simp)]; exact h0.1
      refine x_iload_n eX9_turnLeft_182 rfl ?_
      refine x_aload_n eX9_turnLeft_183 rfl ?_
      refine s_geti eX9_turnLeft_184 fX9_218 rfl (by decide) (by decide) ?_
      rw [show S1.1 0 14 = nI n from e14]
      refine x_icmp_geN eX9_turnLeft_187 (by omega) (by omega) (fun c_187 => ?_) (fun c_187 => ?_)
      · exact s_vret eX9_turnLeft_230 rfl ⟨rfl, hx, e14, n24, fun i hi => ⟨hs i (by omega), by unfold stlA; split; exact (h0.2.2 _ (Nat.mod_lt _ n0)).2; exact (h0.2.2 _ (Nat.mod_lt _ n0)).2⟩⟩
      · omega
    | succ μ ih =>
      intro k hk S1 h1
      obtain ⟨hx, hh, hs⟩ := h1
      have e14 : S1.1 0 14 = nI n := by rw [hx.1 0 (by simp)]; exact h0.1
      refine x_iload_n eX9_turnLeft_182 rfl ?_
      refine x_aload_n eX9_turnLeft_183 rfl ?_
      refine s_geti eX9_turnLeft_184 fX9_218 rfl (by decide) (by decide) ?_
      rw [show S1.1 0 14 = nI n from e14]
      refine x_icmp_geN eX9_turnLeft_187 (by omega) (by omega) (fun c_187 => ?_) (fun c_187 => ?_)
      · omega
      · refine x_aload_n eX9_turnLeft_190 rfl ?_
        refine s_getR (k := 10) eX9_turnLeft_191 fX9_42 rfl (by decide) (by decide) rfl ?_
        refine x_iload_n eX9_turnLeft_194 rfl ?_
        refine x_aload_n eX9_turnLeft_195 rfl ?_
        refine s_getR (k := 11) eX9_turnLeft_196 fX9_45 rfl (by decide) (by decide) rfl ?_
        refine x_iload_n eX9_turnLeft_199 rfl ?_
        refine x_if_eqN eX9_turnLeft_200 (by omega) (fun c_200 => ?_) (fun c_200 => ?_)
        · refine x_iload_n eX9_turnLeft_214 rfl ?_
          refine x_iload_n eX9_turnLeft_215 rfl ?_
          first | refine x_iaddN eX9_turnLeft_216 ?_ | refine x_iadd eX9_turnLeft_216 ?_
          refine x_aload_n eX9_turnLeft_217 rfl ?_
          refine s_geti eX9_turnLeft_218 fX9_218 rfl (by decide) (by decide) ?_
          rw [show S1.1 0 14 = nI n from e14]
          refine x_iremN eX9_turnLeft_221 (by omega) (by omega) (by omega) ?_
          refine s_iald eX9_turnLeft_222 rfl (by decide) rfl (show _ < 24 by have := Nat.mod_lt (ldr (vr P c n) n + n - k) n0; have := Nat.mod_lt (ldr (vr P c n) n + k) n0; omega) ?_
          rw [hh _ (Nat.mod_lt _ n0)]
          refine s_iast eX9_turnLeft_223 rfl (by decide) rfl (show _ < 24 by omega) ?_
          refine x_iinc (lv' := [_, _, _, _]) eX9_turnLeft_224 rfl (by first | exact nI_inc _ | exact rfl) (by decide) rfl ?_
          refine x_goto eX9_turnLeft_227 ?_
          refine x_pick [0, 1, 2, 3] rfl ?_
          refine ih (k + 1) (by omega) _ ⟨hx.tr (Fx.sI (by simp)), fun j hj => by rw [setI_ne _ _ (by decide)]; exact hh j hj, fun j hj => ?_⟩
          rw [setI_at]
          by_cases q : j = k
          · subst q; rw [upd_at]; unfold stlA
            first
              | (rw [if_pos (by omega)])
              | (rw [if_neg (by omega)])
          · rw [upd_ne _ _ q]; exact hs j (by omega)
        · refine x_iload_n eX9_turnLeft_203 rfl ?_
          refine x_iload_n eX9_turnLeft_204 rfl ?_
          refine x_isub eX9_turnLeft_205 ?_
          refine x_aload_n eX9_turnLeft_206 rfl ?_
          refine s_geti eX9_turnLeft_207 fX9_218 rfl (by decide) (by decide) ?_
          rw [show S1.1 0 14 = nI n from e14]
          refine x_iadd eX9_turnLeft_210 ?_
          rw [nI_subadd (by omega)]
          refine x_goto eX9_turnLeft_211 ?_
          refine x_aload_n eX9_turnLeft_217 rfl ?_
          refine s_geti eX9_turnLeft_218 fX9_218 rfl (by decide) (by decide) ?_
          rw [show S1.1 0 14 = nI n from e14]
          refine x_iremN eX9_turnLeft_221 (by omega) (by omega) (by omega) ?_
          refine s_iald eX9_turnLeft_222 rfl (by decide) rfl (show _ < 24 by have := Nat.mod_lt (ldr (vr P c n) n + n - k) n0; have := Nat.mod_lt (ldr (vr P c n) n + k) n0; omega) ?_
          rw [hh _ (Nat.mod_lt _ n0)]
          refine s_iast eX9_turnLeft_223 rfl (by decide) rfl (show _ < 24 by omega) ?_
          refine x_iinc (lv' := [_, _, _, _]) eX9_turnLeft_224 rfl (by first | exact nI_inc _ | exact rfl) (by decide) rfl ?_
          refine x_goto eX9_turnLeft_227 ?_
          refine x_pick [0, 1, 2, 3] rfl ?_
          refine ih (k + 1) (by omega) _ ⟨hx.tr (Fx.sI (by simp)), fun j hj => by rw [setI_ne _ _ (by decide)]; exact hh j hj, fun j hj => ?_⟩
          rw [setI_at]
          by_cases q : j = k
          · subst q; rw [upd_at]; unfold stlA
            first
              | (rw [if_pos (by omega)])
              | (rw [if_neg (by omega)])
          · rw [upd_ne _ _ q]; exact hs j (by omega)
  have loopB : ∀ rb : Nat, (rb = 1 ∧ are (vr P c n) n < 0 ∨ rb = 0 ∧ ¬ are (vr P c n) n < 0) → ∀ μ k, k + μ = n → ∀ S1, (Fx [] [10, 11] [5, 6, 7] [] S S1 ∧ S1.2.1 10 = S.2.1 10 ∧ ∀ j, j < k → S1.2.1 11 j = nI (c j)) → XP mX9_turnLeft 129 [(3, .int (nI k)), (2, .int (nI (ldr (vr P c n) k))), (1, .int (nI rb)), (0, .ref 0)] [] (xwS S1) (sQ (fun r S' => r = none ∧ Fx [] [10, 11] [5, 6, 7] [] S S' ∧ mrg S' n (stlA (vr P c n) n c))) := by
    intro rb hrb μ
    induction μ with
    | zero =>
      intro k hk S1 h1
      obtain ⟨hx, e10, hh⟩ := h1
      have e14 : S1.1 0 14 = nI n := by rw [hx.1 0 (by simp)]; exact h0.1
      have ll : 0 < k → ldr (vr P c n) k < k := ldr_lt (vr P c n) k
      have l0 : k = 0 → ldr (vr P c n) k = 0 := fun e => by rw [e]; rfl
      refine x_iload_n eX9_turnLeft_129 rfl ?_
      refine x_aload_n eX9_turnLeft_130 rfl ?_
      refine s_geti eX9_turnLeft_131 fX9_218 rfl (by decide) (by decide) ?_
      rw [show S1.1 0 14 = nI n from e14]
      refine x_icmp_geN eX9_turnLeft_134 (by omega) (by omega) (fun c_134 => ?_) (fun c_134 => ?_)
      · refine x_iconst (v := nI 0) eX9_turnLeft_180 (by decide) ?_
        refine x_istore_n (lv' := [_, _, _, _]) eX9_turnLeft_181 (by decide) rfl ?_
        refine x_pick [0, 1, 2, 3] rfl ?_
        have ek : k = n := by omega
        rw [ek] at hh ⊢
        exact loopC rb hrb n 0 (by omega) _ ⟨hx, hh, fun j hj => by omega⟩
      · omega
    | succ μ ih =>
      intro k hk S1 h1
      obtain ⟨hx, e10, hh⟩ := h1
      have e14 : S1.1 0 14 = nI n := by rw [hx.1 0 (by simp)]; exact h0.1
      have ll : 0 < k → ldr (vr P c n) k < k := ldr_lt (vr P c n) k
      have l0 : k = 0 → ldr (vr P c n) k = 0 := fun e => by rw [e]; rfl
      refine x_iload_n eX9_turnLeft_129 rfl ?_
      refine x_aload_n eX9_turnLeft_130 rfl ?_
      refine s_geti eX9_turnLeft_131 fX9_218 rfl (by decide) (by decide) ?_
      rw [show S1.1 0 14 = nI n from e14]
      refine x_icmp_geN eX9_turnLeft_134 (by omega) (by omega) (fun c_134 => ?_) (fun c_134 => ?_)
      · omega
      · refine x_aload_n eX9_turnLeft_137 rfl ?_
        refine s_getR (k := 11) eX9_turnLeft_138 fX9_45 rfl (by decide) (by decide) rfl ?_
        refine x_iload_n eX9_turnLeft_141 rfl ?_
        refine x_aload_n eX9_turnLeft_142 rfl ?_
        refine s_getR (k := 10) eX9_turnLeft_143 fX9_42 rfl (by decide) (by decide) rfl ?_
        refine x_iload_n eX9_turnLeft_146 rfl ?_
        refine s_iald eX9_turnLeft_147 rfl (by decide) rfl (show _ < 24 by omega) ?_
        rw [e10, (h0.2.2 k (by omega)).1]
        refine s_iast eX9_turnLeft_148 rfl (by decide) rfl (show _ < 24 by omega) ?_
        refine x_aload_n eX9_turnLeft_149 rfl ?_
        refine x_aload_n eX9_turnLeft_150 rfl ?_
        refine s_getR (k := 10) eX9_turnLeft_151 fX9_42 rfl (by decide) (by decide) rfl ?_
        refine x_iload_n eX9_turnLeft_154 rfl ?_
        refine s_iald eX9_turnLeft_155 rfl (by decide) rfl (show _ < 24 by omega) ?_
        rw [setI_ne _ _ (by decide), e10, (h0.2.2 k (by omega)).1]
        refine x_aload_n eX9_turnLeft_156 rfl ?_
        refine s_getR (k := 10) eX9_turnLeft_157 fX9_42 rfl (by decide) (by decide) rfl ?_
        refine x_iload_n eX9_turnLeft_160 rfl ?_
        refine s_iald eX9_turnLeft_161 rfl (by decide) rfl (show _ < 24 by omega) ?_
        rw [setI_ne _ _ (by decide), e10, (h0.2.2 (ldr (vr P c n) k) (by omega)).1]
        refine s_callV1 (As := [_, _]) eX9_turnLeft_162 kX9_158 ⟨by decide, by decide⟩ rfl (by decide) (by decide) rfl rfl (Nat.le_of_ble_eq_true rfl) (Nat.le_of_ble_eq_true rfl) (sp_X9_ahead _ ((hp0.fx (hx.tr (Fx.sI (by simp))) (by decide) (by decide)) _ (Or.inl (hc k (by omega)))) ((hp0.fx (hx.tr (Fx.sI (by simp))) (by decide) (by decide)) _ (Or.inl (hc (ldr (vr P c n) k) (by omega))))) (fun S_162 h_162 => ?_)
        have h_162 := h_162.symm
        subst h_162
        refine x_if_ge eX9_turnLeft_165 (fun c_165 => ?_) (fun c_165 => ?_)
        · refine x_iload_n eX9_turnLeft_172 rfl ?_
          refine x_istore_n (lv' := [_, _, _, _]) eX9_turnLeft_173 (by decide) rfl ?_
          refine x_iinc (lv' := [_, _, _, _]) eX9_turnLeft_174 rfl (by first | exact nI_inc _ | exact rfl) (by decide) rfl ?_
          refine x_goto eX9_turnLeft_177 ?_
          refine x_pick [0, 1, 2, 3] rfl ?_
          have vk : (vr P c n) k = P (c k) := by show P (c (k % n)) = _; rw [Nat.mod_eq_of_lt (by omega)]
          have vl : (vr P c n) (ldr (vr P c n) k) = P (c (ldr (vr P c n) k)) := by show P (c (ldr (vr P c n) k % n)) = _; rw [Nat.mod_eq_of_lt (by omega)]
          have nx := ih (k + 1) (by omega) _ ⟨hx.tr (Fx.sI (p := 11) (g := upd (S1.2.1 11) k (nI (c k))) (by simp)), by rw [setI_ne _ _ (by decide)]; exact e10, fun j hj => by
            rw [setI_at]
            by_cases q : j = k
            · subst q; rw [upd_at]
            · rw [upd_ne _ _ q]; exact hh j (by omega)⟩
          first
            | (have lt : ltP ((vr P c n) k) ((vr P c n) (ldr (vr P c n) k)) = true := by rw [← ahP_lt, vk, vl]; exact Int32.not_le.mp c_165
               rw [show ldr (vr P c n) (k + 1) = k from if_pos lt] at nx; exact nx)
            | (have lt : ¬ ltP ((vr P c n) k) ((vr P c n) (ldr (vr P c n) k)) = true := by rw [← ahP_lt, vk, vl]; exact Int32.not_lt.mpr c_165
               rw [show ldr (vr P c n) (k + 1) = ldr (vr P c n) k from if_neg lt] at nx; exact nx)
        · refine x_iload_n eX9_turnLeft_168 rfl ?_
          refine x_goto eX9_turnLeft_169 ?_
          refine x_istore_n (lv' := [_, _, _, _]) eX9_turnLeft_173 (by decide) rfl ?_
          refine x_iinc (lv' := [_, _, _, _]) eX9_turnLeft_174 rfl (by first | exact nI_inc _ | exact rfl) (by decide) rfl ?_
          refine x_goto eX9_turnLeft_177 ?_
          refine x_pick [0, 1, 2, 3] rfl ?_
          have vk : (vr P c n) k = P (c k) := by show P (c (k % n)) = _; rw [Nat.mod_eq_of_lt (by omega)]
          have vl : (vr P c n) (ldr (vr P c n) k) = P (c (ldr (vr P c n) k)) := by show P (c (ldr (vr P c n) k % n)) = _; rw [Nat.mod_eq_of_lt (by omega)]
          have nx := ih (k + 1) (by omega) _ ⟨hx.tr (Fx.sI (p := 11) (g := upd (S1.2.1 11) k (nI (c k))) (by simp)), by rw [setI_ne _ _ (by decide)]; exact e10, fun j hj => by
            rw [setI_at]
            by_cases q : j = k
            · subst q; rw [upd_at]
            · rw [upd_ne _ _ q]; exact hh j (by omega)⟩
          first
            | (have lt : ltP ((vr P c n) k) ((vr P c n) (ldr (vr P c n) k)) = true := by rw [← ahP_lt, vk, vl]; exact Int32.not_le.mp c_165
               rw [show ldr (vr P c n) (k + 1) = k from if_pos lt] at nx; exact nx)
            | (have lt : ¬ ltP ((vr P c n) k) ((vr P c n) (ldr (vr P c n) k)) = true := by rw [← ahP_lt, vk, vl]; exact Int32.not_lt.mpr c_165
               rw [show ldr (vr P c n) (k + 1) = ldr (vr P c n) k from if_neg lt] at nx; exact nx)
  have loopA : ∀ μ k, k + μ = n → ∀ S1, (Lx [5, 6, 7] S S1 ∧ sum10 S1 7 0 (sumZ (arf (vr P c n)) k)) → XP mX9_turnLeft 12 [(1, .int (nI k)), (0, .ref 0)] [] (xwS S1) (sQ (fun r S' => r = none ∧ Fx [] [10, 11] [5, 6, 7] [] S S' ∧ mrg S' n (stlA (vr P c n) n c))) := by
    intro μ
    induction μ with
    | zero =>
      intro k hk S1 h1
      obtain ⟨hx, hT⟩ := h1
      have e14 : S1.1 0 14 = nI n := by rw [hx.1]; exact h0.1
      refine x_iload_n eX9_turnLeft_12 rfl ?_
      refine x_aload_n eX9_turnLeft_13 rfl ?_
      refine s_geti eX9_turnLeft_14 fX9_218 rfl (by decide) (by decide) ?_
      rw [show S1.1 0 14 = nI n from e14]
      refine x_icmp_geN eX9_turnLeft_17 (by omega) (by omega) (fun c_17 => ?_) (fun c_17 => ?_)
      · refine x_aload_n eX9_turnLeft_106 rfl ?_
        refine s_getR (k := 7) eX9_turnLeft_107 fX9_28 rfl (by decide) (by decide) rfl ?_
        refine x_iconst (v := nI 0) eX9_turnLeft_110 (by decide) ?_
        refine x_bipush (v := nI 10) eX9_turnLeft_111 (by decide) ?_
        refine s_callS1 (As := [_, _, _]) eX9_turnLeft_113 kX9_151 ⟨by decide, by decide⟩ rfl rfl (Nat.le_of_ble_eq_true rfl) (Nat.le_of_ble_eq_true rfl) (sp_X9_signOf (a := 7) rfl (by decide) (fr := 0) (n := 10) (by decide) (by decide) _ (are (vr P c n) n) (fun i hi => by rw [Nat.zero_add]; have := hT i hi; rw [Nat.zero_add, show k = n by omega] at this; exact this) (by have := tb9 (T := are (vr P c n) n) (by have := area_bd (v := (vr P c n)) bd n24; rw [are_arf]; omega); exact ⟨by omega, by omega⟩)) (fun S_113 h_113 => ?_)
        have h_113 := h_113.symm
        subst h_113
        refine x_if_geS eX9_turnLeft_116 (fun c_116 => ?_) (fun c_116 => ?_)
        · refine x_iconst (v := nI 0) eX9_turnLeft_123 (by decide) ?_
          refine x_istore_n (lv' := [_, _]) eX9_turnLeft_124 (by decide) rfl ?_
          refine x_iconst (v := nI 0) eX9_turnLeft_125 (by decide) ?_
          refine x_istore_n (lv' := [_, _, _]) eX9_turnLeft_126 (by decide) rfl ?_
          refine x_iconst (v := nI 0) eX9_turnLeft_127 (by decide) ?_
          refine x_istore_n (lv' := [_, _, _, _]) eX9_turnLeft_128 (by decide) rfl ?_
          refine x_pick [0, 1, 2, 3] rfl ?_
          first
            | exact loopB 1 (Or.inl ⟨rfl, c_116⟩) n 0 (by omega) _ ⟨hx.fx (by simp), by rw [hx.2.1], fun j hj => by omega⟩
            | exact loopB 0 (Or.inr ⟨rfl, by omega⟩) n 0 (by omega) _ ⟨hx.fx (by simp), by rw [hx.2.1], fun j hj => by omega⟩
        · refine x_iconst (v := nI 1) eX9_turnLeft_119 (by decide) ?_
          refine x_goto eX9_turnLeft_120 ?_
          refine x_istore_n (lv' := [_, _]) eX9_turnLeft_124 (by decide) rfl ?_
          refine x_iconst (v := nI 0) eX9_turnLeft_125 (by decide) ?_
          refine x_istore_n (lv' := [_, _, _]) eX9_turnLeft_126 (by decide) rfl ?_
          refine x_iconst (v := nI 0) eX9_turnLeft_127 (by decide) ?_
          refine x_istore_n (lv' := [_, _, _, _]) eX9_turnLeft_128 (by decide) rfl ?_
          refine x_pick [0, 1, 2, 3] rfl ?_
          first
            | exact loopB 1 (Or.inl ⟨rfl, c_116⟩) n 0 (by omega) _ ⟨hx.fx (by simp), by rw [hx.2.1], fun j hj => by omega⟩
            | exact loopB 0 (Or.inr ⟨rfl, by omega⟩) n 0 (by omega) _ ⟨hx.fx (by simp), by rw [hx.2.1], fun j hj => by omega⟩
      · omega
    | succ μ ih =>
      intro k hk S1 h1
      obtain ⟨hx, hT⟩ := h1
      have e14 : S1.1 0 14 = nI n := by rw [hx.1]; exact h0.1
      refine x_iload_n eX9_turnLeft_12 rfl ?_
      refine x_aload_n eX9_turnLeft_13 rfl ?_
      refine s_geti eX9_turnLeft_14 fX9_218 rfl (by decide) (by decide) ?_
      rw [show S1.1 0 14 = nI n from e14]
      refine x_icmp_geN eX9_turnLeft_17 (by omega) (by omega) (fun c_17 => ?_) (fun c_17 => ?_)
      · omega
      · have tA56 : pt S1 (c k) (P (c k)) := (hp0 _ (Or.inl (hc k (by omega)))).mv hx (by decide) (by decide)
        have tB56 : pt S1 (c ((k + 1) % n)) (P (c ((k + 1) % n))) := (hp0 _ (Or.inl (hc _ (Nat.mod_lt (k + 1) n0)))).mv hx (by decide) (by decide)
        have la := tA56.2.2.2.2
        have lb := tB56.2.2.2.2
        have a1 := tA56.2.2.1
        have a2 := tA56.2.2.2.1
        have b1 := tB56.2.2.1
        have b2 := tB56.2.2.2.1
        have hT56 := hT
        have ab := area_bd (v := (vr P c n)) bd (k := k) (by omega)
        have bT56 := tb9 (T := sumZ (arf (vr P c n)) k) (by omega)
        have pb := pp_bd (A := P (c k)) (B := P (c ((k + 1) % n))) ⟨a1, a2⟩ ⟨b1, b2⟩
        have r1 : S1.2.1 10 k = nI (c k) := by rw [hx.2.1]; exact (h0.2.2 k (by omega)).1
        have r2 : S1.2.1 10 ((k + 1) % n) = nI (c ((k + 1) % n)) := by rw [hx.2.1]; exact (h0.2.2 _ (Nat.mod_lt (k + 1) n0)).1
        refine x_aload_n eX9_turnLeft_20 rfl ?_
        refine x_aload_n eX9_turnLeft_21 rfl ?_
        refine s_getR (k := 3) eX9_turnLeft_22 fX9_16 rfl (by decide) (by decide) rfl ?_
        refine x_aload_n eX9_turnLeft_25 rfl ?_
        refine s_getR (k := 10) eX9_turnLeft_26 fX9_42 rfl (by decide) (by decide) rfl ?_
        refine x_iload_n eX9_turnLeft_29 rfl ?_
        refine s_iald eX9_turnLeft_30 rfl (by decide) rfl (show _ < 24 by omega) ?_
        rw [r1]
        refine x_iconst (v := -1) eX9_turnLeft_31 (by decide) ?_
        refine x_aload_n eX9_turnLeft_32 rfl ?_
        refine s_getR (k := 4) eX9_turnLeft_33 fX9_19 rfl (by decide) (by decide) rfl ?_
        refine x_aload_n eX9_turnLeft_36 rfl ?_
        refine s_getR (k := 10) eX9_turnLeft_37 fX9_42 rfl (by decide) (by decide) rfl ?_
        refine x_iload_n eX9_turnLeft_40 rfl ?_
        refine x_iconst (v := nI 1) eX9_turnLeft_41 (by decide) ?_
        first | refine x_iaddN eX9_turnLeft_42 ?_ | refine x_iadd eX9_turnLeft_42 ?_
        refine x_aload_n eX9_turnLeft_43 rfl ?_
        refine s_geti eX9_turnLeft_44 fX9_218 rfl (by decide) (by decide) ?_
        rw [show S1.1 0 14 = nI n from e14]
        refine x_iremN eX9_turnLeft_47 (by omega) (by omega) (by omega) ?_
        refine s_iald eX9_turnLeft_48 rfl (by decide) rfl (show _ < 24 by have := Nat.mod_lt (k + 1) n0; omega) ?_
        rw [r2]
        refine x_iconst (v := -1) eX9_turnLeft_49 (by decide) ?_
        refine x_aload_n eX9_turnLeft_50 rfl ?_
        refine s_getR (k := 7) eX9_turnLeft_51 fX9_28 rfl (by decide) (by decide) rfl ?_
        refine x_iconst (v := nI 0) eX9_turnLeft_54 (by decide) ?_
        refine x_lconst (v := lI 1) eX9_turnLeft_55 (by decide) ?_
        refine s_callV0 (As := [_, _, _, _, _, _, _, _, _]) eX9_turnLeft_56 kX9_147 ⟨by decide, by decide⟩ rfl (by decide) (by decide) rfl rfl (Nat.le_of_ble_eq_true rfl) (Nat.le_of_ble_eq_true rfl) (sp_X9_times S1 (p1 := 3) (p2 := 4) (p3 := 7) rfl (by decide) rfl (by decide) rfl (by decide) (by decide) (by decide) (by decide) (VA := (P (c k)).1) (VB := 0) (VC := (P (c ((k + 1) % n))).2) (VD := 0) (T := sumZ (arf (vr P c n)) k) (s := 1) (show _ ≤ 1010 by omega) (show _ ≤ 1010 by omega) (by decide) tA56.1 tB56.2.1 (Or.inl ⟨rfl, rfl⟩) (Or.inl ⟨rfl, rfl⟩) (by omega) (by omega) (by omega) (by omega) (Or.inl rfl) hT56 bT56) (fun S_56 h_56 => ?_)
        have x2 := h_56.1
        have tA97 := tA56.mv x2 (by decide) (by decide)
        have tB97 := tB56.mv x2 (by decide) (by decide)
        have hT97 : sum10 S_56 7 0 (sumZ (arf (vr P c n)) k + 1 * (((P (c k)).1 - 0) * ((P (c ((k + 1) % n))).2 - 0))) := fun i hi => by rw [h_56.2, if_pos (by omega), show 0 + i - 0 = i by omega]
        have bT97 := tb9 (T := sumZ (arf (vr P c n)) k + 1 * (((P (c k)).1 - 0) * ((P (c ((k + 1) % n))).2 - 0))) (by rw [Int.sub_zero, Int.sub_zero, Int.one_mul]; generalize (P (c k)).1 * (P (c ((k + 1) % n))).2 = x at *; omega)
        have g14 : S_56.1 0 14 = nI n := by rw [x2.1]; exact e14
        have q1 : S_56.2.1 10 k = nI (c k) := by rw [x2.2.1]; exact r1
        have q2 : S_56.2.1 10 ((k + 1) % n) = nI (c ((k + 1) % n)) := by rw [x2.2.1]; exact r2
        refine x_aload_n eX9_turnLeft_59 rfl ?_
        refine x_aload_n eX9_turnLeft_60 rfl ?_
        refine s_getR (k := 4) eX9_turnLeft_61 fX9_19 rfl (by decide) (by decide) rfl ?_
        refine x_aload_n eX9_turnLeft_64 rfl ?_
        refine s_getR (k := 10) eX9_turnLeft_65 fX9_42 rfl (by decide) (by decide) rfl ?_
        refine x_iload_n eX9_turnLeft_68 rfl ?_
        refine s_iald eX9_turnLeft_69 rfl (by decide) rfl (show _ < 24 by omega) ?_
        rw [q1]
        refine x_iconst (v := -1) eX9_turnLeft_70 (by decide) ?_
        refine x_aload_n eX9_turnLeft_71 rfl ?_
        refine s_getR (k := 3) eX9_turnLeft_72 fX9_16 rfl (by decide) (by decide) rfl ?_
        refine x_aload_n eX9_turnLeft_75 rfl ?_
        refine s_getR (k := 10) eX9_turnLeft_76 fX9_42 rfl (by decide) (by decide) rfl ?_
        refine x_iload_n eX9_turnLeft_79 rfl ?_
        refine x_iconst (v := nI 1) eX9_turnLeft_80 (by decide) ?_
        first | refine x_iaddN eX9_turnLeft_81 ?_ | refine x_iadd eX9_turnLeft_81 ?_
        refine x_aload_n eX9_turnLeft_82 rfl ?_
        refine s_geti eX9_turnLeft_83 fX9_218 rfl (by decide) (by decide) ?_
        rw [g14]
        refine x_iremN eX9_turnLeft_86 (by omega) (by omega) (by omega) ?_
        refine s_iald eX9_turnLeft_87 rfl (by decide) rfl (show _ < 24 by have := Nat.mod_lt (k + 1) n0; omega) ?_
        rw [q2]
        refine x_iconst (v := -1) eX9_turnLeft_88 (by decide) ?_
        refine x_aload_n eX9_turnLeft_89 rfl ?_
        refine s_getR (k := 7) eX9_turnLeft_90 fX9_28 rfl (by decide) (by decide) rfl ?_
        refine x_iconst (v := nI 0) eX9_turnLeft_93 (by decide) ?_
        refine x_ldc2 (v := lI (-1)) eX9_turnLeft_94 (xT 842 (by decide +kernel) rfl) ?_
        refine s_callV0 (As := [_, _, _, _, _, _, _, _, _]) eX9_turnLeft_97 kX9_147 ⟨by decide, by decide⟩ rfl (by decide) (by decide) rfl rfl (Nat.le_of_ble_eq_true rfl) (Nat.le_of_ble_eq_true rfl) (sp_X9_times S_56 (p1 := 4) (p2 := 3) (p3 := 7) rfl (by decide) rfl (by decide) rfl (by decide) (by decide) (by decide) (by decide) (VA := (P (c k)).2) (VB := 0) (VC := (P (c ((k + 1) % n))).1) (VD := 0) (T := sumZ (arf (vr P c n)) k + 1 * (((P (c k)).1 - 0) * ((P (c ((k + 1) % n))).2 - 0))) (s := -1) (show _ ≤ 1010 by omega) (show _ ≤ 1010 by omega) (by decide) tA97.2.1 tB97.1 (Or.inl ⟨rfl, rfl⟩) (Or.inl ⟨rfl, rfl⟩) (by omega) (by omega) (by omega) (by omega) (Or.inr rfl) hT97 bT97) (fun S_97 h_97 => ?_)
        refine x_iinc (lv' := [_, _]) eX9_turnLeft_100 rfl (by first | exact nI_inc _ | exact rfl) (by decide) rfl ?_
        refine x_goto eX9_turnLeft_103 ?_
        refine x_pick [0, 1] rfl ?_
        refine ih (k + 1) (by omega) _ ⟨(hx.tr x2).tr h_97.1, fun i hi => ?_⟩
        rw [h_97.2, if_pos (by omega), show 0 + i - 0 = i by omega]
        congr 2
        show _ = sumZ (arf (vr P c n)) k + arf (vr P c n) k
        unfold arf
        show _ = _ + ((P (c (k % n))).1 * (P (c ((k + 1) % n))).2 - (P (c (k % n))).2 * (P (c ((k + 1) % n))).1)
        rw [Nat.mod_eq_of_lt (show k < n by omega)]
        grind
  show XP _ _ [_] _ _ _
  refine x_aload_n eX9_turnLeft_0 rfl ?_
  refine s_getR (k := 7) eX9_turnLeft_1 fX9_28 rfl (by decide) (by decide) rfl ?_
  refine x_iconst (v := nI 0) eX9_turnLeft_4 (by decide) ?_
  refine x_bipush (v := nI 10) eX9_turnLeft_5 (by decide) ?_
  refine s_callS0 (As := [_, _, _]) eX9_turnLeft_7 kX9_144 ⟨by decide, by decide⟩ rfl rfl (Nat.le_of_ble_eq_true rfl) (Nat.le_of_ble_eq_true rfl) (sp_X9_clear (a := 7) rfl (by decide) (fr := 0) (n := 10) (by decide) S) (fun S_7 h_7 => ?_)
  refine x_iconst (v := nI 0) eX9_turnLeft_10 (by decide) ?_
  refine x_istore_n (lv' := [_, _]) eX9_turnLeft_11 (by decide) rfl ?_
  refine x_pick [0, 1] rfl ?_
  refine loopA n 0 (by omega) _ ⟨by rw [h_7]; exact Lx.set _ _ (by simp), fun i hi => ?_⟩
  show _ = lI (can (2 ^ 24) 10 0 i)
  rw [h_7, setL_at, if_pos (by omega), can_of_zero]; rfl
