theorem sp_X7_clear {v : Nat} (hv : v < 64) (S : xS) : Sp mX7_clear [.ref (237 + 2 * v)] S (fun r S' => r = none ∧ S' = setL S (238 + 2 * v) (fun j => if j < 8 then 0 else S.2.2.1 (238 + 2 * v) j)) := by
  have loop : ∀ n k, k + n = 8 → ∀ S1, S1 = setL S (238 + 2 * v) (fun j => if j < k then 0 else S.2.2.1 (238 + 2 * v) j) → XP mX7_clear 2 [(1, .int (nI k)), (0, .ref (237 + 2 * v))] [] (xwS S1) (sQ (fun r S' => r = none ∧ S' = setL S (238 + 2 * v) (fun j => if j < 8 then 0 else S.2.2.1 (238 + 2 * v) j))) := by
    intro n
    induction n with
    | zero =>
      intro k hk S1 h1
      obtain rfl : k = 8 := by omega
      refine x_iload_n eX7_clear_2 rfl ?_
      refine x_bipush (v := nI 8) eX7_clear_3 (by decide) ?_
      refine x_icmp_geN eX7_clear_5 (by omega) (by omega) (fun c_5 => ?_) (fun c_5 => ?_)
      · exact s_vret eX7_clear_21 rfl ⟨rfl, h1⟩
      · omega
    | succ n ih =>
      intro k hk S1 h1
      refine x_iload_n eX7_clear_2 rfl ?_
      refine x_bipush (v := nI 8) eX7_clear_3 (by decide) ?_
      refine x_icmp_geN eX7_clear_5 (by omega) (by omega) (fun c_5 => ?_) (fun c_5 => ?_)
      · omega
      · refine x_aload_n eX7_clear_8 rfl ?_
        refine s_getR (k := (238 + 2 * v)) eX7_clear_9 fX7_9 (kd_wide hv) (show _ < 365 by omega) (by decide) (rf_wide hv) ?_
        refine x_iload_n eX7_clear_12 rfl ?_
        refine x_lconst (v := 0) eX7_clear_13 (by decide) ?_
        refine s_last eX7_clear_14 (kd_col hv) (show _ < 365 by omega) rfl (by rw [(ln_col hv)]; omega) ?_
        refine x_iinc (lv' := [_, _]) eX7_clear_15 rfl (by first | exact nI_inc _ | exact rfl) (by decide) rfl ?_
        refine x_goto eX7_clear_18 ?_
        refine ih (k + 1) (by omega) _ ?_
        subst h1
        sorry
  show XP _ _ [_] _ _ _
  refine x_iconst (v := nI 0) eX7_clear_0 (by decide) ?_
  refine x_istore_n (lv' := [_, _]) eX7_clear_1 (by decide) rfl ?_
  refine loop 8 0 rfl _ ?_
  sorry
