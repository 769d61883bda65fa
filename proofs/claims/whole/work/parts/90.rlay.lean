/-! ===== the reference's lay ===== -/
theorem zc_plain (x : Int64) : zc (plainB x) = zc x := by
  unfold plainB
  by_cases h : x &&& 9223372036854775807 = 0
  · rw [if_pos h]
    rw [and_size] at h
    have h0 : szZ x = 0 := (lI_inj (szZ_in x) inL_0).mp h
    rw [zc_0]
    unfold zc mtZ
    rw [if_pos h0]
    simp
  · rw [if_neg h]
def layP (S : xS) (slot : Nat) (x y : Int64) (S' : xS) : Prop := S'.1 = S.1 ∧ S'.2.1 = S.2.1 ∧ S'.2.2.2 = S.2.2.2 ∧ (∀ p, p ∉ [1, 2, 3, 4] → S'.2.2.1 p = S.2.2.1 p) ∧ (∀ j, S'.2.2.1 1 j = if j = slot then plainB x else S.2.2.1 1 j) ∧ (∀ j, S'.2.2.1 2 j = if j = slot then plainB y else S.2.2.1 2 j) ∧ pt S' slot (scP 2 (zc x, zc y)) ∧ ∀ s T, s ≠ slot → pt S s T → pt S' s T
theorem sp_X9_lay (S : xS) {slot : Nat} (hs : slot < 202) {x y : Int64} (hx : isNum x = true) (hy : isNum y = true) : Sp mX9_lay [.ref 0, .int (nI slot), .long x, .long y] S (fun r S' => r = none ∧ layP S slot x y S') := by
  have bx := zc_bound hx
  have bY := zc_bound hy
  show XP _ _ [_, _, _, _] _ _ _
  refine x_aload_n eX9_lay_0 rfl ?_
  refine s_getR (k := 1) eX9_lay_1 fX9_7 rfl (by decide) (by decide) rfl ?_
  refine x_iload_n eX9_lay_4 rfl ?_
  refine x_lload_n eX9_lay_5 rfl ?_
  refine s_callS1 (As := [_]) eX9_lay_6 kX9_132 ⟨by decide, by decide⟩ rfl rfl (Nat.le_of_ble_eq_true rfl) (Nat.le_of_ble_eq_true rfl) (sp_X9_plain _ _) (fun S_6 h_6 => ?_)
  have h_6 := h_6.symm
  subst h_6
  refine s_last eX9_lay_9 rfl (by decide) rfl (show _ < 202 by omega) ?_
  refine x_aload_n eX9_lay_10 rfl ?_
  refine s_getR (k := 2) eX9_lay_11 fX9_13 rfl (by decide) (by decide) rfl ?_
  refine x_iload_n eX9_lay_14 rfl ?_
  refine x_lload eX9_lay_15 rfl ?_
  refine s_callS1 (As := [_]) eX9_lay_17 kX9_132 ⟨by decide, by decide⟩ rfl rfl (Nat.le_of_ble_eq_true rfl) (Nat.le_of_ble_eq_true rfl) (sp_X9_plain _ _) (fun S_17 h_17 => ?_)
  have h_17 := h_17.symm
  subst h_17
  refine s_last eX9_lay_20 rfl (by decide) rfl (show _ < 202 by omega) ?_
  refine x_aload_n eX9_lay_21 rfl ?_
  refine s_getR (k := 1) eX9_lay_22 fX9_7 rfl (by decide) (by decide) rfl ?_
  refine x_iload_n eX9_lay_25 rfl ?_
  refine s_lald eX9_lay_26 rfl (by decide) rfl (show _ < 202 by omega) ?_
  rw [setL_ne _ _ (by decide), setL_at, vul_at]
  refine x_aload_n eX9_lay_27 rfl ?_
  refine s_getR (k := 3) eX9_lay_28 fX9_16 rfl (by decide) (by decide) rfl ?_
  refine x_iconst (v := nI 5) eX9_lay_31 (by decide) ?_
  refine x_iload_n eX9_lay_32 rfl ?_
  first | refine x_imulN eX9_lay_33 ?_ | refine x_imul eX9_lay_33 ?_
  refine s_callS0 (As := [_, _, _]) eX9_lay_34 kX9_136 ⟨by decide, by decide⟩ rfl rfl (Nat.le_of_ble_eq_true rfl) (Nat.le_of_ble_eq_true rfl) (sp_X9_whole (p := 3) rfl (by decide) (t := 5 * slot) (show _ ≤ 1010 by omega) _ _ (plainB_num hx)) (fun S_34 h_34 => ?_)
  rw [zc_plain] at h_34
  refine x_aload_n eX9_lay_37 rfl ?_
  refine s_getR (k := 2) eX9_lay_38 fX9_13 rfl (by decide) (by decide) rfl ?_
  refine x_iload_n eX9_lay_41 rfl ?_
  refine s_lald eX9_lay_42 rfl (by decide) rfl (show _ < 202 by omega) ?_
  have e42 : S_34.2.2.1 2 slot = plainB y := by rw [h_34, setL_ne _ _ (by decide), setL_at, vul_at]
  rw [e42]
  refine x_aload_n eX9_lay_43 rfl ?_
  refine s_getR (k := 4) eX9_lay_44 fX9_19 rfl (by decide) (by decide) rfl ?_
  refine x_iconst (v := nI 5) eX9_lay_47 (by decide) ?_
  refine x_iload_n eX9_lay_48 rfl ?_
  first | refine x_imulN eX9_lay_49 ?_ | refine x_imul eX9_lay_49 ?_
  refine s_callS0 (As := [_, _, _]) eX9_lay_50 kX9_136 ⟨by decide, by decide⟩ rfl rfl (Nat.le_of_ble_eq_true rfl) (Nat.le_of_ble_eq_true rfl) (sp_X9_whole (p := 4) rfl (by decide) (t := 5 * slot) (show _ ≤ 1010 by omega) _ _ (plainB_num hy)) (fun S_50 h_50 => ?_)
  rw [zc_plain] at h_50
  have q3 : ∀ j, S_50.2.2.1 3 j = if 5 * slot ≤ j ∧ j < 5 * slot + 5 then lI (can (2 ^ 24) 5 (2 * zc x) (j - 5 * slot)) else S.2.2.1 3 j := by
    intro j
    rw [h_50, setL_ne _ _ (by decide), h_34, setL_at]
    by_cases z : 5 * slot ≤ j ∧ j < 5 * slot + 5
    · rw [if_pos z, if_pos z]
    · rw [if_neg z, if_neg z, setL_ne _ _ (by decide), setL_ne _ _ (by decide)]
  have q4 : ∀ j, S_50.2.2.1 4 j = if 5 * slot ≤ j ∧ j < 5 * slot + 5 then lI (can (2 ^ 24) 5 (2 * zc y) (j - 5 * slot)) else S.2.2.1 4 j := by
    intro j
    rw [h_50, setL_at]
    by_cases z : 5 * slot ≤ j ∧ j < 5 * slot + 5
    · rw [if_pos z, if_pos z]
    · rw [if_neg z, if_neg z, h_34, setL_ne _ _ (by decide), setL_ne _ _ (by decide), setL_ne _ _ (by decide)]
  refine s_vret eX9_lay_53 rfl ⟨rfl, by rw [h_50, h_34]; rfl, by rw [h_50, h_34]; rfl, by rw [h_50, h_34]; rfl, fun p hp => ?_, fun j => ?_, fun j => ?_, ⟨fun i hi => ?_, fun i hi => ?_, ⟨by show _ ≤ 2 * zc x; omega, by show 2 * zc x ≤ _; omega⟩, ⟨by show _ ≤ 2 * zc y; omega, by show 2 * zc y ≤ _; omega⟩, hs⟩, fun s T hne ht => ?_⟩
  · simp at hp
    rw [h_50, setL_ne _ _ (by omega), h_34, setL_ne _ _ (by omega), setL_ne _ _ (by omega), setL_ne _ _ (by omega)]
  · rw [h_50, setL_ne _ _ (by decide), h_34, setL_ne _ _ (by decide), setL_ne _ _ (by decide), setL_at]
    by_cases z : j = slot
    · subst z; rw [vul_at, if_pos rfl]
    · rw [vul_ne _ _ z, if_neg z]
  · rw [h_50, setL_ne _ _ (by decide), h_34, setL_ne _ _ (by decide), setL_at]
    by_cases z : j = slot
    · subst z; rw [vul_at, if_pos rfl]
    · rw [vul_ne _ _ z, if_neg z, setL_ne _ _ (by decide)]
  · rw [q3, if_pos (by omega), show 5 * slot + i - 5 * slot = i by omega]; rfl
  · rw [q4, if_pos (by omega), show 5 * slot + i - 5 * slot = i by omega]; rfl
  · obtain ⟨t1, t2, t3, t4, t5⟩ := ht
    refine ⟨fun i hi => ?_, fun i hi => ?_, t3, t4, t5⟩
    · rw [q3, if_neg (by omega)]; exact t1 i hi
    · rw [q4, if_neg (by omega)]; exact t2 i hi
