/-! ===== the law's start ===== -/
theorem arr_of {args : Array Value} {s : State} {ty : FieldType} (h : (Cond.arrayClass ty).before args s = true) (hp : ∀ c, s.vm.findClass ("[" ++ ty.toString) = some c → va_RA s c ty) : ∃ c : ClassId, ArrOfT s c ty ∧ va_RA s c ty := by
  obtain ⟨c, k, comp, h1, h2, h3⟩ := Cond.arrayClass_spec h
  exact ⟨c, fun n z => ⟨fun k h => (by cases h), k, h2, comp, h3⟩, hp c h1⟩
theorem arr_ofq {s : State} {C : String} (h : va_AO C s) : ∃ c : ClassId, ArrOfT s c (.object C) ∧ va_RA s c (.object C) := by
  obtain ⟨comp, c, k, h1, h2, h3, h4, h5⟩ := Cond.arrayOver_spec h
  exact ⟨c, fun n z => ⟨fun k h => (by cases h), k, h3, comp, h4⟩, k, comp, h3, h4, h1, h5⟩
theorem law_known {args : Array Value} {s : State} (hts : ∀ w ∈ lw_tbl, w.before args s = true) : (∃ (D : va_G) (tc : Nat → Nat), va_K D vwCl (xtys tc) s) ∧ (∀ w ∈ xTs, w.before args s = true) ∧ xNw s ∧ va_AO cPar s ∧ va_AO cWid s ∧ yNw s := by
  have hx : ∀ w ∈ xTs, w.before args s = true := fun w h => hts w (List.mem_filter.mp h).1
  have ap : va_AO cPar s := va_AO.of (hts _ (List.mem_append_right _ (List.mem_of_getElem? (i := 79) (by decide +kernel))))
  have aw : va_AO cWid s := va_AO.of (hts _ (List.mem_append_right _ (List.mem_of_getElem? (i := 165) (by decide +kernel))))
  refine ⟨?_, hx, ?_, ap, aw, ?_⟩
  · obtain ⟨t0, h0⟩ := arr_of (hx _ (ya_I (n := 0) (by decide)).2.1) (fun c h => h)
    obtain ⟨t1, h1⟩ := arr_of (hx _ (ya_J (n := 0) (by decide)).2.1) (fun c h => h)
    obtain ⟨t2, h2⟩ := arr_of (hx _ (ya_D (n := 0) (by decide)).2.1) (fun c h => h)
    obtain ⟨t3, h3⟩ := arr_of (hx _ (ya_Z (n := 0) (by decide)).2.1) (fun c h => h)
    obtain ⟨t4, h4⟩ := arr_ofq ap
    obtain ⟨t5, h5⟩ := arr_ofq aw
    obtain ⟨c0, i0, k0⟩ := u_known (C := RX0) (T := TX0) (N := 5) (n := 5) hx iX0 (hx _ (xT 183 (by decide +kernel) rfl))
    obtain ⟨c1, i1, k1⟩ := u_known (C := RX1) (T := TX1) (N := 4) (n := 4) hx iX1 (hx _ (xT 80 (by decide +kernel) rfl))
    obtain ⟨c2, i2, k2⟩ := u_known (C := RX2) (T := TX2) (N := 5) (n := 5) hx iX2 (hx _ (xT 21 (by decide +kernel) rfl))
    obtain ⟨c3, i3, k3⟩ := u_known (C := RX3) (T := TX3) (N := 7) (n := 7) hx iX3 (hx _ (xT 73 (by decide +kernel) rfl))
    obtain ⟨c4, i4, k4⟩ := u_known (C := RX4) (T := TX4) (N := 2) (n := 2) hx iX4 (hx _ (xT 86 (by decide +kernel) rfl))
    obtain ⟨c5, i5, k5⟩ := u_known (C := RX5) (T := TX5) (N := 2) (n := 2) hx iX5 (hx _ (xT 59 (by decide +kernel) rfl))
    obtain ⟨c6, i6, k6⟩ := u_known (C := RX6) (T := TX6) (N := 4) (n := 4) hx iX6 (hx _ (xT 159 (by decide +kernel) rfl))
    obtain ⟨c7, i7, k7⟩ := u_known (C := RX7) (T := TX7) (N := 1) (n := 1) hx iX7 (hx _ (xT 27 (by decide +kernel) rfl))
    obtain ⟨c8, i8, k8⟩ := u_known (C := RX8) (T := TX8) (N := 11) (n := 11) hx iX8 (hx _ (xT 13 (by decide +kernel) rfl))
    obtain ⟨c9, i9, k9⟩ := u_known (C := RX9) (T := TX9) (N := 43) (n := 43) hx iX9 (hx _ (xT 684 (by decide +kernel) rfl))
    refine ⟨(fun k => [c0, c1, c2, c3, c4, c5, c6, c7, c8, c9].getD k c0, fun k => [i0, i1, i2, i3, i4, i5, i6, i7, i8, i9].getD k i0), fun k => [t0, t1, t2, t3, t4, t5].getD k t0, fun k q hq => ?_, fun k q hq => ?_⟩
    · match k, hq with
      | 0, hq => cases hq; exact k0
      | 1, hq => cases hq; exact k1
      | 2, hq => cases hq; exact k2
      | 3, hq => cases hq; exact k3
      | 4, hq => cases hq; exact k4
      | 5, hq => cases hq; exact k5
      | 6, hq => cases hq; exact k6
      | 7, hq => cases hq; exact k7
      | 8, hq => cases hq; exact k8
      | 9, hq => cases hq; exact k9
      | k + 10, hq => simp at hq
    · match k, hq with
      | 0, hq => cases hq; exact h0
      | 1, hq => cases hq; exact h1
      | 2, hq => cases hq; exact h2
      | 3, hq => cases hq; exact h3
      | 4, hq => cases hq; exact h4
      | 5, hq => cases hq; exact h5
      | k + 6, hq => simp at hq
  · intro q hq
    have hm := List.mem_filter.mp hq
    have hb := hts q hm.1
    have hz : xNb q = true := hm.2
    cases q with
    | fieldLinkNest a i b n d h => exact va_Nw.of rfl hb
    | _ => simp [xNb] at hz
  · intro q hq
    have hm := List.mem_filter.mp hq
    have hb := hts q hm.1
    have hz : yNb q = true := hm.2
    cases q with
    | methodLinkNest a i b n => exact va_Nw.of rfl hb
    | _ => simp [yNb] at hz
theorem law_ctors (w : xW) : YP mLaw (0, 0, 365, 12216) 0 [(0, .ref 365)] [] 0 0 w (fun pc lv st N sl w' => pc = 18 ∧ lv = lwV 0 ∧ st = [] ∧ N = 365 ∧ sl = 12216 ∧ ∀ q, q < 365 → w' q = w00 q) := by
  refine y_new eL_0 nL_7 (by decide) (by decide) (by decide) ?_
  refine y_dup eL_3 rfl ?_
  refine y_callI (As := []) (b := roN 0) (rest := [.ref (roN 0)]) eL_4 yL_9 i_X8_init rfl rfl ⟨by decide, by decide⟩ rfl rfl (Nat.le_of_ble_eq_true rfl) (by decide) ⟨by decide, by decide⟩ ⟨by decide, by decide⟩ (by decide) (by decide) (yc_X8 xup_same) (fun w1 h1 => ?_)
  refine y_astore_n (lv' := [_, _]) eL_7 (by decide) rfl ?_
  refine y_new eL_8 nL_10 (by decide) (by decide) (by decide) ?_
  refine y_dup eL_11 rfl ?_
  refine y_callI (As := []) (b := roN 334) (rest := [.ref (roN 334)]) eL_12 yL_12 i_X9_init rfl rfl ⟨by decide, by decide⟩ rfl rfl (Nat.le_of_ble_eq_true rfl) (by decide) ⟨by decide, by decide⟩ ⟨by decide, by decide⟩ (by decide) (by decide) (yc_X9 xup_same) (fun w2 h2 => ?_)
  refine y_astore_n (lv' := [_, _, _]) eL_15 (by decide) rfl ?_
  refine y_iconst (v := nI 0) eL_16 (by decide) ?_
  refine y_istore_n (lv' := [_, _, _, _]) eL_17 (by decide) rfl ?_
  refine y_end ⟨rfl, rfl, rfl, rfl, rfl, fun q hq => ?_⟩
  rw [h2 q hq]
  by_cases z : 334 ≤ piN q ∧ piN q < 365
  · rw [if_pos z]
  · have := (ro_pi q hq).2
    have r : piN (roN 334) = 334 := (pi_ro 334 (by decide)).1
    rw [if_neg z, xup_ne (fun e => by rw [e, r] at z; omega), h1 q hq, if_pos ⟨by omega, by omega⟩]
