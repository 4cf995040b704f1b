def f_Events_number (st : S_Events)  : Int32 :=
  st.2.2.2.2
set_option maxRecDepth 100000 in
set_option maxHeartbeats 4000000 in
theorem c_Events_number (l : Launch) (D : va_G) (cI cL : ClassId) (h h_kinds h_differences h_partsA h_partsB : Nat) (st : S_Events)  (res : Int32) (hf : f_Events_number st = res) :
    FnR l D vwCl [(cI, .int), (cL, .long)] y_Events_number ws_Events_number { frames := 0, cells := 0, slots := 0, locals := 0 } [.ref h] [(h, .inr (2, [.ref h_kinds, .ref h_differences, .ref h_partsA, .ref h_partsB, .int st.2.2.2.2])), (h_kinds, .inl (cI, 300, .inl st.1)), (h_differences, .inl (cL, 300, .inr (.inl st.2.1))), (h_partsA, .inl (cL, 300, .inr (.inl st.2.2.1))), (h_partsB, .inl (cI, 300, .inl st.2.2.2.1))] (some (.int res)) := by
  refine FnR.ofW (cc := b_Events_number) (maxL := 1) (ret := (some .int)) (by decide) rfl (Nat.le_of_ble_eq_true rfl) ?_
  intro p e s m below meth c A ls C hH hl
  have hl : lv_has ls 1 [(0, .ref h)] := hl
  obtain ⟨hx, hb, hr, hml, hown, hts, hlk, hK, hA⟩ := id C
  unfold f_Events_number at hf
  refine lv_aload_n hx hb d_Events_number_0 rfl (lv_at hl 0 rfl) ?_
  refine gt (ci := 2) (v := .int st.2.2.2.2) C hH (iwT iw_Events) 0 rfl rfl 4 (by decide) (.tail _ wd_33) rfl d_Events_number_1 ?_
  subst hf
  exact rIR (v := st.2.2.2.2) C hH d_Events_number_4
def f_Events_has (st : S_Events) (x1 : Int32) : Bool :=
  if x1 < 0 then (false) else (if st.2.2.2.2 ≤ x1 then (false) else (if (300 : Int32) ≤ x1 then (false) else (true)))
set_option maxRecDepth 100000 in
set_option maxHeartbeats 4000000 in
theorem c_Events_has (l : Launch) (D : va_G) (cI cL : ClassId) (h h_kinds h_differences h_partsA h_partsB : Nat) (st : S_Events) (x1 : Int32) (res : Bool) (hf : f_Events_has st x1 = res) :
    FnR l D vwCl [(cI, .int), (cL, .long)] y_Events_has ws_Events_has { frames := 0, cells := 0, slots := 0, locals := 0 } [.ref h, .int x1] [(h, .inr (2, [.ref h_kinds, .ref h_differences, .ref h_partsA, .ref h_partsB, .int st.2.2.2.2])), (h_kinds, .inl (cI, 300, .inl st.1)), (h_differences, .inl (cL, 300, .inr (.inl st.2.1))), (h_partsA, .inl (cL, 300, .inr (.inl st.2.2.1))), (h_partsB, .inl (cI, 300, .inl st.2.2.2.1))] (some (.int (bI res))) := by
  refine FnR.ofW (cc := b_Events_has) (maxL := 2) (ret := (some .boolean)) (by decide) rfl (Nat.le_of_ble_eq_true rfl) ?_
  intro p e s m below meth c A ls C hH hl
  have hl : lv_has ls 2 [(0, .ref h), (1, .int x1)] := hl
  obtain ⟨hx, hb, hr, hml, hown, hts, hlk, hK, hA⟩ := id C
  unfold f_Events_has at hf
  refine lv_iload_n hx hb d_Events_has_0 rfl (lv_at hl 1 rfl) ?_
  refine lv_if_lt (tgt := 23) hx hb d_Events_has_1 (by decide) (fun hc1 => ?_) (fun hc1 => ?_)
  · have hf := ip hc1 hf
    refine lv_iconst (v := 0) hx hb d_Events_has_23 (by decide) ?_
    subst hf
    exact rZR (v := false) C hH d_Events_has_24
  · have hf := im hc1 hf
    refine lv_iload_n hx hb d_Events_has_4 rfl (lv_at hl 1 rfl) ?_
    refine lv_aload_n hx hb d_Events_has_5 rfl (lv_at hl 0 rfl) ?_
    refine gt (ci := 2) (v := .int st.2.2.2.2) C hH (iwT iw_Events) 0 rfl rfl 4 (by decide) (.tail _ wd_33) rfl d_Events_has_6 ?_
    refine lv_icmp_ge (tgt := 23) hx hb d_Events_has_9 (by decide) (fun hc9 => ?_) (fun hc9 => ?_)
    · have hf := ip hc9 hf
      refine lv_iconst (v := 0) hx hb d_Events_has_23 (by decide) ?_
      subst hf
      exact rZR (v := false) C hH d_Events_has_24
    · have hf := im hc9 hf
      refine lv_iload_n hx hb d_Events_has_12 rfl (lv_at hl 1 rfl) ?_
      refine lv_sipush (v := 300) hx hb d_Events_has_13 (by decide) ?_
      refine lv_icmp_ge (tgt := 23) hx hb d_Events_has_16 (by decide) (fun hc16 => ?_) (fun hc16 => ?_)
      · have hf := ip hc16 hf
        refine lv_iconst (v := 0) hx hb d_Events_has_23 (by decide) ?_
        subst hf
        exact rZR (v := false) C hH d_Events_has_24
      · have hf := im hc16 hf
        refine lv_iconst (v := 1) hx hb d_Events_has_19 (by decide) ?_
        refine lv_goto (tgt := 24) hx hb d_Events_has_20 (by decide) ?_
        subst hf
        exact rZR (v := true) C hH d_Events_has_24
theorem has_in {st : S_Events} {x : Int32} (h : ¬ bI (f_Events_has st x) = 0) : vp_in x 300 := by
  unfold f_Events_has at h
  by_cases h0 : x < 0
  · rw [if_pos h0] at h; exact absurd rfl h
  · rw [if_neg h0] at h
    by_cases h1 : st.2.2.2.2 ≤ x
    · rw [if_pos h1] at h; exact absurd rfl h
    · rw [if_neg h1] at h
      by_cases h2 : 300 ≤ x
      · rw [if_pos h2] at h; exact absurd rfl h
      · exact vin300 h0 h2
def f_Events_kind (st : S_Events) (x1 : Int32) : Int32 :=
  if (bI (f_Events_has st x1)) = 0 then (0) else (st.1 x1.toNatClampNeg)
set_option maxRecDepth 100000 in
set_option maxHeartbeats 4000000 in
theorem c_Events_kind (l : Launch) (D : va_G) (cI cL : ClassId) (h h_kinds h_differences h_partsA h_partsB : Nat) (st : S_Events) (x1 : Int32) (res : Int32) (hf : f_Events_kind st x1 = res) :
    FnR l D vwCl [(cI, .int), (cL, .long)] y_Events_kind ws_Events_kind { frames := 1, cells := 0, slots := 0, locals := 21 } [.ref h, .int x1] [(h, .inr (2, [.ref h_kinds, .ref h_differences, .ref h_partsA, .ref h_partsB, .int st.2.2.2.2])), (h_kinds, .inl (cI, 300, .inl st.1)), (h_differences, .inl (cL, 300, .inr (.inl st.2.1))), (h_partsA, .inl (cL, 300, .inr (.inl st.2.2.1))), (h_partsB, .inl (cI, 300, .inl st.2.2.2.1))] (some (.int res)) := by
  refine FnR.ofW (cc := b_Events_kind) (maxL := 2) (ret := (some .int)) (by decide) rfl (Nat.le_of_ble_eq_true rfl) ?_
  intro p e s m below meth c A ls C hH hl
  have hl : lv_has ls 2 [(0, .ref h), (1, .int x1)] := hl
  obtain ⟨hx, hb, hr, hml, hown, hts, hlk, hK, hA⟩ := id C
  unfold f_Events_kind at hf
  refine lv_aload_n hx hb d_Events_kind_0 rfl (lv_at hl 0 rfl) ?_
  refine lv_iload_n hx hb d_Events_kind_1 rfl (lv_at hl 1 rfl) ?_
  refine fnVR (rest := []) (st2 := [.int (bI (f_Events_has st x1))]) C (c_Events_has l D cI cL h h_kinds h_differences h_partsA h_partsB st x1 _ rfl) (cV hts kV_Events_has wd_196 ⟨Nat.le_of_ble_eq_true rfl, Nat.le_of_ble_eq_true rfl⟩) hH [0, 1, 2, 3, 4] rfl rfl 0 rfl rfl rfl hl.1 rfl (Nat.le_of_ble_eq_true rfl) d_Events_kind_2 ⟨Nat.le_of_ble_eq_true rfl, Nat.le_of_ble_eq_true rfl⟩ rfl (fun H locs hH => ?_)
  refine lv_if_eq (tgt := 17) hx hb d_Events_kind_5 (by decide) (fun hc5 => ?_) (fun hc5 => ?_)
  · have hf := ip hc5 hf
    refine lv_iconst (v := 0) hx hb d_Events_kind_17 (by decide) ?_
    subst hf
    exact rIR (v := 0) C hH d_Events_kind_18
  · have hf := im hc5 hf
    refine lv_aload_n hx hb d_Events_kind_8 rfl (lv_at hl 0 rfl) ?_
    refine gt (ci := 2) (v := .ref h_kinds) C hH (iwT iw_Events) 0 rfl rfl 0 (by decide) (.tail _ wd_29) rfl d_Events_kind_9 ?_
    refine lv_iload_n hx hb d_Events_kind_12 rfl (lv_at hl 1 rfl) ?_
    refine ali C hH 1 0 rfl rfl (has_in hc5) d_Events_kind_13 ?_
    refine lv_goto (tgt := 18) hx hb d_Events_kind_14 (by decide) ?_
    subst hf
    exact rIR (v := st.1 x1.toNatClampNeg) C hH d_Events_kind_18
def f_Events_difference (st : S_Events) (x1 : Int32) : Int64 :=
  if (bI (f_Events_has st x1)) = 0 then (0) else (st.2.1 x1.toNatClampNeg)
set_option maxRecDepth 100000 in
set_option maxHeartbeats 4000000 in
theorem c_Events_difference (l : Launch) (D : va_G) (cI cL : ClassId) (h h_kinds h_differences h_partsA h_partsB : Nat) (st : S_Events) (x1 : Int32) (res : Int64) (hf : f_Events_difference st x1 = res) :
    FnR l D vwCl [(cI, .int), (cL, .long)] y_Events_difference ws_Events_difference { frames := 1, cells := 0, slots := 0, locals := 21 } [.ref h, .int x1] [(h, .inr (2, [.ref h_kinds, .ref h_differences, .ref h_partsA, .ref h_partsB, .int st.2.2.2.2])), (h_kinds, .inl (cI, 300, .inl st.1)), (h_differences, .inl (cL, 300, .inr (.inl st.2.1))), (h_partsA, .inl (cL, 300, .inr (.inl st.2.2.1))), (h_partsB, .inl (cI, 300, .inl st.2.2.2.1))] (some (.long res)) := by
  refine FnR.ofW (cc := b_Events_difference) (maxL := 2) (ret := (some .long)) (by decide) rfl (Nat.le_of_ble_eq_true rfl) ?_
  intro p e s m below meth c A ls C hH hl
  have hl : lv_has ls 2 [(0, .ref h), (1, .int x1)] := hl
  obtain ⟨hx, hb, hr, hml, hown, hts, hlk, hK, hA⟩ := id C
  unfold f_Events_difference at hf
  refine lv_aload_n hx hb d_Events_difference_0 rfl (lv_at hl 0 rfl) ?_
  refine lv_iload_n hx hb d_Events_difference_1 rfl (lv_at hl 1 rfl) ?_
  refine fnVR (rest := []) (st2 := [.int (bI (f_Events_has st x1))]) C (c_Events_has l D cI cL h h_kinds h_differences h_partsA h_partsB st x1 _ rfl) (cV hts kV_Events_has wd_196 ⟨Nat.le_of_ble_eq_true rfl, Nat.le_of_ble_eq_true rfl⟩) hH [0, 1, 2, 3, 4] rfl rfl 0 rfl rfl rfl hl.1 rfl (Nat.le_of_ble_eq_true rfl) d_Events_difference_2 ⟨Nat.le_of_ble_eq_true rfl, Nat.le_of_ble_eq_true rfl⟩ rfl (fun H locs hH => ?_)
  refine lv_if_eq (tgt := 17) hx hb d_Events_difference_5 (by decide) (fun hc5 => ?_) (fun hc5 => ?_)
  · have hf := ip hc5 hf
    refine lv_lconst (v := 0) hx hb d_Events_difference_17 (by decide) ?_
    subst hf
    exact rJR (v := 0) C hH d_Events_difference_18
  · have hf := im hc5 hf
    refine lv_aload_n hx hb d_Events_difference_8 rfl (lv_at hl 0 rfl) ?_
    refine gt (ci := 2) (v := .ref h_differences) C hH (iwT iw_Events) 0 rfl rfl 1 (by decide) (.tail _ wd_30) rfl d_Events_difference_9 ?_
    refine lv_iload_n hx hb d_Events_difference_12 rfl (lv_at hl 1 rfl) ?_
    refine all_ C hH 2 1 rfl rfl (has_in hc5) d_Events_difference_13 ?_
    refine lv_goto (tgt := 18) hx hb d_Events_difference_14 (by decide) ?_
    subst hf
    exact rJR (v := st.2.1 x1.toNatClampNeg) C hH d_Events_difference_18
def f_Events_a (st : S_Events) (x1 : Int32) : Int64 :=
  if (bI (f_Events_has st x1)) = 0 then (0) else (st.2.2.1 x1.toNatClampNeg)
set_option maxRecDepth 100000 in
set_option maxHeartbeats 4000000 in
theorem c_Events_a (l : Launch) (D : va_G) (cI cL : ClassId) (h h_kinds h_differences h_partsA h_partsB : Nat) (st : S_Events) (x1 : Int32) (res : Int64) (hf : f_Events_a st x1 = res) :
    FnR l D vwCl [(cI, .int), (cL, .long)] y_Events_a ws_Events_a { frames := 1, cells := 0, slots := 0, locals := 21 } [.ref h, .int x1] [(h, .inr (2, [.ref h_kinds, .ref h_differences, .ref h_partsA, .ref h_partsB, .int st.2.2.2.2])), (h_kinds, .inl (cI, 300, .inl st.1)), (h_differences, .inl (cL, 300, .inr (.inl st.2.1))), (h_partsA, .inl (cL, 300, .inr (.inl st.2.2.1))), (h_partsB, .inl (cI, 300, .inl st.2.2.2.1))] (some (.long res)) := by
  refine FnR.ofW (cc := b_Events_a) (maxL := 2) (ret := (some .long)) (by decide) rfl (Nat.le_of_ble_eq_true rfl) ?_
  intro p e s m below meth c A ls C hH hl
  have hl : lv_has ls 2 [(0, .ref h), (1, .int x1)] := hl
  obtain ⟨hx, hb, hr, hml, hown, hts, hlk, hK, hA⟩ := id C
  unfold f_Events_a at hf
  refine lv_aload_n hx hb d_Events_a_0 rfl (lv_at hl 0 rfl) ?_
  refine lv_iload_n hx hb d_Events_a_1 rfl (lv_at hl 1 rfl) ?_
  refine fnVR (rest := []) (st2 := [.int (bI (f_Events_has st x1))]) C (c_Events_has l D cI cL h h_kinds h_differences h_partsA h_partsB st x1 _ rfl) (cV hts kV_Events_has wd_196 ⟨Nat.le_of_ble_eq_true rfl, Nat.le_of_ble_eq_true rfl⟩) hH [0, 1, 2, 3, 4] rfl rfl 0 rfl rfl rfl hl.1 rfl (Nat.le_of_ble_eq_true rfl) d_Events_a_2 ⟨Nat.le_of_ble_eq_true rfl, Nat.le_of_ble_eq_true rfl⟩ rfl (fun H locs hH => ?_)
  refine lv_if_eq (tgt := 17) hx hb d_Events_a_5 (by decide) (fun hc5 => ?_) (fun hc5 => ?_)
  · have hf := ip hc5 hf
    refine lv_lconst (v := 0) hx hb d_Events_a_17 (by decide) ?_
    subst hf
    exact rJR (v := 0) C hH d_Events_a_18
  · have hf := im hc5 hf
    refine lv_aload_n hx hb d_Events_a_8 rfl (lv_at hl 0 rfl) ?_
    refine gt (ci := 2) (v := .ref h_partsA) C hH (iwT iw_Events) 0 rfl rfl 2 (by decide) (.tail _ wd_31) rfl d_Events_a_9 ?_
    refine lv_iload_n hx hb d_Events_a_12 rfl (lv_at hl 1 rfl) ?_
    refine all_ C hH 3 1 rfl rfl (has_in hc5) d_Events_a_13 ?_
    refine lv_goto (tgt := 18) hx hb d_Events_a_14 (by decide) ?_
    subst hf
    exact rJR (v := st.2.2.1 x1.toNatClampNeg) C hH d_Events_a_18
def f_Events_b (st : S_Events) (x1 : Int32) : Int32 :=
  if (bI (f_Events_has st x1)) = 0 then (0) else (st.2.2.2.1 x1.toNatClampNeg)
set_option maxRecDepth 100000 in
set_option maxHeartbeats 4000000 in
theorem c_Events_b (l : Launch) (D : va_G) (cI cL : ClassId) (h h_kinds h_differences h_partsA h_partsB : Nat) (st : S_Events) (x1 : Int32) (res : Int32) (hf : f_Events_b st x1 = res) :
    FnR l D vwCl [(cI, .int), (cL, .long)] y_Events_b ws_Events_b { frames := 1, cells := 0, slots := 0, locals := 21 } [.ref h, .int x1] [(h, .inr (2, [.ref h_kinds, .ref h_differences, .ref h_partsA, .ref h_partsB, .int st.2.2.2.2])), (h_kinds, .inl (cI, 300, .inl st.1)), (h_differences, .inl (cL, 300, .inr (.inl st.2.1))), (h_partsA, .inl (cL, 300, .inr (.inl st.2.2.1))), (h_partsB, .inl (cI, 300, .inl st.2.2.2.1))] (some (.int res)) := by
  refine FnR.ofW (cc := b_Events_b) (maxL := 2) (ret := (some .int)) (by decide) rfl (Nat.le_of_ble_eq_true rfl) ?_
  intro p e s m below meth c A ls C hH hl
  have hl : lv_has ls 2 [(0, .ref h), (1, .int x1)] := hl
  obtain ⟨hx, hb, hr, hml, hown, hts, hlk, hK, hA⟩ := id C
  unfold f_Events_b at hf
  refine lv_aload_n hx hb d_Events_b_0 rfl (lv_at hl 0 rfl) ?_
  refine lv_iload_n hx hb d_Events_b_1 rfl (lv_at hl 1 rfl) ?_
  refine fnVR (rest := []) (st2 := [.int (bI (f_Events_has st x1))]) C (c_Events_has l D cI cL h h_kinds h_differences h_partsA h_partsB st x1 _ rfl) (cV hts kV_Events_has wd_196 ⟨Nat.le_of_ble_eq_true rfl, Nat.le_of_ble_eq_true rfl⟩) hH [0, 1, 2, 3, 4] rfl rfl 0 rfl rfl rfl hl.1 rfl (Nat.le_of_ble_eq_true rfl) d_Events_b_2 ⟨Nat.le_of_ble_eq_true rfl, Nat.le_of_ble_eq_true rfl⟩ rfl (fun H locs hH => ?_)
  refine lv_if_eq (tgt := 17) hx hb d_Events_b_5 (by decide) (fun hc5 => ?_) (fun hc5 => ?_)
  · have hf := ip hc5 hf
    refine lv_iconst (v := 0) hx hb d_Events_b_17 (by decide) ?_
    subst hf
    exact rIR (v := 0) C hH d_Events_b_18
  · have hf := im hc5 hf
    refine lv_aload_n hx hb d_Events_b_8 rfl (lv_at hl 0 rfl) ?_
    refine gt (ci := 2) (v := .ref h_partsB) C hH (iwT iw_Events) 0 rfl rfl 3 (by decide) (.tail _ wd_32) rfl d_Events_b_9 ?_
    refine lv_iload_n hx hb d_Events_b_12 rfl (lv_at hl 1 rfl) ?_
    refine ali C hH 4 0 rfl rfl (has_in hc5) d_Events_b_13 ?_
    refine lv_goto (tgt := 18) hx hb d_Events_b_14 (by decide) ?_
    subst hf
    exact rIR (v := st.2.2.2.1 x1.toNatClampNeg) C hH d_Events_b_18
def f_Events_append (st : S_Events) (x1 : Int32) (x2 : Int64) (x4 : Int64) (x6 : Int32) : S_Events :=
  if st.2.2.2.2 < 0 then (st) else (if st.2.2.2.2 < (300 : Int32) then ((upd st.1 st.2.2.2.2.toNatClampNeg x1, vp_updL st.2.1 st.2.2.2.2.toNatClampNeg x2, vp_updL st.2.2.1 st.2.2.2.2.toNatClampNeg x4, upd st.2.2.2.1 st.2.2.2.2.toNatClampNeg x6, st.2.2.2.2 + 1)) else (st))
set_option maxRecDepth 100000 in
set_option maxHeartbeats 4000000 in
theorem c_Events_append (l : Launch) (D : va_G) (cI cL : ClassId) (h h_kinds h_differences h_partsA h_partsB : Nat) (st : S_Events) (x1 : Int32) (x2 : Int64) (x4 : Int64) (x6 : Int32) (res : S_Events) (hf : f_Events_append st x1 x2 x4 x6 = res) :
    Fn l D vwCl [(cI, .int), (cL, .long)] y_Events_append ws_Events_append { frames := 0, cells := 0, slots := 0, locals := 0 } [.ref h, .int x1, .long x2, .long x4, .int x6] [(h, .inr (2, [.ref h_kinds, .ref h_differences, .ref h_partsA, .ref h_partsB, .int st.2.2.2.2])), (h_kinds, .inl (cI, 300, .inl st.1)), (h_differences, .inl (cL, 300, .inr (.inl st.2.1))), (h_partsA, .inl (cL, 300, .inr (.inl st.2.2.1))), (h_partsB, .inl (cI, 300, .inl st.2.2.2.1))] (none) [(h, .inr (2, [.ref h_kinds, .ref h_differences, .ref h_partsA, .ref h_partsB, .int res.2.2.2.2])), (h_kinds, .inl (cI, 300, .inl res.1)), (h_differences, .inl (cL, 300, .inr (.inl res.2.1))), (h_partsA, .inl (cL, 300, .inr (.inl res.2.2.1))), (h_partsB, .inl (cI, 300, .inl res.2.2.2.1))] := by
  refine Fn.ofW (cc := b_Events_append) (maxL := 7) (ret := none) (by decide) rfl (Nat.le_of_ble_eq_true rfl) ?_
  intro p e s m below meth c A ls C hH hinit hl
  have hl : lv_has ls 7 [(0, .ref h), (1, .int x1), (2, .long x2), (4, .long x4), (6, .int x6)] := hl
  obtain ⟨hx, hb, hr, hml, hown, hts, hlk, hK, hA⟩ := id C
  unfold f_Events_append at hf
  refine lv_aload_n hx hb d_Events_append_0 rfl (lv_at hl 0 rfl) ?_
  refine gt (ci := 2) (v := .int st.2.2.2.2) C hH (iwT iw_Events) 0 rfl rfl 4 (by decide) (.tail _ wd_33) rfl d_Events_append_1 ?_
  refine lv_if_lt (tgt := 17) hx hb d_Events_append_4 (by decide) (fun hc4 => ?_) (fun hc4 => ?_)
  · have hf := ip hc4 hf
    subst hf
    exact rV C hH d_Events_append_17
  · have hf := im hc4 hf
    refine lv_aload_n hx hb d_Events_append_7 rfl (lv_at hl 0 rfl) ?_
    refine gt (ci := 2) (v := .int st.2.2.2.2) C hH (iwT iw_Events) 0 rfl rfl 4 (by decide) (.tail _ wd_33) rfl d_Events_append_8 ?_
    refine lv_sipush (v := 300) hx hb d_Events_append_11 (by decide) ?_
    refine lv_icmp_lt (tgt := 18) hx hb d_Events_append_14 (by decide) (fun hc14 => ?_) (fun hc14 => ?_)
    · have hf := ip hc14 hf
      refine lv_aload_n hx hb d_Events_append_18 rfl (lv_at hl 0 rfl) ?_
      refine gt (ci := 2) (v := .ref h_kinds) C hH (iwT iw_Events) 0 rfl rfl 0 (by decide) (.tail _ wd_29) rfl d_Events_append_19 ?_
      refine lv_aload_n hx hb d_Events_append_22 rfl (lv_at hl 0 rfl) ?_
      refine gt (ci := 2) (v := .int st.2.2.2.2) C hH (iwT iw_Events) 0 rfl rfl 4 (by decide) (.tail _ wd_33) rfl d_Events_append_23 ?_
      refine lv_iload_n hx hb d_Events_append_26 rfl (lv_at hl 1 rfl) ?_
      refine asi C hH 1 0 rfl rfl (vin300l hc4 hc14) d_Events_append_27 [(h, .inr (2, [.ref h_kinds, .ref h_differences, .ref h_partsA, .ref h_partsB, .int st.2.2.2.2])), (h_kinds, .inl (cI, 300, .inl (upd st.1 st.2.2.2.2.toNatClampNeg x1))), (h_differences, .inl (cL, 300, .inr (.inl st.2.1))), (h_partsA, .inl (cL, 300, .inr (.inl st.2.2.1))), (h_partsB, .inl (cI, 300, .inl st.2.2.2.1))] rfl (fun H locs hH => ?_)
      refine lv_aload_n hx hb d_Events_append_28 rfl (lv_at hl 0 rfl) ?_
      refine gt (ci := 2) (v := .ref h_differences) C hH (iwT iw_Events) 0 rfl rfl 1 (by decide) (.tail _ wd_30) rfl d_Events_append_29 ?_
      refine lv_aload_n hx hb d_Events_append_32 rfl (lv_at hl 0 rfl) ?_
      refine gt (ci := 2) (v := .int st.2.2.2.2) C hH (iwT iw_Events) 0 rfl rfl 4 (by decide) (.tail _ wd_33) rfl d_Events_append_33 ?_
      refine lv_lload_n hx hb d_Events_append_36 rfl (lv_at hl 2 rfl) ?_
      refine asl C hH 2 1 rfl rfl (vin300l hc4 hc14) d_Events_append_37 [(h, .inr (2, [.ref h_kinds, .ref h_differences, .ref h_partsA, .ref h_partsB, .int st.2.2.2.2])), (h_kinds, .inl (cI, 300, .inl (upd st.1 st.2.2.2.2.toNatClampNeg x1))), (h_differences, .inl (cL, 300, .inr (.inl (vp_updL st.2.1 st.2.2.2.2.toNatClampNeg x2)))), (h_partsA, .inl (cL, 300, .inr (.inl st.2.2.1))), (h_partsB, .inl (cI, 300, .inl st.2.2.2.1))] rfl (fun H locs hH => ?_)
      refine lv_aload_n hx hb d_Events_append_38 rfl (lv_at hl 0 rfl) ?_
      refine gt (ci := 2) (v := .ref h_partsA) C hH (iwT iw_Events) 0 rfl rfl 2 (by decide) (.tail _ wd_31) rfl d_Events_append_39 ?_
      refine lv_aload_n hx hb d_Events_append_42 rfl (lv_at hl 0 rfl) ?_
      refine gt (ci := 2) (v := .int st.2.2.2.2) C hH (iwT iw_Events) 0 rfl rfl 4 (by decide) (.tail _ wd_33) rfl d_Events_append_43 ?_
      refine lv_lload hx hb d_Events_append_46 (lv_at hl 3 rfl) ?_
      refine asl C hH 3 1 rfl rfl (vin300l hc4 hc14) d_Events_append_48 [(h, .inr (2, [.ref h_kinds, .ref h_differences, .ref h_partsA, .ref h_partsB, .int st.2.2.2.2])), (h_kinds, .inl (cI, 300, .inl (upd st.1 st.2.2.2.2.toNatClampNeg x1))), (h_differences, .inl (cL, 300, .inr (.inl (vp_updL st.2.1 st.2.2.2.2.toNatClampNeg x2)))), (h_partsA, .inl (cL, 300, .inr (.inl (vp_updL st.2.2.1 st.2.2.2.2.toNatClampNeg x4)))), (h_partsB, .inl (cI, 300, .inl st.2.2.2.1))] rfl (fun H locs hH => ?_)
      refine lv_aload_n hx hb d_Events_append_49 rfl (lv_at hl 0 rfl) ?_
      refine gt (ci := 2) (v := .ref h_partsB) C hH (iwT iw_Events) 0 rfl rfl 3 (by decide) (.tail _ wd_32) rfl d_Events_append_50 ?_
      refine lv_aload_n hx hb d_Events_append_53 rfl (lv_at hl 0 rfl) ?_
      refine gt (ci := 2) (v := .int st.2.2.2.2) C hH (iwT iw_Events) 0 rfl rfl 4 (by decide) (.tail _ wd_33) rfl d_Events_append_54 ?_
      refine lv_iload hx hb d_Events_append_57 (lv_at hl 4 rfl) ?_
      refine asi C hH 4 0 rfl rfl (vin300l hc4 hc14) d_Events_append_59 [(h, .inr (2, [.ref h_kinds, .ref h_differences, .ref h_partsA, .ref h_partsB, .int st.2.2.2.2])), (h_kinds, .inl (cI, 300, .inl (upd st.1 st.2.2.2.2.toNatClampNeg x1))), (h_differences, .inl (cL, 300, .inr (.inl (vp_updL st.2.1 st.2.2.2.2.toNatClampNeg x2)))), (h_partsA, .inl (cL, 300, .inr (.inl (vp_updL st.2.2.1 st.2.2.2.2.toNatClampNeg x4)))), (h_partsB, .inl (cI, 300, .inl (upd st.2.2.2.1 st.2.2.2.2.toNatClampNeg x6)))] rfl (fun H locs hH => ?_)
      refine lv_aload_n hx hb d_Events_append_60 rfl (lv_at hl 0 rfl) ?_
      refine lv_dup hx hb d_Events_append_61 rfl ?_
      refine gt (ci := 2) (v := .int st.2.2.2.2) C hH (iwT iw_Events) 0 rfl rfl 4 (by decide) (.tail _ wd_33) rfl d_Events_append_62 ?_
      refine lv_iconst (v := 1) hx hb d_Events_append_65 (by decide) ?_
      refine lv_iadd hx hb d_Events_append_66 ?_
      refine pt (ci := 2) (v := .int (st.2.2.2.2 + 1)) C hH (iwT iw_Events) ty_Events tyok_Events nm_Events 0 rfl rfl 4 (by decide) (.tail _ wd_33) rfl rfl rfl (Nat.le_of_ble_eq_true rfl) d_Events_append_67 [(h, .inr (2, [.ref h_kinds, .ref h_differences, .ref h_partsA, .ref h_partsB, .int (st.2.2.2.2 + 1)])), (h_kinds, .inl (cI, 300, .inl (upd st.1 st.2.2.2.2.toNatClampNeg x1))), (h_differences, .inl (cL, 300, .inr (.inl (vp_updL st.2.1 st.2.2.2.2.toNatClampNeg x2)))), (h_partsA, .inl (cL, 300, .inr (.inl (vp_updL st.2.2.1 st.2.2.2.2.toNatClampNeg x4)))), (h_partsB, .inl (cI, 300, .inl (upd st.2.2.2.1 st.2.2.2.2.toNatClampNeg x6)))] rfl (fun H locs hH => ?_)
      subst hf
      exact rV C hH d_Events_append_70
    · have hf := im hc14 hf
      subst hf
      exact rV C hH d_Events_append_17
def f_Events_keepFirst (st : S_Events) (x1 : Int32) : S_Events :=
  if x1 < 0 then (st) else (if st.2.2.2.2 ≤ x1 then (st) else ((st.1, st.2.1, st.2.2.1, st.2.2.2.1, x1)))
set_option maxRecDepth 100000 in
set_option maxHeartbeats 4000000 in
theorem c_Events_keepFirst (l : Launch) (D : va_G) (cI cL : ClassId) (h h_kinds h_differences h_partsA h_partsB : Nat) (st : S_Events) (x1 : Int32) (res : S_Events) (hf : f_Events_keepFirst st x1 = res) :
    Fn l D vwCl [(cI, .int), (cL, .long)] y_Events_keepFirst ws_Events_keepFirst { frames := 0, cells := 0, slots := 0, locals := 0 } [.ref h, .int x1] [(h, .inr (2, [.ref h_kinds, .ref h_differences, .ref h_partsA, .ref h_partsB, .int st.2.2.2.2])), (h_kinds, .inl (cI, 300, .inl st.1)), (h_differences, .inl (cL, 300, .inr (.inl st.2.1))), (h_partsA, .inl (cL, 300, .inr (.inl st.2.2.1))), (h_partsB, .inl (cI, 300, .inl st.2.2.2.1))] (none) [(h, .inr (2, [.ref h_kinds, .ref h_differences, .ref h_partsA, .ref h_partsB, .int res.2.2.2.2])), (h_kinds, .inl (cI, 300, .inl res.1)), (h_differences, .inl (cL, 300, .inr (.inl res.2.1))), (h_partsA, .inl (cL, 300, .inr (.inl res.2.2.1))), (h_partsB, .inl (cI, 300, .inl res.2.2.2.1))] := by
  refine Fn.ofW (cc := b_Events_keepFirst) (maxL := 2) (ret := none) (by decide) rfl (Nat.le_of_ble_eq_true rfl) ?_
  intro p e s m below meth c A ls C hH hinit hl
  have hl : lv_has ls 2 [(0, .ref h), (1, .int x1)] := hl
  obtain ⟨hx, hb, hr, hml, hown, hts, hlk, hK, hA⟩ := id C
  unfold f_Events_keepFirst at hf
  refine lv_iload_n hx hb d_Events_keepFirst_0 rfl (lv_at hl 1 rfl) ?_
  refine lv_if_lt (tgt := 17) hx hb d_Events_keepFirst_1 (by decide) (fun hc1 => ?_) (fun hc1 => ?_)
  · have hf := ip hc1 hf
    subst hf
    exact rV C hH d_Events_keepFirst_17
  · have hf := im hc1 hf
    refine lv_iload_n hx hb d_Events_keepFirst_4 rfl (lv_at hl 1 rfl) ?_
    refine lv_aload_n hx hb d_Events_keepFirst_5 rfl (lv_at hl 0 rfl) ?_
    refine gt (ci := 2) (v := .int st.2.2.2.2) C hH (iwT iw_Events) 0 rfl rfl 4 (by decide) (.tail _ wd_33) rfl d_Events_keepFirst_6 ?_
    refine lv_icmp_ge (tgt := 17) hx hb d_Events_keepFirst_9 (by decide) (fun hc9 => ?_) (fun hc9 => ?_)
    · have hf := ip hc9 hf
      subst hf
      exact rV C hH d_Events_keepFirst_17
    · have hf := im hc9 hf
      refine lv_aload_n hx hb d_Events_keepFirst_12 rfl (lv_at hl 0 rfl) ?_
      refine lv_iload_n hx hb d_Events_keepFirst_13 rfl (lv_at hl 1 rfl) ?_
      refine pt (ci := 2) (v := .int x1) C hH (iwT iw_Events) ty_Events tyok_Events nm_Events 0 rfl rfl 4 (by decide) (.tail _ wd_33) rfl rfl rfl (Nat.le_of_ble_eq_true rfl) d_Events_keepFirst_14 [(h, .inr (2, [.ref h_kinds, .ref h_differences, .ref h_partsA, .ref h_partsB, .int x1])), (h_kinds, .inl (cI, 300, .inl st.1)), (h_differences, .inl (cL, 300, .inr (.inl st.2.1))), (h_partsA, .inl (cL, 300, .inr (.inl st.2.2.1))), (h_partsB, .inl (cI, 300, .inl st.2.2.2.1))] rfl (fun H locs hH => ?_)
      subst hf
      exact rV C hH d_Events_keepFirst_17
def f_Events_bringTheSame (st : S_Events) (x1 : Int32) (x2 : Int32) : Bool :=
  if (bI (f_Events_has st x1)) = 0 then (false) else (if (bI (f_Events_has st x2)) = 0 then (false) else (if (st.1 x1.toNatClampNeg) = (st.1 x2.toNatClampNeg) then (if (lg_cmp (st.2.2.1 x1.toNatClampNeg) (st.2.2.1 x2.toNatClampNeg)) = 0 then (if (st.2.2.2.1 x1.toNatClampNeg) = (st.2.2.2.1 x2.toNatClampNeg) then (true) else (false)) else (false)) else (false)))
set_option maxRecDepth 100000 in
set_option maxHeartbeats 4000000 in
theorem c_Events_bringTheSame (l : Launch) (D : va_G) (cI cL : ClassId) (h h_kinds h_differences h_partsA h_partsB : Nat) (st : S_Events) (x1 : Int32) (x2 : Int32) (res : Bool) (hf : f_Events_bringTheSame st x1 x2 = res) :
    FnR l D vwCl [(cI, .int), (cL, .long)] y_Events_bringTheSame ws_Events_bringTheSame { frames := 1, cells := 0, slots := 0, locals := 21 } [.ref h, .int x1, .int x2] [(h, .inr (2, [.ref h_kinds, .ref h_differences, .ref h_partsA, .ref h_partsB, .int st.2.2.2.2])), (h_kinds, .inl (cI, 300, .inl st.1)), (h_differences, .inl (cL, 300, .inr (.inl st.2.1))), (h_partsA, .inl (cL, 300, .inr (.inl st.2.2.1))), (h_partsB, .inl (cI, 300, .inl st.2.2.2.1))] (some (.int (bI res))) := by
  refine FnR.ofW (cc := b_Events_bringTheSame) (maxL := 3) (ret := (some .boolean)) (by decide) rfl (Nat.le_of_ble_eq_true rfl) ?_
  intro p e s m below meth c A ls C hH hl
  have hl : lv_has ls 3 [(0, .ref h), (1, .int x1), (2, .int x2)] := hl
  obtain ⟨hx, hb, hr, hml, hown, hts, hlk, hK, hA⟩ := id C
  unfold f_Events_bringTheSame at hf
  refine lv_aload_n hx hb d_Events_bringTheSame_0 rfl (lv_at hl 0 rfl) ?_
  refine lv_iload_n hx hb d_Events_bringTheSame_1 rfl (lv_at hl 1 rfl) ?_
  refine fnVR (rest := []) (st2 := [.int (bI (f_Events_has st x1))]) C (c_Events_has l D cI cL h h_kinds h_differences h_partsA h_partsB st x1 _ rfl) (cV hts kV_Events_has wd_196 ⟨Nat.le_of_ble_eq_true rfl, Nat.le_of_ble_eq_true rfl⟩) hH [0, 1, 2, 3, 4] rfl rfl 0 rfl rfl rfl hl.1 rfl (Nat.le_of_ble_eq_true rfl) d_Events_bringTheSame_2 ⟨Nat.le_of_ble_eq_true rfl, Nat.le_of_ble_eq_true rfl⟩ rfl (fun H locs hH => ?_)
  refine lv_if_eq (tgt := 66) hx hb d_Events_bringTheSame_5 (by decide) (fun hc5 => ?_) (fun hc5 => ?_)
  · have hf := ip hc5 hf
    refine lv_iconst (v := 0) hx hb d_Events_bringTheSame_66 (by decide) ?_
    subst hf
    exact rZR (v := false) C hH d_Events_bringTheSame_67
  · have hf := im hc5 hf
    refine lv_aload_n hx hb d_Events_bringTheSame_8 rfl (lv_at hl 0 rfl) ?_
    refine lv_iload_n hx hb d_Events_bringTheSame_9 rfl (lv_at hl 2 rfl) ?_
    refine fnVR (rest := []) (st2 := [.int (bI (f_Events_has st x2))]) C (c_Events_has l D cI cL h h_kinds h_differences h_partsA h_partsB st x2 _ rfl) (cV hts kV_Events_has wd_196 ⟨Nat.le_of_ble_eq_true rfl, Nat.le_of_ble_eq_true rfl⟩) hH [0, 1, 2, 3, 4] rfl rfl 0 rfl rfl rfl hl.1 rfl (Nat.le_of_ble_eq_true rfl) d_Events_bringTheSame_10 ⟨Nat.le_of_ble_eq_true rfl, Nat.le_of_ble_eq_true rfl⟩ rfl (fun H locs hH => ?_)
    refine lv_if_eq (tgt := 66) hx hb d_Events_bringTheSame_13 (by decide) (fun hc13 => ?_) (fun hc13 => ?_)
    · have hf := ip hc13 hf
      refine lv_iconst (v := 0) hx hb d_Events_bringTheSame_66 (by decide) ?_
      subst hf
      exact rZR (v := false) C hH d_Events_bringTheSame_67
    · have hf := im hc13 hf
      refine lv_aload_n hx hb d_Events_bringTheSame_16 rfl (lv_at hl 0 rfl) ?_
      refine gt (ci := 2) (v := .ref h_kinds) C hH (iwT iw_Events) 0 rfl rfl 0 (by decide) (.tail _ wd_29) rfl d_Events_bringTheSame_17 ?_
      refine lv_iload_n hx hb d_Events_bringTheSame_20 rfl (lv_at hl 1 rfl) ?_
      refine ali C hH 1 0 rfl rfl (has_in hc5) d_Events_bringTheSame_21 ?_
      refine lv_aload_n hx hb d_Events_bringTheSame_22 rfl (lv_at hl 0 rfl) ?_
      refine gt (ci := 2) (v := .ref h_kinds) C hH (iwT iw_Events) 0 rfl rfl 0 (by decide) (.tail _ wd_29) rfl d_Events_bringTheSame_23 ?_
      refine lv_iload_n hx hb d_Events_bringTheSame_26 rfl (lv_at hl 2 rfl) ?_
      refine ali C hH 1 0 rfl rfl (has_in hc13) d_Events_bringTheSame_27 ?_
      refine lv_icmp_ne (tgt := 66) hx hb d_Events_bringTheSame_28 (by decide) (fun hc28 => ?_) (fun hc28 => ?_)
      · have hf := im hc28 hf
        refine lv_iconst (v := 0) hx hb d_Events_bringTheSame_66 (by decide) ?_
        subst hf
        exact rZR (v := false) C hH d_Events_bringTheSame_67
      · have hf := ip hc28 hf
        refine lv_aload_n hx hb d_Events_bringTheSame_31 rfl (lv_at hl 0 rfl) ?_
        refine gt (ci := 2) (v := .ref h_partsA) C hH (iwT iw_Events) 0 rfl rfl 2 (by decide) (.tail _ wd_31) rfl d_Events_bringTheSame_32 ?_
        refine lv_iload_n hx hb d_Events_bringTheSame_35 rfl (lv_at hl 1 rfl) ?_
        refine all_ C hH 3 1 rfl rfl (has_in hc5) d_Events_bringTheSame_36 ?_
        refine lv_aload_n hx hb d_Events_bringTheSame_37 rfl (lv_at hl 0 rfl) ?_
        refine gt (ci := 2) (v := .ref h_partsA) C hH (iwT iw_Events) 0 rfl rfl 2 (by decide) (.tail _ wd_31) rfl d_Events_bringTheSame_38 ?_
        refine lv_iload_n hx hb d_Events_bringTheSame_41 rfl (lv_at hl 2 rfl) ?_
        refine all_ C hH 3 1 rfl rfl (has_in hc13) d_Events_bringTheSame_42 ?_
        refine W.lcmp hx hb d_Events_bringTheSame_43 ?_
        refine lv_if_ne (tgt := 66) hx hb d_Events_bringTheSame_44 (by decide) (fun hc44 => ?_) (fun hc44 => ?_)
        · have hf := im hc44 hf
          refine lv_iconst (v := 0) hx hb d_Events_bringTheSame_66 (by decide) ?_
          subst hf
          exact rZR (v := false) C hH d_Events_bringTheSame_67
        · have hf := ip hc44 hf
          refine lv_aload_n hx hb d_Events_bringTheSame_47 rfl (lv_at hl 0 rfl) ?_
          refine gt (ci := 2) (v := .ref h_partsB) C hH (iwT iw_Events) 0 rfl rfl 3 (by decide) (.tail _ wd_32) rfl d_Events_bringTheSame_48 ?_
          refine lv_iload_n hx hb d_Events_bringTheSame_51 rfl (lv_at hl 1 rfl) ?_
          refine ali C hH 4 0 rfl rfl (has_in hc5) d_Events_bringTheSame_52 ?_
          refine lv_aload_n hx hb d_Events_bringTheSame_53 rfl (lv_at hl 0 rfl) ?_
          refine gt (ci := 2) (v := .ref h_partsB) C hH (iwT iw_Events) 0 rfl rfl 3 (by decide) (.tail _ wd_32) rfl d_Events_bringTheSame_54 ?_
          refine lv_iload_n hx hb d_Events_bringTheSame_57 rfl (lv_at hl 2 rfl) ?_
          refine ali C hH 4 0 rfl rfl (has_in hc13) d_Events_bringTheSame_58 ?_
          refine lv_icmp_ne (tgt := 66) hx hb d_Events_bringTheSame_59 (by decide) (fun hc59 => ?_) (fun hc59 => ?_)
          · have hf := im hc59 hf
            refine lv_iconst (v := 0) hx hb d_Events_bringTheSame_66 (by decide) ?_
            subst hf
            exact rZR (v := false) C hH d_Events_bringTheSame_67
          · have hf := ip hc59 hf
            refine lv_iconst (v := 1) hx hb d_Events_bringTheSame_62 (by decide) ?_
            refine lv_goto (tgt := 67) hx hb d_Events_bringTheSame_63 (by decide) ?_
            subst hf
            exact rZR (v := true) C hH d_Events_bringTheSame_67
def f_Events_hasDifferenceBefore (st : S_Events) (x1 : Int32) : Bool :=
  if (lg_cmp (f_Events_difference st x1) (f_Events_difference st (x1 - 1))) = 0 then (true) else (false)
set_option maxRecDepth 100000 in
set_option maxHeartbeats 4000000 in
theorem c_Events_hasDifferenceBefore (l : Launch) (D : va_G) (cI cL : ClassId) (h h_kinds h_differences h_partsA h_partsB : Nat) (st : S_Events) (x1 : Int32) (res : Bool) (hf : f_Events_hasDifferenceBefore st x1 = res) :
    FnR l D vwCl [(cI, .int), (cL, .long)] y_Events_hasDifferenceBefore ws_Events_hasDifferenceBefore { frames := 2, cells := 0, slots := 0, locals := 42 } [.ref h, .int x1] [(h, .inr (2, [.ref h_kinds, .ref h_differences, .ref h_partsA, .ref h_partsB, .int st.2.2.2.2])), (h_kinds, .inl (cI, 300, .inl st.1)), (h_differences, .inl (cL, 300, .inr (.inl st.2.1))), (h_partsA, .inl (cL, 300, .inr (.inl st.2.2.1))), (h_partsB, .inl (cI, 300, .inl st.2.2.2.1))] (some (.int (bI res))) := by
  refine FnR.ofW (cc := b_Events_hasDifferenceBefore) (maxL := 2) (ret := (some .boolean)) (by decide) rfl (Nat.le_of_ble_eq_true rfl) ?_
  intro p e s m below meth c A ls C hH hl
  have hl : lv_has ls 2 [(0, .ref h), (1, .int x1)] := hl
  obtain ⟨hx, hb, hr, hml, hown, hts, hlk, hK, hA⟩ := id C
  unfold f_Events_hasDifferenceBefore at hf
  refine lv_aload_n hx hb d_Events_hasDifferenceBefore_0 rfl (lv_at hl 0 rfl) ?_
  refine lv_iload_n hx hb d_Events_hasDifferenceBefore_1 rfl (lv_at hl 1 rfl) ?_
  refine fnVR (rest := []) (st2 := [.long (f_Events_difference st x1)]) C (c_Events_difference l D cI cL h h_kinds h_differences h_partsA h_partsB st x1 _ rfl) (cV hts kV_Events_difference wd_192 ⟨Nat.le_of_ble_eq_true rfl, Nat.le_of_ble_eq_true rfl⟩) hH [0, 1, 2, 3, 4] rfl rfl 0 rfl rfl rfl hl.1 rfl (Nat.le_of_ble_eq_true rfl) d_Events_hasDifferenceBefore_2 ⟨Nat.le_of_ble_eq_true rfl, Nat.le_of_ble_eq_true rfl⟩ rfl (fun H locs hH => ?_)
  refine lv_aload_n hx hb d_Events_hasDifferenceBefore_5 rfl (lv_at hl 0 rfl) ?_
  refine lv_iload_n hx hb d_Events_hasDifferenceBefore_6 rfl (lv_at hl 1 rfl) ?_
  refine lv_iconst (v := 1) hx hb d_Events_hasDifferenceBefore_7 (by decide) ?_
  refine lv_isub hx hb d_Events_hasDifferenceBefore_8 ?_
  refine fnVR (rest := [.long (f_Events_difference st x1)]) (st2 := [.long (f_Events_difference st (x1 - 1)), .long (f_Events_difference st x1)]) C (c_Events_difference l D cI cL h h_kinds h_differences h_partsA h_partsB st (x1 - 1) _ rfl) (cV hts kV_Events_difference wd_192 ⟨Nat.le_of_ble_eq_true rfl, Nat.le_of_ble_eq_true rfl⟩) hH [0, 1, 2, 3, 4] rfl rfl 0 rfl rfl rfl hl.1 rfl (Nat.le_of_ble_eq_true rfl) d_Events_hasDifferenceBefore_9 ⟨Nat.le_of_ble_eq_true rfl, Nat.le_of_ble_eq_true rfl⟩ rfl (fun H locs hH => ?_)
  refine W.lcmp hx hb d_Events_hasDifferenceBefore_12 ?_
  refine lv_if_ne (tgt := 20) hx hb d_Events_hasDifferenceBefore_13 (by decide) (fun hc13 => ?_) (fun hc13 => ?_)
  · have hf := im hc13 hf
    refine lv_iconst (v := 0) hx hb d_Events_hasDifferenceBefore_20 (by decide) ?_
    subst hf
    exact rZR (v := false) C hH d_Events_hasDifferenceBefore_21
  · have hf := ip hc13 hf
    refine lv_iconst (v := 1) hx hb d_Events_hasDifferenceBefore_16 (by decide) ?_
    refine lv_goto (tgt := 21) hx hb d_Events_hasDifferenceBefore_17 (by decide) ?_
    subst hf
    exact rZR (v := true) C hH d_Events_hasDifferenceBefore_21
def f_Events_isLikeBefore (st : S_Events) (x1 : Int32) : Bool :=
  if (bI (f_Events_hasDifferenceBefore st x1)) = 0 then (false) else (if (bI (f_Events_bringTheSame st x1 (x1 - 1))) = 0 then (false) else (true))
set_option maxRecDepth 100000 in
set_option maxHeartbeats 4000000 in
theorem c_Events_isLikeBefore (l : Launch) (D : va_G) (cI cL : ClassId) (h h_kinds h_differences h_partsA h_partsB : Nat) (st : S_Events) (x1 : Int32) (res : Bool) (hf : f_Events_isLikeBefore st x1 = res) :
    FnR l D vwCl [(cI, .int), (cL, .long)] y_Events_isLikeBefore ws_Events_isLikeBefore { frames := 3, cells := 0, slots := 0, locals := 63 } [.ref h, .int x1] [(h, .inr (2, [.ref h_kinds, .ref h_differences, .ref h_partsA, .ref h_partsB, .int st.2.2.2.2])), (h_kinds, .inl (cI, 300, .inl st.1)), (h_differences, .inl (cL, 300, .inr (.inl st.2.1))), (h_partsA, .inl (cL, 300, .inr (.inl st.2.2.1))), (h_partsB, .inl (cI, 300, .inl st.2.2.2.1))] (some (.int (bI res))) := by
  refine FnR.ofW (cc := b_Events_isLikeBefore) (maxL := 2) (ret := (some .boolean)) (by decide) rfl (Nat.le_of_ble_eq_true rfl) ?_
  intro p e s m below meth c A ls C hH hl
  have hl : lv_has ls 2 [(0, .ref h), (1, .int x1)] := hl
  obtain ⟨hx, hb, hr, hml, hown, hts, hlk, hK, hA⟩ := id C
  unfold f_Events_isLikeBefore at hf
  refine lv_aload_n hx hb d_Events_isLikeBefore_0 rfl (lv_at hl 0 rfl) ?_
  refine lv_iload_n hx hb d_Events_isLikeBefore_1 rfl (lv_at hl 1 rfl) ?_
  refine fnVR (rest := []) (st2 := [.int (bI (f_Events_hasDifferenceBefore st x1))]) C (c_Events_hasDifferenceBefore l D cI cL h h_kinds h_differences h_partsA h_partsB st x1 _ rfl) (cV hts kV_Events_hasDifferenceBefore wd_188 ⟨Nat.le_of_ble_eq_true rfl, Nat.le_of_ble_eq_true rfl⟩) hH [0, 1, 2, 3, 4] rfl rfl 0 rfl rfl rfl hl.1 rfl (Nat.le_of_ble_eq_true rfl) d_Events_isLikeBefore_2 ⟨Nat.le_of_ble_eq_true rfl, Nat.le_of_ble_eq_true rfl⟩ rfl (fun H locs hH => ?_)
  refine lv_if_eq (tgt := 23) hx hb d_Events_isLikeBefore_5 (by decide) (fun hc5 => ?_) (fun hc5 => ?_)
  · have hf := ip hc5 hf
    refine lv_iconst (v := 0) hx hb d_Events_isLikeBefore_23 (by decide) ?_
    subst hf
    exact rZR (v := false) C hH d_Events_isLikeBefore_24
  · have hf := im hc5 hf
    refine lv_aload_n hx hb d_Events_isLikeBefore_8 rfl (lv_at hl 0 rfl) ?_
    refine lv_iload_n hx hb d_Events_isLikeBefore_9 rfl (lv_at hl 1 rfl) ?_
    refine lv_iload_n hx hb d_Events_isLikeBefore_10 rfl (lv_at hl 1 rfl) ?_
    refine lv_iconst (v := 1) hx hb d_Events_isLikeBefore_11 (by decide) ?_
    refine lv_isub hx hb d_Events_isLikeBefore_12 ?_
    refine fnVR (rest := []) (st2 := [.int (bI (f_Events_bringTheSame st x1 (x1 - 1)))]) C (c_Events_bringTheSame l D cI cL h h_kinds h_differences h_partsA h_partsB st x1 (x1 - 1) _ rfl) (cV hts kV_Events_bringTheSame wd_200 ⟨Nat.le_of_ble_eq_true rfl, Nat.le_of_ble_eq_true rfl⟩) hH [0, 1, 2, 3, 4] rfl rfl 0 rfl rfl rfl hl.1 rfl (Nat.le_of_ble_eq_true rfl) d_Events_isLikeBefore_13 ⟨Nat.le_of_ble_eq_true rfl, Nat.le_of_ble_eq_true rfl⟩ rfl (fun H locs hH => ?_)
    refine lv_if_eq (tgt := 23) hx hb d_Events_isLikeBefore_16 (by decide) (fun hc16 => ?_) (fun hc16 => ?_)
    · have hf := ip hc16 hf
      refine lv_iconst (v := 0) hx hb d_Events_isLikeBefore_23 (by decide) ?_
      subst hf
      exact rZR (v := false) C hH d_Events_isLikeBefore_24
    · have hf := im hc16 hf
      refine lv_iconst (v := 1) hx hb d_Events_isLikeBefore_19 (by decide) ?_
      refine lv_goto (tgt := 24) hx hb d_Events_isLikeBefore_20 (by decide) ?_
      subst hf
      exact rZR (v := true) C hH d_Events_isLikeBefore_24
def f_Events_sumUpTo_b5 : Nat → S_Events → Int32 → Int64 → Int32 → Option (Int64)
  | 0, _, _, _, _ => none
  | n + 1, st, x1, x2, x4 =>
  if x1 < x4 then (some x2) else (if st.2.2.2.2 ≤ x4 then (some x2) else (f_Events_sumUpTo_b5 n st x1 (x2 + (f_Events_difference st x4)) (x4 + 1)))
set_option maxRecDepth 100000 in
set_option maxHeartbeats 4000000 in
theorem w_Events_sumUpTo_b5 (l : Launch) (D : va_G) (cI cL : ClassId) (h h_kinds h_differences h_partsA h_partsB : Nat) {p : Program} {e : Env} {s : State} {m : MethodId} {args : Array Value} {below : List Frame} {meth : Method} {c : Code} {A : Nat → Prop} (C : Cx p s m args meth c D vwCl [(cI, .int), (cL, .long)] A b_Events_sumUpTo 5 (some .long) ws_Events_sumUpTo y_Events_sumUpTo.cls) : ∀ (n : Nat) (st : S_Events) (x1 : Int32) (x2 : Int64) (x4 : Int32) (res : Int64), f_Events_sumUpTo_b5 n st x1 x2 x4 = some res → ∀ (H : Heap) (locs : List Loc) (ls : Array Slot), Hp D vwCl (fun _ => True) A s.heap H locs [(h, .inr (2, [.ref h_kinds, .ref h_differences, .ref h_partsA, .ref h_partsB, .int st.2.2.2.2])), (h_kinds, .inl (cI, 300, .inl st.1)), (h_differences, .inl (cL, 300, .inr (.inl st.2.1))), (h_partsA, .inl (cL, 300, .inr (.inl st.2.2.1))), (h_partsB, .inl (cI, 300, .inl st.2.2.2.1))] → lv_has ls 5 [(0, .ref h), (1, .int x1), (2, .long x2), (4, .int x4)] → W p l e { frames := 2, cells := 0, slots := 0, locals := 42 } s m args below meth c H locs 0 0 (MQ below (QR (some (.long res)) A) args s 0 0 A) (F0 m 5 ls []) := by
  obtain ⟨hx, hb, hr, hml, hown, hts, hlk, hK, hA⟩ := id C
  intro n
  induction n with
  | zero => intro st x1 x2 x4 res hf; cases hf
  | succ n ih =>
    intro st x1 x2 x4 res hf H locs ls hH hl
    rw [f_Events_sumUpTo_b5] at hf
    refine lv_iload hx hb d_Events_sumUpTo_5 (lv_at hl 3 rfl) ?_
    refine lv_iload_n hx hb d_Events_sumUpTo_7 rfl (lv_at hl 1 rfl) ?_
    refine lv_icmp_gt (tgt := 35) hx hb d_Events_sumUpTo_8 (by decide) (fun hc8 => ?_) (fun hc8 => ?_)
    · have hf := ip hc8 hf
      refine lv_lload_n hx hb d_Events_sumUpTo_35 rfl (lv_at hl 2 rfl) ?_
      have hf := Option.some.inj hf
      subst hf
      exact rJR (v := x2) C hH d_Events_sumUpTo_36
    · have hf := im hc8 hf
      refine lv_iload hx hb d_Events_sumUpTo_11 (lv_at hl 3 rfl) ?_
      refine lv_aload_n hx hb d_Events_sumUpTo_13 rfl (lv_at hl 0 rfl) ?_
      refine gt (ci := 2) (v := .int st.2.2.2.2) C hH (iwT iw_Events) 0 rfl rfl 4 (by decide) (.tail _ wd_33) rfl d_Events_sumUpTo_14 ?_
      refine lv_icmp_ge (tgt := 35) hx hb d_Events_sumUpTo_17 (by decide) (fun hc17 => ?_) (fun hc17 => ?_)
      · have hf := ip hc17 hf
        refine lv_lload_n hx hb d_Events_sumUpTo_35 rfl (lv_at hl 2 rfl) ?_
        have hf := Option.some.inj hf
        subst hf
        exact rJR (v := x2) C hH d_Events_sumUpTo_36
      · have hf := im hc17 hf
        refine lv_lload_n hx hb d_Events_sumUpTo_20 rfl (lv_at hl 2 rfl) ?_
        refine lv_aload_n hx hb d_Events_sumUpTo_21 rfl (lv_at hl 0 rfl) ?_
        refine lv_iload hx hb d_Events_sumUpTo_22 (lv_at hl 3 rfl) ?_
        refine fnVR (rest := [.long x2]) (st2 := [.long (f_Events_difference st x4), .long x2]) C (c_Events_difference l D cI cL h h_kinds h_differences h_partsA h_partsB st x4 _ rfl) (cV hts kV_Events_difference wd_192 ⟨Nat.le_of_ble_eq_true rfl, Nat.le_of_ble_eq_true rfl⟩) hH [0, 1, 2, 3, 4] rfl rfl 0 rfl rfl rfl hl.1 rfl (Nat.le_of_ble_eq_true rfl) d_Events_sumUpTo_24 ⟨Nat.le_of_ble_eq_true rfl, Nat.le_of_ble_eq_true rfl⟩ rfl (fun H locs hH => ?_)
        refine lv_ladd hx hb d_Events_sumUpTo_27 ?_
        refine lv_lstore_n (lv' := [(2, .long (x2 + (f_Events_difference st x4))), (0, .ref h), (1, .int x1), (4, .int x4)]) hx hb d_Events_sumUpTo_28 rfl hl (by decide) rfl (fun ls hl => ?_)
        refine lv_iinc (v := x4 + 1) (lv' := [(4, .int (x4 + 1)), (2, .long (x2 + (f_Events_difference st x4))), (0, .ref h), (1, .int x1)]) hx hb d_Events_sumUpTo_29 hl (k := 3) rfl rfl (by decide) rfl (fun ls hl => ?_)
        refine lv_goto (tgt := 5) hx hb d_Events_sumUpTo_32 (by decide) ?_
        exact ih st x1 (x2 + (f_Events_difference st x4)) (x4 + 1) res hf _ _ _ hH (lv_sub hl [2, 3, 1, 0] rfl)
def f_Events_sumUpTo (st : S_Events) (x1 : Int32) : Option (Int64) :=
  f_Events_sumUpTo_b5 400 st x1 0 0
set_option maxRecDepth 100000 in
set_option maxHeartbeats 4000000 in
theorem c_Events_sumUpTo (l : Launch) (D : va_G) (cI cL : ClassId) (h h_kinds h_differences h_partsA h_partsB : Nat) (st : S_Events) (x1 : Int32) (res : Int64) (hf : f_Events_sumUpTo st x1 = some res) :
    FnR l D vwCl [(cI, .int), (cL, .long)] y_Events_sumUpTo ws_Events_sumUpTo { frames := 2, cells := 0, slots := 0, locals := 42 } [.ref h, .int x1] [(h, .inr (2, [.ref h_kinds, .ref h_differences, .ref h_partsA, .ref h_partsB, .int st.2.2.2.2])), (h_kinds, .inl (cI, 300, .inl st.1)), (h_differences, .inl (cL, 300, .inr (.inl st.2.1))), (h_partsA, .inl (cL, 300, .inr (.inl st.2.2.1))), (h_partsB, .inl (cI, 300, .inl st.2.2.2.1))] (some (.long res)) := by
  refine FnR.ofW (cc := b_Events_sumUpTo) (maxL := 5) (ret := (some .long)) (by decide) rfl (Nat.le_of_ble_eq_true rfl) ?_
  intro p e s m below meth c A ls C hH hl
  have hl : lv_has ls 5 [(0, .ref h), (1, .int x1)] := hl
  obtain ⟨hx, hb, hr, hml, hown, hts, hlk, hK, hA⟩ := id C
  unfold f_Events_sumUpTo at hf
  refine lv_lconst (v := 0) hx hb d_Events_sumUpTo_0 (by decide) ?_
  refine lv_lstore_n (lv' := [(2, .long 0), (0, .ref h), (1, .int x1)]) hx hb d_Events_sumUpTo_1 rfl hl (by decide) rfl (fun ls hl => ?_)
  refine lv_iconst (v := 0) hx hb d_Events_sumUpTo_2 (by decide) ?_
  refine lv_istore (lv' := [(4, .int 0), (2, .long 0), (0, .ref h), (1, .int x1)]) hx hb d_Events_sumUpTo_3 hl (by decide) rfl (fun ls hl => ?_)
  exact w_Events_sumUpTo_b5 l D cI cL h h_kinds h_differences h_partsA h_partsB C 400 st x1 0 0 res hf _ _ _ hH (lv_sub hl [2, 3, 1, 0] rfl)
def f_Events_lastWithSumUpTo_b5 : Nat → S_Events → Int64 → Int64 → Int32 → Option (Int32)
  | 0, _, _, _, _ => none
  | n + 1, st, x1, x3, x5 =>
  if st.2.2.2.2 ≤ x5 then (some (st.2.2.2.2 - 1)) else (if (lg_cmp (x3 + (f_Events_difference st x5)) x1) ≤ 0 then (f_Events_lastWithSumUpTo_b5 n st x1 (x3 + (f_Events_difference st x5)) (x5 + 1)) else (some (x5 - 1)))
set_option maxRecDepth 100000 in
set_option maxHeartbeats 4000000 in
theorem w_Events_lastWithSumUpTo_b5 (l : Launch) (D : va_G) (cI cL : ClassId) (h h_kinds h_differences h_partsA h_partsB : Nat) {p : Program} {e : Env} {s : State} {m : MethodId} {args : Array Value} {below : List Frame} {meth : Method} {c : Code} {A : Nat → Prop} (C : Cx p s m args meth c D vwCl [(cI, .int), (cL, .long)] A b_Events_lastWithSumUpTo 6 (some .int) ws_Events_lastWithSumUpTo y_Events_lastWithSumUpTo.cls) : ∀ (n : Nat) (st : S_Events) (x1 : Int64) (x3 : Int64) (x5 : Int32) (res : Int32), f_Events_lastWithSumUpTo_b5 n st x1 x3 x5 = some res → ∀ (H : Heap) (locs : List Loc) (ls : Array Slot), Hp D vwCl (fun _ => True) A s.heap H locs [(h, .inr (2, [.ref h_kinds, .ref h_differences, .ref h_partsA, .ref h_partsB, .int st.2.2.2.2])), (h_kinds, .inl (cI, 300, .inl st.1)), (h_differences, .inl (cL, 300, .inr (.inl st.2.1))), (h_partsA, .inl (cL, 300, .inr (.inl st.2.2.1))), (h_partsB, .inl (cI, 300, .inl st.2.2.2.1))] → lv_has ls 6 [(0, .ref h), (1, .long x1), (3, .long x3), (5, .int x5)] → W p l e { frames := 2, cells := 0, slots := 0, locals := 42 } s m args below meth c H locs 0 0 (MQ below (QR (some (.int res)) A) args s 0 0 A) (F0 m 5 ls []) := by
  obtain ⟨hx, hb, hr, hml, hown, hts, hlk, hK, hA⟩ := id C
  intro n
  induction n with
  | zero => intro st x1 x3 x5 res hf; cases hf
  | succ n ih =>
    intro st x1 x3 x5 res hf H locs ls hH hl
    rw [f_Events_lastWithSumUpTo_b5] at hf
    refine lv_iload hx hb d_Events_lastWithSumUpTo_5 (lv_at hl 3 rfl) ?_
    refine lv_aload_n hx hb d_Events_lastWithSumUpTo_7 rfl (lv_at hl 0 rfl) ?_
    refine gt (ci := 2) (v := .int st.2.2.2.2) C hH (iwT iw_Events) 0 rfl rfl 4 (by decide) (.tail _ wd_33) rfl d_Events_lastWithSumUpTo_8 ?_
    refine lv_icmp_ge (tgt := 40) hx hb d_Events_lastWithSumUpTo_11 (by decide) (fun hc11 => ?_) (fun hc11 => ?_)
    · have hf := ip hc11 hf
      refine lv_aload_n hx hb d_Events_lastWithSumUpTo_40 rfl (lv_at hl 0 rfl) ?_
      refine gt (ci := 2) (v := .int st.2.2.2.2) C hH (iwT iw_Events) 0 rfl rfl 4 (by decide) (.tail _ wd_33) rfl d_Events_lastWithSumUpTo_41 ?_
      refine lv_iconst (v := 1) hx hb d_Events_lastWithSumUpTo_44 (by decide) ?_
      refine lv_isub hx hb d_Events_lastWithSumUpTo_45 ?_
      have hf := Option.some.inj hf
      subst hf
      exact rIR (v := st.2.2.2.2 - 1) C hH d_Events_lastWithSumUpTo_46
    · have hf := im hc11 hf
      refine lv_lload_n hx hb d_Events_lastWithSumUpTo_14 rfl (lv_at hl 2 rfl) ?_
      refine lv_aload_n hx hb d_Events_lastWithSumUpTo_15 rfl (lv_at hl 0 rfl) ?_
      refine lv_iload hx hb d_Events_lastWithSumUpTo_16 (lv_at hl 3 rfl) ?_
      refine fnVR (rest := [.long x3]) (st2 := [.long (f_Events_difference st x5), .long x3]) C (c_Events_difference l D cI cL h h_kinds h_differences h_partsA h_partsB st x5 _ rfl) (cV hts kV_Events_difference wd_192 ⟨Nat.le_of_ble_eq_true rfl, Nat.le_of_ble_eq_true rfl⟩) hH [0, 1, 2, 3, 4] rfl rfl 0 rfl rfl rfl hl.1 rfl (Nat.le_of_ble_eq_true rfl) d_Events_lastWithSumUpTo_18 ⟨Nat.le_of_ble_eq_true rfl, Nat.le_of_ble_eq_true rfl⟩ rfl (fun H locs hH => ?_)
      refine lv_ladd hx hb d_Events_lastWithSumUpTo_21 ?_
      refine lv_lstore_n (lv' := [(3, .long (x3 + (f_Events_difference st x5))), (0, .ref h), (1, .long x1), (5, .int x5)]) hx hb d_Events_lastWithSumUpTo_22 rfl hl (by decide) rfl (fun ls hl => ?_)
      refine lv_lload_n hx hb d_Events_lastWithSumUpTo_23 rfl (lv_at hl 0 rfl) ?_
      refine lv_lload_n hx hb d_Events_lastWithSumUpTo_24 rfl (lv_at hl 2 rfl) ?_
      refine W.lcmp hx hb d_Events_lastWithSumUpTo_25 ?_
      refine lv_if_le (tgt := 34) hx hb d_Events_lastWithSumUpTo_26 (by decide) (fun hc26 => ?_) (fun hc26 => ?_)
      · have hf := ip hc26 hf
        refine lv_iinc (v := x5 + 1) (lv' := [(5, .int (x5 + 1)), (3, .long (x3 + (f_Events_difference st x5))), (0, .ref h), (1, .long x1)]) hx hb d_Events_lastWithSumUpTo_34 hl (k := 3) rfl rfl (by decide) rfl (fun ls hl => ?_)
        refine lv_goto (tgt := 5) hx hb d_Events_lastWithSumUpTo_37 (by decide) ?_
        exact ih st x1 (x3 + (f_Events_difference st x5)) (x5 + 1) res hf _ _ _ hH (lv_sub hl [2, 3, 1, 0] rfl)
      · have hf := im hc26 hf
        refine lv_iload hx hb d_Events_lastWithSumUpTo_29 (lv_at hl 3 rfl) ?_
        refine lv_iconst (v := 1) hx hb d_Events_lastWithSumUpTo_31 (by decide) ?_
        refine lv_isub hx hb d_Events_lastWithSumUpTo_32 ?_
        have hf := Option.some.inj hf
        subst hf
        exact rIR (v := x5 - 1) C hH d_Events_lastWithSumUpTo_33
def f_Events_lastWithSumUpTo (st : S_Events) (x1 : Int64) : Option (Int32) :=
  f_Events_lastWithSumUpTo_b5 400 st x1 0 0
set_option maxRecDepth 100000 in
set_option maxHeartbeats 4000000 in
theorem c_Events_lastWithSumUpTo (l : Launch) (D : va_G) (cI cL : ClassId) (h h_kinds h_differences h_partsA h_partsB : Nat) (st : S_Events) (x1 : Int64) (res : Int32) (hf : f_Events_lastWithSumUpTo st x1 = some res) :
    FnR l D vwCl [(cI, .int), (cL, .long)] y_Events_lastWithSumUpTo ws_Events_lastWithSumUpTo { frames := 2, cells := 0, slots := 0, locals := 42 } [.ref h, .long x1] [(h, .inr (2, [.ref h_kinds, .ref h_differences, .ref h_partsA, .ref h_partsB, .int st.2.2.2.2])), (h_kinds, .inl (cI, 300, .inl st.1)), (h_differences, .inl (cL, 300, .inr (.inl st.2.1))), (h_partsA, .inl (cL, 300, .inr (.inl st.2.2.1))), (h_partsB, .inl (cI, 300, .inl st.2.2.2.1))] (some (.int res)) := by
  refine FnR.ofW (cc := b_Events_lastWithSumUpTo) (maxL := 6) (ret := (some .int)) (by decide) rfl (Nat.le_of_ble_eq_true rfl) ?_
  intro p e s m below meth c A ls C hH hl
  have hl : lv_has ls 6 [(0, .ref h), (1, .long x1)] := hl
  obtain ⟨hx, hb, hr, hml, hown, hts, hlk, hK, hA⟩ := id C
  unfold f_Events_lastWithSumUpTo at hf
  refine lv_lconst (v := 0) hx hb d_Events_lastWithSumUpTo_0 (by decide) ?_
  refine lv_lstore_n (lv' := [(3, .long 0), (0, .ref h), (1, .long x1)]) hx hb d_Events_lastWithSumUpTo_1 rfl hl (by decide) rfl (fun ls hl => ?_)
  refine lv_iconst (v := 0) hx hb d_Events_lastWithSumUpTo_2 (by decide) ?_
  refine lv_istore (lv' := [(5, .int 0), (3, .long 0), (0, .ref h), (1, .long x1)]) hx hb d_Events_lastWithSumUpTo_3 hl (by decide) rfl (fun ls hl => ?_)
  exact w_Events_lastWithSumUpTo_b5 l D cI cL h h_kinds h_differences h_partsA h_partsB C 400 st x1 0 0 res hf _ _ _ hH (lv_sub hl [2, 3, 1, 0] rfl)
