def f_Bytes_length (st : S_Bytes)  : Int32 :=
  st.2
set_option maxRecDepth 100000 in
set_option maxHeartbeats 4000000 in
theorem c_Bytes_length (l : Launch) (D : va_G) (cI cL : ClassId) (h h_row : Nat) (st : S_Bytes)  (res : Int32) (hf : f_Bytes_length st = res) :
    FnR l D vwCl [(cI, .int), (cL, .long)] y_Bytes_length ws_Bytes_length { frames := 0, cells := 0, slots := 0, locals := 0 } [.ref h] [(h, .inr (0, [.ref h_row, .int st.2])), (h_row, .inl (cI, 5000, .inl st.1))] (some (.int res)) := by
  refine FnR.ofW (cc := b_Bytes_length) (maxL := 1) (ret := (some .int)) (by decide) rfl (Nat.le_of_ble_eq_true rfl) ?_
  intro p e s m below meth c A ls C hH hl
  have hl : lv_has ls 1 [(0, .ref h)] := hl
  obtain ⟨hx, hb, hr, hml, hown, hts, hlk, hK, hA⟩ := id C
  unfold f_Bytes_length at hf
  refine lv_aload_n hx hb d_Bytes_length_0 rfl (lv_at hl 0 rfl) ?_
  refine gt (ci := 0) (v := .int st.2) C hH (iwT iw_Bytes) 0 rfl rfl 1 (by decide) (.tail _ wd_54) rfl d_Bytes_length_1 ?_
  subst hf
  exact rIR (v := st.2) C hH d_Bytes_length_4
def f_Bytes_get (st : S_Bytes) (x1 : Int32) : Int32 :=
  if x1 < 0 then (0) else (if st.2 ≤ x1 then (0) else (if (5000 : Int32) ≤ x1 then (0) else (st.1 x1.toNatClampNeg)))
set_option maxRecDepth 100000 in
set_option maxHeartbeats 4000000 in
theorem c_Bytes_get (l : Launch) (D : va_G) (cI cL : ClassId) (h h_row : Nat) (st : S_Bytes) (x1 : Int32) (res : Int32) (hf : f_Bytes_get st x1 = res) :
    FnR l D vwCl [(cI, .int), (cL, .long)] y_Bytes_get ws_Bytes_get { frames := 0, cells := 0, slots := 0, locals := 0 } [.ref h, .int x1] [(h, .inr (0, [.ref h_row, .int st.2])), (h_row, .inl (cI, 5000, .inl st.1))] (some (.int res)) := by
  refine FnR.ofW (cc := b_Bytes_get) (maxL := 2) (ret := (some .int)) (by decide) rfl (Nat.le_of_ble_eq_true rfl) ?_
  intro p e s m below meth c A ls C hH hl
  have hl : lv_has ls 2 [(0, .ref h), (1, .int x1)] := hl
  obtain ⟨hx, hb, hr, hml, hown, hts, hlk, hK, hA⟩ := id C
  unfold f_Bytes_get at hf
  refine lv_iload_n hx hb d_Bytes_get_0 rfl (lv_at hl 1 rfl) ?_
  refine lv_if_lt (tgt := 28) hx hb d_Bytes_get_1 (by decide) (fun hc1 => ?_) (fun hc1 => ?_)
  · have hf := ip hc1 hf
    refine lv_iconst (v := 0) hx hb d_Bytes_get_28 (by decide) ?_
    subst hf
    exact rIR (v := 0) C hH d_Bytes_get_29
  · have hf := im hc1 hf
    refine lv_iload_n hx hb d_Bytes_get_4 rfl (lv_at hl 1 rfl) ?_
    refine lv_aload_n hx hb d_Bytes_get_5 rfl (lv_at hl 0 rfl) ?_
    refine gt (ci := 0) (v := .int st.2) C hH (iwT iw_Bytes) 0 rfl rfl 1 (by decide) (.tail _ wd_54) rfl d_Bytes_get_6 ?_
    refine lv_icmp_ge (tgt := 28) hx hb d_Bytes_get_9 (by decide) (fun hc9 => ?_) (fun hc9 => ?_)
    · have hf := ip hc9 hf
      refine lv_iconst (v := 0) hx hb d_Bytes_get_28 (by decide) ?_
      subst hf
      exact rIR (v := 0) C hH d_Bytes_get_29
    · have hf := im hc9 hf
      refine lv_iload_n hx hb d_Bytes_get_12 rfl (lv_at hl 1 rfl) ?_
      refine lv_sipush (v := 5000) hx hb d_Bytes_get_13 (by decide) ?_
      refine lv_icmp_ge (tgt := 28) hx hb d_Bytes_get_16 (by decide) (fun hc16 => ?_) (fun hc16 => ?_)
      · have hf := ip hc16 hf
        refine lv_iconst (v := 0) hx hb d_Bytes_get_28 (by decide) ?_
        subst hf
        exact rIR (v := 0) C hH d_Bytes_get_29
      · have hf := im hc16 hf
        refine lv_aload_n hx hb d_Bytes_get_19 rfl (lv_at hl 0 rfl) ?_
        refine gt (ci := 0) (v := .ref h_row) C hH (iwT iw_Bytes) 0 rfl rfl 0 (by decide) (.tail _ wd_53) rfl d_Bytes_get_20 ?_
        refine lv_iload_n hx hb d_Bytes_get_23 rfl (lv_at hl 1 rfl) ?_
        refine ali C hH 1 0 rfl rfl (vin5000 hc1 hc16) d_Bytes_get_24 ?_
        refine lv_goto (tgt := 29) hx hb d_Bytes_get_25 (by decide) ?_
        subst hf
        exact rIR (v := st.1 x1.toNatClampNeg) C hH d_Bytes_get_29
def f_Bytes_put (st : S_Bytes) (x1 : Int32) (x2 : Int32) : S_Bytes :=
  if x1 < 0 then (st) else (if st.2 ≤ x1 then (st) else (if (5000 : Int32) ≤ x1 then (st) else ((upd st.1 x1.toNatClampNeg x2, st.2))))
set_option maxRecDepth 100000 in
set_option maxHeartbeats 4000000 in
theorem c_Bytes_put (l : Launch) (D : va_G) (cI cL : ClassId) (h h_row : Nat) (st : S_Bytes) (x1 : Int32) (x2 : Int32) (res : S_Bytes) (hf : f_Bytes_put st x1 x2 = res) :
    Fn l D vwCl [(cI, .int), (cL, .long)] y_Bytes_put ws_Bytes_put { frames := 0, cells := 0, slots := 0, locals := 0 } [.ref h, .int x1, .int x2] [(h, .inr (0, [.ref h_row, .int st.2])), (h_row, .inl (cI, 5000, .inl st.1))] (none) [(h, .inr (0, [.ref h_row, .int res.2])), (h_row, .inl (cI, 5000, .inl res.1))] := by
  refine Fn.ofW (cc := b_Bytes_put) (maxL := 3) (ret := none) (by decide) rfl (Nat.le_of_ble_eq_true rfl) ?_
  intro p e s m below meth c A ls C hH hinit hl
  have hl : lv_has ls 3 [(0, .ref h), (1, .int x1), (2, .int x2)] := hl
  obtain ⟨hx, hb, hr, hml, hown, hts, hlk, hK, hA⟩ := id C
  unfold f_Bytes_put at hf
  refine lv_iload_n hx hb d_Bytes_put_0 rfl (lv_at hl 1 rfl) ?_
  refine lv_if_lt (tgt := 26) hx hb d_Bytes_put_1 (by decide) (fun hc1 => ?_) (fun hc1 => ?_)
  · have hf := ip hc1 hf
    subst hf
    exact rV C hH d_Bytes_put_26
  · have hf := im hc1 hf
    refine lv_iload_n hx hb d_Bytes_put_4 rfl (lv_at hl 1 rfl) ?_
    refine lv_aload_n hx hb d_Bytes_put_5 rfl (lv_at hl 0 rfl) ?_
    refine gt (ci := 0) (v := .int st.2) C hH (iwT iw_Bytes) 0 rfl rfl 1 (by decide) (.tail _ wd_54) rfl d_Bytes_put_6 ?_
    refine lv_icmp_ge (tgt := 26) hx hb d_Bytes_put_9 (by decide) (fun hc9 => ?_) (fun hc9 => ?_)
    · have hf := ip hc9 hf
      subst hf
      exact rV C hH d_Bytes_put_26
    · have hf := im hc9 hf
      refine lv_iload_n hx hb d_Bytes_put_12 rfl (lv_at hl 1 rfl) ?_
      refine lv_sipush (v := 5000) hx hb d_Bytes_put_13 (by decide) ?_
      refine lv_icmp_ge (tgt := 26) hx hb d_Bytes_put_16 (by decide) (fun hc16 => ?_) (fun hc16 => ?_)
      · have hf := ip hc16 hf
        subst hf
        exact rV C hH d_Bytes_put_26
      · have hf := im hc16 hf
        refine lv_aload_n hx hb d_Bytes_put_19 rfl (lv_at hl 0 rfl) ?_
        refine gt (ci := 0) (v := .ref h_row) C hH (iwT iw_Bytes) 0 rfl rfl 0 (by decide) (.tail _ wd_53) rfl d_Bytes_put_20 ?_
        refine lv_iload_n hx hb d_Bytes_put_23 rfl (lv_at hl 1 rfl) ?_
        refine lv_iload_n hx hb d_Bytes_put_24 rfl (lv_at hl 2 rfl) ?_
        refine asi C hH 1 0 rfl rfl (vin5000 hc1 hc16) d_Bytes_put_25 [(h, .inr (0, [.ref h_row, .int st.2])), (h_row, .inl (cI, 5000, .inl (upd st.1 x1.toNatClampNeg x2)))] rfl (fun H locs hH => ?_)
        subst hf
        exact rV C hH d_Bytes_put_26
def f_Bytes_append (st : S_Bytes) (x1 : Int32) : S_Bytes :=
  if st.2 < 0 then (st) else (if (5000 : Int32) ≤ st.2 then (st) else ((upd st.1 st.2.toNatClampNeg x1, st.2 + 1)))
set_option maxRecDepth 100000 in
set_option maxHeartbeats 4000000 in
theorem c_Bytes_append (l : Launch) (D : va_G) (cI cL : ClassId) (h h_row : Nat) (st : S_Bytes) (x1 : Int32) (res : S_Bytes) (hf : f_Bytes_append st x1 = res) :
    Fn l D vwCl [(cI, .int), (cL, .long)] y_Bytes_append ws_Bytes_append { frames := 0, cells := 0, slots := 0, locals := 0 } [.ref h, .int x1] [(h, .inr (0, [.ref h_row, .int st.2])), (h_row, .inl (cI, 5000, .inl st.1))] (none) [(h, .inr (0, [.ref h_row, .int res.2])), (h_row, .inl (cI, 5000, .inl res.1))] := by
  refine Fn.ofW (cc := b_Bytes_append) (maxL := 2) (ret := none) (by decide) rfl (Nat.le_of_ble_eq_true rfl) ?_
  intro p e s m below meth c A ls C hH hinit hl
  have hl : lv_has ls 2 [(0, .ref h), (1, .int x1)] := hl
  obtain ⟨hx, hb, hr, hml, hown, hts, hlk, hK, hA⟩ := id C
  unfold f_Bytes_append at hf
  refine lv_aload_n hx hb d_Bytes_append_0 rfl (lv_at hl 0 rfl) ?_
  refine gt (ci := 0) (v := .int st.2) C hH (iwT iw_Bytes) 0 rfl rfl 1 (by decide) (.tail _ wd_54) rfl d_Bytes_append_1 ?_
  refine lv_if_lt (tgt := 37) hx hb d_Bytes_append_4 (by decide) (fun hc4 => ?_) (fun hc4 => ?_)
  · have hf := ip hc4 hf
    subst hf
    exact rV C hH d_Bytes_append_37
  · have hf := im hc4 hf
    refine lv_aload_n hx hb d_Bytes_append_7 rfl (lv_at hl 0 rfl) ?_
    refine gt (ci := 0) (v := .int st.2) C hH (iwT iw_Bytes) 0 rfl rfl 1 (by decide) (.tail _ wd_54) rfl d_Bytes_append_8 ?_
    refine lv_sipush (v := 5000) hx hb d_Bytes_append_11 (by decide) ?_
    refine lv_icmp_ge (tgt := 37) hx hb d_Bytes_append_14 (by decide) (fun hc14 => ?_) (fun hc14 => ?_)
    · have hf := ip hc14 hf
      subst hf
      exact rV C hH d_Bytes_append_37
    · have hf := im hc14 hf
      refine lv_aload_n hx hb d_Bytes_append_17 rfl (lv_at hl 0 rfl) ?_
      refine gt (ci := 0) (v := .ref h_row) C hH (iwT iw_Bytes) 0 rfl rfl 0 (by decide) (.tail _ wd_53) rfl d_Bytes_append_18 ?_
      refine lv_aload_n hx hb d_Bytes_append_21 rfl (lv_at hl 0 rfl) ?_
      refine gt (ci := 0) (v := .int st.2) C hH (iwT iw_Bytes) 0 rfl rfl 1 (by decide) (.tail _ wd_54) rfl d_Bytes_append_22 ?_
      refine lv_iload_n hx hb d_Bytes_append_25 rfl (lv_at hl 1 rfl) ?_
      refine asi C hH 1 0 rfl rfl (vin5000 hc4 hc14) d_Bytes_append_26 [(h, .inr (0, [.ref h_row, .int st.2])), (h_row, .inl (cI, 5000, .inl (upd st.1 st.2.toNatClampNeg x1)))] rfl (fun H locs hH => ?_)
      refine lv_aload_n hx hb d_Bytes_append_27 rfl (lv_at hl 0 rfl) ?_
      refine lv_dup hx hb d_Bytes_append_28 rfl ?_
      refine gt (ci := 0) (v := .int st.2) C hH (iwT iw_Bytes) 0 rfl rfl 1 (by decide) (.tail _ wd_54) rfl d_Bytes_append_29 ?_
      refine lv_iconst (v := 1) hx hb d_Bytes_append_32 (by decide) ?_
      refine lv_iadd hx hb d_Bytes_append_33 ?_
      refine pt (ci := 0) (v := .int (st.2 + 1)) C hH (iwT iw_Bytes) ty_Bytes tyok_Bytes nm_Bytes 0 rfl rfl 1 (by decide) (.tail _ wd_54) rfl rfl rfl (Nat.le_of_ble_eq_true rfl) d_Bytes_append_34 [(h, .inr (0, [.ref h_row, .int (st.2 + 1)])), (h_row, .inl (cI, 5000, .inl (upd st.1 st.2.toNatClampNeg x1)))] rfl (fun H locs hH => ?_)
      subst hf
      exact rV C hH d_Bytes_append_37
def f_Bytes_keepFirst (st : S_Bytes) (x1 : Int32) : S_Bytes :=
  if x1 < 0 then (st) else (if st.2 ≤ x1 then (st) else ((st.1, x1)))
set_option maxRecDepth 100000 in
set_option maxHeartbeats 4000000 in
theorem c_Bytes_keepFirst (l : Launch) (D : va_G) (cI cL : ClassId) (h h_row : Nat) (st : S_Bytes) (x1 : Int32) (res : S_Bytes) (hf : f_Bytes_keepFirst st x1 = res) :
    Fn l D vwCl [(cI, .int), (cL, .long)] y_Bytes_keepFirst ws_Bytes_keepFirst { frames := 0, cells := 0, slots := 0, locals := 0 } [.ref h, .int x1] [(h, .inr (0, [.ref h_row, .int st.2])), (h_row, .inl (cI, 5000, .inl st.1))] (none) [(h, .inr (0, [.ref h_row, .int res.2])), (h_row, .inl (cI, 5000, .inl res.1))] := by
  refine Fn.ofW (cc := b_Bytes_keepFirst) (maxL := 2) (ret := none) (by decide) rfl (Nat.le_of_ble_eq_true rfl) ?_
  intro p e s m below meth c A ls C hH hinit hl
  have hl : lv_has ls 2 [(0, .ref h), (1, .int x1)] := hl
  obtain ⟨hx, hb, hr, hml, hown, hts, hlk, hK, hA⟩ := id C
  unfold f_Bytes_keepFirst at hf
  refine lv_iload_n hx hb d_Bytes_keepFirst_0 rfl (lv_at hl 1 rfl) ?_
  refine lv_if_lt (tgt := 17) hx hb d_Bytes_keepFirst_1 (by decide) (fun hc1 => ?_) (fun hc1 => ?_)
  · have hf := ip hc1 hf
    subst hf
    exact rV C hH d_Bytes_keepFirst_17
  · have hf := im hc1 hf
    refine lv_iload_n hx hb d_Bytes_keepFirst_4 rfl (lv_at hl 1 rfl) ?_
    refine lv_aload_n hx hb d_Bytes_keepFirst_5 rfl (lv_at hl 0 rfl) ?_
    refine gt (ci := 0) (v := .int st.2) C hH (iwT iw_Bytes) 0 rfl rfl 1 (by decide) (.tail _ wd_54) rfl d_Bytes_keepFirst_6 ?_
    refine lv_icmp_ge (tgt := 17) hx hb d_Bytes_keepFirst_9 (by decide) (fun hc9 => ?_) (fun hc9 => ?_)
    · have hf := ip hc9 hf
      subst hf
      exact rV C hH d_Bytes_keepFirst_17
    · have hf := im hc9 hf
      refine lv_aload_n hx hb d_Bytes_keepFirst_12 rfl (lv_at hl 0 rfl) ?_
      refine lv_iload_n hx hb d_Bytes_keepFirst_13 rfl (lv_at hl 1 rfl) ?_
      refine pt (ci := 0) (v := .int x1) C hH (iwT iw_Bytes) ty_Bytes tyok_Bytes nm_Bytes 0 rfl rfl 1 (by decide) (.tail _ wd_54) rfl rfl rfl (Nat.le_of_ble_eq_true rfl) d_Bytes_keepFirst_14 [(h, .inr (0, [.ref h_row, .int x1])), (h_row, .inl (cI, 5000, .inl st.1))] rfl (fun H locs hH => ?_)
      subst hf
      exact rV C hH d_Bytes_keepFirst_17
