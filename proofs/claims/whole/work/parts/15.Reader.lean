def f_Reader_begin (st : S_Reader) (e1 : S_Events)  : S_Reader × S_Events :=
  lt1 (f_Events_keepFirst e1 0) (fun r2 => lt1 (f_Past_forget st.2.1) (fun r9 => ((st.1, r9, 0, 0, 0), r2)))
set_option maxRecDepth 100000 in
set_option maxHeartbeats 4000000 in
theorem c_Reader_begin (l : Launch) (D : va_G) (cI cL : ClassId) (h h_log h_log_row h_past h_past_typed q1 q1_kinds q1_differences q1_partsA q1_partsB : Nat) (st : S_Reader) (e1 : S_Events)  (res : S_Reader × S_Events) (hf : f_Reader_begin st e1 = res) :
    Fn l D vwCl [(cI, .int), (cL, .long)] y_Reader_begin ws_Reader_begin { frames := 1, cells := 0, slots := 0, locals := 21 } [.ref h, .ref q1] [(h, .inr (4, [.ref h_log, .ref h_past, .int st.2.2.1, .int st.2.2.2.1, .int st.2.2.2.2])), (h_log, .inr (0, [.ref h_log_row, .int st.1.2])), (h_log_row, .inl (cI, 5000, .inl st.1.1)), (h_past, .inr (1, [.ref h_past_typed, .int st.2.1.2.1, .int st.2.1.2.2])), (h_past_typed, .inl (cI, 300, .inl st.2.1.1)), (q1, .inr (2, [.ref q1_kinds, .ref q1_differences, .ref q1_partsA, .ref q1_partsB, .int e1.2.2.2.2])), (q1_kinds, .inl (cI, 300, .inl e1.1)), (q1_differences, .inl (cL, 300, .inr (.inl e1.2.1))), (q1_partsA, .inl (cL, 300, .inr (.inl e1.2.2.1))), (q1_partsB, .inl (cI, 300, .inl e1.2.2.2.1))] (none) [(h, .inr (4, [.ref h_log, .ref h_past, .int res.1.2.2.1, .int res.1.2.2.2.1, .int res.1.2.2.2.2])), (h_log, .inr (0, [.ref h_log_row, .int res.1.1.2])), (h_log_row, .inl (cI, 5000, .inl res.1.1.1)), (h_past, .inr (1, [.ref h_past_typed, .int res.1.2.1.2.1, .int res.1.2.1.2.2])), (h_past_typed, .inl (cI, 300, .inl res.1.2.1.1)), (q1, .inr (2, [.ref q1_kinds, .ref q1_differences, .ref q1_partsA, .ref q1_partsB, .int res.2.2.2.2.2])), (q1_kinds, .inl (cI, 300, .inl res.2.1)), (q1_differences, .inl (cL, 300, .inr (.inl res.2.2.1))), (q1_partsA, .inl (cL, 300, .inr (.inl res.2.2.2.1))), (q1_partsB, .inl (cI, 300, .inl res.2.2.2.2.1))] := by
  refine Fn.ofW (cc := b_Reader_begin) (maxL := 2) (ret := none) (by decide) rfl (Nat.le_of_ble_eq_true rfl) ?_
  intro p e s m below meth c A ls C hH hinit hl
  have hl : lv_has ls 2 [(0, .ref h), (1, .ref q1)] := hl
  obtain ⟨hx, hb, hr, hml, hown, hts, hlk, hK, hA⟩ := id C
  unfold f_Reader_begin at hf
  refine lv_aload_n hx hb d_Reader_begin_0 rfl (lv_at hl 1 rfl) ?_
  refine lv_iconst (v := 0) hx hb d_Reader_begin_1 (by decide) ?_
  obtain ⟨r2, hr2, hf⟩ := lb hf
  refine fnV (rest := []) (wr := [(h, .inr (4, [.ref h_log, .ref h_past, .int st.2.2.1, .int st.2.2.2.1, .int st.2.2.2.2])), (h_log, .inr (0, [.ref h_log_row, .int st.1.2])), (h_log_row, .inl (cI, 5000, .inl st.1.1)), (h_past, .inr (1, [.ref h_past_typed, .int st.2.1.2.1, .int st.2.1.2.2])), (h_past_typed, .inl (cI, 300, .inl st.2.1.1))]) (w2 := [(h, .inr (4, [.ref h_log, .ref h_past, .int st.2.2.1, .int st.2.2.2.1, .int st.2.2.2.2])), (h_log, .inr (0, [.ref h_log_row, .int st.1.2])), (h_log_row, .inl (cI, 5000, .inl st.1.1)), (h_past, .inr (1, [.ref h_past_typed, .int st.2.1.2.1, .int st.2.1.2.2])), (h_past_typed, .inl (cI, 300, .inl st.2.1.1)), (q1, .inr (2, [.ref q1_kinds, .ref q1_differences, .ref q1_partsA, .ref q1_partsB, .int r2.2.2.2.2])), (q1_kinds, .inl (cI, 300, .inl r2.1)), (q1_differences, .inl (cL, 300, .inr (.inl r2.2.1))), (q1_partsA, .inl (cL, 300, .inr (.inl r2.2.2.1))), (q1_partsB, .inl (cI, 300, .inl r2.2.2.2.1))]) (st2 := []) C (c_Events_keepFirst l D cI cL q1 q1_kinds q1_differences q1_partsA q1_partsB e1 0 r2 hr2) (cV hts kV_Events_keepFirst wd_276 ⟨Nat.le_of_ble_eq_true rfl, Nat.le_of_ble_eq_true rfl⟩) hH [5, 6, 7, 8, 9] [0, 1, 2, 3, 4] [0, 1, 2, 3, 4, 5, 6, 7, 8, 9] rfl rfl rfl rfl (by decide) rfl rfl 0 rfl rfl rfl hl.1 rfl (Nat.le_of_ble_eq_true rfl) d_Reader_begin_2 ⟨Nat.le_of_ble_eq_true rfl, Nat.le_of_ble_eq_true rfl⟩ rfl (fun H locs hH => ?_)
  refine lv_aload_n hx hb d_Reader_begin_5 rfl (lv_at hl 0 rfl) ?_
  refine gt (ci := 4) (v := .ref h_past) C hH (iwT iw_Reader) 0 rfl rfl 1 (by decide) (.tail _ wd_116) rfl d_Reader_begin_6 ?_
  obtain ⟨r9, hr9, hf⟩ := lb hf
  refine fnV (rest := []) (wr := [(h, .inr (4, [.ref h_log, .ref h_past, .int st.2.2.1, .int st.2.2.2.1, .int st.2.2.2.2])), (h_log, .inr (0, [.ref h_log_row, .int st.1.2])), (h_log_row, .inl (cI, 5000, .inl st.1.1)), (q1, .inr (2, [.ref q1_kinds, .ref q1_differences, .ref q1_partsA, .ref q1_partsB, .int r2.2.2.2.2])), (q1_kinds, .inl (cI, 300, .inl r2.1)), (q1_differences, .inl (cL, 300, .inr (.inl r2.2.1))), (q1_partsA, .inl (cL, 300, .inr (.inl r2.2.2.1))), (q1_partsB, .inl (cI, 300, .inl r2.2.2.2.1))]) (w2 := [(h, .inr (4, [.ref h_log, .ref h_past, .int st.2.2.1, .int st.2.2.2.1, .int st.2.2.2.2])), (h_log, .inr (0, [.ref h_log_row, .int st.1.2])), (h_log_row, .inl (cI, 5000, .inl st.1.1)), (h_past, .inr (1, [.ref h_past_typed, .int r9.2.1, .int r9.2.2])), (h_past_typed, .inl (cI, 300, .inl r9.1)), (q1, .inr (2, [.ref q1_kinds, .ref q1_differences, .ref q1_partsA, .ref q1_partsB, .int r2.2.2.2.2])), (q1_kinds, .inl (cI, 300, .inl r2.1)), (q1_differences, .inl (cL, 300, .inr (.inl r2.2.1))), (q1_partsA, .inl (cL, 300, .inr (.inl r2.2.2.1))), (q1_partsB, .inl (cI, 300, .inl r2.2.2.2.1))]) (st2 := []) C (c_Past_forget l D cI cL h_past h_past_typed st.2.1 r9 hr9) (cV hts kV_Past_forget wd_280 ⟨Nat.le_of_ble_eq_true rfl, Nat.le_of_ble_eq_true rfl⟩) hH [3, 4] [0, 1, 2, 5, 6, 7, 8, 9] [0, 1, 2, 8, 9, 3, 4, 5, 6, 7] rfl rfl rfl rfl (by decide) rfl rfl 0 rfl rfl rfl hl.1 rfl (Nat.le_of_ble_eq_true rfl) d_Reader_begin_9 ⟨Nat.le_of_ble_eq_true rfl, Nat.le_of_ble_eq_true rfl⟩ rfl (fun H locs hH => ?_)
  refine lv_aload_n hx hb d_Reader_begin_12 rfl (lv_at hl 0 rfl) ?_
  refine lv_iconst (v := 0) hx hb d_Reader_begin_13 (by decide) ?_
  refine pt (ci := 4) (v := .int 0) C hH (iwT iw_Reader) ty_Reader tyok_Reader nm_Reader 0 rfl rfl 2 (by decide) (.tail _ wd_117) rfl rfl rfl (Nat.le_of_ble_eq_true rfl) d_Reader_begin_14 [(h, .inr (4, [.ref h_log, .ref h_past, .int 0, .int st.2.2.2.1, .int st.2.2.2.2])), (h_log, .inr (0, [.ref h_log_row, .int st.1.2])), (h_log_row, .inl (cI, 5000, .inl st.1.1)), (h_past, .inr (1, [.ref h_past_typed, .int r9.2.1, .int r9.2.2])), (h_past_typed, .inl (cI, 300, .inl r9.1)), (q1, .inr (2, [.ref q1_kinds, .ref q1_differences, .ref q1_partsA, .ref q1_partsB, .int r2.2.2.2.2])), (q1_kinds, .inl (cI, 300, .inl r2.1)), (q1_differences, .inl (cL, 300, .inr (.inl r2.2.1))), (q1_partsA, .inl (cL, 300, .inr (.inl r2.2.2.1))), (q1_partsB, .inl (cI, 300, .inl r2.2.2.2.1))] rfl (fun H locs hH => ?_)
  refine lv_aload_n hx hb d_Reader_begin_17 rfl (lv_at hl 0 rfl) ?_
  refine lv_iconst (v := 0) hx hb d_Reader_begin_18 (by decide) ?_
  refine pt (ci := 4) (v := .int 0) C hH (iwT iw_Reader) ty_Reader tyok_Reader nm_Reader 0 rfl rfl 3 (by decide) (.tail _ wd_118) rfl rfl rfl (Nat.le_of_ble_eq_true rfl) d_Reader_begin_19 [(h, .inr (4, [.ref h_log, .ref h_past, .int 0, .int 0, .int st.2.2.2.2])), (h_log, .inr (0, [.ref h_log_row, .int st.1.2])), (h_log_row, .inl (cI, 5000, .inl st.1.1)), (h_past, .inr (1, [.ref h_past_typed, .int r9.2.1, .int r9.2.2])), (h_past_typed, .inl (cI, 300, .inl r9.1)), (q1, .inr (2, [.ref q1_kinds, .ref q1_differences, .ref q1_partsA, .ref q1_partsB, .int r2.2.2.2.2])), (q1_kinds, .inl (cI, 300, .inl r2.1)), (q1_differences, .inl (cL, 300, .inr (.inl r2.2.1))), (q1_partsA, .inl (cL, 300, .inr (.inl r2.2.2.1))), (q1_partsB, .inl (cI, 300, .inl r2.2.2.2.1))] rfl (fun H locs hH => ?_)
  refine lv_aload_n hx hb d_Reader_begin_22 rfl (lv_at hl 0 rfl) ?_
  refine lv_iconst (v := 0) hx hb d_Reader_begin_23 (by decide) ?_
  refine pt (ci := 4) (v := .int 0) C hH (iwT iw_Reader) ty_Reader tyok_Reader nm_Reader 0 rfl rfl 4 (by decide) (.tail _ wd_119) rfl rfl rfl (Nat.le_of_ble_eq_true rfl) d_Reader_begin_24 [(h, .inr (4, [.ref h_log, .ref h_past, .int 0, .int 0, .int 0])), (h_log, .inr (0, [.ref h_log_row, .int st.1.2])), (h_log_row, .inl (cI, 5000, .inl st.1.1)), (h_past, .inr (1, [.ref h_past_typed, .int r9.2.1, .int r9.2.2])), (h_past_typed, .inl (cI, 300, .inl r9.1)), (q1, .inr (2, [.ref q1_kinds, .ref q1_differences, .ref q1_partsA, .ref q1_partsB, .int r2.2.2.2.2])), (q1_kinds, .inl (cI, 300, .inl r2.1)), (q1_differences, .inl (cL, 300, .inr (.inl r2.2.1))), (q1_partsA, .inl (cL, 300, .inr (.inl r2.2.2.1))), (q1_partsB, .inl (cI, 300, .inl r2.2.2.2.1))] rfl (fun H locs hH => ?_)
  subst hf
  exact rV C hH d_Reader_begin_27
def f_Reader_fail (st : S_Reader) (x1 : Int32) (x2 : Int32) : S_Reader :=
  (st.1, st.2.1, st.2.2.1, x1, x2)
set_option maxRecDepth 100000 in
set_option maxHeartbeats 4000000 in
theorem c_Reader_fail (l : Launch) (D : va_G) (cI cL : ClassId) (h h_log h_log_row h_past h_past_typed : Nat) (st : S_Reader) (x1 : Int32) (x2 : Int32) (res : S_Reader) (hf : f_Reader_fail st x1 x2 = res) :
    Fn l D vwCl [(cI, .int), (cL, .long)] y_Reader_fail ws_Reader_fail { frames := 0, cells := 0, slots := 0, locals := 0 } [.ref h, .int x1, .int x2] [(h, .inr (4, [.ref h_log, .ref h_past, .int st.2.2.1, .int st.2.2.2.1, .int st.2.2.2.2])), (h_log, .inr (0, [.ref h_log_row, .int st.1.2])), (h_log_row, .inl (cI, 5000, .inl st.1.1)), (h_past, .inr (1, [.ref h_past_typed, .int st.2.1.2.1, .int st.2.1.2.2])), (h_past_typed, .inl (cI, 300, .inl st.2.1.1))] (none) [(h, .inr (4, [.ref h_log, .ref h_past, .int res.2.2.1, .int res.2.2.2.1, .int res.2.2.2.2])), (h_log, .inr (0, [.ref h_log_row, .int res.1.2])), (h_log_row, .inl (cI, 5000, .inl res.1.1)), (h_past, .inr (1, [.ref h_past_typed, .int res.2.1.2.1, .int res.2.1.2.2])), (h_past_typed, .inl (cI, 300, .inl res.2.1.1))] := by
  refine Fn.ofW (cc := b_Reader_fail) (maxL := 3) (ret := none) (by decide) rfl (Nat.le_of_ble_eq_true rfl) ?_
  intro p e s m below meth c A ls C hH hinit hl
  have hl : lv_has ls 3 [(0, .ref h), (1, .int x1), (2, .int x2)] := hl
  obtain ⟨hx, hb, hr, hml, hown, hts, hlk, hK, hA⟩ := id C
  unfold f_Reader_fail at hf
  refine lv_aload_n hx hb d_Reader_fail_0 rfl (lv_at hl 0 rfl) ?_
  refine lv_iload_n hx hb d_Reader_fail_1 rfl (lv_at hl 1 rfl) ?_
  refine pt (ci := 4) (v := .int x1) C hH (iwT iw_Reader) ty_Reader tyok_Reader nm_Reader 0 rfl rfl 3 (by decide) (.tail _ wd_118) rfl rfl rfl (Nat.le_of_ble_eq_true rfl) d_Reader_fail_2 [(h, .inr (4, [.ref h_log, .ref h_past, .int st.2.2.1, .int x1, .int st.2.2.2.2])), (h_log, .inr (0, [.ref h_log_row, .int st.1.2])), (h_log_row, .inl (cI, 5000, .inl st.1.1)), (h_past, .inr (1, [.ref h_past_typed, .int st.2.1.2.1, .int st.2.1.2.2])), (h_past_typed, .inl (cI, 300, .inl st.2.1.1))] rfl (fun H locs hH => ?_)
  refine lv_aload_n hx hb d_Reader_fail_5 rfl (lv_at hl 0 rfl) ?_
  refine lv_iload_n hx hb d_Reader_fail_6 rfl (lv_at hl 2 rfl) ?_
  refine pt (ci := 4) (v := .int x2) C hH (iwT iw_Reader) ty_Reader tyok_Reader nm_Reader 0 rfl rfl 4 (by decide) (.tail _ wd_119) rfl rfl rfl (Nat.le_of_ble_eq_true rfl) d_Reader_fail_7 [(h, .inr (4, [.ref h_log, .ref h_past, .int st.2.2.1, .int x1, .int x2])), (h_log, .inr (0, [.ref h_log_row, .int st.1.2])), (h_log_row, .inl (cI, 5000, .inl st.1.1)), (h_past, .inr (1, [.ref h_past_typed, .int st.2.1.2.1, .int st.2.1.2.2])), (h_past_typed, .inl (cI, 300, .inl st.2.1.1))] rfl (fun H locs hH => ?_)
  subst hf
  exact rV C hH d_Reader_fail_10
def f_Reader_readByte (st : S_Reader)  : Int32 × S_Reader :=
  if st.2.2.1 < (f_Bytes_length st.1) then ((f_Bytes_get st.1 st.2.2.1, (st.1, st.2.1, st.2.2.1 + 1, st.2.2.2.1, st.2.2.2.2))) else (lt1 (f_Reader_fail st 2 (f_Bytes_length st.1)) (fun r23 => (0, r23)))
set_option maxRecDepth 100000 in
set_option maxHeartbeats 4000000 in
theorem c_Reader_readByte (l : Launch) (D : va_G) (cI cL : ClassId) (h h_log h_log_row h_past h_past_typed : Nat) (st : S_Reader)  (res : Int32 × S_Reader) (hf : f_Reader_readByte st = res) :
    Fn l D vwCl [(cI, .int), (cL, .long)] y_Reader_readByte ws_Reader_readByte { frames := 1, cells := 0, slots := 0, locals := 22 } [.ref h] [(h, .inr (4, [.ref h_log, .ref h_past, .int st.2.2.1, .int st.2.2.2.1, .int st.2.2.2.2])), (h_log, .inr (0, [.ref h_log_row, .int st.1.2])), (h_log_row, .inl (cI, 5000, .inl st.1.1)), (h_past, .inr (1, [.ref h_past_typed, .int st.2.1.2.1, .int st.2.1.2.2])), (h_past_typed, .inl (cI, 300, .inl st.2.1.1))] (some (.int res.1)) [(h, .inr (4, [.ref h_log, .ref h_past, .int res.2.2.2.1, .int res.2.2.2.2.1, .int res.2.2.2.2.2])), (h_log, .inr (0, [.ref h_log_row, .int res.2.1.2])), (h_log_row, .inl (cI, 5000, .inl res.2.1.1)), (h_past, .inr (1, [.ref h_past_typed, .int res.2.2.1.2.1, .int res.2.2.1.2.2])), (h_past_typed, .inl (cI, 300, .inl res.2.2.1.1))] := by
  refine Fn.ofW (cc := b_Reader_readByte) (maxL := 2) (ret := (some .int)) (by decide) rfl (Nat.le_of_ble_eq_true rfl) ?_
  intro p e s m below meth c A ls C hH hinit hl
  have hl : lv_has ls 2 [(0, .ref h)] := hl
  obtain ⟨hx, hb, hr, hml, hown, hts, hlk, hK, hA⟩ := id C
  unfold f_Reader_readByte at hf
  refine lv_aload_n hx hb d_Reader_readByte_0 rfl (lv_at hl 0 rfl) ?_
  refine gt (ci := 4) (v := .int st.2.2.1) C hH (iwT iw_Reader) 0 rfl rfl 2 (by decide) (.tail _ wd_117) rfl d_Reader_readByte_1 ?_
  refine lv_aload_n hx hb d_Reader_readByte_4 rfl (lv_at hl 0 rfl) ?_
  refine gt (ci := 4) (v := .ref h_log) C hH (iwT iw_Reader) 0 rfl rfl 0 (by decide) (.tail _ wd_115) rfl d_Reader_readByte_5 ?_
  refine fnVR (rest := [.int st.2.2.1]) (st2 := [.int (f_Bytes_length st.1), .int st.2.2.1]) C (c_Bytes_length l D cI cL h_log h_log_row st.1 _ rfl) (cV hts kV_Bytes_length wd_289 ⟨Nat.le_of_ble_eq_true rfl, Nat.le_of_ble_eq_true rfl⟩) hH [1, 2] rfl rfl 0 rfl rfl rfl hl.1 rfl (Nat.le_of_ble_eq_true rfl) d_Reader_readByte_8 ⟨Nat.le_of_ble_eq_true rfl, Nat.le_of_ble_eq_true rfl⟩ rfl (fun H locs hH => ?_)
  refine lv_icmp_lt (tgt := 28) hx hb d_Reader_readByte_11 (by decide) (fun hc11 => ?_) (fun hc11 => ?_)
  · have hf := ip hc11 hf
    refine lv_aload_n hx hb d_Reader_readByte_28 rfl (lv_at hl 0 rfl) ?_
    refine gt (ci := 4) (v := .ref h_log) C hH (iwT iw_Reader) 0 rfl rfl 0 (by decide) (.tail _ wd_115) rfl d_Reader_readByte_29 ?_
    refine lv_aload_n hx hb d_Reader_readByte_32 rfl (lv_at hl 0 rfl) ?_
    refine gt (ci := 4) (v := .int st.2.2.1) C hH (iwT iw_Reader) 0 rfl rfl 2 (by decide) (.tail _ wd_117) rfl d_Reader_readByte_33 ?_
    refine fnVR (rest := []) (st2 := [.int (f_Bytes_get st.1 st.2.2.1)]) C (c_Bytes_get l D cI cL h_log h_log_row st.1 st.2.2.1 _ rfl) (cV hts kV_Bytes_get wd_297 ⟨Nat.le_of_ble_eq_true rfl, Nat.le_of_ble_eq_true rfl⟩) hH [1, 2] rfl rfl 0 rfl rfl rfl hl.1 rfl (Nat.le_of_ble_eq_true rfl) d_Reader_readByte_36 ⟨Nat.le_of_ble_eq_true rfl, Nat.le_of_ble_eq_true rfl⟩ rfl (fun H locs hH => ?_)
    refine lv_istore_n (lv' := [(1, .int (f_Bytes_get st.1 st.2.2.1)), (0, .ref h)]) hx hb d_Reader_readByte_39 rfl hl (by decide) rfl (fun ls hl => ?_)
    refine lv_aload_n hx hb d_Reader_readByte_40 rfl (lv_at hl 1 rfl) ?_
    refine lv_dup hx hb d_Reader_readByte_41 rfl ?_
    refine gt (ci := 4) (v := .int st.2.2.1) C hH (iwT iw_Reader) 0 rfl rfl 2 (by decide) (.tail _ wd_117) rfl d_Reader_readByte_42 ?_
    refine lv_iconst (v := 1) hx hb d_Reader_readByte_45 (by decide) ?_
    refine lv_iadd hx hb d_Reader_readByte_46 ?_
    refine pt (ci := 4) (v := .int (st.2.2.1 + 1)) C hH (iwT iw_Reader) ty_Reader tyok_Reader nm_Reader 0 rfl rfl 2 (by decide) (.tail _ wd_117) rfl rfl rfl (Nat.le_of_ble_eq_true rfl) d_Reader_readByte_47 [(h, .inr (4, [.ref h_log, .ref h_past, .int (st.2.2.1 + 1), .int st.2.2.2.1, .int st.2.2.2.2])), (h_log, .inr (0, [.ref h_log_row, .int st.1.2])), (h_log_row, .inl (cI, 5000, .inl st.1.1)), (h_past, .inr (1, [.ref h_past_typed, .int st.2.1.2.1, .int st.2.1.2.2])), (h_past_typed, .inl (cI, 300, .inl st.2.1.1))] rfl (fun H locs hH => ?_)
    refine lv_iload_n hx hb d_Reader_readByte_50 rfl (lv_at hl 0 rfl) ?_
    subst hf
    exact rI (v := f_Bytes_get st.1 st.2.2.1) C hH d_Reader_readByte_51
  · have hf := im hc11 hf
    refine lv_aload_n hx hb d_Reader_readByte_14 rfl (lv_at hl 0 rfl) ?_
    refine lv_iconst (v := 2) hx hb d_Reader_readByte_15 (by decide) ?_
    refine lv_aload_n hx hb d_Reader_readByte_16 rfl (lv_at hl 0 rfl) ?_
    refine gt (ci := 4) (v := .ref h_log) C hH (iwT iw_Reader) 0 rfl rfl 0 (by decide) (.tail _ wd_115) rfl d_Reader_readByte_17 ?_
    refine fnVR (rest := [.int 2, .ref h]) (st2 := [.int (f_Bytes_length st.1), .int 2, .ref h]) C (c_Bytes_length l D cI cL h_log h_log_row st.1 _ rfl) (cV hts kV_Bytes_length wd_289 ⟨Nat.le_of_ble_eq_true rfl, Nat.le_of_ble_eq_true rfl⟩) hH [1, 2] rfl rfl 0 rfl rfl rfl hl.1 rfl (Nat.le_of_ble_eq_true rfl) d_Reader_readByte_20 ⟨Nat.le_of_ble_eq_true rfl, Nat.le_of_ble_eq_true rfl⟩ rfl (fun H locs hH => ?_)
    obtain ⟨r23, hr23, hf⟩ := lb hf
    refine fnV (rest := []) (wr := []) (w2 := [(h, .inr (4, [.ref h_log, .ref h_past, .int r23.2.2.1, .int r23.2.2.2.1, .int r23.2.2.2.2])), (h_log, .inr (0, [.ref h_log_row, .int r23.1.2])), (h_log_row, .inl (cI, 5000, .inl r23.1.1)), (h_past, .inr (1, [.ref h_past_typed, .int r23.2.1.2.1, .int r23.2.1.2.2])), (h_past_typed, .inl (cI, 300, .inl r23.2.1.1))]) (st2 := []) C (c_Reader_fail l D cI cL h h_log h_log_row h_past h_past_typed st 2 (f_Bytes_length st.1) r23 hr23) (cV hts kV_Reader_fail wd_293 ⟨Nat.le_of_ble_eq_true rfl, Nat.le_of_ble_eq_true rfl⟩) hH [0, 1, 2, 3, 4] [] [0, 1, 2, 3, 4] rfl rfl rfl rfl (by decide) rfl rfl 0 rfl rfl rfl hl.1 rfl (Nat.le_of_ble_eq_true rfl) d_Reader_readByte_23 ⟨Nat.le_of_ble_eq_true rfl, Nat.le_of_ble_eq_true rfl⟩ rfl (fun H locs hH => ?_)
    refine lv_iconst (v := 0) hx hb d_Reader_readByte_26 (by decide) ?_
    subst hf
    exact rI (v := 0) C hH d_Reader_readByte_27
def f_Reader_isFine (st : S_Reader)  : Bool :=
  if st.2.2.2.1 = 0 then (true) else (false)
set_option maxRecDepth 100000 in
set_option maxHeartbeats 4000000 in
theorem c_Reader_isFine (l : Launch) (D : va_G) (cI cL : ClassId) (h h_log h_log_row h_past h_past_typed : Nat) (st : S_Reader)  (res : Bool) (hf : f_Reader_isFine st = res) :
    FnR l D vwCl [(cI, .int), (cL, .long)] y_Reader_isFine ws_Reader_isFine { frames := 0, cells := 0, slots := 0, locals := 0 } [.ref h] [(h, .inr (4, [.ref h_log, .ref h_past, .int st.2.2.1, .int st.2.2.2.1, .int st.2.2.2.2])), (h_log, .inr (0, [.ref h_log_row, .int st.1.2])), (h_log_row, .inl (cI, 5000, .inl st.1.1)), (h_past, .inr (1, [.ref h_past_typed, .int st.2.1.2.1, .int st.2.1.2.2])), (h_past_typed, .inl (cI, 300, .inl st.2.1.1))] (some (.int (bI res))) := by
  refine FnR.ofW (cc := b_Reader_isFine) (maxL := 1) (ret := (some .boolean)) (by decide) rfl (Nat.le_of_ble_eq_true rfl) ?_
  intro p e s m below meth c A ls C hH hl
  have hl : lv_has ls 1 [(0, .ref h)] := hl
  obtain ⟨hx, hb, hr, hml, hown, hts, hlk, hK, hA⟩ := id C
  unfold f_Reader_isFine at hf
  refine lv_aload_n hx hb d_Reader_isFine_0 rfl (lv_at hl 0 rfl) ?_
  refine gt (ci := 4) (v := .int st.2.2.2.1) C hH (iwT iw_Reader) 0 rfl rfl 3 (by decide) (.tail _ wd_118) rfl d_Reader_isFine_1 ?_
  refine lv_if_ne (tgt := 11) hx hb d_Reader_isFine_4 (by decide) (fun hc4 => ?_) (fun hc4 => ?_)
  · have hf := im hc4 hf
    refine lv_iconst (v := 0) hx hb d_Reader_isFine_11 (by decide) ?_
    subst hf
    exact rZR (v := false) C hH d_Reader_isFine_12
  · have hf := ip hc4 hf
    refine lv_iconst (v := 1) hx hb d_Reader_isFine_7 (by decide) ?_
    refine lv_goto (tgt := 12) hx hb d_Reader_isFine_8 (by decide) ?_
    subst hf
    exact rZR (v := true) C hH d_Reader_isFine_12
def f_Reader_readVarint_b85 (st : S_Reader) (x3 : Int64) : Option (Int64 × S_Reader) :=
  lt1 (f_Reader_fail st 3 (st.2.2.1 - 1)) (fun r93 => some ((x3, r93)))
set_option maxRecDepth 100000 in
set_option maxHeartbeats 4000000 in
theorem w_Reader_readVarint_b85 (l : Launch) (D : va_G) (cI cL : ClassId) (h h_log h_log_row h_past h_past_typed : Nat) {p : Program} {e : Env} {s : State} {m : MethodId} {args : Array Value} {below : List Frame} {meth : Method} {c : Code} {A : Nat → Prop} (C : Cx p s m args meth c D vwCl [(cI, .int), (cL, .long)] A b_Reader_readVarint 8 (some .long) ws_Reader_readVarint y_Reader_readVarint.cls) : ∀ (st : S_Reader) (x3 : Int64) (res : Int64 × S_Reader), f_Reader_readVarint_b85 st x3 = some res → ∀ (H : Heap) (locs : List Loc) (ls : Array Slot), Hp D vwCl A A s.heap H locs [(h, .inr (4, [.ref h_log, .ref h_past, .int st.2.2.1, .int st.2.2.2.1, .int st.2.2.2.2])), (h_log, .inr (0, [.ref h_log_row, .int st.1.2])), (h_log_row, .inl (cI, 5000, .inl st.1.1)), (h_past, .inr (1, [.ref h_past_typed, .int st.2.1.2.1, .int st.2.1.2.2])), (h_past_typed, .inl (cI, 300, .inl st.2.1.1))] → lv_has ls 8 [(0, .ref h), (3, .long x3)] → W p l e { frames := 2, cells := 0, slots := 0, locals := 43 } s m args below meth c H locs 0 0 (MQ below (Qw D vwCl [(cI, .int), (cL, .long)] (some (.long res.1)) A [(h, .inr (4, [.ref h_log, .ref h_past, .int res.2.2.2.1, .int res.2.2.2.2.1, .int res.2.2.2.2.2])), (h_log, .inr (0, [.ref h_log_row, .int res.2.1.2])), (h_log_row, .inl (cI, 5000, .inl res.2.1.1)), (h_past, .inr (1, [.ref h_past_typed, .int res.2.2.1.2.1, .int res.2.2.1.2.2])), (h_past_typed, .inl (cI, 300, .inl res.2.2.1.1))]) args s 0 0 A) (F0 m 85 ls []) := by
  obtain ⟨hx, hb, hr, hml, hown, hts, hlk, hK, hA⟩ := id C
  intro st x3 res hf H locs ls hH hl
  unfold f_Reader_readVarint_b85 at hf
  refine lv_aload_n hx hb d_Reader_readVarint_85 rfl (lv_at hl 0 rfl) ?_
  refine lv_iconst (v := 3) hx hb d_Reader_readVarint_86 (by decide) ?_
  refine lv_aload_n hx hb d_Reader_readVarint_87 rfl (lv_at hl 0 rfl) ?_
  refine gt (ci := 4) (v := .int st.2.2.1) C hH (iwT iw_Reader) 0 rfl rfl 2 (by decide) (.tail _ wd_117) rfl d_Reader_readVarint_88 ?_
  refine lv_iconst (v := 1) hx hb d_Reader_readVarint_91 (by decide) ?_
  refine lv_isub hx hb d_Reader_readVarint_92 ?_
  obtain ⟨r93, hr93, hf⟩ := lb hf
  refine fnV (rest := []) (wr := []) (w2 := [(h, .inr (4, [.ref h_log, .ref h_past, .int r93.2.2.1, .int r93.2.2.2.1, .int r93.2.2.2.2])), (h_log, .inr (0, [.ref h_log_row, .int r93.1.2])), (h_log_row, .inl (cI, 5000, .inl r93.1.1)), (h_past, .inr (1, [.ref h_past_typed, .int r93.2.1.2.1, .int r93.2.1.2.2])), (h_past_typed, .inl (cI, 300, .inl r93.2.1.1))]) (st2 := []) C (c_Reader_fail l D cI cL h h_log h_log_row h_past h_past_typed st 3 (st.2.2.1 - 1) r93 hr93) (cV hts kV_Reader_fail wd_293 ⟨Nat.le_of_ble_eq_true rfl, Nat.le_of_ble_eq_true rfl⟩) hH [0, 1, 2, 3, 4] [] [0, 1, 2, 3, 4] rfl rfl rfl rfl (by decide) rfl rfl 0 rfl rfl rfl hl.1 rfl (Nat.le_of_ble_eq_true rfl) d_Reader_readVarint_93 ⟨Nat.le_of_ble_eq_true rfl, Nat.le_of_ble_eq_true rfl⟩ rfl (fun H locs hH => ?_)
  refine lv_goto (tgt := 112) hx hb d_Reader_readVarint_96 (by decide) ?_
  refine lv_lload_n hx hb d_Reader_readVarint_112 rfl (lv_at hl 1 rfl) ?_
  have hf := Option.some.inj hf
  subst hf
  exact rJ (v := x3) C hH d_Reader_readVarint_113
def f_Reader_readVarint_b70 (st : S_Reader) (x1 : Int32) (x2 : Int32) (x3 : Int64) (z0 : Bool) : Option (Int64 × S_Reader) :=
  if (bI z0) = 0 then (if (lg_cmp x3 1099511627776) ≤ 0 then (if 0 ≤ (lg_cmp x3 x1.toInt64) then (some ((x3, st))) else (lt1 (f_Reader_fail st 5 x2) (fun r109 => some ((x3, r109))))) else (f_Reader_readVarint_b85 st x3)) else (f_Reader_readVarint_b85 st x3)
set_option maxRecDepth 100000 in
set_option maxHeartbeats 4000000 in
theorem w_Reader_readVarint_b70 (l : Launch) (D : va_G) (cI cL : ClassId) (h h_log h_log_row h_past h_past_typed : Nat) {p : Program} {e : Env} {s : State} {m : MethodId} {args : Array Value} {below : List Frame} {meth : Method} {c : Code} {A : Nat → Prop} (C : Cx p s m args meth c D vwCl [(cI, .int), (cL, .long)] A b_Reader_readVarint 8 (some .long) ws_Reader_readVarint y_Reader_readVarint.cls) : ∀ (st : S_Reader) (x1 : Int32) (x2 : Int32) (x3 : Int64) (z0 : Bool) (res : Int64 × S_Reader), f_Reader_readVarint_b70 st x1 x2 x3 z0 = some res → ∀ (H : Heap) (locs : List Loc) (ls : Array Slot), Hp D vwCl A A s.heap H locs [(h, .inr (4, [.ref h_log, .ref h_past, .int st.2.2.1, .int st.2.2.2.1, .int st.2.2.2.2])), (h_log, .inr (0, [.ref h_log_row, .int st.1.2])), (h_log_row, .inl (cI, 5000, .inl st.1.1)), (h_past, .inr (1, [.ref h_past_typed, .int st.2.1.2.1, .int st.2.1.2.2])), (h_past_typed, .inl (cI, 300, .inl st.2.1.1))] → lv_has ls 8 [(0, .ref h), (1, .int x1), (2, .int x2), (3, .long x3)] → W p l e { frames := 2, cells := 0, slots := 0, locals := 43 } s m args below meth c H locs 0 0 (MQ below (Qw D vwCl [(cI, .int), (cL, .long)] (some (.long res.1)) A [(h, .inr (4, [.ref h_log, .ref h_past, .int res.2.2.2.1, .int res.2.2.2.2.1, .int res.2.2.2.2.2])), (h_log, .inr (0, [.ref h_log_row, .int res.2.1.2])), (h_log_row, .inl (cI, 5000, .inl res.2.1.1)), (h_past, .inr (1, [.ref h_past_typed, .int res.2.2.1.2.1, .int res.2.2.1.2.2])), (h_past_typed, .inl (cI, 300, .inl res.2.2.1.1))]) args s 0 0 A) (F0 m 70 ls [.int (bI z0)]) := by
  obtain ⟨hx, hb, hr, hml, hown, hts, hlk, hK, hA⟩ := id C
  intro st x1 x2 x3 z0 res hf H locs ls hH hl
  unfold f_Reader_readVarint_b70 at hf
  refine lv_istore (lv' := [(7, .int (bI z0)), (0, .ref h), (1, .int x1), (2, .int x2), (3, .long x3)]) hx hb d_Reader_readVarint_70 hl (by decide) rfl (fun ls hl => ?_)
  refine lv_iload hx hb d_Reader_readVarint_72 (lv_at hl 0 rfl) ?_
  refine lv_if_ne (tgt := 85) hx hb d_Reader_readVarint_74 (by decide) (fun hc74 => ?_) (fun hc74 => ?_)
  · have hf := im hc74 hf
    exact w_Reader_readVarint_b85 l D cI cL h h_log h_log_row h_past h_past_typed C st x3 res hf _ _ _ hH (lv_sub hl [1, 4] rfl)
  · have hf := ip hc74 hf
    refine lv_lload_n hx hb d_Reader_readVarint_77 rfl (lv_at hl 4 rfl) ?_
    refine lv_ldc2 (v := 1099511627776) hx hb hown (hts _ (.tail _ wd_305)) d_Reader_readVarint_78 ?_
    refine W.lcmp hx hb d_Reader_readVarint_81 ?_
    refine lv_if_le (tgt := 99) hx hb d_Reader_readVarint_82 (by decide) (fun hc82 => ?_) (fun hc82 => ?_)
    · have hf := ip hc82 hf
      refine lv_lload_n hx hb d_Reader_readVarint_99 rfl (lv_at hl 4 rfl) ?_
      refine lv_iload_n hx hb d_Reader_readVarint_100 rfl (lv_at hl 2 rfl) ?_
      refine lv_i2l (v := x1.toInt64) hx hb d_Reader_readVarint_101 rfl ?_
      refine W.lcmp hx hb d_Reader_readVarint_102 ?_
      refine lv_if_ge (tgt := 112) hx hb d_Reader_readVarint_103 (by decide) (fun hc103 => ?_) (fun hc103 => ?_)
      · have hf := ip hc103 hf
        refine lv_lload_n hx hb d_Reader_readVarint_112 rfl (lv_at hl 4 rfl) ?_
        have hf := Option.some.inj hf
        subst hf
        exact rJ (v := x3) C hH d_Reader_readVarint_113
      · have hf := im hc103 hf
        refine lv_aload_n hx hb d_Reader_readVarint_106 rfl (lv_at hl 1 rfl) ?_
        refine lv_iconst (v := 5) hx hb d_Reader_readVarint_107 (by decide) ?_
        refine lv_iload_n hx hb d_Reader_readVarint_108 rfl (lv_at hl 3 rfl) ?_
        obtain ⟨r109, hr109, hf⟩ := lb hf
        refine fnV (rest := []) (wr := []) (w2 := [(h, .inr (4, [.ref h_log, .ref h_past, .int r109.2.2.1, .int r109.2.2.2.1, .int r109.2.2.2.2])), (h_log, .inr (0, [.ref h_log_row, .int r109.1.2])), (h_log_row, .inl (cI, 5000, .inl r109.1.1)), (h_past, .inr (1, [.ref h_past_typed, .int r109.2.1.2.1, .int r109.2.1.2.2])), (h_past_typed, .inl (cI, 300, .inl r109.2.1.1))]) (st2 := []) C (c_Reader_fail l D cI cL h h_log h_log_row h_past h_past_typed st 5 x2 r109 hr109) (cV hts kV_Reader_fail wd_293 ⟨Nat.le_of_ble_eq_true rfl, Nat.le_of_ble_eq_true rfl⟩) hH [0, 1, 2, 3, 4] [] [0, 1, 2, 3, 4] rfl rfl rfl rfl (by decide) rfl rfl 0 rfl rfl rfl hl.1 rfl (Nat.le_of_ble_eq_true rfl) d_Reader_readVarint_109 ⟨Nat.le_of_ble_eq_true rfl, Nat.le_of_ble_eq_true rfl⟩ rfl (fun H locs hH => ?_)
        refine lv_lload_n hx hb d_Reader_readVarint_112 rfl (lv_at hl 4 rfl) ?_
        have hf := Option.some.inj hf
        subst hf
        exact rJ (v := x3) C hH d_Reader_readVarint_113
    · have hf := im hc82 hf
      exact w_Reader_readVarint_b85 l D cI cL h h_log h_log_row h_past h_past_typed C st x3 res hf _ _ _ hH (lv_sub hl [1, 4] rfl)
def f_Reader_readVarint_b69 (st : S_Reader) (x1 : Int32) (x2 : Int32) (x3 : Int64) : Option (Int64 × S_Reader) :=
  f_Reader_readVarint_b70 st x1 x2 x3 false
set_option maxRecDepth 100000 in
set_option maxHeartbeats 4000000 in
theorem w_Reader_readVarint_b69 (l : Launch) (D : va_G) (cI cL : ClassId) (h h_log h_log_row h_past h_past_typed : Nat) {p : Program} {e : Env} {s : State} {m : MethodId} {args : Array Value} {below : List Frame} {meth : Method} {c : Code} {A : Nat → Prop} (C : Cx p s m args meth c D vwCl [(cI, .int), (cL, .long)] A b_Reader_readVarint 8 (some .long) ws_Reader_readVarint y_Reader_readVarint.cls) : ∀ (st : S_Reader) (x1 : Int32) (x2 : Int32) (x3 : Int64) (res : Int64 × S_Reader), f_Reader_readVarint_b69 st x1 x2 x3 = some res → ∀ (H : Heap) (locs : List Loc) (ls : Array Slot), Hp D vwCl A A s.heap H locs [(h, .inr (4, [.ref h_log, .ref h_past, .int st.2.2.1, .int st.2.2.2.1, .int st.2.2.2.2])), (h_log, .inr (0, [.ref h_log_row, .int st.1.2])), (h_log_row, .inl (cI, 5000, .inl st.1.1)), (h_past, .inr (1, [.ref h_past_typed, .int st.2.1.2.1, .int st.2.1.2.2])), (h_past_typed, .inl (cI, 300, .inl st.2.1.1))] → lv_has ls 8 [(0, .ref h), (1, .int x1), (2, .int x2), (3, .long x3)] → W p l e { frames := 2, cells := 0, slots := 0, locals := 43 } s m args below meth c H locs 0 0 (MQ below (Qw D vwCl [(cI, .int), (cL, .long)] (some (.long res.1)) A [(h, .inr (4, [.ref h_log, .ref h_past, .int res.2.2.2.1, .int res.2.2.2.2.1, .int res.2.2.2.2.2])), (h_log, .inr (0, [.ref h_log_row, .int res.2.1.2])), (h_log_row, .inl (cI, 5000, .inl res.2.1.1)), (h_past, .inr (1, [.ref h_past_typed, .int res.2.2.1.2.1, .int res.2.2.1.2.2])), (h_past_typed, .inl (cI, 300, .inl res.2.2.1.1))]) args s 0 0 A) (F0 m 69 ls []) := by
  obtain ⟨hx, hb, hr, hml, hown, hts, hlk, hK, hA⟩ := id C
  intro st x1 x2 x3 res hf H locs ls hH hl
  unfold f_Reader_readVarint_b69 at hf
  refine lv_iconst (v := 0) hx hb d_Reader_readVarint_69 (by decide) ?_
  exact w_Reader_readVarint_b70 l D cI cL h h_log h_log_row h_past h_past_typed C st x1 x2 x3 false res hf _ _ _ hH (lv_sub hl [0, 1, 2, 3] rfl)
def f_Reader_readVarint_b10 : Nat → S_Reader → Int32 → Int32 → Int64 → Int32 → Option (Int64 × S_Reader)
  | 0, _, _, _, _, _ => none
  | n + 1, st, x1, x2, x3, x5 =>
  if (7 : Int32) ≤ x5 then (lt1 (f_Reader_fail st 3 (st.2.2.1 - 1)) (fun r128 => some ((0, r128)))) else (lt1 (f_Reader_readByte st) (fun r18 => if (bI (f_Reader_isFine r18.2)) = 0 then (some ((0, r18.2))) else (if (128 : Int32) ≤ r18.1 then (f_Reader_readVarint_b10 n r18.2 x1 x2 (x3 ||| (((r18.1 &&& 127).toInt64) <<< (((7 : Int32) * x5).toInt64 &&& 63))) (x5 + 1)) else (if r18.1 = 0 then (if x5 ≤ 0 then (f_Reader_readVarint_b69 r18.2 x1 x2 (x3 ||| (((r18.1 &&& 127).toInt64) <<< (((7 : Int32) * x5).toInt64 &&& 63)))) else (f_Reader_readVarint_b70 r18.2 x1 x2 (x3 ||| (((r18.1 &&& 127).toInt64) <<< (((7 : Int32) * x5).toInt64 &&& 63))) true)) else (f_Reader_readVarint_b69 r18.2 x1 x2 (x3 ||| (((r18.1 &&& 127).toInt64) <<< (((7 : Int32) * x5).toInt64 &&& 63))))))))
set_option maxRecDepth 100000 in
set_option maxHeartbeats 4000000 in
theorem w_Reader_readVarint_b10 (l : Launch) (D : va_G) (cI cL : ClassId) (h h_log h_log_row h_past h_past_typed : Nat) {p : Program} {e : Env} {s : State} {m : MethodId} {args : Array Value} {below : List Frame} {meth : Method} {c : Code} {A : Nat → Prop} (C : Cx p s m args meth c D vwCl [(cI, .int), (cL, .long)] A b_Reader_readVarint 8 (some .long) ws_Reader_readVarint y_Reader_readVarint.cls) : ∀ (n : Nat) (st : S_Reader) (x1 : Int32) (x2 : Int32) (x3 : Int64) (x5 : Int32) (res : Int64 × S_Reader), f_Reader_readVarint_b10 n st x1 x2 x3 x5 = some res → ∀ (H : Heap) (locs : List Loc) (ls : Array Slot), Hp D vwCl A A s.heap H locs [(h, .inr (4, [.ref h_log, .ref h_past, .int st.2.2.1, .int st.2.2.2.1, .int st.2.2.2.2])), (h_log, .inr (0, [.ref h_log_row, .int st.1.2])), (h_log_row, .inl (cI, 5000, .inl st.1.1)), (h_past, .inr (1, [.ref h_past_typed, .int st.2.1.2.1, .int st.2.1.2.2])), (h_past_typed, .inl (cI, 300, .inl st.2.1.1))] → lv_has ls 8 [(0, .ref h), (1, .int x1), (2, .int x2), (3, .long x3), (5, .int x5)] → W p l e { frames := 2, cells := 0, slots := 0, locals := 43 } s m args below meth c H locs 0 0 (MQ below (Qw D vwCl [(cI, .int), (cL, .long)] (some (.long res.1)) A [(h, .inr (4, [.ref h_log, .ref h_past, .int res.2.2.2.1, .int res.2.2.2.2.1, .int res.2.2.2.2.2])), (h_log, .inr (0, [.ref h_log_row, .int res.2.1.2])), (h_log_row, .inl (cI, 5000, .inl res.2.1.1)), (h_past, .inr (1, [.ref h_past_typed, .int res.2.2.1.2.1, .int res.2.2.1.2.2])), (h_past_typed, .inl (cI, 300, .inl res.2.2.1.1))]) args s 0 0 A) (F0 m 10 ls []) := by
  obtain ⟨hx, hb, hr, hml, hown, hts, hlk, hK, hA⟩ := id C
  intro n
  induction n with
  | zero => intro st x1 x2 x3 x5 res hf; cases hf
  | succ n ih =>
    intro st x1 x2 x3 x5 res hf H locs ls hH hl
    rw [f_Reader_readVarint_b10] at hf
    refine lv_iload hx hb d_Reader_readVarint_10 (lv_at hl 4 rfl) ?_
    refine lv_bipush (v := 7) hx hb d_Reader_readVarint_12 (by decide) ?_
    refine lv_icmp_ge (tgt := 120) hx hb d_Reader_readVarint_14 (by decide) (fun hc14 => ?_) (fun hc14 => ?_)
    · have hf := ip hc14 hf
      refine lv_aload_n hx hb d_Reader_readVarint_120 rfl (lv_at hl 0 rfl) ?_
      refine lv_iconst (v := 3) hx hb d_Reader_readVarint_121 (by decide) ?_
      refine lv_aload_n hx hb d_Reader_readVarint_122 rfl (lv_at hl 0 rfl) ?_
      refine gt (ci := 4) (v := .int st.2.2.1) C hH (iwT iw_Reader) 0 rfl rfl 2 (by decide) (.tail _ wd_117) rfl d_Reader_readVarint_123 ?_
      refine lv_iconst (v := 1) hx hb d_Reader_readVarint_126 (by decide) ?_
      refine lv_isub hx hb d_Reader_readVarint_127 ?_
      obtain ⟨r128, hr128, hf⟩ := lb hf
      refine fnV (rest := []) (wr := []) (w2 := [(h, .inr (4, [.ref h_log, .ref h_past, .int r128.2.2.1, .int r128.2.2.2.1, .int r128.2.2.2.2])), (h_log, .inr (0, [.ref h_log_row, .int r128.1.2])), (h_log_row, .inl (cI, 5000, .inl r128.1.1)), (h_past, .inr (1, [.ref h_past_typed, .int r128.2.1.2.1, .int r128.2.1.2.2])), (h_past_typed, .inl (cI, 300, .inl r128.2.1.1))]) (st2 := []) C (c_Reader_fail l D cI cL h h_log h_log_row h_past h_past_typed st 3 (st.2.2.1 - 1) r128 hr128) (cV hts kV_Reader_fail wd_293 ⟨Nat.le_of_ble_eq_true rfl, Nat.le_of_ble_eq_true rfl⟩) hH [0, 1, 2, 3, 4] [] [0, 1, 2, 3, 4] rfl rfl rfl rfl (by decide) rfl rfl 0 rfl rfl rfl hl.1 rfl (Nat.le_of_ble_eq_true rfl) d_Reader_readVarint_128 ⟨Nat.le_of_ble_eq_true rfl, Nat.le_of_ble_eq_true rfl⟩ rfl (fun H locs hH => ?_)
      refine lv_lconst (v := 0) hx hb d_Reader_readVarint_131 (by decide) ?_
      have hf := Option.some.inj hf
      subst hf
      exact rJ (v := 0) C hH d_Reader_readVarint_132
    · have hf := im hc14 hf
      refine lv_aload_n hx hb d_Reader_readVarint_17 rfl (lv_at hl 0 rfl) ?_
      obtain ⟨r18, hr18, hf⟩ := lb hf
      refine fnV (rest := []) (wr := []) (w2 := [(h, .inr (4, [.ref h_log, .ref h_past, .int r18.2.2.2.1, .int r18.2.2.2.2.1, .int r18.2.2.2.2.2])), (h_log, .inr (0, [.ref h_log_row, .int r18.2.1.2])), (h_log_row, .inl (cI, 5000, .inl r18.2.1.1)), (h_past, .inr (1, [.ref h_past_typed, .int r18.2.2.1.2.1, .int r18.2.2.1.2.2])), (h_past_typed, .inl (cI, 300, .inl r18.2.2.1.1))]) (st2 := [.int r18.1]) C (c_Reader_readByte l D cI cL h h_log h_log_row h_past h_past_typed st r18 hr18) (cV hts kV_Reader_readByte wd_285 ⟨Nat.le_of_ble_eq_true rfl, Nat.le_of_ble_eq_true rfl⟩) hH [0, 1, 2, 3, 4] [] [0, 1, 2, 3, 4] rfl rfl rfl rfl (by decide) rfl rfl 0 rfl rfl rfl hl.1 rfl (Nat.le_of_ble_eq_true rfl) d_Reader_readVarint_18 ⟨Nat.le_of_ble_eq_true rfl, Nat.le_of_ble_eq_true rfl⟩ rfl (fun H locs hH => ?_)
      refine lv_istore (lv' := [(6, .int r18.1), (0, .ref h), (1, .int x1), (2, .int x2), (3, .long x3), (5, .int x5)]) hx hb d_Reader_readVarint_21 hl (by decide) rfl (fun ls hl => ?_)
      refine lv_aload_n hx hb d_Reader_readVarint_23 rfl (lv_at hl 1 rfl) ?_
      refine fnVR (rest := []) (st2 := [.int (bI (f_Reader_isFine r18.2))]) C (c_Reader_isFine l D cI cL h h_log h_log_row h_past h_past_typed r18.2 _ rfl) (cV hts kV_Reader_isFine wd_301 ⟨Nat.le_of_ble_eq_true rfl, Nat.le_of_ble_eq_true rfl⟩) hH [0, 1, 2, 3, 4] rfl rfl 0 rfl rfl rfl hl.1 rfl (Nat.le_of_ble_eq_true rfl) d_Reader_readVarint_24 ⟨Nat.le_of_ble_eq_true rfl, Nat.le_of_ble_eq_true rfl⟩ rfl (fun H locs hH => ?_)
      refine lv_if_ne (tgt := 32) hx hb d_Reader_readVarint_27 (by decide) (fun hc27 => ?_) (fun hc27 => ?_)
      · have hf := im hc27 hf
        refine lv_lload_n hx hb d_Reader_readVarint_32 rfl (lv_at hl 4 rfl) ?_
        refine lv_iload hx hb d_Reader_readVarint_33 (lv_at hl 0 rfl) ?_
        refine lv_bipush (v := 127) hx hb d_Reader_readVarint_35 (by decide) ?_
        refine lv_iand hx hb d_Reader_readVarint_37 ?_
        refine lv_i2l (v := (r18.1 &&& 127).toInt64) hx hb d_Reader_readVarint_38 rfl ?_
        refine lv_bipush (v := 7) hx hb d_Reader_readVarint_39 (by decide) ?_
        refine lv_iload hx hb d_Reader_readVarint_41 (lv_at hl 5 rfl) ?_
        refine lv_imul hx hb d_Reader_readVarint_43 ?_
        refine lv_lshl (v := ((r18.1 &&& 127).toInt64) <<< (((7 : Int32) * x5).toInt64 &&& 63)) hx hb d_Reader_readVarint_44 rfl ?_
        refine lv_lor hx hb d_Reader_readVarint_45 ?_
        refine lv_lstore_n (lv' := [(3, .long (x3 ||| (((r18.1 &&& 127).toInt64) <<< (((7 : Int32) * x5).toInt64 &&& 63)))), (6, .int r18.1), (0, .ref h), (1, .int x1), (2, .int x2), (5, .int x5)]) hx hb d_Reader_readVarint_46 rfl hl (by decide) rfl (fun ls hl => ?_)
        refine lv_iload hx hb d_Reader_readVarint_47 (lv_at hl 1 rfl) ?_
        refine lv_sipush (v := 128) hx hb d_Reader_readVarint_49 (by decide) ?_
        refine lv_icmp_ge (tgt := 114) hx hb d_Reader_readVarint_52 (by decide) (fun hc52 => ?_) (fun hc52 => ?_)
        · have hf := ip hc52 hf
          refine lv_iinc (v := x5 + 1) (lv' := [(5, .int (x5 + 1)), (3, .long (x3 ||| (((r18.1 &&& 127).toInt64) <<< (((7 : Int32) * x5).toInt64 &&& 63)))), (6, .int r18.1), (0, .ref h), (1, .int x1), (2, .int x2)]) hx hb d_Reader_readVarint_114 hl (k := 5) rfl rfl (by decide) rfl (fun ls hl => ?_)
          refine lv_goto (tgt := 10) hx hb d_Reader_readVarint_117 (by decide) ?_
          exact ih r18.2 x1 x2 (x3 ||| (((r18.1 &&& 127).toInt64) <<< (((7 : Int32) * x5).toInt64 &&& 63))) (x5 + 1) res hf _ _ _ hH (lv_sub hl [3, 4, 5, 1, 0] rfl)
        · have hf := im hc52 hf
          refine lv_iload hx hb d_Reader_readVarint_55 (lv_at hl 1 rfl) ?_
          refine lv_if_ne (tgt := 69) hx hb d_Reader_readVarint_57 (by decide) (fun hc57 => ?_) (fun hc57 => ?_)
          · have hf := im hc57 hf
            exact w_Reader_readVarint_b69 l D cI cL h h_log h_log_row h_past h_past_typed C r18.2 x1 x2 (x3 ||| (((r18.1 &&& 127).toInt64) <<< (((7 : Int32) * x5).toInt64 &&& 63))) res hf _ _ _ hH (lv_sub hl [2, 3, 4, 0] rfl)
          · have hf := ip hc57 hf
            refine lv_iload hx hb d_Reader_readVarint_60 (lv_at hl 5 rfl) ?_
            refine lv_if_le (tgt := 69) hx hb d_Reader_readVarint_62 (by decide) (fun hc62 => ?_) (fun hc62 => ?_)
            · have hf := ip hc62 hf
              exact w_Reader_readVarint_b69 l D cI cL h h_log h_log_row h_past h_past_typed C r18.2 x1 x2 (x3 ||| (((r18.1 &&& 127).toInt64) <<< (((7 : Int32) * x5).toInt64 &&& 63))) res hf _ _ _ hH (lv_sub hl [2, 3, 4, 0] rfl)
            · have hf := im hc62 hf
              refine lv_iconst (v := 1) hx hb d_Reader_readVarint_65 (by decide) ?_
              refine lv_goto (tgt := 70) hx hb d_Reader_readVarint_66 (by decide) ?_
              exact w_Reader_readVarint_b70 l D cI cL h h_log h_log_row h_past h_past_typed C r18.2 x1 x2 (x3 ||| (((r18.1 &&& 127).toInt64) <<< (((7 : Int32) * x5).toInt64 &&& 63))) true res hf _ _ _ hH (lv_sub hl [2, 3, 4, 0] rfl)
      · have hf := ip hc27 hf
        refine lv_lconst (v := 0) hx hb d_Reader_readVarint_30 (by decide) ?_
        have hf := Option.some.inj hf
        subst hf
        exact rJ (v := 0) C hH d_Reader_readVarint_31
def f_Reader_readVarint (st : S_Reader) (x1 : Int32) : Option (Int64 × S_Reader) :=
  f_Reader_readVarint_b10 400 st x1 st.2.2.1 0 0
set_option maxRecDepth 100000 in
set_option maxHeartbeats 4000000 in
theorem c_Reader_readVarint (l : Launch) (D : va_G) (cI cL : ClassId) (h h_log h_log_row h_past h_past_typed : Nat) (st : S_Reader) (x1 : Int32) (res : Int64 × S_Reader) (hf : f_Reader_readVarint st x1 = some res) :
    Fn l D vwCl [(cI, .int), (cL, .long)] y_Reader_readVarint ws_Reader_readVarint { frames := 2, cells := 0, slots := 0, locals := 43 } [.ref h, .int x1] [(h, .inr (4, [.ref h_log, .ref h_past, .int st.2.2.1, .int st.2.2.2.1, .int st.2.2.2.2])), (h_log, .inr (0, [.ref h_log_row, .int st.1.2])), (h_log_row, .inl (cI, 5000, .inl st.1.1)), (h_past, .inr (1, [.ref h_past_typed, .int st.2.1.2.1, .int st.2.1.2.2])), (h_past_typed, .inl (cI, 300, .inl st.2.1.1))] (some (.long res.1)) [(h, .inr (4, [.ref h_log, .ref h_past, .int res.2.2.2.1, .int res.2.2.2.2.1, .int res.2.2.2.2.2])), (h_log, .inr (0, [.ref h_log_row, .int res.2.1.2])), (h_log_row, .inl (cI, 5000, .inl res.2.1.1)), (h_past, .inr (1, [.ref h_past_typed, .int res.2.2.1.2.1, .int res.2.2.1.2.2])), (h_past_typed, .inl (cI, 300, .inl res.2.2.1.1))] := by
  refine Fn.ofW (cc := b_Reader_readVarint) (maxL := 8) (ret := (some .long)) (by decide) rfl (Nat.le_of_ble_eq_true rfl) ?_
  intro p e s m below meth c A ls C hH hinit hl
  have hl : lv_has ls 8 [(0, .ref h), (1, .int x1)] := hl
  obtain ⟨hx, hb, hr, hml, hown, hts, hlk, hK, hA⟩ := id C
  unfold f_Reader_readVarint at hf
  refine lv_aload_n hx hb d_Reader_readVarint_0 rfl (lv_at hl 0 rfl) ?_
  refine gt (ci := 4) (v := .int st.2.2.1) C hH (iwT iw_Reader) 0 rfl rfl 2 (by decide) (.tail _ wd_117) rfl d_Reader_readVarint_1 ?_
  refine lv_istore_n (lv' := [(2, .int st.2.2.1), (0, .ref h), (1, .int x1)]) hx hb d_Reader_readVarint_4 rfl hl (by decide) rfl (fun ls hl => ?_)
  refine lv_lconst (v := 0) hx hb d_Reader_readVarint_5 (by decide) ?_
  refine lv_lstore_n (lv' := [(3, .long 0), (2, .int st.2.2.1), (0, .ref h), (1, .int x1)]) hx hb d_Reader_readVarint_6 rfl hl (by decide) rfl (fun ls hl => ?_)
  refine lv_iconst (v := 0) hx hb d_Reader_readVarint_7 (by decide) ?_
  refine lv_istore (lv' := [(5, .int 0), (3, .long 0), (2, .int st.2.2.1), (0, .ref h), (1, .int x1)]) hx hb d_Reader_readVarint_8 hl (by decide) rfl (fun ls hl => ?_)
  exact w_Reader_readVarint_b10 l D cI cL h h_log h_log_row h_past h_past_typed C 400 st x1 st.2.2.1 0 0 res hf _ _ _ hH (lv_sub hl [3, 4, 2, 1, 0] rfl)
def f_Reader_isHead (x0 : Int32) : Bool :=
  if x0 &&& 7 = 0 then (true) else if x0 &&& 7 = 1 then (if (8 : Int32) < (x0 >>> (4 &&& 31)) then (false) else (true)) else if x0 &&& 7 = 2 then (true) else if x0 &&& 7 = 3 then (if (1 : Int32) < (x0 >>> (4 &&& 31)) then (false) else (true)) else if x0 &&& 7 = 4 then (if (x0 >>> (4 &&& 31)) = 0 then (true) else (false)) else if x0 &&& 7 = 5 then (if (x0 &&& 8) = 0 then (true) else (false)) else (false)
set_option maxRecDepth 100000 in
set_option maxHeartbeats 4000000 in
theorem c_Reader_isHead (l : Launch) (D : va_G) (cI cL : ClassId) (x0 : Int32) (res : Bool) (hf : f_Reader_isHead x0 = res) :
    FnR l D vwCl [(cI, .int), (cL, .long)] y_Reader_isHead ws_Reader_isHead { frames := 0, cells := 0, slots := 0, locals := 0 } [.int x0] [] (some (.int (bI res))) := by
  refine FnR.ofW (cc := b_Reader_isHead) (maxL := 2) (ret := (some .boolean)) (by decide) rfl (Nat.le_of_ble_eq_true rfl) ?_
  intro p e s m below meth c A ls C hH hl
  have hl : lv_has ls 2 [(0, .int x0)] := hl
  obtain ⟨hx, hb, hr, hml, hown, hts, hlk, hK, hA⟩ := id C
  unfold f_Reader_isHead at hf
  refine lv_iload_n hx hb d_Reader_isHead_0 rfl (lv_at hl 0 rfl) ?_
  refine lv_iconst (v := 4) hx hb d_Reader_isHead_1 (by decide) ?_
  refine lv_ishr hx hb d_Reader_isHead_2 ?_
  refine lv_istore_n (lv' := [(1, .int (x0 >>> (4 &&& 31))), (0, .int x0)]) hx hb d_Reader_isHead_3 rfl hl (by decide) rfl (fun ls hl => ?_)
  refine lv_iload_n hx hb d_Reader_isHead_4 rfl (lv_at hl 1 rfl) ?_
  refine lv_bipush (v := 7) hx hb d_Reader_isHead_5 (by decide) ?_
  refine lv_iand hx hb d_Reader_isHead_7 ?_
  by_cases hc8_0 : x0 &&& 7 = 0
  · have hf := ip hc8_0 hf
    refine lv_tableIn (tgt := 48) hx hb d_Reader_isHead_8 (by rw [hc8_0]; decide) (by rw [hc8_0]; decide) (by rw [hc8_0]; rfl) (by decide) ?_
    refine lv_iconst (v := 1) hx hb d_Reader_isHead_48 (by decide) ?_
    subst hf
    exact rZR (v := true) C hH d_Reader_isHead_49
  have hf := im hc8_0 hf
  by_cases hc8_1 : x0 &&& 7 = 1
  · have hf := ip hc8_1 hf
    refine lv_tableIn (tgt := 50) hx hb d_Reader_isHead_8 (by rw [hc8_1]; decide) (by rw [hc8_1]; decide) (by rw [hc8_1]; rfl) (by decide) ?_
    refine lv_iload_n hx hb d_Reader_isHead_50 rfl (lv_at hl 0 rfl) ?_
    refine lv_bipush (v := 8) hx hb d_Reader_isHead_51 (by decide) ?_
    refine lv_icmp_gt (tgt := 60) hx hb d_Reader_isHead_53 (by decide) (fun hc53 => ?_) (fun hc53 => ?_)
    · have hf := ip hc53 hf
      refine lv_iconst (v := 0) hx hb d_Reader_isHead_60 (by decide) ?_
      subst hf
      exact rZR (v := false) C hH d_Reader_isHead_61
    · have hf := im hc53 hf
      refine lv_iconst (v := 1) hx hb d_Reader_isHead_56 (by decide) ?_
      refine lv_goto (tgt := 61) hx hb d_Reader_isHead_57 (by decide) ?_
      subst hf
      exact rZR (v := true) C hH d_Reader_isHead_61
  have hf := im hc8_1 hf
  by_cases hc8_2 : x0 &&& 7 = 2
  · have hf := ip hc8_2 hf
    refine lv_tableIn (tgt := 48) hx hb d_Reader_isHead_8 (by rw [hc8_2]; decide) (by rw [hc8_2]; decide) (by rw [hc8_2]; rfl) (by decide) ?_
    refine lv_iconst (v := 1) hx hb d_Reader_isHead_48 (by decide) ?_
    subst hf
    exact rZR (v := true) C hH d_Reader_isHead_49
  have hf := im hc8_2 hf
  by_cases hc8_3 : x0 &&& 7 = 3
  · have hf := ip hc8_3 hf
    refine lv_tableIn (tgt := 62) hx hb d_Reader_isHead_8 (by rw [hc8_3]; decide) (by rw [hc8_3]; decide) (by rw [hc8_3]; rfl) (by decide) ?_
    refine lv_iload_n hx hb d_Reader_isHead_62 rfl (lv_at hl 0 rfl) ?_
    refine lv_iconst (v := 1) hx hb d_Reader_isHead_63 (by decide) ?_
    refine lv_icmp_gt (tgt := 71) hx hb d_Reader_isHead_64 (by decide) (fun hc64 => ?_) (fun hc64 => ?_)
    · have hf := ip hc64 hf
      refine lv_iconst (v := 0) hx hb d_Reader_isHead_71 (by decide) ?_
      subst hf
      exact rZR (v := false) C hH d_Reader_isHead_72
    · have hf := im hc64 hf
      refine lv_iconst (v := 1) hx hb d_Reader_isHead_67 (by decide) ?_
      refine lv_goto (tgt := 72) hx hb d_Reader_isHead_68 (by decide) ?_
      subst hf
      exact rZR (v := true) C hH d_Reader_isHead_72
  have hf := im hc8_3 hf
  by_cases hc8_4 : x0 &&& 7 = 4
  · have hf := ip hc8_4 hf
    refine lv_tableIn (tgt := 73) hx hb d_Reader_isHead_8 (by rw [hc8_4]; decide) (by rw [hc8_4]; decide) (by rw [hc8_4]; rfl) (by decide) ?_
    refine lv_iload_n hx hb d_Reader_isHead_73 rfl (lv_at hl 0 rfl) ?_
    refine lv_if_ne (tgt := 81) hx hb d_Reader_isHead_74 (by decide) (fun hc74 => ?_) (fun hc74 => ?_)
    · have hf := im hc74 hf
      refine lv_iconst (v := 0) hx hb d_Reader_isHead_81 (by decide) ?_
      subst hf
      exact rZR (v := false) C hH d_Reader_isHead_82
    · have hf := ip hc74 hf
      refine lv_iconst (v := 1) hx hb d_Reader_isHead_77 (by decide) ?_
      refine lv_goto (tgt := 82) hx hb d_Reader_isHead_78 (by decide) ?_
      subst hf
      exact rZR (v := true) C hH d_Reader_isHead_82
  have hf := im hc8_4 hf
  by_cases hc8_5 : x0 &&& 7 = 5
  · have hf := ip hc8_5 hf
    refine lv_tableIn (tgt := 83) hx hb d_Reader_isHead_8 (by rw [hc8_5]; decide) (by rw [hc8_5]; decide) (by rw [hc8_5]; rfl) (by decide) ?_
    refine lv_iload_n hx hb d_Reader_isHead_83 rfl (lv_at hl 1 rfl) ?_
    refine lv_bipush (v := 8) hx hb d_Reader_isHead_84 (by decide) ?_
    refine lv_iand hx hb d_Reader_isHead_86 ?_
    refine lv_if_ne (tgt := 94) hx hb d_Reader_isHead_87 (by decide) (fun hc87 => ?_) (fun hc87 => ?_)
    · have hf := im hc87 hf
      refine lv_iconst (v := 0) hx hb d_Reader_isHead_94 (by decide) ?_
      subst hf
      exact rZR (v := false) C hH d_Reader_isHead_95
    · have hf := ip hc87 hf
      refine lv_iconst (v := 1) hx hb d_Reader_isHead_90 (by decide) ?_
      refine lv_goto (tgt := 95) hx hb d_Reader_isHead_91 (by decide) ?_
      subst hf
      exact rZR (v := true) C hH d_Reader_isHead_95
  have hf := im hc8_5 hf
  refine lv_tableOut (tgt := 96) hx hb d_Reader_isHead_8 (by have h0 := i32n (k := 0) hc8_0 (by decide); have h1 := i32n (k := 1) hc8_1 (by decide); have h2 := i32n (k := 2) hc8_2 (by decide); have h3 := i32n (k := 3) hc8_3 (by decide); have h4 := i32n (k := 4) hc8_4 (by decide); have h5 := i32n (k := 5) hc8_5 (by decide); omega) (by decide) ?_
  refine lv_iconst (v := 0) hx hb d_Reader_isHead_96 (by decide) ?_
  subst hf
  exact rZR (v := false) C hH d_Reader_isHead_97
def f_Reader_keep (st : S_Reader) (e1 : S_Events) (x2 : Int32) (x3 : Int64) (x5 : Int64) (x7 : Int32) : S_Reader × S_Events :=
  lt1 (f_Past_note st.2.1 x2 (f_Events_number e1)) (fun r9 => lt1 (f_Events_append e1 x2 x3 x5 x7) (fun r19 => ((st.1, r9, st.2.2.1, st.2.2.2.1, st.2.2.2.2), r19)))
set_option maxRecDepth 100000 in
set_option maxHeartbeats 4000000 in
theorem c_Reader_keep (l : Launch) (D : va_G) (cI cL : ClassId) (h h_log h_log_row h_past h_past_typed q1 q1_kinds q1_differences q1_partsA q1_partsB : Nat) (st : S_Reader) (e1 : S_Events) (x2 : Int32) (x3 : Int64) (x5 : Int64) (x7 : Int32) (res : S_Reader × S_Events) (hf : f_Reader_keep st e1 x2 x3 x5 x7 = res) :
    Fn l D vwCl [(cI, .int), (cL, .long)] y_Reader_keep ws_Reader_keep { frames := 1, cells := 0, slots := 0, locals := 26 } [.ref h, .ref q1, .int x2, .long x3, .long x5, .int x7] [(h, .inr (4, [.ref h_log, .ref h_past, .int st.2.2.1, .int st.2.2.2.1, .int st.2.2.2.2])), (h_log, .inr (0, [.ref h_log_row, .int st.1.2])), (h_log_row, .inl (cI, 5000, .inl st.1.1)), (h_past, .inr (1, [.ref h_past_typed, .int st.2.1.2.1, .int st.2.1.2.2])), (h_past_typed, .inl (cI, 300, .inl st.2.1.1)), (q1, .inr (2, [.ref q1_kinds, .ref q1_differences, .ref q1_partsA, .ref q1_partsB, .int e1.2.2.2.2])), (q1_kinds, .inl (cI, 300, .inl e1.1)), (q1_differences, .inl (cL, 300, .inr (.inl e1.2.1))), (q1_partsA, .inl (cL, 300, .inr (.inl e1.2.2.1))), (q1_partsB, .inl (cI, 300, .inl e1.2.2.2.1))] (none) [(h, .inr (4, [.ref h_log, .ref h_past, .int res.1.2.2.1, .int res.1.2.2.2.1, .int res.1.2.2.2.2])), (h_log, .inr (0, [.ref h_log_row, .int res.1.1.2])), (h_log_row, .inl (cI, 5000, .inl res.1.1.1)), (h_past, .inr (1, [.ref h_past_typed, .int res.1.2.1.2.1, .int res.1.2.1.2.2])), (h_past_typed, .inl (cI, 300, .inl res.1.2.1.1)), (q1, .inr (2, [.ref q1_kinds, .ref q1_differences, .ref q1_partsA, .ref q1_partsB, .int res.2.2.2.2.2])), (q1_kinds, .inl (cI, 300, .inl res.2.1)), (q1_differences, .inl (cL, 300, .inr (.inl res.2.2.1))), (q1_partsA, .inl (cL, 300, .inr (.inl res.2.2.2.1))), (q1_partsB, .inl (cI, 300, .inl res.2.2.2.2.1))] := by
  refine Fn.ofW (cc := b_Reader_keep) (maxL := 8) (ret := none) (by decide) rfl (Nat.le_of_ble_eq_true rfl) ?_
  intro p e s m below meth c A ls C hH hinit hl
  have hl : lv_has ls 8 [(0, .ref h), (1, .ref q1), (2, .int x2), (3, .long x3), (5, .long x5), (7, .int x7)] := hl
  obtain ⟨hx, hb, hr, hml, hown, hts, hlk, hK, hA⟩ := id C
  unfold f_Reader_keep at hf
  refine lv_aload_n hx hb d_Reader_keep_0 rfl (lv_at hl 0 rfl) ?_
  refine gt (ci := 4) (v := .ref h_past) C hH (iwT iw_Reader) 0 rfl rfl 1 (by decide) (.tail _ wd_116) rfl d_Reader_keep_1 ?_
  refine lv_iload_n hx hb d_Reader_keep_4 rfl (lv_at hl 2 rfl) ?_
  refine lv_aload_n hx hb d_Reader_keep_5 rfl (lv_at hl 1 rfl) ?_
  refine fnVR (rest := [.int x2, .ref h_past]) (st2 := [.int (f_Events_number e1), .int x2, .ref h_past]) C (c_Events_number l D cI cL q1 q1_kinds q1_differences q1_partsA q1_partsB e1 _ rfl) (cV hts kV_Events_number wd_307 ⟨Nat.le_of_ble_eq_true rfl, Nat.le_of_ble_eq_true rfl⟩) hH [5, 6, 7, 8, 9] rfl rfl 0 rfl rfl rfl hl.1 rfl (Nat.le_of_ble_eq_true rfl) d_Reader_keep_6 ⟨Nat.le_of_ble_eq_true rfl, Nat.le_of_ble_eq_true rfl⟩ rfl (fun H locs hH => ?_)
  obtain ⟨r9, hr9, hf⟩ := lb hf
  refine fnV (rest := []) (wr := [(h, .inr (4, [.ref h_log, .ref h_past, .int st.2.2.1, .int st.2.2.2.1, .int st.2.2.2.2])), (h_log, .inr (0, [.ref h_log_row, .int st.1.2])), (h_log_row, .inl (cI, 5000, .inl st.1.1)), (q1, .inr (2, [.ref q1_kinds, .ref q1_differences, .ref q1_partsA, .ref q1_partsB, .int e1.2.2.2.2])), (q1_kinds, .inl (cI, 300, .inl e1.1)), (q1_differences, .inl (cL, 300, .inr (.inl e1.2.1))), (q1_partsA, .inl (cL, 300, .inr (.inl e1.2.2.1))), (q1_partsB, .inl (cI, 300, .inl e1.2.2.2.1))]) (w2 := [(h, .inr (4, [.ref h_log, .ref h_past, .int st.2.2.1, .int st.2.2.2.1, .int st.2.2.2.2])), (h_log, .inr (0, [.ref h_log_row, .int st.1.2])), (h_log_row, .inl (cI, 5000, .inl st.1.1)), (h_past, .inr (1, [.ref h_past_typed, .int r9.2.1, .int r9.2.2])), (h_past_typed, .inl (cI, 300, .inl r9.1)), (q1, .inr (2, [.ref q1_kinds, .ref q1_differences, .ref q1_partsA, .ref q1_partsB, .int e1.2.2.2.2])), (q1_kinds, .inl (cI, 300, .inl e1.1)), (q1_differences, .inl (cL, 300, .inr (.inl e1.2.1))), (q1_partsA, .inl (cL, 300, .inr (.inl e1.2.2.1))), (q1_partsB, .inl (cI, 300, .inl e1.2.2.2.1))]) (st2 := []) C (c_Past_note l D cI cL h_past h_past_typed st.2.1 x2 (f_Events_number e1) r9 hr9) (cV hts kV_Past_note wd_327 ⟨Nat.le_of_ble_eq_true rfl, Nat.le_of_ble_eq_true rfl⟩) hH [3, 4] [0, 1, 2, 5, 6, 7, 8, 9] [0, 1, 2, 8, 9, 3, 4, 5, 6, 7] rfl rfl rfl rfl (by decide) rfl rfl 0 rfl rfl rfl hl.1 rfl (Nat.le_of_ble_eq_true rfl) d_Reader_keep_9 ⟨Nat.le_of_ble_eq_true rfl, Nat.le_of_ble_eq_true rfl⟩ rfl (fun H locs hH => ?_)
  refine lv_aload_n hx hb d_Reader_keep_12 rfl (lv_at hl 1 rfl) ?_
  refine lv_iload_n hx hb d_Reader_keep_13 rfl (lv_at hl 2 rfl) ?_
  refine lv_lload_n hx hb d_Reader_keep_14 rfl (lv_at hl 3 rfl) ?_
  refine lv_lload hx hb d_Reader_keep_15 (lv_at hl 4 rfl) ?_
  refine lv_iload hx hb d_Reader_keep_17 (lv_at hl 5 rfl) ?_
  obtain ⟨r19, hr19, hf⟩ := lb hf
  refine fnV (rest := []) (wr := [(h, .inr (4, [.ref h_log, .ref h_past, .int st.2.2.1, .int st.2.2.2.1, .int st.2.2.2.2])), (h_log, .inr (0, [.ref h_log_row, .int st.1.2])), (h_log_row, .inl (cI, 5000, .inl st.1.1)), (h_past, .inr (1, [.ref h_past_typed, .int r9.2.1, .int r9.2.2])), (h_past_typed, .inl (cI, 300, .inl r9.1))]) (w2 := [(h, .inr (4, [.ref h_log, .ref h_past, .int st.2.2.1, .int st.2.2.2.1, .int st.2.2.2.2])), (h_log, .inr (0, [.ref h_log_row, .int st.1.2])), (h_log_row, .inl (cI, 5000, .inl st.1.1)), (h_past, .inr (1, [.ref h_past_typed, .int r9.2.1, .int r9.2.2])), (h_past_typed, .inl (cI, 300, .inl r9.1)), (q1, .inr (2, [.ref q1_kinds, .ref q1_differences, .ref q1_partsA, .ref q1_partsB, .int r19.2.2.2.2])), (q1_kinds, .inl (cI, 300, .inl r19.1)), (q1_differences, .inl (cL, 300, .inr (.inl r19.2.1))), (q1_partsA, .inl (cL, 300, .inr (.inl r19.2.2.1))), (q1_partsB, .inl (cI, 300, .inl r19.2.2.2.1))]) (st2 := []) C (c_Events_append l D cI cL q1 q1_kinds q1_differences q1_partsA q1_partsB e1 x2 x3 x5 x7 r19 hr19) (cV hts kV_Events_append wd_328 ⟨Nat.le_of_ble_eq_true rfl, Nat.le_of_ble_eq_true rfl⟩) hH [5, 6, 7, 8, 9] [0, 1, 2, 3, 4] [0, 1, 2, 3, 4, 5, 6, 7, 8, 9] rfl rfl rfl rfl (by decide) rfl rfl 0 rfl rfl rfl hl.1 rfl (Nat.le_of_ble_eq_true rfl) d_Reader_keep_19 ⟨Nat.le_of_ble_eq_true rfl, Nat.le_of_ble_eq_true rfl⟩ rfl (fun H locs hH => ?_)
  subst hf
  exact rV C hH d_Reader_keep_22
def f_Reader_readRun_b78 : Nat → S_Reader → S_Events → Int32 → Int64 → Int32 → Option (S_Reader × S_Events)
  | 0, _, _, _, _, _ => none
  | n + 1, st, e1, x6, x7, x9 =>
  if 0 ≤ (lg_cmp x9.toInt64 x7) then (some ((st, e1))) else (if (300 : Int32) ≤ x9 then (some ((st, e1))) else (lt1 (f_Reader_keep st e1 (f_Events_kind e1 x6) (f_Events_difference e1 x6) (f_Events_a e1 x6) (f_Events_b e1 x6)) (fun r121 => f_Reader_readRun_b78 n r121.1 r121.2 x6 x7 (x9 + 1))))
set_option maxRecDepth 100000 in
set_option maxHeartbeats 4000000 in
theorem w_Reader_readRun_b78 (l : Launch) (D : va_G) (cI cL : ClassId) (h h_log h_log_row h_past h_past_typed q1 q1_kinds q1_differences q1_partsA q1_partsB : Nat) {p : Program} {e : Env} {s : State} {m : MethodId} {args : Array Value} {below : List Frame} {meth : Method} {c : Code} {A : Nat → Prop} (C : Cx p s m args meth c D vwCl [(cI, .int), (cL, .long)] A b_Reader_readRun 10 none ws_Reader_readRun y_Reader_readRun.cls) : ∀ (n : Nat) (st : S_Reader) (e1 : S_Events) (x6 : Int32) (x7 : Int64) (x9 : Int32) (res : S_Reader × S_Events), f_Reader_readRun_b78 n st e1 x6 x7 x9 = some res → ∀ (H : Heap) (locs : List Loc) (ls : Array Slot), Hp D vwCl A A s.heap H locs [(h, .inr (4, [.ref h_log, .ref h_past, .int st.2.2.1, .int st.2.2.2.1, .int st.2.2.2.2])), (h_log, .inr (0, [.ref h_log_row, .int st.1.2])), (h_log_row, .inl (cI, 5000, .inl st.1.1)), (h_past, .inr (1, [.ref h_past_typed, .int st.2.1.2.1, .int st.2.1.2.2])), (h_past_typed, .inl (cI, 300, .inl st.2.1.1)), (q1, .inr (2, [.ref q1_kinds, .ref q1_differences, .ref q1_partsA, .ref q1_partsB, .int e1.2.2.2.2])), (q1_kinds, .inl (cI, 300, .inl e1.1)), (q1_differences, .inl (cL, 300, .inr (.inl e1.2.1))), (q1_partsA, .inl (cL, 300, .inr (.inl e1.2.2.1))), (q1_partsB, .inl (cI, 300, .inl e1.2.2.2.1))] → lv_has ls 10 [(0, .ref h), (1, .ref q1), (6, .int x6), (7, .long x7), (9, .int x9)] → W p l e { frames := 3, cells := 0, slots := 0, locals := 70 } s m args below meth c H locs 0 0 (MQ below (Qw D vwCl [(cI, .int), (cL, .long)] (none) A [(h, .inr (4, [.ref h_log, .ref h_past, .int res.1.2.2.1, .int res.1.2.2.2.1, .int res.1.2.2.2.2])), (h_log, .inr (0, [.ref h_log_row, .int res.1.1.2])), (h_log_row, .inl (cI, 5000, .inl res.1.1.1)), (h_past, .inr (1, [.ref h_past_typed, .int res.1.2.1.2.1, .int res.1.2.1.2.2])), (h_past_typed, .inl (cI, 300, .inl res.1.2.1.1)), (q1, .inr (2, [.ref q1_kinds, .ref q1_differences, .ref q1_partsA, .ref q1_partsB, .int res.2.2.2.2.2])), (q1_kinds, .inl (cI, 300, .inl res.2.1)), (q1_differences, .inl (cL, 300, .inr (.inl res.2.2.1))), (q1_partsA, .inl (cL, 300, .inr (.inl res.2.2.2.1))), (q1_partsB, .inl (cI, 300, .inl res.2.2.2.2.1))]) args s 0 0 A) (F0 m 78 ls []) := by
  obtain ⟨hx, hb, hr, hml, hown, hts, hlk, hK, hA⟩ := id C
  intro n
  induction n with
  | zero => intro st e1 x6 x7 x9 res hf; cases hf
  | succ n ih =>
    intro st e1 x6 x7 x9 res hf H locs ls hH hl
    rw [f_Reader_readRun_b78] at hf
    refine lv_iload hx hb d_Reader_readRun_78 (lv_at hl 4 rfl) ?_
    refine lv_i2l (v := x9.toInt64) hx hb d_Reader_readRun_80 rfl ?_
    refine lv_lload hx hb d_Reader_readRun_81 (lv_at hl 3 rfl) ?_
    refine W.lcmp hx hb d_Reader_readRun_83 ?_
    refine lv_if_ge (tgt := 130) hx hb d_Reader_readRun_84 (by decide) (fun hc84 => ?_) (fun hc84 => ?_)
    · have hf := ip hc84 hf
      have hf := Option.some.inj hf
      subst hf
      exact rV C hH d_Reader_readRun_130
    · have hf := im hc84 hf
      refine lv_iload hx hb d_Reader_readRun_87 (lv_at hl 4 rfl) ?_
      refine lv_sipush (v := 300) hx hb d_Reader_readRun_89 (by decide) ?_
      refine lv_icmp_ge (tgt := 130) hx hb d_Reader_readRun_92 (by decide) (fun hc92 => ?_) (fun hc92 => ?_)
      · have hf := ip hc92 hf
        have hf := Option.some.inj hf
        subst hf
        exact rV C hH d_Reader_readRun_130
      · have hf := im hc92 hf
        refine lv_aload_n hx hb d_Reader_readRun_95 rfl (lv_at hl 0 rfl) ?_
        refine lv_aload_n hx hb d_Reader_readRun_96 rfl (lv_at hl 1 rfl) ?_
        refine lv_aload_n hx hb d_Reader_readRun_97 rfl (lv_at hl 1 rfl) ?_
        refine lv_iload hx hb d_Reader_readRun_98 (lv_at hl 2 rfl) ?_
        refine fnVR (rest := [.ref q1, .ref h]) (st2 := [.int (f_Events_kind e1 x6), .ref q1, .ref h]) C (c_Events_kind l D cI cL q1 q1_kinds q1_differences q1_partsA q1_partsB e1 x6 _ rfl) (cV hts kV_Events_kind wd_319 ⟨Nat.le_of_ble_eq_true rfl, Nat.le_of_ble_eq_true rfl⟩) hH [5, 6, 7, 8, 9] rfl rfl 0 rfl rfl rfl hl.1 rfl (Nat.le_of_ble_eq_true rfl) d_Reader_readRun_100 ⟨Nat.le_of_ble_eq_true rfl, Nat.le_of_ble_eq_true rfl⟩ rfl (fun H locs hH => ?_)
        refine lv_aload_n hx hb d_Reader_readRun_103 rfl (lv_at hl 1 rfl) ?_
        refine lv_iload hx hb d_Reader_readRun_104 (lv_at hl 2 rfl) ?_
        refine fnVR (rest := [.int (f_Events_kind e1 x6), .ref q1, .ref h]) (st2 := [.long (f_Events_difference e1 x6), .int (f_Events_kind e1 x6), .ref q1, .ref h]) C (c_Events_difference l D cI cL q1 q1_kinds q1_differences q1_partsA q1_partsB e1 x6 _ rfl) (cV hts kV_Events_difference wd_320 ⟨Nat.le_of_ble_eq_true rfl, Nat.le_of_ble_eq_true rfl⟩) hH [5, 6, 7, 8, 9] rfl rfl 0 rfl rfl rfl hl.1 rfl (Nat.le_of_ble_eq_true rfl) d_Reader_readRun_106 ⟨Nat.le_of_ble_eq_true rfl, Nat.le_of_ble_eq_true rfl⟩ rfl (fun H locs hH => ?_)
        refine lv_aload_n hx hb d_Reader_readRun_109 rfl (lv_at hl 1 rfl) ?_
        refine lv_iload hx hb d_Reader_readRun_110 (lv_at hl 2 rfl) ?_
        refine fnVR (rest := [.long (f_Events_difference e1 x6), .int (f_Events_kind e1 x6), .ref q1, .ref h]) (st2 := [.long (f_Events_a e1 x6), .long (f_Events_difference e1 x6), .int (f_Events_kind e1 x6), .ref q1, .ref h]) C (c_Events_a l D cI cL q1 q1_kinds q1_differences q1_partsA q1_partsB e1 x6 _ rfl) (cV hts kV_Events_a wd_321 ⟨Nat.le_of_ble_eq_true rfl, Nat.le_of_ble_eq_true rfl⟩) hH [5, 6, 7, 8, 9] rfl rfl 0 rfl rfl rfl hl.1 rfl (Nat.le_of_ble_eq_true rfl) d_Reader_readRun_112 ⟨Nat.le_of_ble_eq_true rfl, Nat.le_of_ble_eq_true rfl⟩ rfl (fun H locs hH => ?_)
        refine lv_aload_n hx hb d_Reader_readRun_115 rfl (lv_at hl 1 rfl) ?_
        refine lv_iload hx hb d_Reader_readRun_116 (lv_at hl 2 rfl) ?_
        refine fnVR (rest := [.long (f_Events_a e1 x6), .long (f_Events_difference e1 x6), .int (f_Events_kind e1 x6), .ref q1, .ref h]) (st2 := [.int (f_Events_b e1 x6), .long (f_Events_a e1 x6), .long (f_Events_difference e1 x6), .int (f_Events_kind e1 x6), .ref q1, .ref h]) C (c_Events_b l D cI cL q1 q1_kinds q1_differences q1_partsA q1_partsB e1 x6 _ rfl) (cV hts kV_Events_b wd_322 ⟨Nat.le_of_ble_eq_true rfl, Nat.le_of_ble_eq_true rfl⟩) hH [5, 6, 7, 8, 9] rfl rfl 0 rfl rfl rfl hl.1 rfl (Nat.le_of_ble_eq_true rfl) d_Reader_readRun_118 ⟨Nat.le_of_ble_eq_true rfl, Nat.le_of_ble_eq_true rfl⟩ rfl (fun H locs hH => ?_)
        obtain ⟨r121, hr121, hf⟩ := lb hf
        refine fnV (rest := []) (wr := []) (w2 := [(h, .inr (4, [.ref h_log, .ref h_past, .int r121.1.2.2.1, .int r121.1.2.2.2.1, .int r121.1.2.2.2.2])), (h_log, .inr (0, [.ref h_log_row, .int r121.1.1.2])), (h_log_row, .inl (cI, 5000, .inl r121.1.1.1)), (h_past, .inr (1, [.ref h_past_typed, .int r121.1.2.1.2.1, .int r121.1.2.1.2.2])), (h_past_typed, .inl (cI, 300, .inl r121.1.2.1.1)), (q1, .inr (2, [.ref q1_kinds, .ref q1_differences, .ref q1_partsA, .ref q1_partsB, .int r121.2.2.2.2.2])), (q1_kinds, .inl (cI, 300, .inl r121.2.1)), (q1_differences, .inl (cL, 300, .inr (.inl r121.2.2.1))), (q1_partsA, .inl (cL, 300, .inr (.inl r121.2.2.2.1))), (q1_partsB, .inl (cI, 300, .inl r121.2.2.2.2.1))]) (st2 := []) C (c_Reader_keep l D cI cL h h_log h_log_row h_past h_past_typed q1 q1_kinds q1_differences q1_partsA q1_partsB st e1 (f_Events_kind e1 x6) (f_Events_difference e1 x6) (f_Events_a e1 x6) (f_Events_b e1 x6) r121 hr121) (cV hts kV_Reader_keep wd_323 ⟨Nat.le_of_ble_eq_true rfl, Nat.le_of_ble_eq_true rfl⟩) hH [0, 1, 2, 3, 4, 5, 6, 7, 8, 9] [] [0, 1, 2, 3, 4, 5, 6, 7, 8, 9] rfl rfl rfl rfl (by decide) rfl rfl 0 rfl rfl rfl hl.1 rfl (Nat.le_of_ble_eq_true rfl) d_Reader_readRun_121 ⟨Nat.le_of_ble_eq_true rfl, Nat.le_of_ble_eq_true rfl⟩ rfl (fun H locs hH => ?_)
        refine lv_iinc (v := x9 + 1) (lv' := [(9, .int (x9 + 1)), (0, .ref h), (1, .ref q1), (6, .int x6), (7, .long x7)]) hx hb d_Reader_readRun_124 hl (k := 4) rfl rfl (by decide) rfl (fun ls hl => ?_)
        refine lv_goto (tgt := 78) hx hb d_Reader_readRun_127 (by decide) ?_
        exact ih r121.1 r121.2 x6 x7 (x9 + 1) res hf _ _ _ hH (lv_sub hl [1, 2, 3, 4, 0] rfl)
def f_Reader_readRun_b67 (st : S_Reader) (e1 : S_Events) (x6 : Int32) (x7 : Int64) : Option (S_Reader × S_Events) :=
  if (bI (f_Reader_isFine st)) = 0 then (some ((st, e1))) else (f_Reader_readRun_b78 400 st e1 x6 x7 0)
set_option maxRecDepth 100000 in
set_option maxHeartbeats 4000000 in
theorem w_Reader_readRun_b67 (l : Launch) (D : va_G) (cI cL : ClassId) (h h_log h_log_row h_past h_past_typed q1 q1_kinds q1_differences q1_partsA q1_partsB : Nat) {p : Program} {e : Env} {s : State} {m : MethodId} {args : Array Value} {below : List Frame} {meth : Method} {c : Code} {A : Nat → Prop} (C : Cx p s m args meth c D vwCl [(cI, .int), (cL, .long)] A b_Reader_readRun 10 none ws_Reader_readRun y_Reader_readRun.cls) : ∀ (st : S_Reader) (e1 : S_Events) (x6 : Int32) (x7 : Int64) (res : S_Reader × S_Events), f_Reader_readRun_b67 st e1 x6 x7 = some res → ∀ (H : Heap) (locs : List Loc) (ls : Array Slot), Hp D vwCl A A s.heap H locs [(h, .inr (4, [.ref h_log, .ref h_past, .int st.2.2.1, .int st.2.2.2.1, .int st.2.2.2.2])), (h_log, .inr (0, [.ref h_log_row, .int st.1.2])), (h_log_row, .inl (cI, 5000, .inl st.1.1)), (h_past, .inr (1, [.ref h_past_typed, .int st.2.1.2.1, .int st.2.1.2.2])), (h_past_typed, .inl (cI, 300, .inl st.2.1.1)), (q1, .inr (2, [.ref q1_kinds, .ref q1_differences, .ref q1_partsA, .ref q1_partsB, .int e1.2.2.2.2])), (q1_kinds, .inl (cI, 300, .inl e1.1)), (q1_differences, .inl (cL, 300, .inr (.inl e1.2.1))), (q1_partsA, .inl (cL, 300, .inr (.inl e1.2.2.1))), (q1_partsB, .inl (cI, 300, .inl e1.2.2.2.1))] → lv_has ls 10 [(0, .ref h), (1, .ref q1), (6, .int x6), (7, .long x7)] → W p l e { frames := 3, cells := 0, slots := 0, locals := 70 } s m args below meth c H locs 0 0 (MQ below (Qw D vwCl [(cI, .int), (cL, .long)] (none) A [(h, .inr (4, [.ref h_log, .ref h_past, .int res.1.2.2.1, .int res.1.2.2.2.1, .int res.1.2.2.2.2])), (h_log, .inr (0, [.ref h_log_row, .int res.1.1.2])), (h_log_row, .inl (cI, 5000, .inl res.1.1.1)), (h_past, .inr (1, [.ref h_past_typed, .int res.1.2.1.2.1, .int res.1.2.1.2.2])), (h_past_typed, .inl (cI, 300, .inl res.1.2.1.1)), (q1, .inr (2, [.ref q1_kinds, .ref q1_differences, .ref q1_partsA, .ref q1_partsB, .int res.2.2.2.2.2])), (q1_kinds, .inl (cI, 300, .inl res.2.1)), (q1_differences, .inl (cL, 300, .inr (.inl res.2.2.1))), (q1_partsA, .inl (cL, 300, .inr (.inl res.2.2.2.1))), (q1_partsB, .inl (cI, 300, .inl res.2.2.2.2.1))]) args s 0 0 A) (F0 m 67 ls []) := by
  obtain ⟨hx, hb, hr, hml, hown, hts, hlk, hK, hA⟩ := id C
  intro st e1 x6 x7 res hf H locs ls hH hl
  unfold f_Reader_readRun_b67 at hf
  refine lv_aload_n hx hb d_Reader_readRun_67 rfl (lv_at hl 0 rfl) ?_
  refine fnVR (rest := []) (st2 := [.int (bI (f_Reader_isFine st))]) C (c_Reader_isFine l D cI cL h h_log h_log_row h_past h_past_typed st _ rfl) (cV hts kV_Reader_isFine wd_301 ⟨Nat.le_of_ble_eq_true rfl, Nat.le_of_ble_eq_true rfl⟩) hH [0, 1, 2, 3, 4] rfl rfl 0 rfl rfl rfl hl.1 rfl (Nat.le_of_ble_eq_true rfl) d_Reader_readRun_68 ⟨Nat.le_of_ble_eq_true rfl, Nat.le_of_ble_eq_true rfl⟩ rfl (fun H locs hH => ?_)
  refine lv_if_ne (tgt := 75) hx hb d_Reader_readRun_71 (by decide) (fun hc71 => ?_) (fun hc71 => ?_)
  · have hf := im hc71 hf
    refine lv_iconst (v := 0) hx hb d_Reader_readRun_75 (by decide) ?_
    refine lv_istore (lv' := [(9, .int 0), (0, .ref h), (1, .ref q1), (6, .int x6), (7, .long x7)]) hx hb d_Reader_readRun_76 hl (by decide) rfl (fun ls hl => ?_)
    exact w_Reader_readRun_b78 l D cI cL h h_log h_log_row h_past h_past_typed q1 q1_kinds q1_differences q1_partsA q1_partsB C 400 st e1 x6 x7 0 res hf _ _ _ hH (lv_sub hl [1, 2, 3, 4, 0] rfl)
  · have hf := ip hc71 hf
    have hf := Option.some.inj hf
    subst hf
    exact rV C hH d_Reader_readRun_74
def f_Reader_readRun_b37 (st : S_Reader) (e1 : S_Events) (x2 : Int64) (x5 : Int32) (x6 : Int32) (z0 : Int64) : Option (S_Reader × S_Events) :=
  if (bI (f_Reader_isFine st)) = 0 then (f_Reader_readRun_b67 st e1 x6 z0) else (if (lg_cmp z0 (x2 - ((f_Events_number e1).toInt64))) ≤ 0 then (f_Reader_readRun_b67 st e1 x6 z0) else (lt1 (f_Reader_fail st 6 x5) (fun r64 => f_Reader_readRun_b67 r64 e1 x6 z0)))
set_option maxRecDepth 100000 in
set_option maxHeartbeats 4000000 in
theorem w_Reader_readRun_b37 (l : Launch) (D : va_G) (cI cL : ClassId) (h h_log h_log_row h_past h_past_typed q1 q1_kinds q1_differences q1_partsA q1_partsB : Nat) {p : Program} {e : Env} {s : State} {m : MethodId} {args : Array Value} {below : List Frame} {meth : Method} {c : Code} {A : Nat → Prop} (C : Cx p s m args meth c D vwCl [(cI, .int), (cL, .long)] A b_Reader_readRun 10 none ws_Reader_readRun y_Reader_readRun.cls) : ∀ (st : S_Reader) (e1 : S_Events) (x2 : Int64) (x5 : Int32) (x6 : Int32) (z0 : Int64) (res : S_Reader × S_Events), f_Reader_readRun_b37 st e1 x2 x5 x6 z0 = some res → ∀ (H : Heap) (locs : List Loc) (ls : Array Slot), Hp D vwCl A A s.heap H locs [(h, .inr (4, [.ref h_log, .ref h_past, .int st.2.2.1, .int st.2.2.2.1, .int st.2.2.2.2])), (h_log, .inr (0, [.ref h_log_row, .int st.1.2])), (h_log_row, .inl (cI, 5000, .inl st.1.1)), (h_past, .inr (1, [.ref h_past_typed, .int st.2.1.2.1, .int st.2.1.2.2])), (h_past_typed, .inl (cI, 300, .inl st.2.1.1)), (q1, .inr (2, [.ref q1_kinds, .ref q1_differences, .ref q1_partsA, .ref q1_partsB, .int e1.2.2.2.2])), (q1_kinds, .inl (cI, 300, .inl e1.1)), (q1_differences, .inl (cL, 300, .inr (.inl e1.2.1))), (q1_partsA, .inl (cL, 300, .inr (.inl e1.2.2.1))), (q1_partsB, .inl (cI, 300, .inl e1.2.2.2.1))] → lv_has ls 10 [(0, .ref h), (1, .ref q1), (2, .long x2), (5, .int x5), (6, .int x6)] → W p l e { frames := 3, cells := 0, slots := 0, locals := 70 } s m args below meth c H locs 0 0 (MQ below (Qw D vwCl [(cI, .int), (cL, .long)] (none) A [(h, .inr (4, [.ref h_log, .ref h_past, .int res.1.2.2.1, .int res.1.2.2.2.1, .int res.1.2.2.2.2])), (h_log, .inr (0, [.ref h_log_row, .int res.1.1.2])), (h_log_row, .inl (cI, 5000, .inl res.1.1.1)), (h_past, .inr (1, [.ref h_past_typed, .int res.1.2.1.2.1, .int res.1.2.1.2.2])), (h_past_typed, .inl (cI, 300, .inl res.1.2.1.1)), (q1, .inr (2, [.ref q1_kinds, .ref q1_differences, .ref q1_partsA, .ref q1_partsB, .int res.2.2.2.2.2])), (q1_kinds, .inl (cI, 300, .inl res.2.1)), (q1_differences, .inl (cL, 300, .inr (.inl res.2.2.1))), (q1_partsA, .inl (cL, 300, .inr (.inl res.2.2.2.1))), (q1_partsB, .inl (cI, 300, .inl res.2.2.2.2.1))]) args s 0 0 A) (F0 m 37 ls [.long z0]) := by
  obtain ⟨hx, hb, hr, hml, hown, hts, hlk, hK, hA⟩ := id C
  intro st e1 x2 x5 x6 z0 res hf H locs ls hH hl
  unfold f_Reader_readRun_b37 at hf
  refine lv_lstore (lv' := [(7, .long z0), (0, .ref h), (1, .ref q1), (2, .long x2), (5, .int x5), (6, .int x6)]) hx hb d_Reader_readRun_37 hl (by decide) rfl (fun ls hl => ?_)
  refine lv_aload_n hx hb d_Reader_readRun_39 rfl (lv_at hl 1 rfl) ?_
  refine fnVR (rest := []) (st2 := [.int (bI (f_Reader_isFine st))]) C (c_Reader_isFine l D cI cL h h_log h_log_row h_past h_past_typed st _ rfl) (cV hts kV_Reader_isFine wd_301 ⟨Nat.le_of_ble_eq_true rfl, Nat.le_of_ble_eq_true rfl⟩) hH [0, 1, 2, 3, 4] rfl rfl 0 rfl rfl rfl hl.1 rfl (Nat.le_of_ble_eq_true rfl) d_Reader_readRun_40 ⟨Nat.le_of_ble_eq_true rfl, Nat.le_of_ble_eq_true rfl⟩ rfl (fun H locs hH => ?_)
  refine lv_if_eq (tgt := 67) hx hb d_Reader_readRun_43 (by decide) (fun hc43 => ?_) (fun hc43 => ?_)
  · have hf := ip hc43 hf
    exact w_Reader_readRun_b67 l D cI cL h h_log h_log_row h_past h_past_typed q1 q1_kinds q1_differences q1_partsA q1_partsB C st e1 x6 z0 res hf _ _ _ hH (lv_sub hl [1, 2, 5, 0] rfl)
  · have hf := im hc43 hf
    refine lv_lload hx hb d_Reader_readRun_46 (lv_at hl 0 rfl) ?_
    refine lv_lload_n hx hb d_Reader_readRun_48 rfl (lv_at hl 3 rfl) ?_
    refine lv_aload_n hx hb d_Reader_readRun_49 rfl (lv_at hl 2 rfl) ?_
    refine fnVR (rest := [.long x2, .long z0]) (st2 := [.int (f_Events_number e1), .long x2, .long z0]) C (c_Events_number l D cI cL q1 q1_kinds q1_differences q1_partsA q1_partsB e1 _ rfl) (cV hts kV_Events_number wd_307 ⟨Nat.le_of_ble_eq_true rfl, Nat.le_of_ble_eq_true rfl⟩) hH [5, 6, 7, 8, 9] rfl rfl 0 rfl rfl rfl hl.1 rfl (Nat.le_of_ble_eq_true rfl) d_Reader_readRun_50 ⟨Nat.le_of_ble_eq_true rfl, Nat.le_of_ble_eq_true rfl⟩ rfl (fun H locs hH => ?_)
    refine lv_i2l (v := (f_Events_number e1).toInt64) hx hb d_Reader_readRun_53 rfl ?_
    refine lv_lsub hx hb d_Reader_readRun_54 ?_
    refine W.lcmp hx hb d_Reader_readRun_55 ?_
    refine lv_if_le (tgt := 67) hx hb d_Reader_readRun_56 (by decide) (fun hc56 => ?_) (fun hc56 => ?_)
    · have hf := ip hc56 hf
      exact w_Reader_readRun_b67 l D cI cL h h_log h_log_row h_past h_past_typed q1 q1_kinds q1_differences q1_partsA q1_partsB C st e1 x6 z0 res hf _ _ _ hH (lv_sub hl [1, 2, 5, 0] rfl)
    · have hf := im hc56 hf
      refine lv_aload_n hx hb d_Reader_readRun_59 rfl (lv_at hl 1 rfl) ?_
      refine lv_bipush (v := 6) hx hb d_Reader_readRun_60 (by decide) ?_
      refine lv_iload hx hb d_Reader_readRun_62 (lv_at hl 4 rfl) ?_
      obtain ⟨r64, hr64, hf⟩ := lb hf
      refine fnV (rest := []) (wr := [(q1, .inr (2, [.ref q1_kinds, .ref q1_differences, .ref q1_partsA, .ref q1_partsB, .int e1.2.2.2.2])), (q1_kinds, .inl (cI, 300, .inl e1.1)), (q1_differences, .inl (cL, 300, .inr (.inl e1.2.1))), (q1_partsA, .inl (cL, 300, .inr (.inl e1.2.2.1))), (q1_partsB, .inl (cI, 300, .inl e1.2.2.2.1))]) (w2 := [(h, .inr (4, [.ref h_log, .ref h_past, .int r64.2.2.1, .int r64.2.2.2.1, .int r64.2.2.2.2])), (h_log, .inr (0, [.ref h_log_row, .int r64.1.2])), (h_log_row, .inl (cI, 5000, .inl r64.1.1)), (h_past, .inr (1, [.ref h_past_typed, .int r64.2.1.2.1, .int r64.2.1.2.2])), (h_past_typed, .inl (cI, 300, .inl r64.2.1.1)), (q1, .inr (2, [.ref q1_kinds, .ref q1_differences, .ref q1_partsA, .ref q1_partsB, .int e1.2.2.2.2])), (q1_kinds, .inl (cI, 300, .inl e1.1)), (q1_differences, .inl (cL, 300, .inr (.inl e1.2.1))), (q1_partsA, .inl (cL, 300, .inr (.inl e1.2.2.1))), (q1_partsB, .inl (cI, 300, .inl e1.2.2.2.1))]) (st2 := []) C (c_Reader_fail l D cI cL h h_log h_log_row h_past h_past_typed st 6 x5 r64 hr64) (cV hts kV_Reader_fail wd_293 ⟨Nat.le_of_ble_eq_true rfl, Nat.le_of_ble_eq_true rfl⟩) hH [0, 1, 2, 3, 4] [5, 6, 7, 8, 9] [5, 6, 7, 8, 9, 0, 1, 2, 3, 4] rfl rfl rfl rfl (by decide) rfl rfl 0 rfl rfl rfl hl.1 rfl (Nat.le_of_ble_eq_true rfl) d_Reader_readRun_64 ⟨Nat.le_of_ble_eq_true rfl, Nat.le_of_ble_eq_true rfl⟩ rfl (fun H locs hH => ?_)
      exact w_Reader_readRun_b67 l D cI cL h h_log h_log_row h_past h_past_typed q1 q1_kinds q1_differences q1_partsA q1_partsB C r64 e1 x6 z0 res hf _ _ _ hH (lv_sub hl [1, 2, 5, 0] rfl)
def f_Reader_readRun (st : S_Reader) (e1 : S_Events) (x2 : Int64) (x4 : Int32) (x5 : Int32) : Option (S_Reader × S_Events) :=
  if 0 ≤ ((f_Events_number e1) - 1) then (if x4 = 0 then ((f_Reader_readVarint st 1).bind (fun r28 => f_Reader_readRun_b37 r28.2 e1 x2 x5 ((f_Events_number e1) - 1) r28.1)) else (f_Reader_readRun_b37 st e1 x2 x5 ((f_Events_number e1) - 1) x4.toInt64)) else (lt1 (f_Reader_fail st 4 x5) (fun r17 => some ((r17, e1))))
set_option maxRecDepth 100000 in
set_option maxHeartbeats 4000000 in
theorem c_Reader_readRun (l : Launch) (D : va_G) (cI cL : ClassId) (h h_log h_log_row h_past h_past_typed q1 q1_kinds q1_differences q1_partsA q1_partsB : Nat) (st : S_Reader) (e1 : S_Events) (x2 : Int64) (x4 : Int32) (x5 : Int32) (res : S_Reader × S_Events) (hf : f_Reader_readRun st e1 x2 x4 x5 = some res) :
    Fn l D vwCl [(cI, .int), (cL, .long)] y_Reader_readRun ws_Reader_readRun { frames := 3, cells := 0, slots := 0, locals := 70 } [.ref h, .ref q1, .long x2, .int x4, .int x5] [(h, .inr (4, [.ref h_log, .ref h_past, .int st.2.2.1, .int st.2.2.2.1, .int st.2.2.2.2])), (h_log, .inr (0, [.ref h_log_row, .int st.1.2])), (h_log_row, .inl (cI, 5000, .inl st.1.1)), (h_past, .inr (1, [.ref h_past_typed, .int st.2.1.2.1, .int st.2.1.2.2])), (h_past_typed, .inl (cI, 300, .inl st.2.1.1)), (q1, .inr (2, [.ref q1_kinds, .ref q1_differences, .ref q1_partsA, .ref q1_partsB, .int e1.2.2.2.2])), (q1_kinds, .inl (cI, 300, .inl e1.1)), (q1_differences, .inl (cL, 300, .inr (.inl e1.2.1))), (q1_partsA, .inl (cL, 300, .inr (.inl e1.2.2.1))), (q1_partsB, .inl (cI, 300, .inl e1.2.2.2.1))] (none) [(h, .inr (4, [.ref h_log, .ref h_past, .int res.1.2.2.1, .int res.1.2.2.2.1, .int res.1.2.2.2.2])), (h_log, .inr (0, [.ref h_log_row, .int res.1.1.2])), (h_log_row, .inl (cI, 5000, .inl res.1.1.1)), (h_past, .inr (1, [.ref h_past_typed, .int res.1.2.1.2.1, .int res.1.2.1.2.2])), (h_past_typed, .inl (cI, 300, .inl res.1.2.1.1)), (q1, .inr (2, [.ref q1_kinds, .ref q1_differences, .ref q1_partsA, .ref q1_partsB, .int res.2.2.2.2.2])), (q1_kinds, .inl (cI, 300, .inl res.2.1)), (q1_differences, .inl (cL, 300, .inr (.inl res.2.2.1))), (q1_partsA, .inl (cL, 300, .inr (.inl res.2.2.2.1))), (q1_partsB, .inl (cI, 300, .inl res.2.2.2.2.1))] := by
  refine Fn.ofW (cc := b_Reader_readRun) (maxL := 10) (ret := none) (by decide) rfl (Nat.le_of_ble_eq_true rfl) ?_
  intro p e s m below meth c A ls C hH hinit hl
  have hl : lv_has ls 10 [(0, .ref h), (1, .ref q1), (2, .long x2), (4, .int x4), (5, .int x5)] := hl
  obtain ⟨hx, hb, hr, hml, hown, hts, hlk, hK, hA⟩ := id C
  unfold f_Reader_readRun at hf
  refine lv_aload_n hx hb d_Reader_readRun_0 rfl (lv_at hl 1 rfl) ?_
  refine fnVR (rest := []) (st2 := [.int (f_Events_number e1)]) C (c_Events_number l D cI cL q1 q1_kinds q1_differences q1_partsA q1_partsB e1 _ rfl) (cV hts kV_Events_number wd_307 ⟨Nat.le_of_ble_eq_true rfl, Nat.le_of_ble_eq_true rfl⟩) hH [5, 6, 7, 8, 9] rfl rfl 0 rfl rfl rfl hl.1 rfl (Nat.le_of_ble_eq_true rfl) d_Reader_readRun_1 ⟨Nat.le_of_ble_eq_true rfl, Nat.le_of_ble_eq_true rfl⟩ rfl (fun H locs hH => ?_)
  refine lv_iconst (v := 1) hx hb d_Reader_readRun_4 (by decide) ?_
  refine lv_isub hx hb d_Reader_readRun_5 ?_
  refine lv_istore (lv' := [(6, .int ((f_Events_number e1) - 1)), (0, .ref h), (1, .ref q1), (2, .long x2), (4, .int x4), (5, .int x5)]) hx hb d_Reader_readRun_6 hl (by decide) rfl (fun ls hl => ?_)
  refine lv_iload hx hb d_Reader_readRun_8 (lv_at hl 0 rfl) ?_
  refine lv_if_ge (tgt := 21) hx hb d_Reader_readRun_10 (by decide) (fun hc10 => ?_) (fun hc10 => ?_)
  · have hf := ip hc10 hf
    refine lv_iload hx hb d_Reader_readRun_21 (lv_at hl 4 rfl) ?_
    refine lv_if_ne (tgt := 34) hx hb d_Reader_readRun_23 (by decide) (fun hc23 => ?_) (fun hc23 => ?_)
    · have hf := im hc23 hf
      refine lv_iload hx hb d_Reader_readRun_34 (lv_at hl 4 rfl) ?_
      refine lv_i2l (v := x4.toInt64) hx hb d_Reader_readRun_36 rfl ?_
      exact w_Reader_readRun_b37 l D cI cL h h_log h_log_row h_past h_past_typed q1 q1_kinds q1_differences q1_partsA q1_partsB C st e1 x2 x5 ((f_Events_number e1) - 1) x4.toInt64 res hf _ _ _ hH (lv_sub hl [1, 2, 3, 5, 0] rfl)
    · have hf := ip hc23 hf
      refine lv_aload_n hx hb d_Reader_readRun_26 rfl (lv_at hl 1 rfl) ?_
      refine lv_iconst (v := 1) hx hb d_Reader_readRun_27 (by decide) ?_
      obtain ⟨r28, hr28, hf⟩ := ob hf
      refine fnV (rest := []) (wr := [(q1, .inr (2, [.ref q1_kinds, .ref q1_differences, .ref q1_partsA, .ref q1_partsB, .int e1.2.2.2.2])), (q1_kinds, .inl (cI, 300, .inl e1.1)), (q1_differences, .inl (cL, 300, .inr (.inl e1.2.1))), (q1_partsA, .inl (cL, 300, .inr (.inl e1.2.2.1))), (q1_partsB, .inl (cI, 300, .inl e1.2.2.2.1))]) (w2 := [(h, .inr (4, [.ref h_log, .ref h_past, .int r28.2.2.2.1, .int r28.2.2.2.2.1, .int r28.2.2.2.2.2])), (h_log, .inr (0, [.ref h_log_row, .int r28.2.1.2])), (h_log_row, .inl (cI, 5000, .inl r28.2.1.1)), (h_past, .inr (1, [.ref h_past_typed, .int r28.2.2.1.2.1, .int r28.2.2.1.2.2])), (h_past_typed, .inl (cI, 300, .inl r28.2.2.1.1)), (q1, .inr (2, [.ref q1_kinds, .ref q1_differences, .ref q1_partsA, .ref q1_partsB, .int e1.2.2.2.2])), (q1_kinds, .inl (cI, 300, .inl e1.1)), (q1_differences, .inl (cL, 300, .inr (.inl e1.2.1))), (q1_partsA, .inl (cL, 300, .inr (.inl e1.2.2.1))), (q1_partsB, .inl (cI, 300, .inl e1.2.2.2.1))]) (st2 := [.long r28.1]) C (c_Reader_readVarint l D cI cL h h_log h_log_row h_past h_past_typed st 1 r28 hr28) (cV hts kV_Reader_readVarint wd_281 ⟨Nat.le_of_ble_eq_true rfl, Nat.le_of_ble_eq_true rfl⟩) hH [0, 1, 2, 3, 4] [5, 6, 7, 8, 9] [5, 6, 7, 8, 9, 0, 1, 2, 3, 4] rfl rfl rfl rfl (by decide) rfl rfl 0 rfl rfl rfl hl.1 rfl (Nat.le_of_ble_eq_true rfl) d_Reader_readRun_28 ⟨Nat.le_of_ble_eq_true rfl, Nat.le_of_ble_eq_true rfl⟩ rfl (fun H locs hH => ?_)
      refine lv_goto (tgt := 37) hx hb d_Reader_readRun_31 (by decide) ?_
      exact w_Reader_readRun_b37 l D cI cL h h_log h_log_row h_past h_past_typed q1 q1_kinds q1_differences q1_partsA q1_partsB C r28.2 e1 x2 x5 ((f_Events_number e1) - 1) r28.1 res hf _ _ _ hH (lv_sub hl [1, 2, 3, 5, 0] rfl)
  · have hf := im hc10 hf
    refine lv_aload_n hx hb d_Reader_readRun_13 rfl (lv_at hl 1 rfl) ?_
    refine lv_iconst (v := 4) hx hb d_Reader_readRun_14 (by decide) ?_
    refine lv_iload hx hb d_Reader_readRun_15 (lv_at hl 5 rfl) ?_
    obtain ⟨r17, hr17, hf⟩ := lb hf
    refine fnV (rest := []) (wr := [(q1, .inr (2, [.ref q1_kinds, .ref q1_differences, .ref q1_partsA, .ref q1_partsB, .int e1.2.2.2.2])), (q1_kinds, .inl (cI, 300, .inl e1.1)), (q1_differences, .inl (cL, 300, .inr (.inl e1.2.1))), (q1_partsA, .inl (cL, 300, .inr (.inl e1.2.2.1))), (q1_partsB, .inl (cI, 300, .inl e1.2.2.2.1))]) (w2 := [(h, .inr (4, [.ref h_log, .ref h_past, .int r17.2.2.1, .int r17.2.2.2.1, .int r17.2.2.2.2])), (h_log, .inr (0, [.ref h_log_row, .int r17.1.2])), (h_log_row, .inl (cI, 5000, .inl r17.1.1)), (h_past, .inr (1, [.ref h_past_typed, .int r17.2.1.2.1, .int r17.2.1.2.2])), (h_past_typed, .inl (cI, 300, .inl r17.2.1.1)), (q1, .inr (2, [.ref q1_kinds, .ref q1_differences, .ref q1_partsA, .ref q1_partsB, .int e1.2.2.2.2])), (q1_kinds, .inl (cI, 300, .inl e1.1)), (q1_differences, .inl (cL, 300, .inr (.inl e1.2.1))), (q1_partsA, .inl (cL, 300, .inr (.inl e1.2.2.1))), (q1_partsB, .inl (cI, 300, .inl e1.2.2.2.1))]) (st2 := []) C (c_Reader_fail l D cI cL h h_log h_log_row h_past h_past_typed st 4 x5 r17 hr17) (cV hts kV_Reader_fail wd_293 ⟨Nat.le_of_ble_eq_true rfl, Nat.le_of_ble_eq_true rfl⟩) hH [0, 1, 2, 3, 4] [5, 6, 7, 8, 9] [5, 6, 7, 8, 9, 0, 1, 2, 3, 4] rfl rfl rfl rfl (by decide) rfl rfl 0 rfl rfl rfl hl.1 rfl (Nat.le_of_ble_eq_true rfl) d_Reader_readRun_17 ⟨Nat.le_of_ble_eq_true rfl, Nat.le_of_ble_eq_true rfl⟩ rfl (fun H locs hH => ?_)
    have hf := Option.some.inj hf
    subst hf
    exact rV C hH d_Reader_readRun_20
def f_Reader_isMeaningAnother_b9  (x0 : Int32) (x1 : Int32) : Bool :=
  if x0 = (3 : Int32) then (if x1 = (1 : Int32) then (true) else (false)) else (false)
set_option maxRecDepth 100000 in
set_option maxHeartbeats 4000000 in
theorem w_Reader_isMeaningAnother_b9 (l : Launch) (D : va_G) (cI cL : ClassId) {p : Program} {e : Env} {s : State} {m : MethodId} {args : Array Value} {below : List Frame} {meth : Method} {c : Code} {A : Nat → Prop} (C : Cx p s m args meth c D vwCl [(cI, .int), (cL, .long)] A b_Reader_isMeaningAnother 2 (some .boolean) ws_Reader_isMeaningAnother y_Reader_isMeaningAnother.cls) : ∀  (x0 : Int32) (x1 : Int32) (res : Bool), f_Reader_isMeaningAnother_b9 x0 x1 = res → ∀ (H : Heap) (locs : List Loc) (ls : Array Slot), Hp D vwCl (fun _ => True) A s.heap H locs [] → lv_has ls 2 [(0, .int x0), (1, .int x1)] → W p l e { frames := 0, cells := 0, slots := 0, locals := 0 } s m args below meth c H locs 0 0 (MQ below (QR (some (.int (bI res))) A) args s 0 0 A) (F0 m 9 ls []) := by
  obtain ⟨hx, hb, hr, hml, hown, hts, hlk, hK, hA⟩ := id C
  intro x0 x1 res hf H locs ls hH hl
  unfold f_Reader_isMeaningAnother_b9 at hf
  refine lv_iload_n hx hb d_Reader_isMeaningAnother_9 rfl (lv_at hl 0 rfl) ?_
  refine lv_iconst (v := 3) hx hb d_Reader_isMeaningAnother_10 (by decide) ?_
  refine lv_icmp_ne (tgt := 23) hx hb d_Reader_isMeaningAnother_11 (by decide) (fun hc11 => ?_) (fun hc11 => ?_)
  · have hf := im hc11 hf
    refine lv_iconst (v := 0) hx hb d_Reader_isMeaningAnother_23 (by decide) ?_
    subst hf
    exact rZR (v := false) C hH d_Reader_isMeaningAnother_24
  · have hf := ip hc11 hf
    refine lv_iload_n hx hb d_Reader_isMeaningAnother_14 rfl (lv_at hl 1 rfl) ?_
    refine lv_iconst (v := 1) hx hb d_Reader_isMeaningAnother_15 (by decide) ?_
    refine lv_icmp_ne (tgt := 23) hx hb d_Reader_isMeaningAnother_16 (by decide) (fun hc16 => ?_) (fun hc16 => ?_)
    · have hf := im hc16 hf
      refine lv_iconst (v := 0) hx hb d_Reader_isMeaningAnother_23 (by decide) ?_
      subst hf
      exact rZR (v := false) C hH d_Reader_isMeaningAnother_24
    · have hf := ip hc16 hf
      refine lv_iconst (v := 1) hx hb d_Reader_isMeaningAnother_19 (by decide) ?_
      refine lv_goto (tgt := 24) hx hb d_Reader_isMeaningAnother_20 (by decide) ?_
      subst hf
      exact rZR (v := true) C hH d_Reader_isMeaningAnother_24
def f_Reader_isMeaningAnother (x0 : Int32) (x1 : Int32) : Bool :=
  if x0 = (1 : Int32) then (if x1 = 0 then (true) else (f_Reader_isMeaningAnother_b9 x0 x1)) else (f_Reader_isMeaningAnother_b9 x0 x1)
set_option maxRecDepth 100000 in
set_option maxHeartbeats 4000000 in
theorem c_Reader_isMeaningAnother (l : Launch) (D : va_G) (cI cL : ClassId) (x0 : Int32) (x1 : Int32) (res : Bool) (hf : f_Reader_isMeaningAnother x0 x1 = res) :
    FnR l D vwCl [(cI, .int), (cL, .long)] y_Reader_isMeaningAnother ws_Reader_isMeaningAnother { frames := 0, cells := 0, slots := 0, locals := 0 } [.int x0, .int x1] [] (some (.int (bI res))) := by
  refine FnR.ofW (cc := b_Reader_isMeaningAnother) (maxL := 2) (ret := (some .boolean)) (by decide) rfl (Nat.le_of_ble_eq_true rfl) ?_
  intro p e s m below meth c A ls C hH hl
  have hl : lv_has ls 2 [(0, .int x0), (1, .int x1)] := hl
  obtain ⟨hx, hb, hr, hml, hown, hts, hlk, hK, hA⟩ := id C
  unfold f_Reader_isMeaningAnother at hf
  refine lv_iload_n hx hb d_Reader_isMeaningAnother_0 rfl (lv_at hl 0 rfl) ?_
  refine lv_iconst (v := 1) hx hb d_Reader_isMeaningAnother_1 (by decide) ?_
  refine lv_icmp_ne (tgt := 9) hx hb d_Reader_isMeaningAnother_2 (by decide) (fun hc2 => ?_) (fun hc2 => ?_)
  · have hf := im hc2 hf
    exact w_Reader_isMeaningAnother_b9 l D cI cL  C x0 x1 res hf _ _ _ hH (lv_sub hl [0, 1] rfl)
  · have hf := ip hc2 hf
    refine lv_iload_n hx hb d_Reader_isMeaningAnother_5 rfl (lv_at hl 1 rfl) ?_
    refine lv_if_eq (tgt := 19) hx hb d_Reader_isMeaningAnother_6 (by decide) (fun hc6 => ?_) (fun hc6 => ?_)
    · have hf := ip hc6 hf
      refine lv_iconst (v := 1) hx hb d_Reader_isMeaningAnother_19 (by decide) ?_
      refine lv_goto (tgt := 24) hx hb d_Reader_isMeaningAnother_20 (by decide) ?_
      subst hf
      exact rZR (v := true) C hH d_Reader_isMeaningAnother_24
    · have hf := im hc6 hf
      exact w_Reader_isMeaningAnother_b9 l D cI cL  C x0 x1 res hf _ _ _ hH (lv_sub hl [0, 1] rfl)
def f_Reader_readLikeAnother_b52 (st : S_Reader) (e1 : S_Events) (x2 : Int32) (x3 : Int64) (x6 : Int32) : Option (S_Reader × S_Events) :=
  if (bI (f_Reader_isFine st)) = 0 then (some ((st, e1))) else (lt1 (f_Reader_keep st e1 x2 x3 (f_Events_a e1 x6) (f_Events_b e1 x6)) (fun r75 => some ((r75.1, r75.2))))
set_option maxRecDepth 100000 in
set_option maxHeartbeats 4000000 in
theorem w_Reader_readLikeAnother_b52 (l : Launch) (D : va_G) (cI cL : ClassId) (h h_log h_log_row h_past h_past_typed q1 q1_kinds q1_differences q1_partsA q1_partsB : Nat) {p : Program} {e : Env} {s : State} {m : MethodId} {args : Array Value} {below : List Frame} {meth : Method} {c : Code} {A : Nat → Prop} (C : Cx p s m args meth c D vwCl [(cI, .int), (cL, .long)] A b_Reader_readLikeAnother 7 none ws_Reader_readLikeAnother y_Reader_readLikeAnother.cls) : ∀ (st : S_Reader) (e1 : S_Events) (x2 : Int32) (x3 : Int64) (x6 : Int32) (res : S_Reader × S_Events), f_Reader_readLikeAnother_b52 st e1 x2 x3 x6 = some res → ∀ (H : Heap) (locs : List Loc) (ls : Array Slot), Hp D vwCl A A s.heap H locs [(h, .inr (4, [.ref h_log, .ref h_past, .int st.2.2.1, .int st.2.2.2.1, .int st.2.2.2.2])), (h_log, .inr (0, [.ref h_log_row, .int st.1.2])), (h_log_row, .inl (cI, 5000, .inl st.1.1)), (h_past, .inr (1, [.ref h_past_typed, .int st.2.1.2.1, .int st.2.1.2.2])), (h_past_typed, .inl (cI, 300, .inl st.2.1.1)), (q1, .inr (2, [.ref q1_kinds, .ref q1_differences, .ref q1_partsA, .ref q1_partsB, .int e1.2.2.2.2])), (q1_kinds, .inl (cI, 300, .inl e1.1)), (q1_differences, .inl (cL, 300, .inr (.inl e1.2.1))), (q1_partsA, .inl (cL, 300, .inr (.inl e1.2.2.1))), (q1_partsB, .inl (cI, 300, .inl e1.2.2.2.1))] → lv_has ls 7 [(0, .ref h), (1, .ref q1), (2, .int x2), (3, .long x3), (6, .int x6)] → W p l e { frames := 3, cells := 0, slots := 0, locals := 70 } s m args below meth c H locs 0 0 (MQ below (Qw D vwCl [(cI, .int), (cL, .long)] (none) A [(h, .inr (4, [.ref h_log, .ref h_past, .int res.1.2.2.1, .int res.1.2.2.2.1, .int res.1.2.2.2.2])), (h_log, .inr (0, [.ref h_log_row, .int res.1.1.2])), (h_log_row, .inl (cI, 5000, .inl res.1.1.1)), (h_past, .inr (1, [.ref h_past_typed, .int res.1.2.1.2.1, .int res.1.2.1.2.2])), (h_past_typed, .inl (cI, 300, .inl res.1.2.1.1)), (q1, .inr (2, [.ref q1_kinds, .ref q1_differences, .ref q1_partsA, .ref q1_partsB, .int res.2.2.2.2.2])), (q1_kinds, .inl (cI, 300, .inl res.2.1)), (q1_differences, .inl (cL, 300, .inr (.inl res.2.2.1))), (q1_partsA, .inl (cL, 300, .inr (.inl res.2.2.2.1))), (q1_partsB, .inl (cI, 300, .inl res.2.2.2.2.1))]) args s 0 0 A) (F0 m 52 ls []) := by
  obtain ⟨hx, hb, hr, hml, hown, hts, hlk, hK, hA⟩ := id C
  intro st e1 x2 x3 x6 res hf H locs ls hH hl
  unfold f_Reader_readLikeAnother_b52 at hf
  refine lv_aload_n hx hb d_Reader_readLikeAnother_52 rfl (lv_at hl 0 rfl) ?_
  refine fnVR (rest := []) (st2 := [.int (bI (f_Reader_isFine st))]) C (c_Reader_isFine l D cI cL h h_log h_log_row h_past h_past_typed st _ rfl) (cV hts kV_Reader_isFine wd_301 ⟨Nat.le_of_ble_eq_true rfl, Nat.le_of_ble_eq_true rfl⟩) hH [0, 1, 2, 3, 4] rfl rfl 0 rfl rfl rfl hl.1 rfl (Nat.le_of_ble_eq_true rfl) d_Reader_readLikeAnother_53 ⟨Nat.le_of_ble_eq_true rfl, Nat.le_of_ble_eq_true rfl⟩ rfl (fun H locs hH => ?_)
  refine lv_if_eq (tgt := 78) hx hb d_Reader_readLikeAnother_56 (by decide) (fun hc56 => ?_) (fun hc56 => ?_)
  · have hf := ip hc56 hf
    have hf := Option.some.inj hf
    subst hf
    exact rV C hH d_Reader_readLikeAnother_78
  · have hf := im hc56 hf
    refine lv_aload_n hx hb d_Reader_readLikeAnother_59 rfl (lv_at hl 0 rfl) ?_
    refine lv_aload_n hx hb d_Reader_readLikeAnother_60 rfl (lv_at hl 1 rfl) ?_
    refine lv_iload_n hx hb d_Reader_readLikeAnother_61 rfl (lv_at hl 2 rfl) ?_
    refine lv_lload_n hx hb d_Reader_readLikeAnother_62 rfl (lv_at hl 3 rfl) ?_
    refine lv_aload_n hx hb d_Reader_readLikeAnother_63 rfl (lv_at hl 1 rfl) ?_
    refine lv_iload hx hb d_Reader_readLikeAnother_64 (lv_at hl 4 rfl) ?_
    refine fnVR (rest := [.long x3, .int x2, .ref q1, .ref h]) (st2 := [.long (f_Events_a e1 x6), .long x3, .int x2, .ref q1, .ref h]) C (c_Events_a l D cI cL q1 q1_kinds q1_differences q1_partsA q1_partsB e1 x6 _ rfl) (cV hts kV_Events_a wd_321 ⟨Nat.le_of_ble_eq_true rfl, Nat.le_of_ble_eq_true rfl⟩) hH [5, 6, 7, 8, 9] rfl rfl 0 rfl rfl rfl hl.1 rfl (Nat.le_of_ble_eq_true rfl) d_Reader_readLikeAnother_66 ⟨Nat.le_of_ble_eq_true rfl, Nat.le_of_ble_eq_true rfl⟩ rfl (fun H locs hH => ?_)
    refine lv_aload_n hx hb d_Reader_readLikeAnother_69 rfl (lv_at hl 1 rfl) ?_
    refine lv_iload hx hb d_Reader_readLikeAnother_70 (lv_at hl 4 rfl) ?_
    refine fnVR (rest := [.long (f_Events_a e1 x6), .long x3, .int x2, .ref q1, .ref h]) (st2 := [.int (f_Events_b e1 x6), .long (f_Events_a e1 x6), .long x3, .int x2, .ref q1, .ref h]) C (c_Events_b l D cI cL q1 q1_kinds q1_differences q1_partsA q1_partsB e1 x6 _ rfl) (cV hts kV_Events_b wd_322 ⟨Nat.le_of_ble_eq_true rfl, Nat.le_of_ble_eq_true rfl⟩) hH [5, 6, 7, 8, 9] rfl rfl 0 rfl rfl rfl hl.1 rfl (Nat.le_of_ble_eq_true rfl) d_Reader_readLikeAnother_72 ⟨Nat.le_of_ble_eq_true rfl, Nat.le_of_ble_eq_true rfl⟩ rfl (fun H locs hH => ?_)
    obtain ⟨r75, hr75, hf⟩ := lb hf
    refine fnV (rest := []) (wr := []) (w2 := [(h, .inr (4, [.ref h_log, .ref h_past, .int r75.1.2.2.1, .int r75.1.2.2.2.1, .int r75.1.2.2.2.2])), (h_log, .inr (0, [.ref h_log_row, .int r75.1.1.2])), (h_log_row, .inl (cI, 5000, .inl r75.1.1.1)), (h_past, .inr (1, [.ref h_past_typed, .int r75.1.2.1.2.1, .int r75.1.2.1.2.2])), (h_past_typed, .inl (cI, 300, .inl r75.1.2.1.1)), (q1, .inr (2, [.ref q1_kinds, .ref q1_differences, .ref q1_partsA, .ref q1_partsB, .int r75.2.2.2.2.2])), (q1_kinds, .inl (cI, 300, .inl r75.2.1)), (q1_differences, .inl (cL, 300, .inr (.inl r75.2.2.1))), (q1_partsA, .inl (cL, 300, .inr (.inl r75.2.2.2.1))), (q1_partsB, .inl (cI, 300, .inl r75.2.2.2.2.1))]) (st2 := []) C (c_Reader_keep l D cI cL h h_log h_log_row h_past h_past_typed q1 q1_kinds q1_differences q1_partsA q1_partsB st e1 x2 x3 (f_Events_a e1 x6) (f_Events_b e1 x6) r75 hr75) (cV hts kV_Reader_keep wd_323 ⟨Nat.le_of_ble_eq_true rfl, Nat.le_of_ble_eq_true rfl⟩) hH [0, 1, 2, 3, 4, 5, 6, 7, 8, 9] [] [0, 1, 2, 3, 4, 5, 6, 7, 8, 9] rfl rfl rfl rfl (by decide) rfl rfl 0 rfl rfl rfl hl.1 rfl (Nat.le_of_ble_eq_true rfl) d_Reader_readLikeAnother_75 ⟨Nat.le_of_ble_eq_true rfl, Nat.le_of_ble_eq_true rfl⟩ rfl (fun H locs hH => ?_)
    have hf := Option.some.inj hf
    subst hf
    exact rV C hH d_Reader_readLikeAnother_78
def f_Reader_readLikeAnother_b27 (st : S_Reader) (e1 : S_Events) (x2 : Int32) (x3 : Int64) (x5 : Int32) (z0 : Int32) : Option (S_Reader × S_Events) :=
  if (bI (f_Reader_isFine st)) = 0 then (f_Reader_readLikeAnother_b52 st e1 x2 x3 z0) else (if (bI (f_Events_has e1 z0)) = 0 then (lt1 (f_Reader_fail st 4 x5) (fun r49 => f_Reader_readLikeAnother_b52 r49 e1 x2 x3 z0)) else (f_Reader_readLikeAnother_b52 st e1 x2 x3 z0))
set_option maxRecDepth 100000 in
set_option maxHeartbeats 4000000 in
theorem w_Reader_readLikeAnother_b27 (l : Launch) (D : va_G) (cI cL : ClassId) (h h_log h_log_row h_past h_past_typed q1 q1_kinds q1_differences q1_partsA q1_partsB : Nat) {p : Program} {e : Env} {s : State} {m : MethodId} {args : Array Value} {below : List Frame} {meth : Method} {c : Code} {A : Nat → Prop} (C : Cx p s m args meth c D vwCl [(cI, .int), (cL, .long)] A b_Reader_readLikeAnother 7 none ws_Reader_readLikeAnother y_Reader_readLikeAnother.cls) : ∀ (st : S_Reader) (e1 : S_Events) (x2 : Int32) (x3 : Int64) (x5 : Int32) (z0 : Int32) (res : S_Reader × S_Events), f_Reader_readLikeAnother_b27 st e1 x2 x3 x5 z0 = some res → ∀ (H : Heap) (locs : List Loc) (ls : Array Slot), Hp D vwCl A A s.heap H locs [(h, .inr (4, [.ref h_log, .ref h_past, .int st.2.2.1, .int st.2.2.2.1, .int st.2.2.2.2])), (h_log, .inr (0, [.ref h_log_row, .int st.1.2])), (h_log_row, .inl (cI, 5000, .inl st.1.1)), (h_past, .inr (1, [.ref h_past_typed, .int st.2.1.2.1, .int st.2.1.2.2])), (h_past_typed, .inl (cI, 300, .inl st.2.1.1)), (q1, .inr (2, [.ref q1_kinds, .ref q1_differences, .ref q1_partsA, .ref q1_partsB, .int e1.2.2.2.2])), (q1_kinds, .inl (cI, 300, .inl e1.1)), (q1_differences, .inl (cL, 300, .inr (.inl e1.2.1))), (q1_partsA, .inl (cL, 300, .inr (.inl e1.2.2.1))), (q1_partsB, .inl (cI, 300, .inl e1.2.2.2.1))] → lv_has ls 7 [(0, .ref h), (1, .ref q1), (2, .int x2), (3, .long x3), (5, .int x5)] → W p l e { frames := 3, cells := 0, slots := 0, locals := 70 } s m args below meth c H locs 0 0 (MQ below (Qw D vwCl [(cI, .int), (cL, .long)] (none) A [(h, .inr (4, [.ref h_log, .ref h_past, .int res.1.2.2.1, .int res.1.2.2.2.1, .int res.1.2.2.2.2])), (h_log, .inr (0, [.ref h_log_row, .int res.1.1.2])), (h_log_row, .inl (cI, 5000, .inl res.1.1.1)), (h_past, .inr (1, [.ref h_past_typed, .int res.1.2.1.2.1, .int res.1.2.1.2.2])), (h_past_typed, .inl (cI, 300, .inl res.1.2.1.1)), (q1, .inr (2, [.ref q1_kinds, .ref q1_differences, .ref q1_partsA, .ref q1_partsB, .int res.2.2.2.2.2])), (q1_kinds, .inl (cI, 300, .inl res.2.1)), (q1_differences, .inl (cL, 300, .inr (.inl res.2.2.1))), (q1_partsA, .inl (cL, 300, .inr (.inl res.2.2.2.1))), (q1_partsB, .inl (cI, 300, .inl res.2.2.2.2.1))]) args s 0 0 A) (F0 m 27 ls [.int z0]) := by
  obtain ⟨hx, hb, hr, hml, hown, hts, hlk, hK, hA⟩ := id C
  intro st e1 x2 x3 x5 z0 res hf H locs ls hH hl
  unfold f_Reader_readLikeAnother_b27 at hf
  refine lv_istore (lv' := [(6, .int z0), (0, .ref h), (1, .ref q1), (2, .int x2), (3, .long x3), (5, .int x5)]) hx hb d_Reader_readLikeAnother_27 hl (by decide) rfl (fun ls hl => ?_)
  refine lv_aload_n hx hb d_Reader_readLikeAnother_29 rfl (lv_at hl 1 rfl) ?_
  refine fnVR (rest := []) (st2 := [.int (bI (f_Reader_isFine st))]) C (c_Reader_isFine l D cI cL h h_log h_log_row h_past h_past_typed st _ rfl) (cV hts kV_Reader_isFine wd_301 ⟨Nat.le_of_ble_eq_true rfl, Nat.le_of_ble_eq_true rfl⟩) hH [0, 1, 2, 3, 4] rfl rfl 0 rfl rfl rfl hl.1 rfl (Nat.le_of_ble_eq_true rfl) d_Reader_readLikeAnother_30 ⟨Nat.le_of_ble_eq_true rfl, Nat.le_of_ble_eq_true rfl⟩ rfl (fun H locs hH => ?_)
  refine lv_if_eq (tgt := 52) hx hb d_Reader_readLikeAnother_33 (by decide) (fun hc33 => ?_) (fun hc33 => ?_)
  · have hf := ip hc33 hf
    exact w_Reader_readLikeAnother_b52 l D cI cL h h_log h_log_row h_past h_past_typed q1 q1_kinds q1_differences q1_partsA q1_partsB C st e1 x2 x3 z0 res hf _ _ _ hH (lv_sub hl [1, 2, 3, 4, 0] rfl)
  · have hf := im hc33 hf
    refine lv_aload_n hx hb d_Reader_readLikeAnother_36 rfl (lv_at hl 2 rfl) ?_
    refine lv_iload hx hb d_Reader_readLikeAnother_37 (lv_at hl 0 rfl) ?_
    refine fnVR (rest := []) (st2 := [.int (bI (f_Events_has e1 z0))]) C (c_Events_has l D cI cL q1 q1_kinds q1_differences q1_partsA q1_partsB e1 z0 _ rfl) (cV hts kV_Events_has wd_341 ⟨Nat.le_of_ble_eq_true rfl, Nat.le_of_ble_eq_true rfl⟩) hH [5, 6, 7, 8, 9] rfl rfl 0 rfl rfl rfl hl.1 rfl (Nat.le_of_ble_eq_true rfl) d_Reader_readLikeAnother_39 ⟨Nat.le_of_ble_eq_true rfl, Nat.le_of_ble_eq_true rfl⟩ rfl (fun H locs hH => ?_)
    refine lv_if_ne (tgt := 52) hx hb d_Reader_readLikeAnother_42 (by decide) (fun hc42 => ?_) (fun hc42 => ?_)
    · have hf := im hc42 hf
      exact w_Reader_readLikeAnother_b52 l D cI cL h h_log h_log_row h_past h_past_typed q1 q1_kinds q1_differences q1_partsA q1_partsB C st e1 x2 x3 z0 res hf _ _ _ hH (lv_sub hl [1, 2, 3, 4, 0] rfl)
    · have hf := ip hc42 hf
      refine lv_aload_n hx hb d_Reader_readLikeAnother_45 rfl (lv_at hl 1 rfl) ?_
      refine lv_iconst (v := 4) hx hb d_Reader_readLikeAnother_46 (by decide) ?_
      refine lv_iload hx hb d_Reader_readLikeAnother_47 (lv_at hl 5 rfl) ?_
      obtain ⟨r49, hr49, hf⟩ := lb hf
      refine fnV (rest := []) (wr := [(q1, .inr (2, [.ref q1_kinds, .ref q1_differences, .ref q1_partsA, .ref q1_partsB, .int e1.2.2.2.2])), (q1_kinds, .inl (cI, 300, .inl e1.1)), (q1_differences, .inl (cL, 300, .inr (.inl e1.2.1))), (q1_partsA, .inl (cL, 300, .inr (.inl e1.2.2.1))), (q1_partsB, .inl (cI, 300, .inl e1.2.2.2.1))]) (w2 := [(h, .inr (4, [.ref h_log, .ref h_past, .int r49.2.2.1, .int r49.2.2.2.1, .int r49.2.2.2.2])), (h_log, .inr (0, [.ref h_log_row, .int r49.1.2])), (h_log_row, .inl (cI, 5000, .inl r49.1.1)), (h_past, .inr (1, [.ref h_past_typed, .int r49.2.1.2.1, .int r49.2.1.2.2])), (h_past_typed, .inl (cI, 300, .inl r49.2.1.1)), (q1, .inr (2, [.ref q1_kinds, .ref q1_differences, .ref q1_partsA, .ref q1_partsB, .int e1.2.2.2.2])), (q1_kinds, .inl (cI, 300, .inl e1.1)), (q1_differences, .inl (cL, 300, .inr (.inl e1.2.1))), (q1_partsA, .inl (cL, 300, .inr (.inl e1.2.2.1))), (q1_partsB, .inl (cI, 300, .inl e1.2.2.2.1))]) (st2 := []) C (c_Reader_fail l D cI cL h h_log h_log_row h_past h_past_typed st 4 x5 r49 hr49) (cV hts kV_Reader_fail wd_293 ⟨Nat.le_of_ble_eq_true rfl, Nat.le_of_ble_eq_true rfl⟩) hH [0, 1, 2, 3, 4] [5, 6, 7, 8, 9] [5, 6, 7, 8, 9, 0, 1, 2, 3, 4] rfl rfl rfl rfl (by decide) rfl rfl 0 rfl rfl rfl hl.1 rfl (Nat.le_of_ble_eq_true rfl) d_Reader_readLikeAnother_49 ⟨Nat.le_of_ble_eq_true rfl, Nat.le_of_ble_eq_true rfl⟩ rfl (fun H locs hH => ?_)
      exact w_Reader_readLikeAnother_b52 l D cI cL h h_log h_log_row h_past h_past_typed q1 q1_kinds q1_differences q1_partsA q1_partsB C r49 e1 x2 x3 z0 res hf _ _ _ hH (lv_sub hl [1, 2, 3, 4, 0] rfl)
def f_Reader_readLikeAnother (st : S_Reader) (e1 : S_Events) (x2 : Int32) (x3 : Int64) (x5 : Int32) : Option (S_Reader × S_Events) :=
  if x2 = (3 : Int32) then (f_Reader_readLikeAnother_b27 st e1 x2 x3 x5 (f_Past_latestClock st.2.1)) else ((f_Reader_readVarint st 1).bind (fun r21 => f_Reader_readLikeAnother_b27 r21.2 e1 x2 x3 x5 (f_Past_typedBefore r21.2.2.1 r21.1)))
set_option maxRecDepth 100000 in
set_option maxHeartbeats 4000000 in
theorem c_Reader_readLikeAnother (l : Launch) (D : va_G) (cI cL : ClassId) (h h_log h_log_row h_past h_past_typed q1 q1_kinds q1_differences q1_partsA q1_partsB : Nat) (st : S_Reader) (e1 : S_Events) (x2 : Int32) (x3 : Int64) (x5 : Int32) (res : S_Reader × S_Events) (hf : f_Reader_readLikeAnother st e1 x2 x3 x5 = some res) :
    Fn l D vwCl [(cI, .int), (cL, .long)] y_Reader_readLikeAnother ws_Reader_readLikeAnother { frames := 3, cells := 0, slots := 0, locals := 70 } [.ref h, .ref q1, .int x2, .long x3, .int x5] [(h, .inr (4, [.ref h_log, .ref h_past, .int st.2.2.1, .int st.2.2.2.1, .int st.2.2.2.2])), (h_log, .inr (0, [.ref h_log_row, .int st.1.2])), (h_log_row, .inl (cI, 5000, .inl st.1.1)), (h_past, .inr (1, [.ref h_past_typed, .int st.2.1.2.1, .int st.2.1.2.2])), (h_past_typed, .inl (cI, 300, .inl st.2.1.1)), (q1, .inr (2, [.ref q1_kinds, .ref q1_differences, .ref q1_partsA, .ref q1_partsB, .int e1.2.2.2.2])), (q1_kinds, .inl (cI, 300, .inl e1.1)), (q1_differences, .inl (cL, 300, .inr (.inl e1.2.1))), (q1_partsA, .inl (cL, 300, .inr (.inl e1.2.2.1))), (q1_partsB, .inl (cI, 300, .inl e1.2.2.2.1))] (none) [(h, .inr (4, [.ref h_log, .ref h_past, .int res.1.2.2.1, .int res.1.2.2.2.1, .int res.1.2.2.2.2])), (h_log, .inr (0, [.ref h_log_row, .int res.1.1.2])), (h_log_row, .inl (cI, 5000, .inl res.1.1.1)), (h_past, .inr (1, [.ref h_past_typed, .int res.1.2.1.2.1, .int res.1.2.1.2.2])), (h_past_typed, .inl (cI, 300, .inl res.1.2.1.1)), (q1, .inr (2, [.ref q1_kinds, .ref q1_differences, .ref q1_partsA, .ref q1_partsB, .int res.2.2.2.2.2])), (q1_kinds, .inl (cI, 300, .inl res.2.1)), (q1_differences, .inl (cL, 300, .inr (.inl res.2.2.1))), (q1_partsA, .inl (cL, 300, .inr (.inl res.2.2.2.1))), (q1_partsB, .inl (cI, 300, .inl res.2.2.2.2.1))] := by
  refine Fn.ofW (cc := b_Reader_readLikeAnother) (maxL := 7) (ret := none) (by decide) rfl (Nat.le_of_ble_eq_true rfl) ?_
  intro p e s m below meth c A ls C hH hinit hl
  have hl : lv_has ls 7 [(0, .ref h), (1, .ref q1), (2, .int x2), (3, .long x3), (5, .int x5)] := hl
  obtain ⟨hx, hb, hr, hml, hown, hts, hlk, hK, hA⟩ := id C
  unfold f_Reader_readLikeAnother at hf
  refine lv_iload_n hx hb d_Reader_readLikeAnother_0 rfl (lv_at hl 2 rfl) ?_
  refine lv_iconst (v := 3) hx hb d_Reader_readLikeAnother_1 (by decide) ?_
  refine lv_icmp_ne (tgt := 15) hx hb d_Reader_readLikeAnother_2 (by decide) (fun hc2 => ?_) (fun hc2 => ?_)
  · have hf := im hc2 hf
    refine lv_aload_n hx hb d_Reader_readLikeAnother_15 rfl (lv_at hl 0 rfl) ?_
    refine gt (ci := 4) (v := .ref h_past) C hH (iwT iw_Reader) 0 rfl rfl 1 (by decide) (.tail _ wd_116) rfl d_Reader_readLikeAnother_16 ?_
    refine lv_aload_n hx hb d_Reader_readLikeAnother_19 rfl (lv_at hl 0 rfl) ?_
    refine lv_iconst (v := 1) hx hb d_Reader_readLikeAnother_20 (by decide) ?_
    obtain ⟨r21, hr21, hf⟩ := ob hf
    refine fnV (rest := [.ref h_past]) (wr := [(q1, .inr (2, [.ref q1_kinds, .ref q1_differences, .ref q1_partsA, .ref q1_partsB, .int e1.2.2.2.2])), (q1_kinds, .inl (cI, 300, .inl e1.1)), (q1_differences, .inl (cL, 300, .inr (.inl e1.2.1))), (q1_partsA, .inl (cL, 300, .inr (.inl e1.2.2.1))), (q1_partsB, .inl (cI, 300, .inl e1.2.2.2.1))]) (w2 := [(h, .inr (4, [.ref h_log, .ref h_past, .int r21.2.2.2.1, .int r21.2.2.2.2.1, .int r21.2.2.2.2.2])), (h_log, .inr (0, [.ref h_log_row, .int r21.2.1.2])), (h_log_row, .inl (cI, 5000, .inl r21.2.1.1)), (h_past, .inr (1, [.ref h_past_typed, .int r21.2.2.1.2.1, .int r21.2.2.1.2.2])), (h_past_typed, .inl (cI, 300, .inl r21.2.2.1.1)), (q1, .inr (2, [.ref q1_kinds, .ref q1_differences, .ref q1_partsA, .ref q1_partsB, .int e1.2.2.2.2])), (q1_kinds, .inl (cI, 300, .inl e1.1)), (q1_differences, .inl (cL, 300, .inr (.inl e1.2.1))), (q1_partsA, .inl (cL, 300, .inr (.inl e1.2.2.1))), (q1_partsB, .inl (cI, 300, .inl e1.2.2.2.1))]) (st2 := [.long r21.1, .ref h_past]) C (c_Reader_readVarint l D cI cL h h_log h_log_row h_past h_past_typed st 1 r21 hr21) (cV hts kV_Reader_readVarint wd_281 ⟨Nat.le_of_ble_eq_true rfl, Nat.le_of_ble_eq_true rfl⟩) hH [0, 1, 2, 3, 4] [5, 6, 7, 8, 9] [5, 6, 7, 8, 9, 0, 1, 2, 3, 4] rfl rfl rfl rfl (by decide) rfl rfl 0 rfl rfl rfl hl.1 rfl (Nat.le_of_ble_eq_true rfl) d_Reader_readLikeAnother_21 ⟨Nat.le_of_ble_eq_true rfl, Nat.le_of_ble_eq_true rfl⟩ rfl (fun H locs hH => ?_)
    refine fnVR (rest := []) (st2 := [.int (f_Past_typedBefore r21.2.2.1 r21.1)]) C (c_Past_typedBefore l D cI cL h_past h_past_typed r21.2.2.1 r21.1 _ rfl) (cV hts kV_Past_typedBefore wd_340 ⟨Nat.le_of_ble_eq_true rfl, Nat.le_of_ble_eq_true rfl⟩) hH [3, 4] rfl rfl 0 rfl rfl rfl hl.1 rfl (Nat.le_of_ble_eq_true rfl) d_Reader_readLikeAnother_24 ⟨Nat.le_of_ble_eq_true rfl, Nat.le_of_ble_eq_true rfl⟩ rfl (fun H locs hH => ?_)
    exact w_Reader_readLikeAnother_b27 l D cI cL h h_log h_log_row h_past h_past_typed q1 q1_kinds q1_differences q1_partsA q1_partsB C r21.2 e1 x2 x3 x5 (f_Past_typedBefore r21.2.2.1 r21.1) res hf _ _ _ hH (lv_sub hl [0, 1, 2, 3, 4] rfl)
  · have hf := ip hc2 hf
    refine lv_aload_n hx hb d_Reader_readLikeAnother_5 rfl (lv_at hl 0 rfl) ?_
    refine gt (ci := 4) (v := .ref h_past) C hH (iwT iw_Reader) 0 rfl rfl 1 (by decide) (.tail _ wd_116) rfl d_Reader_readLikeAnother_6 ?_
    refine fnVR (rest := []) (st2 := [.int (f_Past_latestClock st.2.1)]) C (c_Past_latestClock l D cI cL h_past h_past_typed st.2.1 _ rfl) (cV hts kV_Past_latestClock wd_339 ⟨Nat.le_of_ble_eq_true rfl, Nat.le_of_ble_eq_true rfl⟩) hH [3, 4] rfl rfl 0 rfl rfl rfl hl.1 rfl (Nat.le_of_ble_eq_true rfl) d_Reader_readLikeAnother_9 ⟨Nat.le_of_ble_eq_true rfl, Nat.le_of_ble_eq_true rfl⟩ rfl (fun H locs hH => ?_)
    refine lv_goto (tgt := 27) hx hb d_Reader_readLikeAnother_12 (by decide) ?_
    exact w_Reader_readLikeAnother_b27 l D cI cL h h_log h_log_row h_past h_past_typed q1 q1_kinds q1_differences q1_partsA q1_partsB C st e1 x2 x3 x5 (f_Past_latestClock st.2.1) res hf _ _ _ hH (lv_sub hl [0, 1, 2, 3, 4] rfl)
def f_Reader_readBytes_b5 : Nat → S_Reader → Int32 → Int64 → Int32 → Option (Int64 × S_Reader)
  | 0, _, _, _, _ => none
  | n + 1, st, x1, x2, x4 =>
  if x1 ≤ x4 then (some ((x2, st))) else (if (bI (f_Reader_isFine st)) = 0 then (some ((x2, st))) else (lt1 (f_Reader_readByte st) (fun r23 => f_Reader_readBytes_b5 n r23.2 x1 ((x2 <<< ((8 : Int32).toInt64 &&& 63)) ||| r23.1.toInt64) (x4 + 1))))
set_option maxRecDepth 100000 in
set_option maxHeartbeats 4000000 in
theorem w_Reader_readBytes_b5 (l : Launch) (D : va_G) (cI cL : ClassId) (h h_log h_log_row h_past h_past_typed : Nat) {p : Program} {e : Env} {s : State} {m : MethodId} {args : Array Value} {below : List Frame} {meth : Method} {c : Code} {A : Nat → Prop} (C : Cx p s m args meth c D vwCl [(cI, .int), (cL, .long)] A b_Reader_readBytes 5 (some .long) ws_Reader_readBytes y_Reader_readBytes.cls) : ∀ (n : Nat) (st : S_Reader) (x1 : Int32) (x2 : Int64) (x4 : Int32) (res : Int64 × S_Reader), f_Reader_readBytes_b5 n st x1 x2 x4 = some res → ∀ (H : Heap) (locs : List Loc) (ls : Array Slot), Hp D vwCl A A s.heap H locs [(h, .inr (4, [.ref h_log, .ref h_past, .int st.2.2.1, .int st.2.2.2.1, .int st.2.2.2.2])), (h_log, .inr (0, [.ref h_log_row, .int st.1.2])), (h_log_row, .inl (cI, 5000, .inl st.1.1)), (h_past, .inr (1, [.ref h_past_typed, .int st.2.1.2.1, .int st.2.1.2.2])), (h_past_typed, .inl (cI, 300, .inl st.2.1.1))] → lv_has ls 5 [(0, .ref h), (1, .int x1), (2, .long x2), (4, .int x4)] → W p l e { frames := 2, cells := 0, slots := 0, locals := 43 } s m args below meth c H locs 0 0 (MQ below (Qw D vwCl [(cI, .int), (cL, .long)] (some (.long res.1)) A [(h, .inr (4, [.ref h_log, .ref h_past, .int res.2.2.2.1, .int res.2.2.2.2.1, .int res.2.2.2.2.2])), (h_log, .inr (0, [.ref h_log_row, .int res.2.1.2])), (h_log_row, .inl (cI, 5000, .inl res.2.1.1)), (h_past, .inr (1, [.ref h_past_typed, .int res.2.2.1.2.1, .int res.2.2.1.2.2])), (h_past_typed, .inl (cI, 300, .inl res.2.2.1.1))]) args s 0 0 A) (F0 m 5 ls []) := by
  obtain ⟨hx, hb, hr, hml, hown, hts, hlk, hK, hA⟩ := id C
  intro n
  induction n with
  | zero => intro st x1 x2 x4 res hf; cases hf
  | succ n ih =>
    intro st x1 x2 x4 res hf H locs ls hH hl
    rw [f_Reader_readBytes_b5] at hf
    refine lv_iload hx hb d_Reader_readBytes_5 (lv_at hl 3 rfl) ?_
    refine lv_iload_n hx hb d_Reader_readBytes_7 rfl (lv_at hl 1 rfl) ?_
    refine lv_icmp_ge (tgt := 35) hx hb d_Reader_readBytes_8 (by decide) (fun hc8 => ?_) (fun hc8 => ?_)
    · have hf := ip hc8 hf
      refine lv_lload_n hx hb d_Reader_readBytes_35 rfl (lv_at hl 2 rfl) ?_
      have hf := Option.some.inj hf
      subst hf
      exact rJ (v := x2) C hH d_Reader_readBytes_36
    · have hf := im hc8 hf
      refine lv_aload_n hx hb d_Reader_readBytes_11 rfl (lv_at hl 0 rfl) ?_
      refine fnVR (rest := []) (st2 := [.int (bI (f_Reader_isFine st))]) C (c_Reader_isFine l D cI cL h h_log h_log_row h_past h_past_typed st _ rfl) (cV hts kV_Reader_isFine wd_301 ⟨Nat.le_of_ble_eq_true rfl, Nat.le_of_ble_eq_true rfl⟩) hH [0, 1, 2, 3, 4] rfl rfl 0 rfl rfl rfl hl.1 rfl (Nat.le_of_ble_eq_true rfl) d_Reader_readBytes_12 ⟨Nat.le_of_ble_eq_true rfl, Nat.le_of_ble_eq_true rfl⟩ rfl (fun H locs hH => ?_)
      refine lv_if_eq (tgt := 35) hx hb d_Reader_readBytes_15 (by decide) (fun hc15 => ?_) (fun hc15 => ?_)
      · have hf := ip hc15 hf
        refine lv_lload_n hx hb d_Reader_readBytes_35 rfl (lv_at hl 2 rfl) ?_
        have hf := Option.some.inj hf
        subst hf
        exact rJ (v := x2) C hH d_Reader_readBytes_36
      · have hf := im hc15 hf
        refine lv_lload_n hx hb d_Reader_readBytes_18 rfl (lv_at hl 2 rfl) ?_
        refine lv_bipush (v := 8) hx hb d_Reader_readBytes_19 (by decide) ?_
        refine lv_lshl (v := x2 <<< ((8 : Int32).toInt64 &&& 63)) hx hb d_Reader_readBytes_21 rfl ?_
        refine lv_aload_n hx hb d_Reader_readBytes_22 rfl (lv_at hl 0 rfl) ?_
        obtain ⟨r23, hr23, hf⟩ := lb hf
        refine fnV (rest := [.long (x2 <<< ((8 : Int32).toInt64 &&& 63))]) (wr := []) (w2 := [(h, .inr (4, [.ref h_log, .ref h_past, .int r23.2.2.2.1, .int r23.2.2.2.2.1, .int r23.2.2.2.2.2])), (h_log, .inr (0, [.ref h_log_row, .int r23.2.1.2])), (h_log_row, .inl (cI, 5000, .inl r23.2.1.1)), (h_past, .inr (1, [.ref h_past_typed, .int r23.2.2.1.2.1, .int r23.2.2.1.2.2])), (h_past_typed, .inl (cI, 300, .inl r23.2.2.1.1))]) (st2 := [.int r23.1, .long (x2 <<< ((8 : Int32).toInt64 &&& 63))]) C (c_Reader_readByte l D cI cL h h_log h_log_row h_past h_past_typed st r23 hr23) (cV hts kV_Reader_readByte wd_285 ⟨Nat.le_of_ble_eq_true rfl, Nat.le_of_ble_eq_true rfl⟩) hH [0, 1, 2, 3, 4] [] [0, 1, 2, 3, 4] rfl rfl rfl rfl (by decide) rfl rfl 0 rfl rfl rfl hl.1 rfl (Nat.le_of_ble_eq_true rfl) d_Reader_readBytes_23 ⟨Nat.le_of_ble_eq_true rfl, Nat.le_of_ble_eq_true rfl⟩ rfl (fun H locs hH => ?_)
        refine lv_i2l (v := r23.1.toInt64) hx hb d_Reader_readBytes_26 rfl ?_
        refine lv_lor hx hb d_Reader_readBytes_27 ?_
        refine lv_lstore_n (lv' := [(2, .long ((x2 <<< ((8 : Int32).toInt64 &&& 63)) ||| r23.1.toInt64)), (0, .ref h), (1, .int x1), (4, .int x4)]) hx hb d_Reader_readBytes_28 rfl hl (by decide) rfl (fun ls hl => ?_)
        refine lv_iinc (v := x4 + 1) (lv' := [(4, .int (x4 + 1)), (2, .long ((x2 <<< ((8 : Int32).toInt64 &&& 63)) ||| r23.1.toInt64)), (0, .ref h), (1, .int x1)]) hx hb d_Reader_readBytes_29 hl (k := 3) rfl rfl (by decide) rfl (fun ls hl => ?_)
        refine lv_goto (tgt := 5) hx hb d_Reader_readBytes_32 (by decide) ?_
        exact ih r23.2 x1 ((x2 <<< ((8 : Int32).toInt64 &&& 63)) ||| r23.1.toInt64) (x4 + 1) res hf _ _ _ hH (lv_sub hl [2, 3, 1, 0] rfl)
def f_Reader_readBytes (st : S_Reader) (x1 : Int32) : Option (Int64 × S_Reader) :=
  f_Reader_readBytes_b5 400 st x1 0 0
set_option maxRecDepth 100000 in
set_option maxHeartbeats 4000000 in
theorem c_Reader_readBytes (l : Launch) (D : va_G) (cI cL : ClassId) (h h_log h_log_row h_past h_past_typed : Nat) (st : S_Reader) (x1 : Int32) (res : Int64 × S_Reader) (hf : f_Reader_readBytes st x1 = some res) :
    Fn l D vwCl [(cI, .int), (cL, .long)] y_Reader_readBytes ws_Reader_readBytes { frames := 2, cells := 0, slots := 0, locals := 43 } [.ref h, .int x1] [(h, .inr (4, [.ref h_log, .ref h_past, .int st.2.2.1, .int st.2.2.2.1, .int st.2.2.2.2])), (h_log, .inr (0, [.ref h_log_row, .int st.1.2])), (h_log_row, .inl (cI, 5000, .inl st.1.1)), (h_past, .inr (1, [.ref h_past_typed, .int st.2.1.2.1, .int st.2.1.2.2])), (h_past_typed, .inl (cI, 300, .inl st.2.1.1))] (some (.long res.1)) [(h, .inr (4, [.ref h_log, .ref h_past, .int res.2.2.2.1, .int res.2.2.2.2.1, .int res.2.2.2.2.2])), (h_log, .inr (0, [.ref h_log_row, .int res.2.1.2])), (h_log_row, .inl (cI, 5000, .inl res.2.1.1)), (h_past, .inr (1, [.ref h_past_typed, .int res.2.2.1.2.1, .int res.2.2.1.2.2])), (h_past_typed, .inl (cI, 300, .inl res.2.2.1.1))] := by
  refine Fn.ofW (cc := b_Reader_readBytes) (maxL := 5) (ret := (some .long)) (by decide) rfl (Nat.le_of_ble_eq_true rfl) ?_
  intro p e s m below meth c A ls C hH hinit hl
  have hl : lv_has ls 5 [(0, .ref h), (1, .int x1)] := hl
  obtain ⟨hx, hb, hr, hml, hown, hts, hlk, hK, hA⟩ := id C
  unfold f_Reader_readBytes at hf
  refine lv_lconst (v := 0) hx hb d_Reader_readBytes_0 (by decide) ?_
  refine lv_lstore_n (lv' := [(2, .long 0), (0, .ref h), (1, .int x1)]) hx hb d_Reader_readBytes_1 rfl hl (by decide) rfl (fun ls hl => ?_)
  refine lv_iconst (v := 0) hx hb d_Reader_readBytes_2 (by decide) ?_
  refine lv_istore (lv' := [(4, .int 0), (2, .long 0), (0, .ref h), (1, .int x1)]) hx hb d_Reader_readBytes_3 hl (by decide) rfl (fun ls hl => ?_)
  exact w_Reader_readBytes_b5 l D cI cL h h_log h_log_row h_past h_past_typed C 400 st x1 0 0 res hf _ _ _ hH (lv_sub hl [2, 3, 1, 0] rfl)
def f_Reader_readSignal (st : S_Reader)  : Int32 × S_Reader :=
  lt1 (f_Reader_readByte st) (fun r6 => if (bI (f_Reader_isFine r6.2)) = 0 then ((r6.1, r6.2)) else (if (bI (f_EventLog_isSignal r6.1)) = 0 then (lt1 (f_Reader_fail r6.2 5 st.2.2.1) (fun r27 => (r6.1, r27))) else ((r6.1, r6.2))))
set_option maxRecDepth 100000 in
set_option maxHeartbeats 4000000 in
theorem c_Reader_readSignal (l : Launch) (D : va_G) (cI cL : ClassId) (h h_log h_log_row h_past h_past_typed : Nat) (st : S_Reader)  (res : Int32 × S_Reader) (hf : f_Reader_readSignal st = res) :
    Fn l D vwCl [(cI, .int), (cL, .long)] y_Reader_readSignal ws_Reader_readSignal { frames := 2, cells := 0, slots := 0, locals := 43 } [.ref h] [(h, .inr (4, [.ref h_log, .ref h_past, .int st.2.2.1, .int st.2.2.2.1, .int st.2.2.2.2])), (h_log, .inr (0, [.ref h_log_row, .int st.1.2])), (h_log_row, .inl (cI, 5000, .inl st.1.1)), (h_past, .inr (1, [.ref h_past_typed, .int st.2.1.2.1, .int st.2.1.2.2])), (h_past_typed, .inl (cI, 300, .inl st.2.1.1))] (some (.int res.1)) [(h, .inr (4, [.ref h_log, .ref h_past, .int res.2.2.2.1, .int res.2.2.2.2.1, .int res.2.2.2.2.2])), (h_log, .inr (0, [.ref h_log_row, .int res.2.1.2])), (h_log_row, .inl (cI, 5000, .inl res.2.1.1)), (h_past, .inr (1, [.ref h_past_typed, .int res.2.2.1.2.1, .int res.2.2.1.2.2])), (h_past_typed, .inl (cI, 300, .inl res.2.2.1.1))] := by
  refine Fn.ofW (cc := b_Reader_readSignal) (maxL := 3) (ret := (some .int)) (by decide) rfl (Nat.le_of_ble_eq_true rfl) ?_
  intro p e s m below meth c A ls C hH hinit hl
  have hl : lv_has ls 3 [(0, .ref h)] := hl
  obtain ⟨hx, hb, hr, hml, hown, hts, hlk, hK, hA⟩ := id C
  unfold f_Reader_readSignal at hf
  refine lv_aload_n hx hb d_Reader_readSignal_0 rfl (lv_at hl 0 rfl) ?_
  refine gt (ci := 4) (v := .int st.2.2.1) C hH (iwT iw_Reader) 0 rfl rfl 2 (by decide) (.tail _ wd_117) rfl d_Reader_readSignal_1 ?_
  refine lv_istore_n (lv' := [(1, .int st.2.2.1), (0, .ref h)]) hx hb d_Reader_readSignal_4 rfl hl (by decide) rfl (fun ls hl => ?_)
  refine lv_aload_n hx hb d_Reader_readSignal_5 rfl (lv_at hl 1 rfl) ?_
  obtain ⟨r6, hr6, hf⟩ := lb hf
  refine fnV (rest := []) (wr := []) (w2 := [(h, .inr (4, [.ref h_log, .ref h_past, .int r6.2.2.2.1, .int r6.2.2.2.2.1, .int r6.2.2.2.2.2])), (h_log, .inr (0, [.ref h_log_row, .int r6.2.1.2])), (h_log_row, .inl (cI, 5000, .inl r6.2.1.1)), (h_past, .inr (1, [.ref h_past_typed, .int r6.2.2.1.2.1, .int r6.2.2.1.2.2])), (h_past_typed, .inl (cI, 300, .inl r6.2.2.1.1))]) (st2 := [.int r6.1]) C (c_Reader_readByte l D cI cL h h_log h_log_row h_past h_past_typed st r6 hr6) (cV hts kV_Reader_readByte wd_285 ⟨Nat.le_of_ble_eq_true rfl, Nat.le_of_ble_eq_true rfl⟩) hH [0, 1, 2, 3, 4] [] [0, 1, 2, 3, 4] rfl rfl rfl rfl (by decide) rfl rfl 0 rfl rfl rfl hl.1 rfl (Nat.le_of_ble_eq_true rfl) d_Reader_readSignal_6 ⟨Nat.le_of_ble_eq_true rfl, Nat.le_of_ble_eq_true rfl⟩ rfl (fun H locs hH => ?_)
  refine lv_istore_n (lv' := [(2, .int r6.1), (1, .int st.2.2.1), (0, .ref h)]) hx hb d_Reader_readSignal_9 rfl hl (by decide) rfl (fun ls hl => ?_)
  refine lv_aload_n hx hb d_Reader_readSignal_10 rfl (lv_at hl 2 rfl) ?_
  refine fnVR (rest := []) (st2 := [.int (bI (f_Reader_isFine r6.2))]) C (c_Reader_isFine l D cI cL h h_log h_log_row h_past h_past_typed r6.2 _ rfl) (cV hts kV_Reader_isFine wd_301 ⟨Nat.le_of_ble_eq_true rfl, Nat.le_of_ble_eq_true rfl⟩) hH [0, 1, 2, 3, 4] rfl rfl 0 rfl rfl rfl hl.1 rfl (Nat.le_of_ble_eq_true rfl) d_Reader_readSignal_11 ⟨Nat.le_of_ble_eq_true rfl, Nat.le_of_ble_eq_true rfl⟩ rfl (fun H locs hH => ?_)
  refine lv_if_eq (tgt := 30) hx hb d_Reader_readSignal_14 (by decide) (fun hc14 => ?_) (fun hc14 => ?_)
  · have hf := ip hc14 hf
    refine lv_iload_n hx hb d_Reader_readSignal_30 rfl (lv_at hl 0 rfl) ?_
    subst hf
    exact rI (v := r6.1) C hH d_Reader_readSignal_31
  · have hf := im hc14 hf
    refine lv_iload_n hx hb d_Reader_readSignal_17 rfl (lv_at hl 0 rfl) ?_
    refine fnSNR (rest := []) (st2 := [.int (bI (f_EventLog_isSignal r6.1))]) C (c_EventLog_isSignal l D cI cL  r6.1 _ rfl) (cSN hts kS_EventLog_isSignal (hK.2 _ nest_4) ⟨Nat.le_of_ble_eq_true rfl, Nat.le_of_ble_eq_true rfl⟩) hH [] rfl rfl rfl hl.1 rfl (Nat.le_of_ble_eq_true rfl) d_Reader_readSignal_18 ⟨Nat.le_of_ble_eq_true rfl, Nat.le_of_ble_eq_true rfl⟩ rfl (fun H locs hH => ?_)
    refine lv_if_ne (tgt := 30) hx hb d_Reader_readSignal_21 (by decide) (fun hc21 => ?_) (fun hc21 => ?_)
    · have hf := im hc21 hf
      refine lv_iload_n hx hb d_Reader_readSignal_30 rfl (lv_at hl 0 rfl) ?_
      subst hf
      exact rI (v := r6.1) C hH d_Reader_readSignal_31
    · have hf := ip hc21 hf
      refine lv_aload_n hx hb d_Reader_readSignal_24 rfl (lv_at hl 2 rfl) ?_
      refine lv_iconst (v := 5) hx hb d_Reader_readSignal_25 (by decide) ?_
      refine lv_iload_n hx hb d_Reader_readSignal_26 rfl (lv_at hl 1 rfl) ?_
      obtain ⟨r27, hr27, hf⟩ := lb hf
      refine fnV (rest := []) (wr := []) (w2 := [(h, .inr (4, [.ref h_log, .ref h_past, .int r27.2.2.1, .int r27.2.2.2.1, .int r27.2.2.2.2])), (h_log, .inr (0, [.ref h_log_row, .int r27.1.2])), (h_log_row, .inl (cI, 5000, .inl r27.1.1)), (h_past, .inr (1, [.ref h_past_typed, .int r27.2.1.2.1, .int r27.2.1.2.2])), (h_past_typed, .inl (cI, 300, .inl r27.2.1.1))]) (st2 := []) C (c_Reader_fail l D cI cL h h_log h_log_row h_past h_past_typed r6.2 5 st.2.2.1 r27 hr27) (cV hts kV_Reader_fail wd_293 ⟨Nat.le_of_ble_eq_true rfl, Nat.le_of_ble_eq_true rfl⟩) hH [0, 1, 2, 3, 4] [] [0, 1, 2, 3, 4] rfl rfl rfl rfl (by decide) rfl rfl 0 rfl rfl rfl hl.1 rfl (Nat.le_of_ble_eq_true rfl) d_Reader_readSignal_27 ⟨Nat.le_of_ble_eq_true rfl, Nat.le_of_ble_eq_true rfl⟩ rfl (fun H locs hH => ?_)
      refine lv_iload_n hx hb d_Reader_readSignal_30 rfl (lv_at hl 0 rfl) ?_
      subst hf
      exact rI (v := r6.1) C hH d_Reader_readSignal_31
def f_Reader_readOwn_b84 (st : S_Reader) (e1 : S_Events) (x2 : Int32) (x3 : Int64) (x6 : Int64) (x8 : Int32) : Option (S_Reader × S_Events) :=
  if (bI (f_Reader_isFine st)) = 0 then (some ((st, e1))) else (lt1 (f_Reader_keep st e1 x2 x3 x6 x8) (fun r99 => some ((r99.1, r99.2))))
set_option maxRecDepth 100000 in
set_option maxHeartbeats 4000000 in
theorem w_Reader_readOwn_b84 (l : Launch) (D : va_G) (cI cL : ClassId) (h h_log h_log_row h_past h_past_typed q1 q1_kinds q1_differences q1_partsA q1_partsB : Nat) {p : Program} {e : Env} {s : State} {m : MethodId} {args : Array Value} {below : List Frame} {meth : Method} {c : Code} {A : Nat → Prop} (C : Cx p s m args meth c D vwCl [(cI, .int), (cL, .long)] A b_Reader_readOwn 9 none ws_Reader_readOwn y_Reader_readOwn.cls) : ∀ (st : S_Reader) (e1 : S_Events) (x2 : Int32) (x3 : Int64) (x6 : Int64) (x8 : Int32) (res : S_Reader × S_Events), f_Reader_readOwn_b84 st e1 x2 x3 x6 x8 = some res → ∀ (H : Heap) (locs : List Loc) (ls : Array Slot), Hp D vwCl A A s.heap H locs [(h, .inr (4, [.ref h_log, .ref h_past, .int st.2.2.1, .int st.2.2.2.1, .int st.2.2.2.2])), (h_log, .inr (0, [.ref h_log_row, .int st.1.2])), (h_log_row, .inl (cI, 5000, .inl st.1.1)), (h_past, .inr (1, [.ref h_past_typed, .int st.2.1.2.1, .int st.2.1.2.2])), (h_past_typed, .inl (cI, 300, .inl st.2.1.1)), (q1, .inr (2, [.ref q1_kinds, .ref q1_differences, .ref q1_partsA, .ref q1_partsB, .int e1.2.2.2.2])), (q1_kinds, .inl (cI, 300, .inl e1.1)), (q1_differences, .inl (cL, 300, .inr (.inl e1.2.1))), (q1_partsA, .inl (cL, 300, .inr (.inl e1.2.2.1))), (q1_partsB, .inl (cI, 300, .inl e1.2.2.2.1))] → lv_has ls 9 [(0, .ref h), (1, .ref q1), (2, .int x2), (3, .long x3), (6, .long x6), (8, .int x8)] → W p l e { frames := 3, cells := 0, slots := 0, locals := 70 } s m args below meth c H locs 0 0 (MQ below (Qw D vwCl [(cI, .int), (cL, .long)] (none) A [(h, .inr (4, [.ref h_log, .ref h_past, .int res.1.2.2.1, .int res.1.2.2.2.1, .int res.1.2.2.2.2])), (h_log, .inr (0, [.ref h_log_row, .int res.1.1.2])), (h_log_row, .inl (cI, 5000, .inl res.1.1.1)), (h_past, .inr (1, [.ref h_past_typed, .int res.1.2.1.2.1, .int res.1.2.1.2.2])), (h_past_typed, .inl (cI, 300, .inl res.1.2.1.1)), (q1, .inr (2, [.ref q1_kinds, .ref q1_differences, .ref q1_partsA, .ref q1_partsB, .int res.2.2.2.2.2])), (q1_kinds, .inl (cI, 300, .inl res.2.1)), (q1_differences, .inl (cL, 300, .inr (.inl res.2.2.1))), (q1_partsA, .inl (cL, 300, .inr (.inl res.2.2.2.1))), (q1_partsB, .inl (cI, 300, .inl res.2.2.2.2.1))]) args s 0 0 A) (F0 m 84 ls []) := by
  obtain ⟨hx, hb, hr, hml, hown, hts, hlk, hK, hA⟩ := id C
  intro st e1 x2 x3 x6 x8 res hf H locs ls hH hl
  unfold f_Reader_readOwn_b84 at hf
  refine lv_aload_n hx hb d_Reader_readOwn_84 rfl (lv_at hl 0 rfl) ?_
  refine fnVR (rest := []) (st2 := [.int (bI (f_Reader_isFine st))]) C (c_Reader_isFine l D cI cL h h_log h_log_row h_past h_past_typed st _ rfl) (cV hts kV_Reader_isFine wd_301 ⟨Nat.le_of_ble_eq_true rfl, Nat.le_of_ble_eq_true rfl⟩) hH [0, 1, 2, 3, 4] rfl rfl 0 rfl rfl rfl hl.1 rfl (Nat.le_of_ble_eq_true rfl) d_Reader_readOwn_85 ⟨Nat.le_of_ble_eq_true rfl, Nat.le_of_ble_eq_true rfl⟩ rfl (fun H locs hH => ?_)
  refine lv_if_eq (tgt := 102) hx hb d_Reader_readOwn_88 (by decide) (fun hc88 => ?_) (fun hc88 => ?_)
  · have hf := ip hc88 hf
    have hf := Option.some.inj hf
    subst hf
    exact rV C hH d_Reader_readOwn_102
  · have hf := im hc88 hf
    refine lv_aload_n hx hb d_Reader_readOwn_91 rfl (lv_at hl 0 rfl) ?_
    refine lv_aload_n hx hb d_Reader_readOwn_92 rfl (lv_at hl 1 rfl) ?_
    refine lv_iload_n hx hb d_Reader_readOwn_93 rfl (lv_at hl 2 rfl) ?_
    refine lv_lload_n hx hb d_Reader_readOwn_94 rfl (lv_at hl 3 rfl) ?_
    refine lv_lload hx hb d_Reader_readOwn_95 (lv_at hl 4 rfl) ?_
    refine lv_iload hx hb d_Reader_readOwn_97 (lv_at hl 5 rfl) ?_
    obtain ⟨r99, hr99, hf⟩ := lb hf
    refine fnV (rest := []) (wr := []) (w2 := [(h, .inr (4, [.ref h_log, .ref h_past, .int r99.1.2.2.1, .int r99.1.2.2.2.1, .int r99.1.2.2.2.2])), (h_log, .inr (0, [.ref h_log_row, .int r99.1.1.2])), (h_log_row, .inl (cI, 5000, .inl r99.1.1.1)), (h_past, .inr (1, [.ref h_past_typed, .int r99.1.2.1.2.1, .int r99.1.2.1.2.2])), (h_past_typed, .inl (cI, 300, .inl r99.1.2.1.1)), (q1, .inr (2, [.ref q1_kinds, .ref q1_differences, .ref q1_partsA, .ref q1_partsB, .int r99.2.2.2.2.2])), (q1_kinds, .inl (cI, 300, .inl r99.2.1)), (q1_differences, .inl (cL, 300, .inr (.inl r99.2.2.1))), (q1_partsA, .inl (cL, 300, .inr (.inl r99.2.2.2.1))), (q1_partsB, .inl (cI, 300, .inl r99.2.2.2.2.1))]) (st2 := []) C (c_Reader_keep l D cI cL h h_log h_log_row h_past h_past_typed q1 q1_kinds q1_differences q1_partsA q1_partsB st e1 x2 x3 x6 x8 r99 hr99) (cV hts kV_Reader_keep wd_323 ⟨Nat.le_of_ble_eq_true rfl, Nat.le_of_ble_eq_true rfl⟩) hH [0, 1, 2, 3, 4, 5, 6, 7, 8, 9] [] [0, 1, 2, 3, 4, 5, 6, 7, 8, 9] rfl rfl rfl rfl (by decide) rfl rfl 0 rfl rfl rfl hl.1 rfl (Nat.le_of_ble_eq_true rfl) d_Reader_readOwn_99 ⟨Nat.le_of_ble_eq_true rfl, Nat.le_of_ble_eq_true rfl⟩ rfl (fun H locs hH => ?_)
    have hf := Option.some.inj hf
    subst hf
    exact rV C hH d_Reader_readOwn_102
def f_Reader_readOwn (st : S_Reader) (e1 : S_Events) (x2 : Int32) (x3 : Int64) (x5 : Int32) : Option (S_Reader × S_Events) :=
  if x2 = 1 then ((f_Reader_readBytes st x5).bind (fun r43 => f_Reader_readOwn_b84 r43.2 e1 x2 x3 r43.1 x5)) else if x2 = 2 then (lt1 (f_Reader_readSignal st) (fun r56 => f_Reader_readOwn_b84 r56.2 e1 x2 x3 x5.toInt64 r56.1)) else if x2 = 3 then ((f_Reader_readVarint st 0).bind (fun r66 => f_Reader_readOwn_b84 r66.2 e1 x2 x3 r66.1 0)) else if x2 = 4 then ((f_Reader_readBytes st 4).bind (fun r76 => f_Reader_readOwn_b84 r76.2 e1 x2 x3 r76.1 0)) else (f_Reader_readOwn_b84 st e1 x2 x3 x5.toInt64 0)
set_option maxRecDepth 100000 in
set_option maxHeartbeats 4000000 in
theorem c_Reader_readOwn (l : Launch) (D : va_G) (cI cL : ClassId) (h h_log h_log_row h_past h_past_typed q1 q1_kinds q1_differences q1_partsA q1_partsB : Nat) (st : S_Reader) (e1 : S_Events) (x2 : Int32) (x3 : Int64) (x5 : Int32) (res : S_Reader × S_Events) (hf : f_Reader_readOwn st e1 x2 x3 x5 = some res) :
    Fn l D vwCl [(cI, .int), (cL, .long)] y_Reader_readOwn ws_Reader_readOwn { frames := 3, cells := 0, slots := 0, locals := 70 } [.ref h, .ref q1, .int x2, .long x3, .int x5] [(h, .inr (4, [.ref h_log, .ref h_past, .int st.2.2.1, .int st.2.2.2.1, .int st.2.2.2.2])), (h_log, .inr (0, [.ref h_log_row, .int st.1.2])), (h_log_row, .inl (cI, 5000, .inl st.1.1)), (h_past, .inr (1, [.ref h_past_typed, .int st.2.1.2.1, .int st.2.1.2.2])), (h_past_typed, .inl (cI, 300, .inl st.2.1.1)), (q1, .inr (2, [.ref q1_kinds, .ref q1_differences, .ref q1_partsA, .ref q1_partsB, .int e1.2.2.2.2])), (q1_kinds, .inl (cI, 300, .inl e1.1)), (q1_differences, .inl (cL, 300, .inr (.inl e1.2.1))), (q1_partsA, .inl (cL, 300, .inr (.inl e1.2.2.1))), (q1_partsB, .inl (cI, 300, .inl e1.2.2.2.1))] (none) [(h, .inr (4, [.ref h_log, .ref h_past, .int res.1.2.2.1, .int res.1.2.2.2.1, .int res.1.2.2.2.2])), (h_log, .inr (0, [.ref h_log_row, .int res.1.1.2])), (h_log_row, .inl (cI, 5000, .inl res.1.1.1)), (h_past, .inr (1, [.ref h_past_typed, .int res.1.2.1.2.1, .int res.1.2.1.2.2])), (h_past_typed, .inl (cI, 300, .inl res.1.2.1.1)), (q1, .inr (2, [.ref q1_kinds, .ref q1_differences, .ref q1_partsA, .ref q1_partsB, .int res.2.2.2.2.2])), (q1_kinds, .inl (cI, 300, .inl res.2.1)), (q1_differences, .inl (cL, 300, .inr (.inl res.2.2.1))), (q1_partsA, .inl (cL, 300, .inr (.inl res.2.2.2.1))), (q1_partsB, .inl (cI, 300, .inl res.2.2.2.2.1))] := by
  refine Fn.ofW (cc := b_Reader_readOwn) (maxL := 9) (ret := none) (by decide) rfl (Nat.le_of_ble_eq_true rfl) ?_
  intro p e s m below meth c A ls C hH hinit hl
  have hl : lv_has ls 9 [(0, .ref h), (1, .ref q1), (2, .int x2), (3, .long x3), (5, .int x5)] := hl
  obtain ⟨hx, hb, hr, hml, hown, hts, hlk, hK, hA⟩ := id C
  unfold f_Reader_readOwn at hf
  refine lv_iload hx hb d_Reader_readOwn_0 (lv_at hl 4 rfl) ?_
  refine lv_i2l (v := x5.toInt64) hx hb d_Reader_readOwn_2 rfl ?_
  refine lv_lstore (lv' := [(6, .long x5.toInt64), (0, .ref h), (1, .ref q1), (2, .int x2), (3, .long x3), (5, .int x5)]) hx hb d_Reader_readOwn_3 hl (by decide) rfl (fun ls hl => ?_)
  refine lv_iconst (v := 0) hx hb d_Reader_readOwn_5 (by decide) ?_
  refine lv_istore (lv' := [(8, .int 0), (6, .long x5.toInt64), (0, .ref h), (1, .ref q1), (2, .int x2), (3, .long x3), (5, .int x5)]) hx hb d_Reader_readOwn_6 hl (by decide) rfl (fun ls hl => ?_)
  refine lv_iload_n hx hb d_Reader_readOwn_8 rfl (lv_at hl 4 rfl) ?_
  by_cases hc9_0 : x2 = 1
  · have hf := ip hc9_0 hf
    refine lv_tableIn (tgt := 40) hx hb d_Reader_readOwn_9 (by rw [hc9_0]; decide) (by rw [hc9_0]; decide) (by rw [hc9_0]; rfl) (by decide) ?_
    refine lv_aload_n hx hb d_Reader_readOwn_40 rfl (lv_at hl 2 rfl) ?_
    refine lv_iload hx hb d_Reader_readOwn_41 (lv_at hl 6 rfl) ?_
    obtain ⟨r43, hr43, hf⟩ := ob hf
    refine fnV (rest := []) (wr := [(q1, .inr (2, [.ref q1_kinds, .ref q1_differences, .ref q1_partsA, .ref q1_partsB, .int e1.2.2.2.2])), (q1_kinds, .inl (cI, 300, .inl e1.1)), (q1_differences, .inl (cL, 300, .inr (.inl e1.2.1))), (q1_partsA, .inl (cL, 300, .inr (.inl e1.2.2.1))), (q1_partsB, .inl (cI, 300, .inl e1.2.2.2.1))]) (w2 := [(h, .inr (4, [.ref h_log, .ref h_past, .int r43.2.2.2.1, .int r43.2.2.2.2.1, .int r43.2.2.2.2.2])), (h_log, .inr (0, [.ref h_log_row, .int r43.2.1.2])), (h_log_row, .inl (cI, 5000, .inl r43.2.1.1)), (h_past, .inr (1, [.ref h_past_typed, .int r43.2.2.1.2.1, .int r43.2.2.1.2.2])), (h_past_typed, .inl (cI, 300, .inl r43.2.2.1.1)), (q1, .inr (2, [.ref q1_kinds, .ref q1_differences, .ref q1_partsA, .ref q1_partsB, .int e1.2.2.2.2])), (q1_kinds, .inl (cI, 300, .inl e1.1)), (q1_differences, .inl (cL, 300, .inr (.inl e1.2.1))), (q1_partsA, .inl (cL, 300, .inr (.inl e1.2.2.1))), (q1_partsB, .inl (cI, 300, .inl e1.2.2.2.1))]) (st2 := [.long r43.1]) C (c_Reader_readBytes l D cI cL h h_log h_log_row h_past h_past_typed st x5 r43 hr43) (cV hts kV_Reader_readBytes wd_346 ⟨Nat.le_of_ble_eq_true rfl, Nat.le_of_ble_eq_true rfl⟩) hH [0, 1, 2, 3, 4] [5, 6, 7, 8, 9] [5, 6, 7, 8, 9, 0, 1, 2, 3, 4] rfl rfl rfl rfl (by decide) rfl rfl 0 rfl rfl rfl hl.1 rfl (Nat.le_of_ble_eq_true rfl) d_Reader_readOwn_43 ⟨Nat.le_of_ble_eq_true rfl, Nat.le_of_ble_eq_true rfl⟩ rfl (fun H locs hH => ?_)
    refine lv_lstore (lv' := [(6, .long r43.1), (8, .int 0), (0, .ref h), (1, .ref q1), (2, .int x2), (3, .long x3), (5, .int x5)]) hx hb d_Reader_readOwn_46 hl (by decide) rfl (fun ls hl => ?_)
    refine lv_iload hx hb d_Reader_readOwn_48 (lv_at hl 6 rfl) ?_
    refine lv_istore (lv' := [(8, .int x5), (6, .long r43.1), (0, .ref h), (1, .ref q1), (2, .int x2), (3, .long x3), (5, .int x5)]) hx hb d_Reader_readOwn_50 hl (by decide) rfl (fun ls hl => ?_)
    refine lv_goto (tgt := 84) hx hb d_Reader_readOwn_52 (by decide) ?_
    exact w_Reader_readOwn_b84 l D cI cL h h_log h_log_row h_past h_past_typed q1 q1_kinds q1_differences q1_partsA q1_partsB C r43.2 e1 x2 x3 r43.1 x5 res hf _ _ _ hH (lv_sub hl [2, 3, 4, 5, 1, 0] rfl)
  have hf := im hc9_0 hf
  by_cases hc9_1 : x2 = 2
  · have hf := ip hc9_1 hf
    refine lv_tableIn (tgt := 55) hx hb d_Reader_readOwn_9 (by rw [hc9_1]; decide) (by rw [hc9_1]; decide) (by rw [hc9_1]; rfl) (by decide) ?_
    refine lv_aload_n hx hb d_Reader_readOwn_55 rfl (lv_at hl 2 rfl) ?_
    obtain ⟨r56, hr56, hf⟩ := lb hf
    refine fnV (rest := []) (wr := [(q1, .inr (2, [.ref q1_kinds, .ref q1_differences, .ref q1_partsA, .ref q1_partsB, .int e1.2.2.2.2])), (q1_kinds, .inl (cI, 300, .inl e1.1)), (q1_differences, .inl (cL, 300, .inr (.inl e1.2.1))), (q1_partsA, .inl (cL, 300, .inr (.inl e1.2.2.1))), (q1_partsB, .inl (cI, 300, .inl e1.2.2.2.1))]) (w2 := [(h, .inr (4, [.ref h_log, .ref h_past, .int r56.2.2.2.1, .int r56.2.2.2.2.1, .int r56.2.2.2.2.2])), (h_log, .inr (0, [.ref h_log_row, .int r56.2.1.2])), (h_log_row, .inl (cI, 5000, .inl r56.2.1.1)), (h_past, .inr (1, [.ref h_past_typed, .int r56.2.2.1.2.1, .int r56.2.2.1.2.2])), (h_past_typed, .inl (cI, 300, .inl r56.2.2.1.1)), (q1, .inr (2, [.ref q1_kinds, .ref q1_differences, .ref q1_partsA, .ref q1_partsB, .int e1.2.2.2.2])), (q1_kinds, .inl (cI, 300, .inl e1.1)), (q1_differences, .inl (cL, 300, .inr (.inl e1.2.1))), (q1_partsA, .inl (cL, 300, .inr (.inl e1.2.2.1))), (q1_partsB, .inl (cI, 300, .inl e1.2.2.2.1))]) (st2 := [.int r56.1]) C (c_Reader_readSignal l D cI cL h h_log h_log_row h_past h_past_typed st r56 hr56) (cV hts kV_Reader_readSignal wd_350 ⟨Nat.le_of_ble_eq_true rfl, Nat.le_of_ble_eq_true rfl⟩) hH [0, 1, 2, 3, 4] [5, 6, 7, 8, 9] [5, 6, 7, 8, 9, 0, 1, 2, 3, 4] rfl rfl rfl rfl (by decide) rfl rfl 0 rfl rfl rfl hl.1 rfl (Nat.le_of_ble_eq_true rfl) d_Reader_readOwn_56 ⟨Nat.le_of_ble_eq_true rfl, Nat.le_of_ble_eq_true rfl⟩ rfl (fun H locs hH => ?_)
    refine lv_istore (lv' := [(8, .int r56.1), (6, .long x5.toInt64), (0, .ref h), (1, .ref q1), (2, .int x2), (3, .long x3), (5, .int x5)]) hx hb d_Reader_readOwn_59 hl (by decide) rfl (fun ls hl => ?_)
    refine lv_goto (tgt := 84) hx hb d_Reader_readOwn_61 (by decide) ?_
    exact w_Reader_readOwn_b84 l D cI cL h h_log h_log_row h_past h_past_typed q1 q1_kinds q1_differences q1_partsA q1_partsB C r56.2 e1 x2 x3 x5.toInt64 r56.1 res hf _ _ _ hH (lv_sub hl [2, 3, 4, 5, 1, 0] rfl)
  have hf := im hc9_1 hf
  by_cases hc9_2 : x2 = 3
  · have hf := ip hc9_2 hf
    refine lv_tableIn (tgt := 64) hx hb d_Reader_readOwn_9 (by rw [hc9_2]; decide) (by rw [hc9_2]; decide) (by rw [hc9_2]; rfl) (by decide) ?_
    refine lv_aload_n hx hb d_Reader_readOwn_64 rfl (lv_at hl 2 rfl) ?_
    refine lv_iconst (v := 0) hx hb d_Reader_readOwn_65 (by decide) ?_
    obtain ⟨r66, hr66, hf⟩ := ob hf
    refine fnV (rest := []) (wr := [(q1, .inr (2, [.ref q1_kinds, .ref q1_differences, .ref q1_partsA, .ref q1_partsB, .int e1.2.2.2.2])), (q1_kinds, .inl (cI, 300, .inl e1.1)), (q1_differences, .inl (cL, 300, .inr (.inl e1.2.1))), (q1_partsA, .inl (cL, 300, .inr (.inl e1.2.2.1))), (q1_partsB, .inl (cI, 300, .inl e1.2.2.2.1))]) (w2 := [(h, .inr (4, [.ref h_log, .ref h_past, .int r66.2.2.2.1, .int r66.2.2.2.2.1, .int r66.2.2.2.2.2])), (h_log, .inr (0, [.ref h_log_row, .int r66.2.1.2])), (h_log_row, .inl (cI, 5000, .inl r66.2.1.1)), (h_past, .inr (1, [.ref h_past_typed, .int r66.2.2.1.2.1, .int r66.2.2.1.2.2])), (h_past_typed, .inl (cI, 300, .inl r66.2.2.1.1)), (q1, .inr (2, [.ref q1_kinds, .ref q1_differences, .ref q1_partsA, .ref q1_partsB, .int e1.2.2.2.2])), (q1_kinds, .inl (cI, 300, .inl e1.1)), (q1_differences, .inl (cL, 300, .inr (.inl e1.2.1))), (q1_partsA, .inl (cL, 300, .inr (.inl e1.2.2.1))), (q1_partsB, .inl (cI, 300, .inl e1.2.2.2.1))]) (st2 := [.long r66.1]) C (c_Reader_readVarint l D cI cL h h_log h_log_row h_past h_past_typed st 0 r66 hr66) (cV hts kV_Reader_readVarint wd_281 ⟨Nat.le_of_ble_eq_true rfl, Nat.le_of_ble_eq_true rfl⟩) hH [0, 1, 2, 3, 4] [5, 6, 7, 8, 9] [5, 6, 7, 8, 9, 0, 1, 2, 3, 4] rfl rfl rfl rfl (by decide) rfl rfl 0 rfl rfl rfl hl.1 rfl (Nat.le_of_ble_eq_true rfl) d_Reader_readOwn_66 ⟨Nat.le_of_ble_eq_true rfl, Nat.le_of_ble_eq_true rfl⟩ rfl (fun H locs hH => ?_)
    refine lv_lstore (lv' := [(6, .long r66.1), (8, .int 0), (0, .ref h), (1, .ref q1), (2, .int x2), (3, .long x3), (5, .int x5)]) hx hb d_Reader_readOwn_69 hl (by decide) rfl (fun ls hl => ?_)
    refine lv_goto (tgt := 84) hx hb d_Reader_readOwn_71 (by decide) ?_
    exact w_Reader_readOwn_b84 l D cI cL h h_log h_log_row h_past h_past_typed q1 q1_kinds q1_differences q1_partsA q1_partsB C r66.2 e1 x2 x3 r66.1 0 res hf _ _ _ hH (lv_sub hl [2, 3, 4, 5, 0, 1] rfl)
  have hf := im hc9_2 hf
  by_cases hc9_3 : x2 = 4
  · have hf := ip hc9_3 hf
    refine lv_tableIn (tgt := 74) hx hb d_Reader_readOwn_9 (by rw [hc9_3]; decide) (by rw [hc9_3]; decide) (by rw [hc9_3]; rfl) (by decide) ?_
    refine lv_aload_n hx hb d_Reader_readOwn_74 rfl (lv_at hl 2 rfl) ?_
    refine lv_iconst (v := 4) hx hb d_Reader_readOwn_75 (by decide) ?_
    obtain ⟨r76, hr76, hf⟩ := ob hf
    refine fnV (rest := []) (wr := [(q1, .inr (2, [.ref q1_kinds, .ref q1_differences, .ref q1_partsA, .ref q1_partsB, .int e1.2.2.2.2])), (q1_kinds, .inl (cI, 300, .inl e1.1)), (q1_differences, .inl (cL, 300, .inr (.inl e1.2.1))), (q1_partsA, .inl (cL, 300, .inr (.inl e1.2.2.1))), (q1_partsB, .inl (cI, 300, .inl e1.2.2.2.1))]) (w2 := [(h, .inr (4, [.ref h_log, .ref h_past, .int r76.2.2.2.1, .int r76.2.2.2.2.1, .int r76.2.2.2.2.2])), (h_log, .inr (0, [.ref h_log_row, .int r76.2.1.2])), (h_log_row, .inl (cI, 5000, .inl r76.2.1.1)), (h_past, .inr (1, [.ref h_past_typed, .int r76.2.2.1.2.1, .int r76.2.2.1.2.2])), (h_past_typed, .inl (cI, 300, .inl r76.2.2.1.1)), (q1, .inr (2, [.ref q1_kinds, .ref q1_differences, .ref q1_partsA, .ref q1_partsB, .int e1.2.2.2.2])), (q1_kinds, .inl (cI, 300, .inl e1.1)), (q1_differences, .inl (cL, 300, .inr (.inl e1.2.1))), (q1_partsA, .inl (cL, 300, .inr (.inl e1.2.2.1))), (q1_partsB, .inl (cI, 300, .inl e1.2.2.2.1))]) (st2 := [.long r76.1]) C (c_Reader_readBytes l D cI cL h h_log h_log_row h_past h_past_typed st 4 r76 hr76) (cV hts kV_Reader_readBytes wd_346 ⟨Nat.le_of_ble_eq_true rfl, Nat.le_of_ble_eq_true rfl⟩) hH [0, 1, 2, 3, 4] [5, 6, 7, 8, 9] [5, 6, 7, 8, 9, 0, 1, 2, 3, 4] rfl rfl rfl rfl (by decide) rfl rfl 0 rfl rfl rfl hl.1 rfl (Nat.le_of_ble_eq_true rfl) d_Reader_readOwn_76 ⟨Nat.le_of_ble_eq_true rfl, Nat.le_of_ble_eq_true rfl⟩ rfl (fun H locs hH => ?_)
    refine lv_lstore (lv' := [(6, .long r76.1), (8, .int 0), (0, .ref h), (1, .ref q1), (2, .int x2), (3, .long x3), (5, .int x5)]) hx hb d_Reader_readOwn_79 hl (by decide) rfl (fun ls hl => ?_)
    refine lv_goto (tgt := 84) hx hb d_Reader_readOwn_81 (by decide) ?_
    exact w_Reader_readOwn_b84 l D cI cL h h_log h_log_row h_past h_past_typed q1 q1_kinds q1_differences q1_partsA q1_partsB C r76.2 e1 x2 x3 r76.1 0 res hf _ _ _ hH (lv_sub hl [2, 3, 4, 5, 0, 1] rfl)
  have hf := im hc9_3 hf
  refine lv_tableOut (tgt := 84) hx hb d_Reader_readOwn_9 (by have h0 := i32n (k := 1) hc9_0 (by decide); have h1 := i32n (k := 2) hc9_1 (by decide); have h2 := i32n (k := 3) hc9_2 (by decide); have h3 := i32n (k := 4) hc9_3 (by decide); omega) (by decide) ?_
  exact w_Reader_readOwn_b84 l D cI cL h h_log h_log_row h_past h_past_typed q1 q1_kinds q1_differences q1_partsA q1_partsB C st e1 x2 x3 x5.toInt64 0 res hf _ _ _ hH (lv_sub hl [2, 3, 4, 5, 1, 0] rfl)
def f_Reader_readEntry_b110 (st : S_Reader) (e1 : S_Events) (x4 : Int32) (x6 : Int32) (x7 : Int32) (z0 : Int64) : Option (S_Reader × S_Events) :=
  if (bI (f_Reader_isFine st)) = 0 then (some ((st, e1))) else (if (bI (f_Reader_isMeaningAnother x6 x7)) = 0 then ((f_Reader_readOwn st e1 x6 z0 x7).bind (fun r152 => some ((r152.1, r152.2)))) else ((f_Reader_readLikeAnother st e1 x6 z0 x4).bind (fun r138 => some ((r138.1, r138.2)))))
set_option maxRecDepth 100000 in
set_option maxHeartbeats 4000000 in
theorem w_Reader_readEntry_b110 (l : Launch) (D : va_G) (cI cL : ClassId) (h h_log h_log_row h_past h_past_typed q1 q1_kinds q1_differences q1_partsA q1_partsB : Nat) {p : Program} {e : Env} {s : State} {m : MethodId} {args : Array Value} {below : List Frame} {meth : Method} {c : Code} {A : Nat → Prop} (C : Cx p s m args meth c D vwCl [(cI, .int), (cL, .long)] A b_Reader_readEntry 11 none ws_Reader_readEntry y_Reader_readEntry.cls) : ∀ (st : S_Reader) (e1 : S_Events) (x4 : Int32) (x6 : Int32) (x7 : Int32) (z0 : Int64) (res : S_Reader × S_Events), f_Reader_readEntry_b110 st e1 x4 x6 x7 z0 = some res → ∀ (H : Heap) (locs : List Loc) (ls : Array Slot), Hp D vwCl A A s.heap H locs [(h, .inr (4, [.ref h_log, .ref h_past, .int st.2.2.1, .int st.2.2.2.1, .int st.2.2.2.2])), (h_log, .inr (0, [.ref h_log_row, .int st.1.2])), (h_log_row, .inl (cI, 5000, .inl st.1.1)), (h_past, .inr (1, [.ref h_past_typed, .int st.2.1.2.1, .int st.2.1.2.2])), (h_past_typed, .inl (cI, 300, .inl st.2.1.1)), (q1, .inr (2, [.ref q1_kinds, .ref q1_differences, .ref q1_partsA, .ref q1_partsB, .int e1.2.2.2.2])), (q1_kinds, .inl (cI, 300, .inl e1.1)), (q1_differences, .inl (cL, 300, .inr (.inl e1.2.1))), (q1_partsA, .inl (cL, 300, .inr (.inl e1.2.2.1))), (q1_partsB, .inl (cI, 300, .inl e1.2.2.2.1))] → lv_has ls 11 [(0, .ref h), (1, .ref q1), (4, .int x4), (6, .int x6), (7, .int x7)] → W p l e { frames := 4, cells := 0, slots := 0, locals := 99 } s m args below meth c H locs 0 0 (MQ below (Qw D vwCl [(cI, .int), (cL, .long)] (none) A [(h, .inr (4, [.ref h_log, .ref h_past, .int res.1.2.2.1, .int res.1.2.2.2.1, .int res.1.2.2.2.2])), (h_log, .inr (0, [.ref h_log_row, .int res.1.1.2])), (h_log_row, .inl (cI, 5000, .inl res.1.1.1)), (h_past, .inr (1, [.ref h_past_typed, .int res.1.2.1.2.1, .int res.1.2.1.2.2])), (h_past_typed, .inl (cI, 300, .inl res.1.2.1.1)), (q1, .inr (2, [.ref q1_kinds, .ref q1_differences, .ref q1_partsA, .ref q1_partsB, .int res.2.2.2.2.2])), (q1_kinds, .inl (cI, 300, .inl res.2.1)), (q1_differences, .inl (cL, 300, .inr (.inl res.2.2.1))), (q1_partsA, .inl (cL, 300, .inr (.inl res.2.2.2.1))), (q1_partsB, .inl (cI, 300, .inl res.2.2.2.2.1))]) args s 0 0 A) (F0 m 110 ls [.long z0]) := by
  obtain ⟨hx, hb, hr, hml, hown, hts, hlk, hK, hA⟩ := id C
  intro st e1 x4 x6 x7 z0 res hf H locs ls hH hl
  unfold f_Reader_readEntry_b110 at hf
  refine lv_lstore (lv' := [(9, .long z0), (0, .ref h), (1, .ref q1), (4, .int x4), (6, .int x6), (7, .int x7)]) hx hb d_Reader_readEntry_110 hl (by decide) rfl (fun ls hl => ?_)
  refine lv_aload_n hx hb d_Reader_readEntry_112 rfl (lv_at hl 1 rfl) ?_
  refine fnVR (rest := []) (st2 := [.int (bI (f_Reader_isFine st))]) C (c_Reader_isFine l D cI cL h h_log h_log_row h_past h_past_typed st _ rfl) (cV hts kV_Reader_isFine wd_301 ⟨Nat.le_of_ble_eq_true rfl, Nat.le_of_ble_eq_true rfl⟩) hH [0, 1, 2, 3, 4] rfl rfl 0 rfl rfl rfl hl.1 rfl (Nat.le_of_ble_eq_true rfl) d_Reader_readEntry_113 ⟨Nat.le_of_ble_eq_true rfl, Nat.le_of_ble_eq_true rfl⟩ rfl (fun H locs hH => ?_)
  refine lv_if_ne (tgt := 120) hx hb d_Reader_readEntry_116 (by decide) (fun hc116 => ?_) (fun hc116 => ?_)
  · have hf := im hc116 hf
    refine lv_iload hx hb d_Reader_readEntry_120 (lv_at hl 4 rfl) ?_
    refine lv_iload hx hb d_Reader_readEntry_122 (lv_at hl 5 rfl) ?_
    refine fnSR (rest := []) (st2 := [.int (bI (f_Reader_isMeaningAnother x6 x7))]) C (c_Reader_isMeaningAnother l D cI cL  x6 x7 _ rfl) (cS hts kS_Reader_isMeaningAnother wd_332 ⟨Nat.le_of_ble_eq_true rfl, Nat.le_of_ble_eq_true rfl⟩) hH [] rfl rfl rfl hl.1 rfl (Nat.le_of_ble_eq_true rfl) d_Reader_readEntry_124 ⟨Nat.le_of_ble_eq_true rfl, Nat.le_of_ble_eq_true rfl⟩ rfl (fun H locs hH => ?_)
    refine lv_if_eq (tgt := 144) hx hb d_Reader_readEntry_127 (by decide) (fun hc127 => ?_) (fun hc127 => ?_)
    · have hf := ip hc127 hf
      refine lv_aload_n hx hb d_Reader_readEntry_144 rfl (lv_at hl 1 rfl) ?_
      refine lv_aload_n hx hb d_Reader_readEntry_145 rfl (lv_at hl 2 rfl) ?_
      refine lv_iload hx hb d_Reader_readEntry_146 (lv_at hl 4 rfl) ?_
      refine lv_lload hx hb d_Reader_readEntry_148 (lv_at hl 0 rfl) ?_
      refine lv_iload hx hb d_Reader_readEntry_150 (lv_at hl 5 rfl) ?_
      obtain ⟨r152, hr152, hf⟩ := ob hf
      refine fnV (rest := []) (wr := []) (w2 := [(h, .inr (4, [.ref h_log, .ref h_past, .int r152.1.2.2.1, .int r152.1.2.2.2.1, .int r152.1.2.2.2.2])), (h_log, .inr (0, [.ref h_log_row, .int r152.1.1.2])), (h_log_row, .inl (cI, 5000, .inl r152.1.1.1)), (h_past, .inr (1, [.ref h_past_typed, .int r152.1.2.1.2.1, .int r152.1.2.1.2.2])), (h_past_typed, .inl (cI, 300, .inl r152.1.2.1.1)), (q1, .inr (2, [.ref q1_kinds, .ref q1_differences, .ref q1_partsA, .ref q1_partsB, .int r152.2.2.2.2.2])), (q1_kinds, .inl (cI, 300, .inl r152.2.1)), (q1_differences, .inl (cL, 300, .inr (.inl r152.2.2.1))), (q1_partsA, .inl (cL, 300, .inr (.inl r152.2.2.2.1))), (q1_partsB, .inl (cI, 300, .inl r152.2.2.2.2.1))]) (st2 := []) C (c_Reader_readOwn l D cI cL h h_log h_log_row h_past h_past_typed q1 q1_kinds q1_differences q1_partsA q1_partsB st e1 x6 z0 x7 r152 hr152) (cV hts kV_Reader_readOwn wd_342 ⟨Nat.le_of_ble_eq_true rfl, Nat.le_of_ble_eq_true rfl⟩) hH [0, 1, 2, 3, 4, 5, 6, 7, 8, 9] [] [0, 1, 2, 3, 4, 5, 6, 7, 8, 9] rfl rfl rfl rfl (by decide) rfl rfl 0 rfl rfl rfl hl.1 rfl (Nat.le_of_ble_eq_true rfl) d_Reader_readEntry_152 ⟨Nat.le_of_ble_eq_true rfl, Nat.le_of_ble_eq_true rfl⟩ rfl (fun H locs hH => ?_)
      have hf := Option.some.inj hf
      subst hf
      exact rV C hH d_Reader_readEntry_155
    · have hf := im hc127 hf
      refine lv_aload_n hx hb d_Reader_readEntry_130 rfl (lv_at hl 1 rfl) ?_
      refine lv_aload_n hx hb d_Reader_readEntry_131 rfl (lv_at hl 2 rfl) ?_
      refine lv_iload hx hb d_Reader_readEntry_132 (lv_at hl 4 rfl) ?_
      refine lv_lload hx hb d_Reader_readEntry_134 (lv_at hl 0 rfl) ?_
      refine lv_iload hx hb d_Reader_readEntry_136 (lv_at hl 3 rfl) ?_
      obtain ⟨r138, hr138, hf⟩ := ob hf
      refine fnV (rest := []) (wr := []) (w2 := [(h, .inr (4, [.ref h_log, .ref h_past, .int r138.1.2.2.1, .int r138.1.2.2.2.1, .int r138.1.2.2.2.2])), (h_log, .inr (0, [.ref h_log_row, .int r138.1.1.2])), (h_log_row, .inl (cI, 5000, .inl r138.1.1.1)), (h_past, .inr (1, [.ref h_past_typed, .int r138.1.2.1.2.1, .int r138.1.2.1.2.2])), (h_past_typed, .inl (cI, 300, .inl r138.1.2.1.1)), (q1, .inr (2, [.ref q1_kinds, .ref q1_differences, .ref q1_partsA, .ref q1_partsB, .int r138.2.2.2.2.2])), (q1_kinds, .inl (cI, 300, .inl r138.2.1)), (q1_differences, .inl (cL, 300, .inr (.inl r138.2.2.1))), (q1_partsA, .inl (cL, 300, .inr (.inl r138.2.2.2.1))), (q1_partsB, .inl (cI, 300, .inl r138.2.2.2.2.1))]) (st2 := []) C (c_Reader_readLikeAnother l D cI cL h h_log h_log_row h_past h_past_typed q1 q1_kinds q1_differences q1_partsA q1_partsB st e1 x6 z0 x4 r138 hr138) (cV hts kV_Reader_readLikeAnother wd_335 ⟨Nat.le_of_ble_eq_true rfl, Nat.le_of_ble_eq_true rfl⟩) hH [0, 1, 2, 3, 4, 5, 6, 7, 8, 9] [] [0, 1, 2, 3, 4, 5, 6, 7, 8, 9] rfl rfl rfl rfl (by decide) rfl rfl 0 rfl rfl rfl hl.1 rfl (Nat.le_of_ble_eq_true rfl) d_Reader_readEntry_138 ⟨Nat.le_of_ble_eq_true rfl, Nat.le_of_ble_eq_true rfl⟩ rfl (fun H locs hH => ?_)
      refine lv_goto (tgt := 155) hx hb d_Reader_readEntry_141 (by decide) ?_
      have hf := Option.some.inj hf
      subst hf
      exact rV C hH d_Reader_readEntry_155
  · have hf := ip hc116 hf
    have hf := Option.some.inj hf
    subst hf
    exact rV C hH d_Reader_readEntry_119
def f_Reader_readEntry_b85 (st : S_Reader) (e1 : S_Events) (x4 : Int32) (x6 : Int32) (x7 : Int32) (z0 : Bool) : Option (S_Reader × S_Events) :=
  if (bI z0) = 0 then ((f_Reader_readVarint st 0).bind (fun r107 => f_Reader_readEntry_b110 r107.2 e1 x4 x6 x7 r107.1)) else (f_Reader_readEntry_b110 st e1 x4 x6 x7 (f_Events_difference e1 ((f_Events_number e1) - 1)))
set_option maxRecDepth 100000 in
set_option maxHeartbeats 4000000 in
theorem w_Reader_readEntry_b85 (l : Launch) (D : va_G) (cI cL : ClassId) (h h_log h_log_row h_past h_past_typed q1 q1_kinds q1_differences q1_partsA q1_partsB : Nat) {p : Program} {e : Env} {s : State} {m : MethodId} {args : Array Value} {below : List Frame} {meth : Method} {c : Code} {A : Nat → Prop} (C : Cx p s m args meth c D vwCl [(cI, .int), (cL, .long)] A b_Reader_readEntry 11 none ws_Reader_readEntry y_Reader_readEntry.cls) : ∀ (st : S_Reader) (e1 : S_Events) (x4 : Int32) (x6 : Int32) (x7 : Int32) (z0 : Bool) (res : S_Reader × S_Events), f_Reader_readEntry_b85 st e1 x4 x6 x7 z0 = some res → ∀ (H : Heap) (locs : List Loc) (ls : Array Slot), Hp D vwCl A A s.heap H locs [(h, .inr (4, [.ref h_log, .ref h_past, .int st.2.2.1, .int st.2.2.2.1, .int st.2.2.2.2])), (h_log, .inr (0, [.ref h_log_row, .int st.1.2])), (h_log_row, .inl (cI, 5000, .inl st.1.1)), (h_past, .inr (1, [.ref h_past_typed, .int st.2.1.2.1, .int st.2.1.2.2])), (h_past_typed, .inl (cI, 300, .inl st.2.1.1)), (q1, .inr (2, [.ref q1_kinds, .ref q1_differences, .ref q1_partsA, .ref q1_partsB, .int e1.2.2.2.2])), (q1_kinds, .inl (cI, 300, .inl e1.1)), (q1_differences, .inl (cL, 300, .inr (.inl e1.2.1))), (q1_partsA, .inl (cL, 300, .inr (.inl e1.2.2.1))), (q1_partsB, .inl (cI, 300, .inl e1.2.2.2.1))] → lv_has ls 11 [(0, .ref h), (1, .ref q1), (4, .int x4), (6, .int x6), (7, .int x7)] → W p l e { frames := 4, cells := 0, slots := 0, locals := 99 } s m args below meth c H locs 0 0 (MQ below (Qw D vwCl [(cI, .int), (cL, .long)] (none) A [(h, .inr (4, [.ref h_log, .ref h_past, .int res.1.2.2.1, .int res.1.2.2.2.1, .int res.1.2.2.2.2])), (h_log, .inr (0, [.ref h_log_row, .int res.1.1.2])), (h_log_row, .inl (cI, 5000, .inl res.1.1.1)), (h_past, .inr (1, [.ref h_past_typed, .int res.1.2.1.2.1, .int res.1.2.1.2.2])), (h_past_typed, .inl (cI, 300, .inl res.1.2.1.1)), (q1, .inr (2, [.ref q1_kinds, .ref q1_differences, .ref q1_partsA, .ref q1_partsB, .int res.2.2.2.2.2])), (q1_kinds, .inl (cI, 300, .inl res.2.1)), (q1_differences, .inl (cL, 300, .inr (.inl res.2.2.1))), (q1_partsA, .inl (cL, 300, .inr (.inl res.2.2.2.1))), (q1_partsB, .inl (cI, 300, .inl res.2.2.2.2.1))]) args s 0 0 A) (F0 m 85 ls [.int (bI z0)]) := by
  obtain ⟨hx, hb, hr, hml, hown, hts, hlk, hK, hA⟩ := id C
  intro st e1 x4 x6 x7 z0 res hf H locs ls hH hl
  unfold f_Reader_readEntry_b85 at hf
  refine lv_istore (lv' := [(8, .int (bI z0)), (0, .ref h), (1, .ref q1), (4, .int x4), (6, .int x6), (7, .int x7)]) hx hb d_Reader_readEntry_85 hl (by decide) rfl (fun ls hl => ?_)
  refine lv_iload hx hb d_Reader_readEntry_87 (lv_at hl 0 rfl) ?_
  refine lv_if_eq (tgt := 105) hx hb d_Reader_readEntry_89 (by decide) (fun hc89 => ?_) (fun hc89 => ?_)
  · have hf := ip hc89 hf
    refine lv_aload_n hx hb d_Reader_readEntry_105 rfl (lv_at hl 1 rfl) ?_
    refine lv_iconst (v := 0) hx hb d_Reader_readEntry_106 (by decide) ?_
    obtain ⟨r107, hr107, hf⟩ := ob hf
    refine fnV (rest := []) (wr := [(q1, .inr (2, [.ref q1_kinds, .ref q1_differences, .ref q1_partsA, .ref q1_partsB, .int e1.2.2.2.2])), (q1_kinds, .inl (cI, 300, .inl e1.1)), (q1_differences, .inl (cL, 300, .inr (.inl e1.2.1))), (q1_partsA, .inl (cL, 300, .inr (.inl e1.2.2.1))), (q1_partsB, .inl (cI, 300, .inl e1.2.2.2.1))]) (w2 := [(h, .inr (4, [.ref h_log, .ref h_past, .int r107.2.2.2.1, .int r107.2.2.2.2.1, .int r107.2.2.2.2.2])), (h_log, .inr (0, [.ref h_log_row, .int r107.2.1.2])), (h_log_row, .inl (cI, 5000, .inl r107.2.1.1)), (h_past, .inr (1, [.ref h_past_typed, .int r107.2.2.1.2.1, .int r107.2.2.1.2.2])), (h_past_typed, .inl (cI, 300, .inl r107.2.2.1.1)), (q1, .inr (2, [.ref q1_kinds, .ref q1_differences, .ref q1_partsA, .ref q1_partsB, .int e1.2.2.2.2])), (q1_kinds, .inl (cI, 300, .inl e1.1)), (q1_differences, .inl (cL, 300, .inr (.inl e1.2.1))), (q1_partsA, .inl (cL, 300, .inr (.inl e1.2.2.1))), (q1_partsB, .inl (cI, 300, .inl e1.2.2.2.1))]) (st2 := [.long r107.1]) C (c_Reader_readVarint l D cI cL h h_log h_log_row h_past h_past_typed st 0 r107 hr107) (cV hts kV_Reader_readVarint wd_281 ⟨Nat.le_of_ble_eq_true rfl, Nat.le_of_ble_eq_true rfl⟩) hH [0, 1, 2, 3, 4] [5, 6, 7, 8, 9] [5, 6, 7, 8, 9, 0, 1, 2, 3, 4] rfl rfl rfl rfl (by decide) rfl rfl 0 rfl rfl rfl hl.1 rfl (Nat.le_of_ble_eq_true rfl) d_Reader_readEntry_107 ⟨Nat.le_of_ble_eq_true rfl, Nat.le_of_ble_eq_true rfl⟩ rfl (fun H locs hH => ?_)
    exact w_Reader_readEntry_b110 l D cI cL h h_log h_log_row h_past h_past_typed q1 q1_kinds q1_differences q1_partsA q1_partsB C r107.2 e1 x4 x6 x7 r107.1 res hf _ _ _ hH (lv_sub hl [1, 2, 3, 4, 5] rfl)
  · have hf := im hc89 hf
    refine lv_aload_n hx hb d_Reader_readEntry_92 rfl (lv_at hl 2 rfl) ?_
    refine lv_aload_n hx hb d_Reader_readEntry_93 rfl (lv_at hl 2 rfl) ?_
    refine fnVR (rest := [.ref q1]) (st2 := [.int (f_Events_number e1), .ref q1]) C (c_Events_number l D cI cL q1 q1_kinds q1_differences q1_partsA q1_partsB e1 _ rfl) (cV hts kV_Events_number wd_307 ⟨Nat.le_of_ble_eq_true rfl, Nat.le_of_ble_eq_true rfl⟩) hH [5, 6, 7, 8, 9] rfl rfl 0 rfl rfl rfl hl.1 rfl (Nat.le_of_ble_eq_true rfl) d_Reader_readEntry_94 ⟨Nat.le_of_ble_eq_true rfl, Nat.le_of_ble_eq_true rfl⟩ rfl (fun H locs hH => ?_)
    refine lv_iconst (v := 1) hx hb d_Reader_readEntry_97 (by decide) ?_
    refine lv_isub hx hb d_Reader_readEntry_98 ?_
    refine fnVR (rest := []) (st2 := [.long (f_Events_difference e1 ((f_Events_number e1) - 1))]) C (c_Events_difference l D cI cL q1 q1_kinds q1_differences q1_partsA q1_partsB e1 ((f_Events_number e1) - 1) _ rfl) (cV hts kV_Events_difference wd_320 ⟨Nat.le_of_ble_eq_true rfl, Nat.le_of_ble_eq_true rfl⟩) hH [5, 6, 7, 8, 9] rfl rfl 0 rfl rfl rfl hl.1 rfl (Nat.le_of_ble_eq_true rfl) d_Reader_readEntry_99 ⟨Nat.le_of_ble_eq_true rfl, Nat.le_of_ble_eq_true rfl⟩ rfl (fun H locs hH => ?_)
    refine lv_goto (tgt := 110) hx hb d_Reader_readEntry_102 (by decide) ?_
    exact w_Reader_readEntry_b110 l D cI cL h h_log h_log_row h_past h_past_typed q1 q1_kinds q1_differences q1_partsA q1_partsB C st e1 x4 x6 x7 (f_Events_difference e1 ((f_Events_number e1) - 1)) res hf _ _ _ hH (lv_sub hl [1, 2, 3, 4, 5] rfl)
def f_Reader_readEntry_b34 (st : S_Reader) (e1 : S_Events) (x2 : Int64) (x4 : Int32) (x5 : Int32) : Option (S_Reader × S_Events) :=
  if (bI (f_Reader_isFine st)) = 0 then (some ((st, e1))) else (if (x5 &&& 7) = (5 : Int32) then ((f_Reader_readRun st e1 x2 (x5 >>> (4 &&& 31)) x4).bind (fun r68 => some ((r68.1, r68.2)))) else (if (x5 &&& 8) = 0 then (f_Reader_readEntry_b85 st e1 x4 (x5 &&& 7) (x5 >>> (4 &&& 31)) false) else (f_Reader_readEntry_b85 st e1 x4 (x5 &&& 7) (x5 >>> (4 &&& 31)) true)))
set_option maxRecDepth 100000 in
set_option maxHeartbeats 4000000 in
theorem w_Reader_readEntry_b34 (l : Launch) (D : va_G) (cI cL : ClassId) (h h_log h_log_row h_past h_past_typed q1 q1_kinds q1_differences q1_partsA q1_partsB : Nat) {p : Program} {e : Env} {s : State} {m : MethodId} {args : Array Value} {below : List Frame} {meth : Method} {c : Code} {A : Nat → Prop} (C : Cx p s m args meth c D vwCl [(cI, .int), (cL, .long)] A b_Reader_readEntry 11 none ws_Reader_readEntry y_Reader_readEntry.cls) : ∀ (st : S_Reader) (e1 : S_Events) (x2 : Int64) (x4 : Int32) (x5 : Int32) (res : S_Reader × S_Events), f_Reader_readEntry_b34 st e1 x2 x4 x5 = some res → ∀ (H : Heap) (locs : List Loc) (ls : Array Slot), Hp D vwCl A A s.heap H locs [(h, .inr (4, [.ref h_log, .ref h_past, .int st.2.2.1, .int st.2.2.2.1, .int st.2.2.2.2])), (h_log, .inr (0, [.ref h_log_row, .int st.1.2])), (h_log_row, .inl (cI, 5000, .inl st.1.1)), (h_past, .inr (1, [.ref h_past_typed, .int st.2.1.2.1, .int st.2.1.2.2])), (h_past_typed, .inl (cI, 300, .inl st.2.1.1)), (q1, .inr (2, [.ref q1_kinds, .ref q1_differences, .ref q1_partsA, .ref q1_partsB, .int e1.2.2.2.2])), (q1_kinds, .inl (cI, 300, .inl e1.1)), (q1_differences, .inl (cL, 300, .inr (.inl e1.2.1))), (q1_partsA, .inl (cL, 300, .inr (.inl e1.2.2.1))), (q1_partsB, .inl (cI, 300, .inl e1.2.2.2.1))] → lv_has ls 11 [(0, .ref h), (1, .ref q1), (2, .long x2), (4, .int x4), (5, .int x5)] → W p l e { frames := 4, cells := 0, slots := 0, locals := 99 } s m args below meth c H locs 0 0 (MQ below (Qw D vwCl [(cI, .int), (cL, .long)] (none) A [(h, .inr (4, [.ref h_log, .ref h_past, .int res.1.2.2.1, .int res.1.2.2.2.1, .int res.1.2.2.2.2])), (h_log, .inr (0, [.ref h_log_row, .int res.1.1.2])), (h_log_row, .inl (cI, 5000, .inl res.1.1.1)), (h_past, .inr (1, [.ref h_past_typed, .int res.1.2.1.2.1, .int res.1.2.1.2.2])), (h_past_typed, .inl (cI, 300, .inl res.1.2.1.1)), (q1, .inr (2, [.ref q1_kinds, .ref q1_differences, .ref q1_partsA, .ref q1_partsB, .int res.2.2.2.2.2])), (q1_kinds, .inl (cI, 300, .inl res.2.1)), (q1_differences, .inl (cL, 300, .inr (.inl res.2.2.1))), (q1_partsA, .inl (cL, 300, .inr (.inl res.2.2.2.1))), (q1_partsB, .inl (cI, 300, .inl res.2.2.2.2.1))]) args s 0 0 A) (F0 m 34 ls []) := by
  obtain ⟨hx, hb, hr, hml, hown, hts, hlk, hK, hA⟩ := id C
  intro st e1 x2 x4 x5 res hf H locs ls hH hl
  unfold f_Reader_readEntry_b34 at hf
  refine lv_aload_n hx hb d_Reader_readEntry_34 rfl (lv_at hl 0 rfl) ?_
  refine fnVR (rest := []) (st2 := [.int (bI (f_Reader_isFine st))]) C (c_Reader_isFine l D cI cL h h_log h_log_row h_past h_past_typed st _ rfl) (cV hts kV_Reader_isFine wd_301 ⟨Nat.le_of_ble_eq_true rfl, Nat.le_of_ble_eq_true rfl⟩) hH [0, 1, 2, 3, 4] rfl rfl 0 rfl rfl rfl hl.1 rfl (Nat.le_of_ble_eq_true rfl) d_Reader_readEntry_35 ⟨Nat.le_of_ble_eq_true rfl, Nat.le_of_ble_eq_true rfl⟩ rfl (fun H locs hH => ?_)
  refine lv_if_ne (tgt := 42) hx hb d_Reader_readEntry_38 (by decide) (fun hc38 => ?_) (fun hc38 => ?_)
  · have hf := im hc38 hf
    refine lv_iload hx hb d_Reader_readEntry_42 (lv_at hl 4 rfl) ?_
    refine lv_bipush (v := 7) hx hb d_Reader_readEntry_44 (by decide) ?_
    refine lv_iand hx hb d_Reader_readEntry_46 ?_
    refine lv_istore (lv' := [(6, .int (x5 &&& 7)), (0, .ref h), (1, .ref q1), (2, .long x2), (4, .int x4), (5, .int x5)]) hx hb d_Reader_readEntry_47 hl (by decide) rfl (fun ls hl => ?_)
    refine lv_iload hx hb d_Reader_readEntry_49 (lv_at hl 5 rfl) ?_
    refine lv_iconst (v := 4) hx hb d_Reader_readEntry_51 (by decide) ?_
    refine lv_ishr hx hb d_Reader_readEntry_52 ?_
    refine lv_istore (lv' := [(7, .int (x5 >>> (4 &&& 31))), (6, .int (x5 &&& 7)), (0, .ref h), (1, .ref q1), (2, .long x2), (4, .int x4), (5, .int x5)]) hx hb d_Reader_readEntry_53 hl (by decide) rfl (fun ls hl => ?_)
    refine lv_iload hx hb d_Reader_readEntry_55 (lv_at hl 1 rfl) ?_
    refine lv_iconst (v := 5) hx hb d_Reader_readEntry_57 (by decide) ?_
    refine lv_icmp_ne (tgt := 72) hx hb d_Reader_readEntry_58 (by decide) (fun hc58 => ?_) (fun hc58 => ?_)
    · have hf := im hc58 hf
      refine lv_iload hx hb d_Reader_readEntry_72 (lv_at hl 6 rfl) ?_
      refine lv_bipush (v := 8) hx hb d_Reader_readEntry_74 (by decide) ?_
      refine lv_iand hx hb d_Reader_readEntry_76 ?_
      refine lv_if_eq (tgt := 84) hx hb d_Reader_readEntry_77 (by decide) (fun hc77 => ?_) (fun hc77 => ?_)
      · have hf := ip hc77 hf
        refine lv_iconst (v := 0) hx hb d_Reader_readEntry_84 (by decide) ?_
        exact w_Reader_readEntry_b85 l D cI cL h h_log h_log_row h_past h_past_typed q1 q1_kinds q1_differences q1_partsA q1_partsB C st e1 x4 (x5 &&& 7) (x5 >>> (4 &&& 31)) false res hf _ _ _ hH (lv_sub hl [2, 3, 5, 1, 0] rfl)
      · have hf := im hc77 hf
        refine lv_iconst (v := 1) hx hb d_Reader_readEntry_80 (by decide) ?_
        refine lv_goto (tgt := 85) hx hb d_Reader_readEntry_81 (by decide) ?_
        exact w_Reader_readEntry_b85 l D cI cL h h_log h_log_row h_past h_past_typed q1 q1_kinds q1_differences q1_partsA q1_partsB C st e1 x4 (x5 &&& 7) (x5 >>> (4 &&& 31)) true res hf _ _ _ hH (lv_sub hl [2, 3, 5, 1, 0] rfl)
    · have hf := ip hc58 hf
      refine lv_aload_n hx hb d_Reader_readEntry_61 rfl (lv_at hl 2 rfl) ?_
      refine lv_aload_n hx hb d_Reader_readEntry_62 rfl (lv_at hl 3 rfl) ?_
      refine lv_lload_n hx hb d_Reader_readEntry_63 rfl (lv_at hl 4 rfl) ?_
      refine lv_iload hx hb d_Reader_readEntry_64 (lv_at hl 0 rfl) ?_
      refine lv_iload hx hb d_Reader_readEntry_66 (lv_at hl 5 rfl) ?_
      obtain ⟨r68, hr68, hf⟩ := ob hf
      refine fnV (rest := []) (wr := []) (w2 := [(h, .inr (4, [.ref h_log, .ref h_past, .int r68.1.2.2.1, .int r68.1.2.2.2.1, .int r68.1.2.2.2.2])), (h_log, .inr (0, [.ref h_log_row, .int r68.1.1.2])), (h_log_row, .inl (cI, 5000, .inl r68.1.1.1)), (h_past, .inr (1, [.ref h_past_typed, .int r68.1.2.1.2.1, .int r68.1.2.1.2.2])), (h_past_typed, .inl (cI, 300, .inl r68.1.2.1.1)), (q1, .inr (2, [.ref q1_kinds, .ref q1_differences, .ref q1_partsA, .ref q1_partsB, .int r68.2.2.2.2.2])), (q1_kinds, .inl (cI, 300, .inl r68.2.1)), (q1_differences, .inl (cL, 300, .inr (.inl r68.2.2.1))), (q1_partsA, .inl (cL, 300, .inr (.inl r68.2.2.2.1))), (q1_partsB, .inl (cI, 300, .inl r68.2.2.2.2.1))]) (st2 := []) C (c_Reader_readRun l D cI cL h h_log h_log_row h_past h_past_typed q1 q1_kinds q1_differences q1_partsA q1_partsB st e1 x2 (x5 >>> (4 &&& 31)) x4 r68 hr68) (cV hts kV_Reader_readRun wd_315 ⟨Nat.le_of_ble_eq_true rfl, Nat.le_of_ble_eq_true rfl⟩) hH [0, 1, 2, 3, 4, 5, 6, 7, 8, 9] [] [0, 1, 2, 3, 4, 5, 6, 7, 8, 9] rfl rfl rfl rfl (by decide) rfl rfl 0 rfl rfl rfl hl.1 rfl (Nat.le_of_ble_eq_true rfl) d_Reader_readEntry_68 ⟨Nat.le_of_ble_eq_true rfl, Nat.le_of_ble_eq_true rfl⟩ rfl (fun H locs hH => ?_)
      have hf := Option.some.inj hf
      subst hf
      exact rV C hH d_Reader_readEntry_71
  · have hf := ip hc38 hf
    have hf := Option.some.inj hf
    subst hf
    exact rV C hH d_Reader_readEntry_41
def f_Reader_readEntry (st : S_Reader) (e1 : S_Events) (x2 : Int64) : Option (S_Reader × S_Events) :=
  lt1 (f_Reader_readByte st) (fun r7 => if (bI (f_Reader_isFine r7.2)) = 0 then (f_Reader_readEntry_b34 r7.2 e1 x2 st.2.2.1 r7.1) else (if (bI (f_Reader_isHead r7.1)) = 0 then (lt1 (f_Reader_fail r7.2 1 st.2.2.1) (fun r31 => f_Reader_readEntry_b34 r31 e1 x2 st.2.2.1 r7.1)) else (f_Reader_readEntry_b34 r7.2 e1 x2 st.2.2.1 r7.1)))
set_option maxRecDepth 100000 in
set_option maxHeartbeats 4000000 in
theorem c_Reader_readEntry (l : Launch) (D : va_G) (cI cL : ClassId) (h h_log h_log_row h_past h_past_typed q1 q1_kinds q1_differences q1_partsA q1_partsB : Nat) (st : S_Reader) (e1 : S_Events) (x2 : Int64) (res : S_Reader × S_Events) (hf : f_Reader_readEntry st e1 x2 = some res) :
    Fn l D vwCl [(cI, .int), (cL, .long)] y_Reader_readEntry ws_Reader_readEntry { frames := 4, cells := 0, slots := 0, locals := 99 } [.ref h, .ref q1, .long x2] [(h, .inr (4, [.ref h_log, .ref h_past, .int st.2.2.1, .int st.2.2.2.1, .int st.2.2.2.2])), (h_log, .inr (0, [.ref h_log_row, .int st.1.2])), (h_log_row, .inl (cI, 5000, .inl st.1.1)), (h_past, .inr (1, [.ref h_past_typed, .int st.2.1.2.1, .int st.2.1.2.2])), (h_past_typed, .inl (cI, 300, .inl st.2.1.1)), (q1, .inr (2, [.ref q1_kinds, .ref q1_differences, .ref q1_partsA, .ref q1_partsB, .int e1.2.2.2.2])), (q1_kinds, .inl (cI, 300, .inl e1.1)), (q1_differences, .inl (cL, 300, .inr (.inl e1.2.1))), (q1_partsA, .inl (cL, 300, .inr (.inl e1.2.2.1))), (q1_partsB, .inl (cI, 300, .inl e1.2.2.2.1))] (none) [(h, .inr (4, [.ref h_log, .ref h_past, .int res.1.2.2.1, .int res.1.2.2.2.1, .int res.1.2.2.2.2])), (h_log, .inr (0, [.ref h_log_row, .int res.1.1.2])), (h_log_row, .inl (cI, 5000, .inl res.1.1.1)), (h_past, .inr (1, [.ref h_past_typed, .int res.1.2.1.2.1, .int res.1.2.1.2.2])), (h_past_typed, .inl (cI, 300, .inl res.1.2.1.1)), (q1, .inr (2, [.ref q1_kinds, .ref q1_differences, .ref q1_partsA, .ref q1_partsB, .int res.2.2.2.2.2])), (q1_kinds, .inl (cI, 300, .inl res.2.1)), (q1_differences, .inl (cL, 300, .inr (.inl res.2.2.1))), (q1_partsA, .inl (cL, 300, .inr (.inl res.2.2.2.1))), (q1_partsB, .inl (cI, 300, .inl res.2.2.2.2.1))] := by
  refine Fn.ofW (cc := b_Reader_readEntry) (maxL := 11) (ret := none) (by decide) rfl (Nat.le_of_ble_eq_true rfl) ?_
  intro p e s m below meth c A ls C hH hinit hl
  have hl : lv_has ls 11 [(0, .ref h), (1, .ref q1), (2, .long x2)] := hl
  obtain ⟨hx, hb, hr, hml, hown, hts, hlk, hK, hA⟩ := id C
  unfold f_Reader_readEntry at hf
  refine lv_aload_n hx hb d_Reader_readEntry_0 rfl (lv_at hl 0 rfl) ?_
  refine gt (ci := 4) (v := .int st.2.2.1) C hH (iwT iw_Reader) 0 rfl rfl 2 (by decide) (.tail _ wd_117) rfl d_Reader_readEntry_1 ?_
  refine lv_istore (lv' := [(4, .int st.2.2.1), (0, .ref h), (1, .ref q1), (2, .long x2)]) hx hb d_Reader_readEntry_4 hl (by decide) rfl (fun ls hl => ?_)
  refine lv_aload_n hx hb d_Reader_readEntry_6 rfl (lv_at hl 1 rfl) ?_
  obtain ⟨r7, hr7, hf⟩ := lb hf
  refine fnV (rest := []) (wr := [(q1, .inr (2, [.ref q1_kinds, .ref q1_differences, .ref q1_partsA, .ref q1_partsB, .int e1.2.2.2.2])), (q1_kinds, .inl (cI, 300, .inl e1.1)), (q1_differences, .inl (cL, 300, .inr (.inl e1.2.1))), (q1_partsA, .inl (cL, 300, .inr (.inl e1.2.2.1))), (q1_partsB, .inl (cI, 300, .inl e1.2.2.2.1))]) (w2 := [(h, .inr (4, [.ref h_log, .ref h_past, .int r7.2.2.2.1, .int r7.2.2.2.2.1, .int r7.2.2.2.2.2])), (h_log, .inr (0, [.ref h_log_row, .int r7.2.1.2])), (h_log_row, .inl (cI, 5000, .inl r7.2.1.1)), (h_past, .inr (1, [.ref h_past_typed, .int r7.2.2.1.2.1, .int r7.2.2.1.2.2])), (h_past_typed, .inl (cI, 300, .inl r7.2.2.1.1)), (q1, .inr (2, [.ref q1_kinds, .ref q1_differences, .ref q1_partsA, .ref q1_partsB, .int e1.2.2.2.2])), (q1_kinds, .inl (cI, 300, .inl e1.1)), (q1_differences, .inl (cL, 300, .inr (.inl e1.2.1))), (q1_partsA, .inl (cL, 300, .inr (.inl e1.2.2.1))), (q1_partsB, .inl (cI, 300, .inl e1.2.2.2.1))]) (st2 := [.int r7.1]) C (c_Reader_readByte l D cI cL h h_log h_log_row h_past h_past_typed st r7 hr7) (cV hts kV_Reader_readByte wd_285 ⟨Nat.le_of_ble_eq_true rfl, Nat.le_of_ble_eq_true rfl⟩) hH [0, 1, 2, 3, 4] [5, 6, 7, 8, 9] [5, 6, 7, 8, 9, 0, 1, 2, 3, 4] rfl rfl rfl rfl (by decide) rfl rfl 0 rfl rfl rfl hl.1 rfl (Nat.le_of_ble_eq_true rfl) d_Reader_readEntry_7 ⟨Nat.le_of_ble_eq_true rfl, Nat.le_of_ble_eq_true rfl⟩ rfl (fun H locs hH => ?_)
  refine lv_istore (lv' := [(5, .int r7.1), (4, .int st.2.2.1), (0, .ref h), (1, .ref q1), (2, .long x2)]) hx hb d_Reader_readEntry_10 hl (by decide) rfl (fun ls hl => ?_)
  refine lv_aload_n hx hb d_Reader_readEntry_12 rfl (lv_at hl 2 rfl) ?_
  refine fnVR (rest := []) (st2 := [.int (bI (f_Reader_isFine r7.2))]) C (c_Reader_isFine l D cI cL h h_log h_log_row h_past h_past_typed r7.2 _ rfl) (cV hts kV_Reader_isFine wd_301 ⟨Nat.le_of_ble_eq_true rfl, Nat.le_of_ble_eq_true rfl⟩) hH [0, 1, 2, 3, 4] rfl rfl 0 rfl rfl rfl hl.1 rfl (Nat.le_of_ble_eq_true rfl) d_Reader_readEntry_13 ⟨Nat.le_of_ble_eq_true rfl, Nat.le_of_ble_eq_true rfl⟩ rfl (fun H locs hH => ?_)
  refine lv_if_eq (tgt := 34) hx hb d_Reader_readEntry_16 (by decide) (fun hc16 => ?_) (fun hc16 => ?_)
  · have hf := ip hc16 hf
    exact w_Reader_readEntry_b34 l D cI cL h h_log h_log_row h_past h_past_typed q1 q1_kinds q1_differences q1_partsA q1_partsB C r7.2 e1 x2 st.2.2.1 r7.1 res hf _ _ _ hH (lv_sub hl [2, 3, 4, 1, 0] rfl)
  · have hf := im hc16 hf
    refine lv_iload hx hb d_Reader_readEntry_19 (lv_at hl 0 rfl) ?_
    refine fnSR (rest := []) (st2 := [.int (bI (f_Reader_isHead r7.1))]) C (c_Reader_isHead l D cI cL  r7.1 _ rfl) (cS hts kS_Reader_isHead wd_312 ⟨Nat.le_of_ble_eq_true rfl, Nat.le_of_ble_eq_true rfl⟩) hH [] rfl rfl rfl hl.1 rfl (Nat.le_of_ble_eq_true rfl) d_Reader_readEntry_21 ⟨Nat.le_of_ble_eq_true rfl, Nat.le_of_ble_eq_true rfl⟩ rfl (fun H locs hH => ?_)
    refine lv_if_ne (tgt := 34) hx hb d_Reader_readEntry_24 (by decide) (fun hc24 => ?_) (fun hc24 => ?_)
    · have hf := im hc24 hf
      exact w_Reader_readEntry_b34 l D cI cL h h_log h_log_row h_past h_past_typed q1 q1_kinds q1_differences q1_partsA q1_partsB C r7.2 e1 x2 st.2.2.1 r7.1 res hf _ _ _ hH (lv_sub hl [2, 3, 4, 1, 0] rfl)
    · have hf := ip hc24 hf
      refine lv_aload_n hx hb d_Reader_readEntry_27 rfl (lv_at hl 2 rfl) ?_
      refine lv_iconst (v := 1) hx hb d_Reader_readEntry_28 (by decide) ?_
      refine lv_iload hx hb d_Reader_readEntry_29 (lv_at hl 1 rfl) ?_
      obtain ⟨r31, hr31, hf⟩ := lb hf
      refine fnV (rest := []) (wr := [(q1, .inr (2, [.ref q1_kinds, .ref q1_differences, .ref q1_partsA, .ref q1_partsB, .int e1.2.2.2.2])), (q1_kinds, .inl (cI, 300, .inl e1.1)), (q1_differences, .inl (cL, 300, .inr (.inl e1.2.1))), (q1_partsA, .inl (cL, 300, .inr (.inl e1.2.2.1))), (q1_partsB, .inl (cI, 300, .inl e1.2.2.2.1))]) (w2 := [(h, .inr (4, [.ref h_log, .ref h_past, .int r31.2.2.1, .int r31.2.2.2.1, .int r31.2.2.2.2])), (h_log, .inr (0, [.ref h_log_row, .int r31.1.2])), (h_log_row, .inl (cI, 5000, .inl r31.1.1)), (h_past, .inr (1, [.ref h_past_typed, .int r31.2.1.2.1, .int r31.2.1.2.2])), (h_past_typed, .inl (cI, 300, .inl r31.2.1.1)), (q1, .inr (2, [.ref q1_kinds, .ref q1_differences, .ref q1_partsA, .ref q1_partsB, .int e1.2.2.2.2])), (q1_kinds, .inl (cI, 300, .inl e1.1)), (q1_differences, .inl (cL, 300, .inr (.inl e1.2.1))), (q1_partsA, .inl (cL, 300, .inr (.inl e1.2.2.1))), (q1_partsB, .inl (cI, 300, .inl e1.2.2.2.1))]) (st2 := []) C (c_Reader_fail l D cI cL h h_log h_log_row h_past h_past_typed r7.2 1 st.2.2.1 r31 hr31) (cV hts kV_Reader_fail wd_293 ⟨Nat.le_of_ble_eq_true rfl, Nat.le_of_ble_eq_true rfl⟩) hH [0, 1, 2, 3, 4] [5, 6, 7, 8, 9] [5, 6, 7, 8, 9, 0, 1, 2, 3, 4] rfl rfl rfl rfl (by decide) rfl rfl 0 rfl rfl rfl hl.1 rfl (Nat.le_of_ble_eq_true rfl) d_Reader_readEntry_31 ⟨Nat.le_of_ble_eq_true rfl, Nat.le_of_ble_eq_true rfl⟩ rfl (fun H locs hH => ?_)
      exact w_Reader_readEntry_b34 l D cI cL h h_log h_log_row h_past h_past_typed q1 q1_kinds q1_differences q1_partsA q1_partsB C r31 e1 x2 st.2.2.1 r7.1 res hf _ _ _ hH (lv_sub hl [2, 3, 4, 1, 0] rfl)
def f_Reader_run_b104 (st : S_Reader) (e1 : S_Events)  : Option (Int32 × S_Reader × S_Events) :=
  if (bI (f_Reader_isFine st)) = 0 then (some ((((-1) : Int32) - (st.2.2.2.1 + ((8 : Int32) * st.2.2.2.2)), st, e1))) else (some ((f_Events_number e1, st, e1)))
set_option maxRecDepth 100000 in
set_option maxHeartbeats 4000000 in
theorem w_Reader_run_b104 (l : Launch) (D : va_G) (cI cL : ClassId) (h h_log h_log_row h_past h_past_typed q1 q1_kinds q1_differences q1_partsA q1_partsB : Nat) {p : Program} {e : Env} {s : State} {m : MethodId} {args : Array Value} {below : List Frame} {meth : Method} {c : Code} {A : Nat → Prop} (C : Cx p s m args meth c D vwCl [(cI, .int), (cL, .long)] A b_Reader_run 5 (some .int) ws_Reader_run y_Reader_run.cls) : ∀ (st : S_Reader) (e1 : S_Events)  (res : Int32 × S_Reader × S_Events), f_Reader_run_b104 st e1 = some res → ∀ (H : Heap) (locs : List Loc) (ls : Array Slot), Hp D vwCl A A s.heap H locs [(h, .inr (4, [.ref h_log, .ref h_past, .int st.2.2.1, .int st.2.2.2.1, .int st.2.2.2.2])), (h_log, .inr (0, [.ref h_log_row, .int st.1.2])), (h_log_row, .inl (cI, 5000, .inl st.1.1)), (h_past, .inr (1, [.ref h_past_typed, .int st.2.1.2.1, .int st.2.1.2.2])), (h_past_typed, .inl (cI, 300, .inl st.2.1.1)), (q1, .inr (2, [.ref q1_kinds, .ref q1_differences, .ref q1_partsA, .ref q1_partsB, .int e1.2.2.2.2])), (q1_kinds, .inl (cI, 300, .inl e1.1)), (q1_differences, .inl (cL, 300, .inr (.inl e1.2.1))), (q1_partsA, .inl (cL, 300, .inr (.inl e1.2.2.1))), (q1_partsB, .inl (cI, 300, .inl e1.2.2.2.1))] → lv_has ls 5 [(0, .ref h), (1, .ref q1)] → W p l e { frames := 5, cells := 0, slots := 0, locals := 129 } s m args below meth c H locs 0 0 (MQ below (Qw D vwCl [(cI, .int), (cL, .long)] (some (.int res.1)) A [(h, .inr (4, [.ref h_log, .ref h_past, .int res.2.1.2.2.1, .int res.2.1.2.2.2.1, .int res.2.1.2.2.2.2])), (h_log, .inr (0, [.ref h_log_row, .int res.2.1.1.2])), (h_log_row, .inl (cI, 5000, .inl res.2.1.1.1)), (h_past, .inr (1, [.ref h_past_typed, .int res.2.1.2.1.2.1, .int res.2.1.2.1.2.2])), (h_past_typed, .inl (cI, 300, .inl res.2.1.2.1.1)), (q1, .inr (2, [.ref q1_kinds, .ref q1_differences, .ref q1_partsA, .ref q1_partsB, .int res.2.2.2.2.2.2])), (q1_kinds, .inl (cI, 300, .inl res.2.2.1)), (q1_differences, .inl (cL, 300, .inr (.inl res.2.2.2.1))), (q1_partsA, .inl (cL, 300, .inr (.inl res.2.2.2.2.1))), (q1_partsB, .inl (cI, 300, .inl res.2.2.2.2.2.1))]) args s 0 0 A) (F0 m 104 ls []) := by
  obtain ⟨hx, hb, hr, hml, hown, hts, hlk, hK, hA⟩ := id C
  intro st e1 res hf H locs ls hH hl
  unfold f_Reader_run_b104 at hf
  refine lv_aload_n hx hb d_Reader_run_104 rfl (lv_at hl 0 rfl) ?_
  refine fnVR (rest := []) (st2 := [.int (bI (f_Reader_isFine st))]) C (c_Reader_isFine l D cI cL h h_log h_log_row h_past h_past_typed st _ rfl) (cV hts kV_Reader_isFine wd_301 ⟨Nat.le_of_ble_eq_true rfl, Nat.le_of_ble_eq_true rfl⟩) hH [0, 1, 2, 3, 4] rfl rfl 0 rfl rfl rfl hl.1 rfl (Nat.le_of_ble_eq_true rfl) d_Reader_run_105 ⟨Nat.le_of_ble_eq_true rfl, Nat.le_of_ble_eq_true rfl⟩ rfl (fun H locs hH => ?_)
  refine lv_if_eq (tgt := 118) hx hb d_Reader_run_108 (by decide) (fun hc108 => ?_) (fun hc108 => ?_)
  · have hf := ip hc108 hf
    refine lv_iconst (v := (-1)) hx hb d_Reader_run_118 (by decide) ?_
    refine lv_aload_n hx hb d_Reader_run_119 rfl (lv_at hl 0 rfl) ?_
    refine gt (ci := 4) (v := .int st.2.2.2.1) C hH (iwT iw_Reader) 0 rfl rfl 3 (by decide) (.tail _ wd_118) rfl d_Reader_run_120 ?_
    refine lv_bipush (v := 8) hx hb d_Reader_run_123 (by decide) ?_
    refine lv_aload_n hx hb d_Reader_run_125 rfl (lv_at hl 0 rfl) ?_
    refine gt (ci := 4) (v := .int st.2.2.2.2) C hH (iwT iw_Reader) 0 rfl rfl 4 (by decide) (.tail _ wd_119) rfl d_Reader_run_126 ?_
    refine lv_imul hx hb d_Reader_run_129 ?_
    refine lv_iadd hx hb d_Reader_run_130 ?_
    refine lv_isub hx hb d_Reader_run_131 ?_
    have hf := Option.some.inj hf
    subst hf
    exact rI (v := ((-1) : Int32) - (st.2.2.2.1 + ((8 : Int32) * st.2.2.2.2))) C hH d_Reader_run_132
  · have hf := im hc108 hf
    refine lv_aload_n hx hb d_Reader_run_111 rfl (lv_at hl 1 rfl) ?_
    refine fnVR (rest := []) (st2 := [.int (f_Events_number e1)]) C (c_Events_number l D cI cL q1 q1_kinds q1_differences q1_partsA q1_partsB e1 _ rfl) (cV hts kV_Events_number wd_307 ⟨Nat.le_of_ble_eq_true rfl, Nat.le_of_ble_eq_true rfl⟩) hH [5, 6, 7, 8, 9] rfl rfl 0 rfl rfl rfl hl.1 rfl (Nat.le_of_ble_eq_true rfl) d_Reader_run_112 ⟨Nat.le_of_ble_eq_true rfl, Nat.le_of_ble_eq_true rfl⟩ rfl (fun H locs hH => ?_)
    refine lv_goto (tgt := 132) hx hb d_Reader_run_115 (by decide) ?_
    have hf := Option.some.inj hf
    subst hf
    exact rI (v := f_Events_number e1) C hH d_Reader_run_132
def f_Reader_run_b73 (st : S_Reader) (e1 : S_Events)  : Option (Int32 × S_Reader × S_Events) :=
  if (bI (f_Reader_isFine st)) = 0 then (f_Reader_run_b104 st e1) else (if (f_Bytes_length st.1) ≤ st.2.2.1 then (f_Reader_run_b104 st e1) else (lt1 (f_Reader_fail st 7 st.2.2.1) (fun r101 => f_Reader_run_b104 r101 e1)))
set_option maxRecDepth 100000 in
set_option maxHeartbeats 4000000 in
theorem w_Reader_run_b73 (l : Launch) (D : va_G) (cI cL : ClassId) (h h_log h_log_row h_past h_past_typed q1 q1_kinds q1_differences q1_partsA q1_partsB : Nat) {p : Program} {e : Env} {s : State} {m : MethodId} {args : Array Value} {below : List Frame} {meth : Method} {c : Code} {A : Nat → Prop} (C : Cx p s m args meth c D vwCl [(cI, .int), (cL, .long)] A b_Reader_run 5 (some .int) ws_Reader_run y_Reader_run.cls) : ∀ (st : S_Reader) (e1 : S_Events)  (res : Int32 × S_Reader × S_Events), f_Reader_run_b73 st e1 = some res → ∀ (H : Heap) (locs : List Loc) (ls : Array Slot), Hp D vwCl A A s.heap H locs [(h, .inr (4, [.ref h_log, .ref h_past, .int st.2.2.1, .int st.2.2.2.1, .int st.2.2.2.2])), (h_log, .inr (0, [.ref h_log_row, .int st.1.2])), (h_log_row, .inl (cI, 5000, .inl st.1.1)), (h_past, .inr (1, [.ref h_past_typed, .int st.2.1.2.1, .int st.2.1.2.2])), (h_past_typed, .inl (cI, 300, .inl st.2.1.1)), (q1, .inr (2, [.ref q1_kinds, .ref q1_differences, .ref q1_partsA, .ref q1_partsB, .int e1.2.2.2.2])), (q1_kinds, .inl (cI, 300, .inl e1.1)), (q1_differences, .inl (cL, 300, .inr (.inl e1.2.1))), (q1_partsA, .inl (cL, 300, .inr (.inl e1.2.2.1))), (q1_partsB, .inl (cI, 300, .inl e1.2.2.2.1))] → lv_has ls 5 [(0, .ref h), (1, .ref q1)] → W p l e { frames := 5, cells := 0, slots := 0, locals := 129 } s m args below meth c H locs 0 0 (MQ below (Qw D vwCl [(cI, .int), (cL, .long)] (some (.int res.1)) A [(h, .inr (4, [.ref h_log, .ref h_past, .int res.2.1.2.2.1, .int res.2.1.2.2.2.1, .int res.2.1.2.2.2.2])), (h_log, .inr (0, [.ref h_log_row, .int res.2.1.1.2])), (h_log_row, .inl (cI, 5000, .inl res.2.1.1.1)), (h_past, .inr (1, [.ref h_past_typed, .int res.2.1.2.1.2.1, .int res.2.1.2.1.2.2])), (h_past_typed, .inl (cI, 300, .inl res.2.1.2.1.1)), (q1, .inr (2, [.ref q1_kinds, .ref q1_differences, .ref q1_partsA, .ref q1_partsB, .int res.2.2.2.2.2.2])), (q1_kinds, .inl (cI, 300, .inl res.2.2.1)), (q1_differences, .inl (cL, 300, .inr (.inl res.2.2.2.1))), (q1_partsA, .inl (cL, 300, .inr (.inl res.2.2.2.2.1))), (q1_partsB, .inl (cI, 300, .inl res.2.2.2.2.2.1))]) args s 0 0 A) (F0 m 73 ls []) := by
  obtain ⟨hx, hb, hr, hml, hown, hts, hlk, hK, hA⟩ := id C
  intro st e1 res hf H locs ls hH hl
  unfold f_Reader_run_b73 at hf
  refine lv_aload_n hx hb d_Reader_run_73 rfl (lv_at hl 0 rfl) ?_
  refine fnVR (rest := []) (st2 := [.int (bI (f_Reader_isFine st))]) C (c_Reader_isFine l D cI cL h h_log h_log_row h_past h_past_typed st _ rfl) (cV hts kV_Reader_isFine wd_301 ⟨Nat.le_of_ble_eq_true rfl, Nat.le_of_ble_eq_true rfl⟩) hH [0, 1, 2, 3, 4] rfl rfl 0 rfl rfl rfl hl.1 rfl (Nat.le_of_ble_eq_true rfl) d_Reader_run_74 ⟨Nat.le_of_ble_eq_true rfl, Nat.le_of_ble_eq_true rfl⟩ rfl (fun H locs hH => ?_)
  refine lv_if_eq (tgt := 104) hx hb d_Reader_run_77 (by decide) (fun hc77 => ?_) (fun hc77 => ?_)
  · have hf := ip hc77 hf
    exact w_Reader_run_b104 l D cI cL h h_log h_log_row h_past h_past_typed q1 q1_kinds q1_differences q1_partsA q1_partsB C st e1 res hf _ _ _ hH (lv_sub hl [0, 1] rfl)
  · have hf := im hc77 hf
    refine lv_aload_n hx hb d_Reader_run_80 rfl (lv_at hl 0 rfl) ?_
    refine gt (ci := 4) (v := .int st.2.2.1) C hH (iwT iw_Reader) 0 rfl rfl 2 (by decide) (.tail _ wd_117) rfl d_Reader_run_81 ?_
    refine lv_aload_n hx hb d_Reader_run_84 rfl (lv_at hl 0 rfl) ?_
    refine gt (ci := 4) (v := .ref h_log) C hH (iwT iw_Reader) 0 rfl rfl 0 (by decide) (.tail _ wd_115) rfl d_Reader_run_85 ?_
    refine fnVR (rest := [.int st.2.2.1]) (st2 := [.int (f_Bytes_length st.1), .int st.2.2.1]) C (c_Bytes_length l D cI cL h_log h_log_row st.1 _ rfl) (cV hts kV_Bytes_length wd_289 ⟨Nat.le_of_ble_eq_true rfl, Nat.le_of_ble_eq_true rfl⟩) hH [1, 2] rfl rfl 0 rfl rfl rfl hl.1 rfl (Nat.le_of_ble_eq_true rfl) d_Reader_run_88 ⟨Nat.le_of_ble_eq_true rfl, Nat.le_of_ble_eq_true rfl⟩ rfl (fun H locs hH => ?_)
    refine lv_icmp_ge (tgt := 104) hx hb d_Reader_run_91 (by decide) (fun hc91 => ?_) (fun hc91 => ?_)
    · have hf := ip hc91 hf
      exact w_Reader_run_b104 l D cI cL h h_log h_log_row h_past h_past_typed q1 q1_kinds q1_differences q1_partsA q1_partsB C st e1 res hf _ _ _ hH (lv_sub hl [0, 1] rfl)
    · have hf := im hc91 hf
      refine lv_aload_n hx hb d_Reader_run_94 rfl (lv_at hl 0 rfl) ?_
      refine lv_bipush (v := 7) hx hb d_Reader_run_95 (by decide) ?_
      refine lv_aload_n hx hb d_Reader_run_97 rfl (lv_at hl 0 rfl) ?_
      refine gt (ci := 4) (v := .int st.2.2.1) C hH (iwT iw_Reader) 0 rfl rfl 2 (by decide) (.tail _ wd_117) rfl d_Reader_run_98 ?_
      obtain ⟨r101, hr101, hf⟩ := lb hf
      refine fnV (rest := []) (wr := [(q1, .inr (2, [.ref q1_kinds, .ref q1_differences, .ref q1_partsA, .ref q1_partsB, .int e1.2.2.2.2])), (q1_kinds, .inl (cI, 300, .inl e1.1)), (q1_differences, .inl (cL, 300, .inr (.inl e1.2.1))), (q1_partsA, .inl (cL, 300, .inr (.inl e1.2.2.1))), (q1_partsB, .inl (cI, 300, .inl e1.2.2.2.1))]) (w2 := [(h, .inr (4, [.ref h_log, .ref h_past, .int r101.2.2.1, .int r101.2.2.2.1, .int r101.2.2.2.2])), (h_log, .inr (0, [.ref h_log_row, .int r101.1.2])), (h_log_row, .inl (cI, 5000, .inl r101.1.1)), (h_past, .inr (1, [.ref h_past_typed, .int r101.2.1.2.1, .int r101.2.1.2.2])), (h_past_typed, .inl (cI, 300, .inl r101.2.1.1)), (q1, .inr (2, [.ref q1_kinds, .ref q1_differences, .ref q1_partsA, .ref q1_partsB, .int e1.2.2.2.2])), (q1_kinds, .inl (cI, 300, .inl e1.1)), (q1_differences, .inl (cL, 300, .inr (.inl e1.2.1))), (q1_partsA, .inl (cL, 300, .inr (.inl e1.2.2.1))), (q1_partsB, .inl (cI, 300, .inl e1.2.2.2.1))]) (st2 := []) C (c_Reader_fail l D cI cL h h_log h_log_row h_past h_past_typed st 7 st.2.2.1 r101 hr101) (cV hts kV_Reader_fail wd_293 ⟨Nat.le_of_ble_eq_true rfl, Nat.le_of_ble_eq_true rfl⟩) hH [0, 1, 2, 3, 4] [5, 6, 7, 8, 9] [5, 6, 7, 8, 9, 0, 1, 2, 3, 4] rfl rfl rfl rfl (by decide) rfl rfl 0 rfl rfl rfl hl.1 rfl (Nat.le_of_ble_eq_true rfl) d_Reader_run_101 ⟨Nat.le_of_ble_eq_true rfl, Nat.le_of_ble_eq_true rfl⟩ rfl (fun H locs hH => ?_)
      exact w_Reader_run_b104 l D cI cL h h_log h_log_row h_past h_past_typed q1 q1_kinds q1_differences q1_partsA q1_partsB C r101 e1 res hf _ _ _ hH (lv_sub hl [0, 1] rfl)
def f_Reader_run_b36 : Nat → S_Reader → S_Events → Int64 → Int32 → Option (Int32 × S_Reader × S_Events)
  | 0, _, _, _, _ => none
  | n + 1, st, e1, x2, x4 =>
  if (300 : Int32) ≤ x4 then (f_Reader_run_b73 st e1) else (if (bI (f_Reader_isFine st)) = 0 then (f_Reader_run_b73 st e1) else (if 0 ≤ (lg_cmp ((f_Events_number e1).toInt64) x2) then (f_Reader_run_b73 st e1) else ((f_Reader_readEntry st e1 x2).bind (fun r64 => f_Reader_run_b36 n r64.1 r64.2 x2 (x4 + 1)))))
set_option maxRecDepth 100000 in
set_option maxHeartbeats 4000000 in
theorem w_Reader_run_b36 (l : Launch) (D : va_G) (cI cL : ClassId) (h h_log h_log_row h_past h_past_typed q1 q1_kinds q1_differences q1_partsA q1_partsB : Nat) {p : Program} {e : Env} {s : State} {m : MethodId} {args : Array Value} {below : List Frame} {meth : Method} {c : Code} {A : Nat → Prop} (C : Cx p s m args meth c D vwCl [(cI, .int), (cL, .long)] A b_Reader_run 5 (some .int) ws_Reader_run y_Reader_run.cls) : ∀ (n : Nat) (st : S_Reader) (e1 : S_Events) (x2 : Int64) (x4 : Int32) (res : Int32 × S_Reader × S_Events), f_Reader_run_b36 n st e1 x2 x4 = some res → ∀ (H : Heap) (locs : List Loc) (ls : Array Slot), Hp D vwCl A A s.heap H locs [(h, .inr (4, [.ref h_log, .ref h_past, .int st.2.2.1, .int st.2.2.2.1, .int st.2.2.2.2])), (h_log, .inr (0, [.ref h_log_row, .int st.1.2])), (h_log_row, .inl (cI, 5000, .inl st.1.1)), (h_past, .inr (1, [.ref h_past_typed, .int st.2.1.2.1, .int st.2.1.2.2])), (h_past_typed, .inl (cI, 300, .inl st.2.1.1)), (q1, .inr (2, [.ref q1_kinds, .ref q1_differences, .ref q1_partsA, .ref q1_partsB, .int e1.2.2.2.2])), (q1_kinds, .inl (cI, 300, .inl e1.1)), (q1_differences, .inl (cL, 300, .inr (.inl e1.2.1))), (q1_partsA, .inl (cL, 300, .inr (.inl e1.2.2.1))), (q1_partsB, .inl (cI, 300, .inl e1.2.2.2.1))] → lv_has ls 5 [(0, .ref h), (1, .ref q1), (2, .long x2), (4, .int x4)] → W p l e { frames := 5, cells := 0, slots := 0, locals := 129 } s m args below meth c H locs 0 0 (MQ below (Qw D vwCl [(cI, .int), (cL, .long)] (some (.int res.1)) A [(h, .inr (4, [.ref h_log, .ref h_past, .int res.2.1.2.2.1, .int res.2.1.2.2.2.1, .int res.2.1.2.2.2.2])), (h_log, .inr (0, [.ref h_log_row, .int res.2.1.1.2])), (h_log_row, .inl (cI, 5000, .inl res.2.1.1.1)), (h_past, .inr (1, [.ref h_past_typed, .int res.2.1.2.1.2.1, .int res.2.1.2.1.2.2])), (h_past_typed, .inl (cI, 300, .inl res.2.1.2.1.1)), (q1, .inr (2, [.ref q1_kinds, .ref q1_differences, .ref q1_partsA, .ref q1_partsB, .int res.2.2.2.2.2.2])), (q1_kinds, .inl (cI, 300, .inl res.2.2.1)), (q1_differences, .inl (cL, 300, .inr (.inl res.2.2.2.1))), (q1_partsA, .inl (cL, 300, .inr (.inl res.2.2.2.2.1))), (q1_partsB, .inl (cI, 300, .inl res.2.2.2.2.2.1))]) args s 0 0 A) (F0 m 36 ls []) := by
  obtain ⟨hx, hb, hr, hml, hown, hts, hlk, hK, hA⟩ := id C
  intro n
  induction n with
  | zero => intro st e1 x2 x4 res hf; cases hf
  | succ n ih =>
    intro st e1 x2 x4 res hf H locs ls hH hl
    rw [f_Reader_run_b36] at hf
    refine lv_iload hx hb d_Reader_run_36 (lv_at hl 3 rfl) ?_
    refine lv_sipush (v := 300) hx hb d_Reader_run_38 (by decide) ?_
    refine lv_icmp_ge (tgt := 73) hx hb d_Reader_run_41 (by decide) (fun hc41 => ?_) (fun hc41 => ?_)
    · have hf := ip hc41 hf
      exact w_Reader_run_b73 l D cI cL h h_log h_log_row h_past h_past_typed q1 q1_kinds q1_differences q1_partsA q1_partsB C st e1 res hf _ _ _ hH (lv_sub hl [0, 1] rfl)
    · have hf := im hc41 hf
      refine lv_aload_n hx hb d_Reader_run_44 rfl (lv_at hl 0 rfl) ?_
      refine fnVR (rest := []) (st2 := [.int (bI (f_Reader_isFine st))]) C (c_Reader_isFine l D cI cL h h_log h_log_row h_past h_past_typed st _ rfl) (cV hts kV_Reader_isFine wd_301 ⟨Nat.le_of_ble_eq_true rfl, Nat.le_of_ble_eq_true rfl⟩) hH [0, 1, 2, 3, 4] rfl rfl 0 rfl rfl rfl hl.1 rfl (Nat.le_of_ble_eq_true rfl) d_Reader_run_45 ⟨Nat.le_of_ble_eq_true rfl, Nat.le_of_ble_eq_true rfl⟩ rfl (fun H locs hH => ?_)
      refine lv_if_eq (tgt := 73) hx hb d_Reader_run_48 (by decide) (fun hc48 => ?_) (fun hc48 => ?_)
      · have hf := ip hc48 hf
        exact w_Reader_run_b73 l D cI cL h h_log h_log_row h_past h_past_typed q1 q1_kinds q1_differences q1_partsA q1_partsB C st e1 res hf _ _ _ hH (lv_sub hl [0, 1] rfl)
      · have hf := im hc48 hf
        refine lv_aload_n hx hb d_Reader_run_51 rfl (lv_at hl 1 rfl) ?_
        refine fnVR (rest := []) (st2 := [.int (f_Events_number e1)]) C (c_Events_number l D cI cL q1 q1_kinds q1_differences q1_partsA q1_partsB e1 _ rfl) (cV hts kV_Events_number wd_307 ⟨Nat.le_of_ble_eq_true rfl, Nat.le_of_ble_eq_true rfl⟩) hH [5, 6, 7, 8, 9] rfl rfl 0 rfl rfl rfl hl.1 rfl (Nat.le_of_ble_eq_true rfl) d_Reader_run_52 ⟨Nat.le_of_ble_eq_true rfl, Nat.le_of_ble_eq_true rfl⟩ rfl (fun H locs hH => ?_)
        refine lv_i2l (v := (f_Events_number e1).toInt64) hx hb d_Reader_run_55 rfl ?_
        refine lv_lload_n hx hb d_Reader_run_56 rfl (lv_at hl 2 rfl) ?_
        refine W.lcmp hx hb d_Reader_run_57 ?_
        refine lv_if_ge (tgt := 73) hx hb d_Reader_run_58 (by decide) (fun hc58 => ?_) (fun hc58 => ?_)
        · have hf := ip hc58 hf
          exact w_Reader_run_b73 l D cI cL h h_log h_log_row h_past h_past_typed q1 q1_kinds q1_differences q1_partsA q1_partsB C st e1 res hf _ _ _ hH (lv_sub hl [0, 1] rfl)
        · have hf := im hc58 hf
          refine lv_aload_n hx hb d_Reader_run_61 rfl (lv_at hl 0 rfl) ?_
          refine lv_aload_n hx hb d_Reader_run_62 rfl (lv_at hl 1 rfl) ?_
          refine lv_lload_n hx hb d_Reader_run_63 rfl (lv_at hl 2 rfl) ?_
          obtain ⟨r64, hr64, hf⟩ := ob hf
          refine fnV (rest := []) (wr := []) (w2 := [(h, .inr (4, [.ref h_log, .ref h_past, .int r64.1.2.2.1, .int r64.1.2.2.2.1, .int r64.1.2.2.2.2])), (h_log, .inr (0, [.ref h_log_row, .int r64.1.1.2])), (h_log_row, .inl (cI, 5000, .inl r64.1.1.1)), (h_past, .inr (1, [.ref h_past_typed, .int r64.1.2.1.2.1, .int r64.1.2.1.2.2])), (h_past_typed, .inl (cI, 300, .inl r64.1.2.1.1)), (q1, .inr (2, [.ref q1_kinds, .ref q1_differences, .ref q1_partsA, .ref q1_partsB, .int r64.2.2.2.2.2])), (q1_kinds, .inl (cI, 300, .inl r64.2.1)), (q1_differences, .inl (cL, 300, .inr (.inl r64.2.2.1))), (q1_partsA, .inl (cL, 300, .inr (.inl r64.2.2.2.1))), (q1_partsB, .inl (cI, 300, .inl r64.2.2.2.2.1))]) (st2 := []) C (c_Reader_readEntry l D cI cL h h_log h_log_row h_past h_past_typed q1 q1_kinds q1_differences q1_partsA q1_partsB st e1 x2 r64 hr64) (cV hts kV_Reader_readEntry wd_308 ⟨Nat.le_of_ble_eq_true rfl, Nat.le_of_ble_eq_true rfl⟩) hH [0, 1, 2, 3, 4, 5, 6, 7, 8, 9] [] [0, 1, 2, 3, 4, 5, 6, 7, 8, 9] rfl rfl rfl rfl (by decide) rfl rfl 0 rfl rfl rfl hl.1 rfl (Nat.le_of_ble_eq_true rfl) d_Reader_run_64 ⟨Nat.le_of_ble_eq_true rfl, Nat.le_of_ble_eq_true rfl⟩ rfl (fun H locs hH => ?_)
          refine lv_iinc (v := x4 + 1) (lv' := [(4, .int (x4 + 1)), (0, .ref h), (1, .ref q1), (2, .long x2)]) hx hb d_Reader_run_67 hl (k := 3) rfl rfl (by decide) rfl (fun ls hl => ?_)
          refine lv_goto (tgt := 36) hx hb d_Reader_run_70 (by decide) ?_
          exact ih r64.1 r64.2 x2 (x4 + 1) res hf _ _ _ hH (lv_sub hl [1, 2, 3, 0] rfl)
def f_Reader_run (st : S_Reader) (e1 : S_Events)  : Option (Int32 × S_Reader × S_Events) :=
  lt1 (f_Reader_begin st e1) (fun r2 => (f_Reader_readVarint r2.1 0).bind (fun r7 => if (bI (f_Reader_isFine r7.2)) = 0 then (f_Reader_run_b36 400 r7.2 r2.2 r7.1 0) else (if (lg_cmp r7.1 300) ≤ 0 then (f_Reader_run_b36 400 r7.2 r2.2 r7.1 0) else (lt1 (f_Reader_fail r7.2 6 0) (fun r30 => f_Reader_run_b36 400 r30 r2.2 r7.1 0)))))
set_option maxRecDepth 100000 in
set_option maxHeartbeats 4000000 in
theorem c_Reader_run (l : Launch) (D : va_G) (cI cL : ClassId) (h h_log h_log_row h_past h_past_typed q1 q1_kinds q1_differences q1_partsA q1_partsB : Nat) (st : S_Reader) (e1 : S_Events)  (res : Int32 × S_Reader × S_Events) (hf : f_Reader_run st e1 = some res) :
    Fn l D vwCl [(cI, .int), (cL, .long)] y_Reader_run ws_Reader_run { frames := 5, cells := 0, slots := 0, locals := 129 } [.ref h, .ref q1] [(h, .inr (4, [.ref h_log, .ref h_past, .int st.2.2.1, .int st.2.2.2.1, .int st.2.2.2.2])), (h_log, .inr (0, [.ref h_log_row, .int st.1.2])), (h_log_row, .inl (cI, 5000, .inl st.1.1)), (h_past, .inr (1, [.ref h_past_typed, .int st.2.1.2.1, .int st.2.1.2.2])), (h_past_typed, .inl (cI, 300, .inl st.2.1.1)), (q1, .inr (2, [.ref q1_kinds, .ref q1_differences, .ref q1_partsA, .ref q1_partsB, .int e1.2.2.2.2])), (q1_kinds, .inl (cI, 300, .inl e1.1)), (q1_differences, .inl (cL, 300, .inr (.inl e1.2.1))), (q1_partsA, .inl (cL, 300, .inr (.inl e1.2.2.1))), (q1_partsB, .inl (cI, 300, .inl e1.2.2.2.1))] (some (.int res.1)) [(h, .inr (4, [.ref h_log, .ref h_past, .int res.2.1.2.2.1, .int res.2.1.2.2.2.1, .int res.2.1.2.2.2.2])), (h_log, .inr (0, [.ref h_log_row, .int res.2.1.1.2])), (h_log_row, .inl (cI, 5000, .inl res.2.1.1.1)), (h_past, .inr (1, [.ref h_past_typed, .int res.2.1.2.1.2.1, .int res.2.1.2.1.2.2])), (h_past_typed, .inl (cI, 300, .inl res.2.1.2.1.1)), (q1, .inr (2, [.ref q1_kinds, .ref q1_differences, .ref q1_partsA, .ref q1_partsB, .int res.2.2.2.2.2.2])), (q1_kinds, .inl (cI, 300, .inl res.2.2.1)), (q1_differences, .inl (cL, 300, .inr (.inl res.2.2.2.1))), (q1_partsA, .inl (cL, 300, .inr (.inl res.2.2.2.2.1))), (q1_partsB, .inl (cI, 300, .inl res.2.2.2.2.2.1))] := by
  refine Fn.ofW (cc := b_Reader_run) (maxL := 5) (ret := (some .int)) (by decide) rfl (Nat.le_of_ble_eq_true rfl) ?_
  intro p e s m below meth c A ls C hH hinit hl
  have hl : lv_has ls 5 [(0, .ref h), (1, .ref q1)] := hl
  obtain ⟨hx, hb, hr, hml, hown, hts, hlk, hK, hA⟩ := id C
  unfold f_Reader_run at hf
  refine lv_aload_n hx hb d_Reader_run_0 rfl (lv_at hl 0 rfl) ?_
  refine lv_aload_n hx hb d_Reader_run_1 rfl (lv_at hl 1 rfl) ?_
  obtain ⟨r2, hr2, hf⟩ := lb hf
  refine fnV (rest := []) (wr := []) (w2 := [(h, .inr (4, [.ref h_log, .ref h_past, .int r2.1.2.2.1, .int r2.1.2.2.2.1, .int r2.1.2.2.2.2])), (h_log, .inr (0, [.ref h_log_row, .int r2.1.1.2])), (h_log_row, .inl (cI, 5000, .inl r2.1.1.1)), (h_past, .inr (1, [.ref h_past_typed, .int r2.1.2.1.2.1, .int r2.1.2.1.2.2])), (h_past_typed, .inl (cI, 300, .inl r2.1.2.1.1)), (q1, .inr (2, [.ref q1_kinds, .ref q1_differences, .ref q1_partsA, .ref q1_partsB, .int r2.2.2.2.2.2])), (q1_kinds, .inl (cI, 300, .inl r2.2.1)), (q1_differences, .inl (cL, 300, .inr (.inl r2.2.2.1))), (q1_partsA, .inl (cL, 300, .inr (.inl r2.2.2.2.1))), (q1_partsB, .inl (cI, 300, .inl r2.2.2.2.2.1))]) (st2 := []) C (c_Reader_begin l D cI cL h h_log h_log_row h_past h_past_typed q1 q1_kinds q1_differences q1_partsA q1_partsB st e1 r2 hr2) (cV hts kV_Reader_begin wd_272 ⟨Nat.le_of_ble_eq_true rfl, Nat.le_of_ble_eq_true rfl⟩) hH [0, 1, 2, 3, 4, 5, 6, 7, 8, 9] [] [0, 1, 2, 3, 4, 5, 6, 7, 8, 9] rfl rfl rfl rfl (by decide) rfl rfl 0 rfl rfl rfl hl.1 rfl (Nat.le_of_ble_eq_true rfl) d_Reader_run_2 ⟨Nat.le_of_ble_eq_true rfl, Nat.le_of_ble_eq_true rfl⟩ rfl (fun H locs hH => ?_)
  refine lv_aload_n hx hb d_Reader_run_5 rfl (lv_at hl 0 rfl) ?_
  refine lv_iconst (v := 0) hx hb d_Reader_run_6 (by decide) ?_
  obtain ⟨r7, hr7, hf⟩ := ob hf
  refine fnV (rest := []) (wr := [(q1, .inr (2, [.ref q1_kinds, .ref q1_differences, .ref q1_partsA, .ref q1_partsB, .int r2.2.2.2.2.2])), (q1_kinds, .inl (cI, 300, .inl r2.2.1)), (q1_differences, .inl (cL, 300, .inr (.inl r2.2.2.1))), (q1_partsA, .inl (cL, 300, .inr (.inl r2.2.2.2.1))), (q1_partsB, .inl (cI, 300, .inl r2.2.2.2.2.1))]) (w2 := [(h, .inr (4, [.ref h_log, .ref h_past, .int r7.2.2.2.1, .int r7.2.2.2.2.1, .int r7.2.2.2.2.2])), (h_log, .inr (0, [.ref h_log_row, .int r7.2.1.2])), (h_log_row, .inl (cI, 5000, .inl r7.2.1.1)), (h_past, .inr (1, [.ref h_past_typed, .int r7.2.2.1.2.1, .int r7.2.2.1.2.2])), (h_past_typed, .inl (cI, 300, .inl r7.2.2.1.1)), (q1, .inr (2, [.ref q1_kinds, .ref q1_differences, .ref q1_partsA, .ref q1_partsB, .int r2.2.2.2.2.2])), (q1_kinds, .inl (cI, 300, .inl r2.2.1)), (q1_differences, .inl (cL, 300, .inr (.inl r2.2.2.1))), (q1_partsA, .inl (cL, 300, .inr (.inl r2.2.2.2.1))), (q1_partsB, .inl (cI, 300, .inl r2.2.2.2.2.1))]) (st2 := [.long r7.1]) C (c_Reader_readVarint l D cI cL h h_log h_log_row h_past h_past_typed r2.1 0 r7 hr7) (cV hts kV_Reader_readVarint wd_281 ⟨Nat.le_of_ble_eq_true rfl, Nat.le_of_ble_eq_true rfl⟩) hH [0, 1, 2, 3, 4] [5, 6, 7, 8, 9] [5, 6, 7, 8, 9, 0, 1, 2, 3, 4] rfl rfl rfl rfl (by decide) rfl rfl 0 rfl rfl rfl hl.1 rfl (Nat.le_of_ble_eq_true rfl) d_Reader_run_7 ⟨Nat.le_of_ble_eq_true rfl, Nat.le_of_ble_eq_true rfl⟩ rfl (fun H locs hH => ?_)
  refine lv_lstore_n (lv' := [(2, .long r7.1), (0, .ref h), (1, .ref q1)]) hx hb d_Reader_run_10 rfl hl (by decide) rfl (fun ls hl => ?_)
  refine lv_aload_n hx hb d_Reader_run_11 rfl (lv_at hl 1 rfl) ?_
  refine fnVR (rest := []) (st2 := [.int (bI (f_Reader_isFine r7.2))]) C (c_Reader_isFine l D cI cL h h_log h_log_row h_past h_past_typed r7.2 _ rfl) (cV hts kV_Reader_isFine wd_301 ⟨Nat.le_of_ble_eq_true rfl, Nat.le_of_ble_eq_true rfl⟩) hH [0, 1, 2, 3, 4] rfl rfl 0 rfl rfl rfl hl.1 rfl (Nat.le_of_ble_eq_true rfl) d_Reader_run_12 ⟨Nat.le_of_ble_eq_true rfl, Nat.le_of_ble_eq_true rfl⟩ rfl (fun H locs hH => ?_)
  refine lv_if_eq (tgt := 33) hx hb d_Reader_run_15 (by decide) (fun hc15 => ?_) (fun hc15 => ?_)
  · have hf := ip hc15 hf
    refine lv_iconst (v := 0) hx hb d_Reader_run_33 (by decide) ?_
    refine lv_istore (lv' := [(4, .int 0), (2, .long r7.1), (0, .ref h), (1, .ref q1)]) hx hb d_Reader_run_34 hl (by decide) rfl (fun ls hl => ?_)
    exact w_Reader_run_b36 l D cI cL h h_log h_log_row h_past h_past_typed q1 q1_kinds q1_differences q1_partsA q1_partsB C 400 r7.2 r2.2 r7.1 0 res hf _ _ _ hH (lv_sub hl [2, 3, 1, 0] rfl)
  · have hf := im hc15 hf
    refine lv_lload_n hx hb d_Reader_run_18 rfl (lv_at hl 0 rfl) ?_
    refine lv_ldc2 (v := 300) hx hb hown (hts _ (.tail _ wd_306)) d_Reader_run_19 ?_
    refine W.lcmp hx hb d_Reader_run_22 ?_
    refine lv_if_le (tgt := 33) hx hb d_Reader_run_23 (by decide) (fun hc23 => ?_) (fun hc23 => ?_)
    · have hf := ip hc23 hf
      refine lv_iconst (v := 0) hx hb d_Reader_run_33 (by decide) ?_
      refine lv_istore (lv' := [(4, .int 0), (2, .long r7.1), (0, .ref h), (1, .ref q1)]) hx hb d_Reader_run_34 hl (by decide) rfl (fun ls hl => ?_)
      exact w_Reader_run_b36 l D cI cL h h_log h_log_row h_past h_past_typed q1 q1_kinds q1_differences q1_partsA q1_partsB C 400 r7.2 r2.2 r7.1 0 res hf _ _ _ hH (lv_sub hl [2, 3, 1, 0] rfl)
    · have hf := im hc23 hf
      refine lv_aload_n hx hb d_Reader_run_26 rfl (lv_at hl 1 rfl) ?_
      refine lv_bipush (v := 6) hx hb d_Reader_run_27 (by decide) ?_
      refine lv_iconst (v := 0) hx hb d_Reader_run_29 (by decide) ?_
      obtain ⟨r30, hr30, hf⟩ := lb hf
      refine fnV (rest := []) (wr := [(q1, .inr (2, [.ref q1_kinds, .ref q1_differences, .ref q1_partsA, .ref q1_partsB, .int r2.2.2.2.2.2])), (q1_kinds, .inl (cI, 300, .inl r2.2.1)), (q1_differences, .inl (cL, 300, .inr (.inl r2.2.2.1))), (q1_partsA, .inl (cL, 300, .inr (.inl r2.2.2.2.1))), (q1_partsB, .inl (cI, 300, .inl r2.2.2.2.2.1))]) (w2 := [(h, .inr (4, [.ref h_log, .ref h_past, .int r30.2.2.1, .int r30.2.2.2.1, .int r30.2.2.2.2])), (h_log, .inr (0, [.ref h_log_row, .int r30.1.2])), (h_log_row, .inl (cI, 5000, .inl r30.1.1)), (h_past, .inr (1, [.ref h_past_typed, .int r30.2.1.2.1, .int r30.2.1.2.2])), (h_past_typed, .inl (cI, 300, .inl r30.2.1.1)), (q1, .inr (2, [.ref q1_kinds, .ref q1_differences, .ref q1_partsA, .ref q1_partsB, .int r2.2.2.2.2.2])), (q1_kinds, .inl (cI, 300, .inl r2.2.1)), (q1_differences, .inl (cL, 300, .inr (.inl r2.2.2.1))), (q1_partsA, .inl (cL, 300, .inr (.inl r2.2.2.2.1))), (q1_partsB, .inl (cI, 300, .inl r2.2.2.2.2.1))]) (st2 := []) C (c_Reader_fail l D cI cL h h_log h_log_row h_past h_past_typed r7.2 6 0 r30 hr30) (cV hts kV_Reader_fail wd_293 ⟨Nat.le_of_ble_eq_true rfl, Nat.le_of_ble_eq_true rfl⟩) hH [0, 1, 2, 3, 4] [5, 6, 7, 8, 9] [5, 6, 7, 8, 9, 0, 1, 2, 3, 4] rfl rfl rfl rfl (by decide) rfl rfl 0 rfl rfl rfl hl.1 rfl (Nat.le_of_ble_eq_true rfl) d_Reader_run_30 ⟨Nat.le_of_ble_eq_true rfl, Nat.le_of_ble_eq_true rfl⟩ rfl (fun H locs hH => ?_)
      refine lv_iconst (v := 0) hx hb d_Reader_run_33 (by decide) ?_
      refine lv_istore (lv' := [(4, .int 0), (2, .long r7.1), (0, .ref h), (1, .ref q1)]) hx hb d_Reader_run_34 hl (by decide) rfl (fun ls hl => ?_)
      exact w_Reader_run_b36 l D cI cL h h_log h_log_row h_past h_past_typed q1 q1_kinds q1_differences q1_partsA q1_partsB C 400 r30 r2.2 r7.1 0 res hf _ _ _ hH (lv_sub hl [2, 3, 1, 0] rfl)
