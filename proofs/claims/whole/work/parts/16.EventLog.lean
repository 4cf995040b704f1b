def f_EventLog_add (st : S_EventLog) (x1 : Int32) (x2 : Int64) (x4 : Int64) (x6 : Int32) : Sum Nat (Int32 × S_EventLog) :=
  if (bI (f_EventLog_isEvent x1 x2 x4 x6)) = 0 then (.inl 1) else (if (f_Events_number st.1) < (300 : Int32) then (lt1 (f_Events_append st.1 x1 x2 (f_EventLog_heldA x1 x4 x6) (f_EventLog_heldB x1 x6)) (fun r65 => .inr ((f_Events_number r65, (r65, st.2.1, st.2.2.1, st.2.2.2.1, st.2.2.2.2))))) else (.inl 2))
set_option maxRecDepth 100000 in
set_option maxHeartbeats 4000000 in
theorem c_EventLog_add (l : Launch) (D : va_G) (cI cL : ClassId) (h h_events h_events_kinds h_events_differences h_events_partsA h_events_partsB h_spare h_spare_kinds h_spare_differences h_spare_partsA h_spare_partsB h_log h_log_row h_packer h_packer_past h_packer_past_typed h_reader h_reader_past h_reader_past_typed : Nat) (st : S_EventLog) (x1 : Int32) (x2 : Int64) (x4 : Int64) (x6 : Int32) (res : Int32 × S_EventLog) (hf : f_EventLog_add st x1 x2 x4 x6 = .inr res) :
    Fn l D vwCl [(cI, .int), (cL, .long)] y_EventLog_add ws_EventLog_add { frames := 2, cells := 0, slots := 0, locals := 46 } [.ref h, .int x1, .long x2, .long x4, .int x6] [(h, .inr (5, [.ref h_events, .ref h_spare, .ref h_log, .ref h_packer, .ref h_reader])), (h_events, .inr (2, [.ref h_events_kinds, .ref h_events_differences, .ref h_events_partsA, .ref h_events_partsB, .int st.1.2.2.2.2])), (h_events_kinds, .inl (cI, 300, .inl st.1.1)), (h_events_differences, .inl (cL, 300, .inr (.inl st.1.2.1))), (h_events_partsA, .inl (cL, 300, .inr (.inl st.1.2.2.1))), (h_events_partsB, .inl (cI, 300, .inl st.1.2.2.2.1)), (h_spare, .inr (2, [.ref h_spare_kinds, .ref h_spare_differences, .ref h_spare_partsA, .ref h_spare_partsB, .int st.2.1.2.2.2.2])), (h_spare_kinds, .inl (cI, 300, .inl st.2.1.1)), (h_spare_differences, .inl (cL, 300, .inr (.inl st.2.1.2.1))), (h_spare_partsA, .inl (cL, 300, .inr (.inl st.2.1.2.2.1))), (h_spare_partsB, .inl (cI, 300, .inl st.2.1.2.2.2.1)), (h_log, .inr (0, [.ref h_log_row, .int st.2.2.1.2])), (h_log_row, .inl (cI, 5000, .inl st.2.2.1.1)), (h_packer, .inr (3, [.ref h_log, .ref h_packer_past, .int (bI st.2.2.2.1.2.1), .int st.2.2.2.1.2.2.1, .int st.2.2.2.1.2.2.2.1, .int st.2.2.2.1.2.2.2.2.1, .int st.2.2.2.1.2.2.2.2.2.1, .int st.2.2.2.1.2.2.2.2.2.2])), (h_packer_past, .inr (1, [.ref h_packer_past_typed, .int st.2.2.2.1.1.2.1, .int st.2.2.2.1.1.2.2])), (h_packer_past_typed, .inl (cI, 300, .inl st.2.2.2.1.1.1)), (h_reader, .inr (4, [.ref h_log, .ref h_reader_past, .int st.2.2.2.2.2.1, .int st.2.2.2.2.2.2.1, .int st.2.2.2.2.2.2.2])), (h_reader_past, .inr (1, [.ref h_reader_past_typed, .int st.2.2.2.2.1.2.1, .int st.2.2.2.2.1.2.2])), (h_reader_past_typed, .inl (cI, 300, .inl st.2.2.2.2.1.1))] (some (.int res.1)) [(h, .inr (5, [.ref h_events, .ref h_spare, .ref h_log, .ref h_packer, .ref h_reader])), (h_events, .inr (2, [.ref h_events_kinds, .ref h_events_differences, .ref h_events_partsA, .ref h_events_partsB, .int res.2.1.2.2.2.2])), (h_events_kinds, .inl (cI, 300, .inl res.2.1.1)), (h_events_differences, .inl (cL, 300, .inr (.inl res.2.1.2.1))), (h_events_partsA, .inl (cL, 300, .inr (.inl res.2.1.2.2.1))), (h_events_partsB, .inl (cI, 300, .inl res.2.1.2.2.2.1)), (h_spare, .inr (2, [.ref h_spare_kinds, .ref h_spare_differences, .ref h_spare_partsA, .ref h_spare_partsB, .int res.2.2.1.2.2.2.2])), (h_spare_kinds, .inl (cI, 300, .inl res.2.2.1.1)), (h_spare_differences, .inl (cL, 300, .inr (.inl res.2.2.1.2.1))), (h_spare_partsA, .inl (cL, 300, .inr (.inl res.2.2.1.2.2.1))), (h_spare_partsB, .inl (cI, 300, .inl res.2.2.1.2.2.2.1)), (h_log, .inr (0, [.ref h_log_row, .int res.2.2.2.1.2])), (h_log_row, .inl (cI, 5000, .inl res.2.2.2.1.1)), (h_packer, .inr (3, [.ref h_log, .ref h_packer_past, .int (bI res.2.2.2.2.1.2.1), .int res.2.2.2.2.1.2.2.1, .int res.2.2.2.2.1.2.2.2.1, .int res.2.2.2.2.1.2.2.2.2.1, .int res.2.2.2.2.1.2.2.2.2.2.1, .int res.2.2.2.2.1.2.2.2.2.2.2])), (h_packer_past, .inr (1, [.ref h_packer_past_typed, .int res.2.2.2.2.1.1.2.1, .int res.2.2.2.2.1.1.2.2])), (h_packer_past_typed, .inl (cI, 300, .inl res.2.2.2.2.1.1.1)), (h_reader, .inr (4, [.ref h_log, .ref h_reader_past, .int res.2.2.2.2.2.2.1, .int res.2.2.2.2.2.2.2.1, .int res.2.2.2.2.2.2.2.2])), (h_reader_past, .inr (1, [.ref h_reader_past_typed, .int res.2.2.2.2.2.1.2.1, .int res.2.2.2.2.2.1.2.2])), (h_reader_past_typed, .inl (cI, 300, .inl res.2.2.2.2.2.1.1))] := by
  refine Fn.ofW (cc := b_EventLog_add) (maxL := 7) (ret := (some .int)) (by decide) rfl (Nat.le_of_ble_eq_true rfl) ?_
  intro p e s m below meth c A ls C hH hinit hl
  have hl : lv_has ls 7 [(0, .ref h), (1, .int x1), (2, .long x2), (4, .long x4), (6, .int x6)] := hl
  obtain ⟨hx, hb, hr, hml, hown, hts, hlk, hK, hA⟩ := id C
  unfold f_EventLog_add at hf
  refine lv_iload_n hx hb d_EventLog_add_0 rfl (lv_at hl 1 rfl) ?_
  refine lv_lload_n hx hb d_EventLog_add_1 rfl (lv_at hl 2 rfl) ?_
  refine lv_lload hx hb d_EventLog_add_2 (lv_at hl 3 rfl) ?_
  refine lv_iload hx hb d_EventLog_add_4 (lv_at hl 4 rfl) ?_
  refine fnSR (rest := []) (st2 := [.int (bI (f_EventLog_isEvent x1 x2 x4 x6))]) C (c_EventLog_isEvent l D cI cL  x1 x2 x4 x6 _ rfl) (cS hts kS_EventLog_isEvent wd_396 ⟨Nat.le_of_ble_eq_true rfl, Nat.le_of_ble_eq_true rfl⟩) hH [] rfl rfl rfl hl.1 rfl (Nat.le_of_ble_eq_true rfl) d_EventLog_add_6 ⟨Nat.le_of_ble_eq_true rfl, Nat.le_of_ble_eq_true rfl⟩ rfl (fun H locs hH => ?_)
  refine lv_if_ne (tgt := 22) hx hb d_EventLog_add_9 (by decide) (fun hc9 => ?_) (fun hc9 => ?_)
  · have hf := im hc9 hf
    refine lv_aload_n hx hb d_EventLog_add_22 rfl (lv_at hl 0 rfl) ?_
    refine gt (ci := 5) (v := .ref h_events) C hH (iwT iw_EventLog) 0 rfl rfl 0 (by decide) (.tail _ wd_131) rfl d_EventLog_add_23 ?_
    refine fnVR (rest := []) (st2 := [.int (f_Events_number st.1)]) C (c_Events_number l D cI cL h_events h_events_kinds h_events_differences h_events_partsA h_events_partsB st.1 _ rfl) (cV hts kV_Events_number wd_369 ⟨Nat.le_of_ble_eq_true rfl, Nat.le_of_ble_eq_true rfl⟩) hH [1, 2, 3, 4, 5] rfl rfl 0 rfl rfl rfl hl.1 rfl (Nat.le_of_ble_eq_true rfl) d_EventLog_add_26 ⟨Nat.le_of_ble_eq_true rfl, Nat.le_of_ble_eq_true rfl⟩ rfl (fun H locs hH => ?_)
    refine lv_sipush (v := 300) hx hb d_EventLog_add_29 (by decide) ?_
    refine lv_icmp_lt (tgt := 45) hx hb d_EventLog_add_32 (by decide) (fun hc32 => ?_) (fun hc32 => ?_)
    · have hf := ip hc32 hf
      refine lv_aload_n hx hb d_EventLog_add_45 rfl (lv_at hl 0 rfl) ?_
      refine gt (ci := 5) (v := .ref h_events) C hH (iwT iw_EventLog) 0 rfl rfl 0 (by decide) (.tail _ wd_131) rfl d_EventLog_add_46 ?_
      refine lv_iload_n hx hb d_EventLog_add_49 rfl (lv_at hl 1 rfl) ?_
      refine lv_lload_n hx hb d_EventLog_add_50 rfl (lv_at hl 2 rfl) ?_
      refine lv_iload_n hx hb d_EventLog_add_51 rfl (lv_at hl 1 rfl) ?_
      refine lv_lload hx hb d_EventLog_add_52 (lv_at hl 3 rfl) ?_
      refine lv_iload hx hb d_EventLog_add_54 (lv_at hl 4 rfl) ?_
      refine fnSR (rest := [.long x2, .int x1, .ref h_events]) (st2 := [.long (f_EventLog_heldA x1 x4 x6), .long x2, .int x1, .ref h_events]) C (c_EventLog_heldA l D cI cL  x1 x4 x6 _ rfl) (cS hts kS_EventLog_heldA wd_490 ⟨Nat.le_of_ble_eq_true rfl, Nat.le_of_ble_eq_true rfl⟩) hH [] rfl rfl rfl hl.1 rfl (Nat.le_of_ble_eq_true rfl) d_EventLog_add_56 ⟨Nat.le_of_ble_eq_true rfl, Nat.le_of_ble_eq_true rfl⟩ rfl (fun H locs hH => ?_)
      refine lv_iload_n hx hb d_EventLog_add_59 rfl (lv_at hl 1 rfl) ?_
      refine lv_iload hx hb d_EventLog_add_60 (lv_at hl 4 rfl) ?_
      refine fnSR (rest := [.long (f_EventLog_heldA x1 x4 x6), .long x2, .int x1, .ref h_events]) (st2 := [.int (f_EventLog_heldB x1 x6), .long (f_EventLog_heldA x1 x4 x6), .long x2, .int x1, .ref h_events]) C (c_EventLog_heldB l D cI cL  x1 x6 _ rfl) (cS hts kS_EventLog_heldB wd_494 ⟨Nat.le_of_ble_eq_true rfl, Nat.le_of_ble_eq_true rfl⟩) hH [] rfl rfl rfl hl.1 rfl (Nat.le_of_ble_eq_true rfl) d_EventLog_add_62 ⟨Nat.le_of_ble_eq_true rfl, Nat.le_of_ble_eq_true rfl⟩ rfl (fun H locs hH => ?_)
      obtain ⟨r65, hr65, hf⟩ := lb hf
      refine fnV (rest := []) (wr := [(h, .inr (5, [.ref h_events, .ref h_spare, .ref h_log, .ref h_packer, .ref h_reader])), (h_spare, .inr (2, [.ref h_spare_kinds, .ref h_spare_differences, .ref h_spare_partsA, .ref h_spare_partsB, .int st.2.1.2.2.2.2])), (h_spare_kinds, .inl (cI, 300, .inl st.2.1.1)), (h_spare_differences, .inl (cL, 300, .inr (.inl st.2.1.2.1))), (h_spare_partsA, .inl (cL, 300, .inr (.inl st.2.1.2.2.1))), (h_spare_partsB, .inl (cI, 300, .inl st.2.1.2.2.2.1)), (h_log, .inr (0, [.ref h_log_row, .int st.2.2.1.2])), (h_log_row, .inl (cI, 5000, .inl st.2.2.1.1)), (h_packer, .inr (3, [.ref h_log, .ref h_packer_past, .int (bI st.2.2.2.1.2.1), .int st.2.2.2.1.2.2.1, .int st.2.2.2.1.2.2.2.1, .int st.2.2.2.1.2.2.2.2.1, .int st.2.2.2.1.2.2.2.2.2.1, .int st.2.2.2.1.2.2.2.2.2.2])), (h_packer_past, .inr (1, [.ref h_packer_past_typed, .int st.2.2.2.1.1.2.1, .int st.2.2.2.1.1.2.2])), (h_packer_past_typed, .inl (cI, 300, .inl st.2.2.2.1.1.1)), (h_reader, .inr (4, [.ref h_log, .ref h_reader_past, .int st.2.2.2.2.2.1, .int st.2.2.2.2.2.2.1, .int st.2.2.2.2.2.2.2])), (h_reader_past, .inr (1, [.ref h_reader_past_typed, .int st.2.2.2.2.1.2.1, .int st.2.2.2.2.1.2.2])), (h_reader_past_typed, .inl (cI, 300, .inl st.2.2.2.2.1.1))]) (w2 := [(h, .inr (5, [.ref h_events, .ref h_spare, .ref h_log, .ref h_packer, .ref h_reader])), (h_events, .inr (2, [.ref h_events_kinds, .ref h_events_differences, .ref h_events_partsA, .ref h_events_partsB, .int r65.2.2.2.2])), (h_events_kinds, .inl (cI, 300, .inl r65.1)), (h_events_differences, .inl (cL, 300, .inr (.inl r65.2.1))), (h_events_partsA, .inl (cL, 300, .inr (.inl r65.2.2.1))), (h_events_partsB, .inl (cI, 300, .inl r65.2.2.2.1)), (h_spare, .inr (2, [.ref h_spare_kinds, .ref h_spare_differences, .ref h_spare_partsA, .ref h_spare_partsB, .int st.2.1.2.2.2.2])), (h_spare_kinds, .inl (cI, 300, .inl st.2.1.1)), (h_spare_differences, .inl (cL, 300, .inr (.inl st.2.1.2.1))), (h_spare_partsA, .inl (cL, 300, .inr (.inl st.2.1.2.2.1))), (h_spare_partsB, .inl (cI, 300, .inl st.2.1.2.2.2.1)), (h_log, .inr (0, [.ref h_log_row, .int st.2.2.1.2])), (h_log_row, .inl (cI, 5000, .inl st.2.2.1.1)), (h_packer, .inr (3, [.ref h_log, .ref h_packer_past, .int (bI st.2.2.2.1.2.1), .int st.2.2.2.1.2.2.1, .int st.2.2.2.1.2.2.2.1, .int st.2.2.2.1.2.2.2.2.1, .int st.2.2.2.1.2.2.2.2.2.1, .int st.2.2.2.1.2.2.2.2.2.2])), (h_packer_past, .inr (1, [.ref h_packer_past_typed, .int st.2.2.2.1.1.2.1, .int st.2.2.2.1.1.2.2])), (h_packer_past_typed, .inl (cI, 300, .inl st.2.2.2.1.1.1)), (h_reader, .inr (4, [.ref h_log, .ref h_reader_past, .int st.2.2.2.2.2.1, .int st.2.2.2.2.2.2.1, .int st.2.2.2.2.2.2.2])), (h_reader_past, .inr (1, [.ref h_reader_past_typed, .int st.2.2.2.2.1.2.1, .int st.2.2.2.2.1.2.2])), (h_reader_past_typed, .inl (cI, 300, .inl st.2.2.2.2.1.1))]) (st2 := []) C (c_Events_append l D cI cL h_events h_events_kinds h_events_differences h_events_partsA h_events_partsB st.1 x1 x2 (f_EventLog_heldA x1 x4 x6) (f_EventLog_heldB x1 x6) r65 hr65) (cV hts kV_Events_append wd_497 ⟨Nat.le_of_ble_eq_true rfl, Nat.le_of_ble_eq_true rfl⟩) hH [1, 2, 3, 4, 5] [0, 6, 7, 8, 9, 10, 11, 12, 13, 14, 15, 16, 17, 18] [0, 14, 15, 16, 17, 18, 1, 2, 3, 4, 5, 6, 7, 8, 9, 10, 11, 12, 13] rfl rfl rfl rfl (by decide) rfl rfl 0 rfl rfl rfl hl.1 rfl (Nat.le_of_ble_eq_true rfl) d_EventLog_add_65 ⟨Nat.le_of_ble_eq_true rfl, Nat.le_of_ble_eq_true rfl⟩ rfl (fun H locs hH => ?_)
      refine lv_aload_n hx hb d_EventLog_add_68 rfl (lv_at hl 0 rfl) ?_
      refine gt (ci := 5) (v := .ref h_events) C hH (iwT iw_EventLog) 0 rfl rfl 0 (by decide) (.tail _ wd_131) rfl d_EventLog_add_69 ?_
      refine fnVR (rest := []) (st2 := [.int (f_Events_number r65)]) C (c_Events_number l D cI cL h_events h_events_kinds h_events_differences h_events_partsA h_events_partsB r65 _ rfl) (cV hts kV_Events_number wd_369 ⟨Nat.le_of_ble_eq_true rfl, Nat.le_of_ble_eq_true rfl⟩) hH [1, 2, 3, 4, 5] rfl rfl 0 rfl rfl rfl hl.1 rfl (Nat.le_of_ble_eq_true rfl) d_EventLog_add_72 ⟨Nat.le_of_ble_eq_true rfl, Nat.le_of_ble_eq_true rfl⟩ rfl (fun H locs hH => ?_)
      have hf := Sum.inr.inj hf
      subst hf
      exact rI (v := f_Events_number r65) C hH d_EventLog_add_75
    · have hf := im hc32 hf
      cases hf
  · have hf := ip hc9 hf
    cases hf
set_option maxRecDepth 100000 in
set_option maxHeartbeats 4000000 in
theorem t_EventLog_add (l : Launch) (hfl : l.flags = pinnedFlags ++ [noTraceFlag]) (D : va_G) (cI cL : ClassId) (h h_events h_events_kinds h_events_differences h_events_partsA h_events_partsB h_spare h_spare_kinds h_spare_differences h_spare_partsA h_spare_partsB h_log h_log_row h_packer h_packer_past h_packer_past_typed h_reader h_reader_past h_reader_past_typed : Nat) (st : S_EventLog) (x1 : Int32) (x2 : Int64) (x4 : Int64) (x6 : Int32) (k : Nat) (hf : f_EventLog_add st x1 x2 x4 x6 = .inl k) :
    FnT l D vwCl [(cI, .int), (cL, .long)] y_EventLog_add ws_EventLog_add { frames := 6, cells := 1, slots := 6, locals := 83 } [.ref h, .int x1, .long x2, .long x4, .int x6] [(h, .inr (5, [.ref h_events, .ref h_spare, .ref h_log, .ref h_packer, .ref h_reader])), (h_events, .inr (2, [.ref h_events_kinds, .ref h_events_differences, .ref h_events_partsA, .ref h_events_partsB, .int st.1.2.2.2.2])), (h_events_kinds, .inl (cI, 300, .inl st.1.1)), (h_events_differences, .inl (cL, 300, .inr (.inl st.1.2.1))), (h_events_partsA, .inl (cL, 300, .inr (.inl st.1.2.2.1))), (h_events_partsB, .inl (cI, 300, .inl st.1.2.2.2.1)), (h_spare, .inr (2, [.ref h_spare_kinds, .ref h_spare_differences, .ref h_spare_partsA, .ref h_spare_partsB, .int st.2.1.2.2.2.2])), (h_spare_kinds, .inl (cI, 300, .inl st.2.1.1)), (h_spare_differences, .inl (cL, 300, .inr (.inl st.2.1.2.1))), (h_spare_partsA, .inl (cL, 300, .inr (.inl st.2.1.2.2.1))), (h_spare_partsB, .inl (cI, 300, .inl st.2.1.2.2.2.1)), (h_log, .inr (0, [.ref h_log_row, .int st.2.2.1.2])), (h_log_row, .inl (cI, 5000, .inl st.2.2.1.1)), (h_packer, .inr (3, [.ref h_log, .ref h_packer_past, .int (bI st.2.2.2.1.2.1), .int st.2.2.2.1.2.2.1, .int st.2.2.2.1.2.2.2.1, .int st.2.2.2.1.2.2.2.2.1, .int st.2.2.2.1.2.2.2.2.2.1, .int st.2.2.2.1.2.2.2.2.2.2])), (h_packer_past, .inr (1, [.ref h_packer_past_typed, .int st.2.2.2.1.1.2.1, .int st.2.2.2.1.1.2.2])), (h_packer_past_typed, .inl (cI, 300, .inl st.2.2.2.1.1.1)), (h_reader, .inr (4, [.ref h_log, .ref h_reader_past, .int st.2.2.2.2.2.1, .int st.2.2.2.2.2.2.1, .int st.2.2.2.2.2.2.2])), (h_reader_past, .inr (1, [.ref h_reader_past_typed, .int st.2.2.2.2.1.2.1, .int st.2.2.2.2.1.2.2])), (h_reader_past_typed, .inl (cI, 300, .inl st.2.2.2.2.1.1))] (TE [("EventLog", 48, "not an event"), ("EventLog", 59, "there are 300 events")]) (exN k) := by
  refine FnT.ofW (cc := b_EventLog_add) (maxL := 7) (ret := (some .int)) (by decide) rfl (Nat.le_of_ble_eq_true rfl) ?_
  intro p e s m below meth c A ls C hH hE hAe hex hl
  have hl : lv_has ls 7 [(0, .ref h), (1, .int x1), (2, .long x2), (4, .long x4), (6, .int x6)] := hl
  obtain ⟨hx, hb, hr, hml, hown, hts, hlk, hK, hA⟩ := id C
  unfold f_EventLog_add at hf
  refine lv_iload_n hx hb d_EventLog_add_0 rfl (lv_at hl 1 rfl) ?_
  refine lv_lload_n hx hb d_EventLog_add_1 rfl (lv_at hl 2 rfl) ?_
  refine lv_lload hx hb d_EventLog_add_2 (lv_at hl 3 rfl) ?_
  refine lv_iload hx hb d_EventLog_add_4 (lv_at hl 4 rfl) ?_
  refine fnSR (rest := []) (st2 := [.int (bI (f_EventLog_isEvent x1 x2 x4 x6))]) C (c_EventLog_isEvent l D cI cL  x1 x2 x4 x6 _ rfl) (cS hts kS_EventLog_isEvent wd_396 ⟨Nat.le_of_ble_eq_true rfl, Nat.le_of_ble_eq_true rfl⟩) hH [] rfl rfl rfl hl.1 rfl (Nat.le_of_ble_eq_true rfl) d_EventLog_add_6 ⟨Nat.le_of_ble_eq_true rfl, Nat.le_of_ble_eq_true rfl⟩ rfl (fun H locs hH => ?_)
  refine lv_if_ne (tgt := 22) hx hb d_EventLog_add_9 (by decide) (fun hc9 => ?_) (fun hc9 => ?_)
  · have hf := im hc9 hf
    refine lv_aload_n hx hb d_EventLog_add_22 rfl (lv_at hl 0 rfl) ?_
    refine gt (ci := 5) (v := .ref h_events) C hH (iwT iw_EventLog) 0 rfl rfl 0 (by decide) (.tail _ wd_131) rfl d_EventLog_add_23 ?_
    refine fnVR (rest := []) (st2 := [.int (f_Events_number st.1)]) C (c_Events_number l D cI cL h_events h_events_kinds h_events_differences h_events_partsA h_events_partsB st.1 _ rfl) (cV hts kV_Events_number wd_369 ⟨Nat.le_of_ble_eq_true rfl, Nat.le_of_ble_eq_true rfl⟩) hH [1, 2, 3, 4, 5] rfl rfl 0 rfl rfl rfl hl.1 rfl (Nat.le_of_ble_eq_true rfl) d_EventLog_add_26 ⟨Nat.le_of_ble_eq_true rfl, Nat.le_of_ble_eq_true rfl⟩ rfl (fun H locs hH => ?_)
    refine lv_sipush (v := 300) hx hb d_EventLog_add_29 (by decide) ?_
    refine lv_icmp_lt (tgt := 45) hx hb d_EventLog_add_32 (by decide) (fun hc32 => ?_) (fun hc32 => ?_)
    · have hf := ip hc32 hf
      refine lv_aload_n hx hb d_EventLog_add_45 rfl (lv_at hl 0 rfl) ?_
      refine gt (ci := 5) (v := .ref h_events) C hH (iwT iw_EventLog) 0 rfl rfl 0 (by decide) (.tail _ wd_131) rfl d_EventLog_add_46 ?_
      refine lv_iload_n hx hb d_EventLog_add_49 rfl (lv_at hl 1 rfl) ?_
      refine lv_lload_n hx hb d_EventLog_add_50 rfl (lv_at hl 2 rfl) ?_
      refine lv_iload_n hx hb d_EventLog_add_51 rfl (lv_at hl 1 rfl) ?_
      refine lv_lload hx hb d_EventLog_add_52 (lv_at hl 3 rfl) ?_
      refine lv_iload hx hb d_EventLog_add_54 (lv_at hl 4 rfl) ?_
      refine fnSR (rest := [.long x2, .int x1, .ref h_events]) (st2 := [.long (f_EventLog_heldA x1 x4 x6), .long x2, .int x1, .ref h_events]) C (c_EventLog_heldA l D cI cL  x1 x4 x6 _ rfl) (cS hts kS_EventLog_heldA wd_490 ⟨Nat.le_of_ble_eq_true rfl, Nat.le_of_ble_eq_true rfl⟩) hH [] rfl rfl rfl hl.1 rfl (Nat.le_of_ble_eq_true rfl) d_EventLog_add_56 ⟨Nat.le_of_ble_eq_true rfl, Nat.le_of_ble_eq_true rfl⟩ rfl (fun H locs hH => ?_)
      refine lv_iload_n hx hb d_EventLog_add_59 rfl (lv_at hl 1 rfl) ?_
      refine lv_iload hx hb d_EventLog_add_60 (lv_at hl 4 rfl) ?_
      refine fnSR (rest := [.long (f_EventLog_heldA x1 x4 x6), .long x2, .int x1, .ref h_events]) (st2 := [.int (f_EventLog_heldB x1 x6), .long (f_EventLog_heldA x1 x4 x6), .long x2, .int x1, .ref h_events]) C (c_EventLog_heldB l D cI cL  x1 x6 _ rfl) (cS hts kS_EventLog_heldB wd_494 ⟨Nat.le_of_ble_eq_true rfl, Nat.le_of_ble_eq_true rfl⟩) hH [] rfl rfl rfl hl.1 rfl (Nat.le_of_ble_eq_true rfl) d_EventLog_add_62 ⟨Nat.le_of_ble_eq_true rfl, Nat.le_of_ble_eq_true rfl⟩ rfl (fun H locs hH => ?_)
      exact absurd hf (by simp [lt1])
    · have hf := im hc32 hf
      have hf := Sum.inl.inj hf
      subst hf
      exact thr2 (ic := 61) hfl C hH hAe hex hl.1 hE 1 rfl wd_484 (.tail _ wd_474) ⟨Nat.le_of_ble_eq_true rfl, Nat.le_of_ble_eq_true rfl, Nat.le_of_ble_eq_true rfl, Nat.le_of_ble_eq_true rfl⟩ d_EventLog_add_35 d_EventLog_add_38 d_EventLog_add_39 d_EventLog_add_41 d_EventLog_add_44
  · have hf := ip hc9 hf
    have hf := Sum.inl.inj hf
    subst hf
    exact thr1 (ic := 50) hfl C hH hAe hex hl.1 hE 0 rfl wd_448 (.tail _ wd_405) ⟨Nat.le_of_ble_eq_true rfl, Nat.le_of_ble_eq_true rfl, Nat.le_of_ble_eq_true rfl, Nat.le_of_ble_eq_true rfl⟩ d_EventLog_add_12 d_EventLog_add_15 d_EventLog_add_16 d_EventLog_add_18 d_EventLog_add_21
def f_EventLog_drop (st : S_EventLog) (x1 : Int32) : Sum Nat (Int32 × S_EventLog) :=
  if x1 < 0 then (.inl 1) else (if x1 ≤ (f_Events_number st.1) then (lt1 (f_Events_keepFirst st.1 x1) (fun r32 => .inr (((f_Events_number st.1) - x1, (r32, st.2.1, st.2.2.1, st.2.2.2.1, st.2.2.2.2))))) else (.inl 1))
set_option maxRecDepth 100000 in
set_option maxHeartbeats 4000000 in
theorem c_EventLog_drop (l : Launch) (D : va_G) (cI cL : ClassId) (h h_events h_events_kinds h_events_differences h_events_partsA h_events_partsB h_spare h_spare_kinds h_spare_differences h_spare_partsA h_spare_partsB h_log h_log_row h_packer h_packer_past h_packer_past_typed h_reader h_reader_past h_reader_past_typed : Nat) (st : S_EventLog) (x1 : Int32) (res : Int32 × S_EventLog) (hf : f_EventLog_drop st x1 = .inr res) :
    Fn l D vwCl [(cI, .int), (cL, .long)] y_EventLog_drop ws_EventLog_drop { frames := 1, cells := 0, slots := 0, locals := 21 } [.ref h, .int x1] [(h, .inr (5, [.ref h_events, .ref h_spare, .ref h_log, .ref h_packer, .ref h_reader])), (h_events, .inr (2, [.ref h_events_kinds, .ref h_events_differences, .ref h_events_partsA, .ref h_events_partsB, .int st.1.2.2.2.2])), (h_events_kinds, .inl (cI, 300, .inl st.1.1)), (h_events_differences, .inl (cL, 300, .inr (.inl st.1.2.1))), (h_events_partsA, .inl (cL, 300, .inr (.inl st.1.2.2.1))), (h_events_partsB, .inl (cI, 300, .inl st.1.2.2.2.1)), (h_spare, .inr (2, [.ref h_spare_kinds, .ref h_spare_differences, .ref h_spare_partsA, .ref h_spare_partsB, .int st.2.1.2.2.2.2])), (h_spare_kinds, .inl (cI, 300, .inl st.2.1.1)), (h_spare_differences, .inl (cL, 300, .inr (.inl st.2.1.2.1))), (h_spare_partsA, .inl (cL, 300, .inr (.inl st.2.1.2.2.1))), (h_spare_partsB, .inl (cI, 300, .inl st.2.1.2.2.2.1)), (h_log, .inr (0, [.ref h_log_row, .int st.2.2.1.2])), (h_log_row, .inl (cI, 5000, .inl st.2.2.1.1)), (h_packer, .inr (3, [.ref h_log, .ref h_packer_past, .int (bI st.2.2.2.1.2.1), .int st.2.2.2.1.2.2.1, .int st.2.2.2.1.2.2.2.1, .int st.2.2.2.1.2.2.2.2.1, .int st.2.2.2.1.2.2.2.2.2.1, .int st.2.2.2.1.2.2.2.2.2.2])), (h_packer_past, .inr (1, [.ref h_packer_past_typed, .int st.2.2.2.1.1.2.1, .int st.2.2.2.1.1.2.2])), (h_packer_past_typed, .inl (cI, 300, .inl st.2.2.2.1.1.1)), (h_reader, .inr (4, [.ref h_log, .ref h_reader_past, .int st.2.2.2.2.2.1, .int st.2.2.2.2.2.2.1, .int st.2.2.2.2.2.2.2])), (h_reader_past, .inr (1, [.ref h_reader_past_typed, .int st.2.2.2.2.1.2.1, .int st.2.2.2.2.1.2.2])), (h_reader_past_typed, .inl (cI, 300, .inl st.2.2.2.2.1.1))] (some (.int res.1)) [(h, .inr (5, [.ref h_events, .ref h_spare, .ref h_log, .ref h_packer, .ref h_reader])), (h_events, .inr (2, [.ref h_events_kinds, .ref h_events_differences, .ref h_events_partsA, .ref h_events_partsB, .int res.2.1.2.2.2.2])), (h_events_kinds, .inl (cI, 300, .inl res.2.1.1)), (h_events_differences, .inl (cL, 300, .inr (.inl res.2.1.2.1))), (h_events_partsA, .inl (cL, 300, .inr (.inl res.2.1.2.2.1))), (h_events_partsB, .inl (cI, 300, .inl res.2.1.2.2.2.1)), (h_spare, .inr (2, [.ref h_spare_kinds, .ref h_spare_differences, .ref h_spare_partsA, .ref h_spare_partsB, .int res.2.2.1.2.2.2.2])), (h_spare_kinds, .inl (cI, 300, .inl res.2.2.1.1)), (h_spare_differences, .inl (cL, 300, .inr (.inl res.2.2.1.2.1))), (h_spare_partsA, .inl (cL, 300, .inr (.inl res.2.2.1.2.2.1))), (h_spare_partsB, .inl (cI, 300, .inl res.2.2.1.2.2.2.1)), (h_log, .inr (0, [.ref h_log_row, .int res.2.2.2.1.2])), (h_log_row, .inl (cI, 5000, .inl res.2.2.2.1.1)), (h_packer, .inr (3, [.ref h_log, .ref h_packer_past, .int (bI res.2.2.2.2.1.2.1), .int res.2.2.2.2.1.2.2.1, .int res.2.2.2.2.1.2.2.2.1, .int res.2.2.2.2.1.2.2.2.2.1, .int res.2.2.2.2.1.2.2.2.2.2.1, .int res.2.2.2.2.1.2.2.2.2.2.2])), (h_packer_past, .inr (1, [.ref h_packer_past_typed, .int res.2.2.2.2.1.1.2.1, .int res.2.2.2.2.1.1.2.2])), (h_packer_past_typed, .inl (cI, 300, .inl res.2.2.2.2.1.1.1)), (h_reader, .inr (4, [.ref h_log, .ref h_reader_past, .int res.2.2.2.2.2.2.1, .int res.2.2.2.2.2.2.2.1, .int res.2.2.2.2.2.2.2.2])), (h_reader_past, .inr (1, [.ref h_reader_past_typed, .int res.2.2.2.2.2.1.2.1, .int res.2.2.2.2.2.1.2.2])), (h_reader_past_typed, .inl (cI, 300, .inl res.2.2.2.2.2.1.1))] := by
  refine Fn.ofW (cc := b_EventLog_drop) (maxL := 3) (ret := (some .int)) (by decide) rfl (Nat.le_of_ble_eq_true rfl) ?_
  intro p e s m below meth c A ls C hH hinit hl
  have hl : lv_has ls 3 [(0, .ref h), (1, .int x1)] := hl
  obtain ⟨hx, hb, hr, hml, hown, hts, hlk, hK, hA⟩ := id C
  unfold f_EventLog_drop at hf
  refine lv_aload_n hx hb d_EventLog_drop_0 rfl (lv_at hl 0 rfl) ?_
  refine gt (ci := 5) (v := .ref h_events) C hH (iwT iw_EventLog) 0 rfl rfl 0 (by decide) (.tail _ wd_131) rfl d_EventLog_drop_1 ?_
  refine fnVR (rest := []) (st2 := [.int (f_Events_number st.1)]) C (c_Events_number l D cI cL h_events h_events_kinds h_events_differences h_events_partsA h_events_partsB st.1 _ rfl) (cV hts kV_Events_number wd_369 ⟨Nat.le_of_ble_eq_true rfl, Nat.le_of_ble_eq_true rfl⟩) hH [1, 2, 3, 4, 5] rfl rfl 0 rfl rfl rfl hl.1 rfl (Nat.le_of_ble_eq_true rfl) d_EventLog_drop_4 ⟨Nat.le_of_ble_eq_true rfl, Nat.le_of_ble_eq_true rfl⟩ rfl (fun H locs hH => ?_)
  refine lv_istore_n (lv' := [(2, .int (f_Events_number st.1)), (0, .ref h), (1, .int x1)]) hx hb d_EventLog_drop_7 rfl hl (by decide) rfl (fun ls hl => ?_)
  refine lv_iload_n hx hb d_EventLog_drop_8 rfl (lv_at hl 2 rfl) ?_
  refine lv_if_lt (tgt := 17) hx hb d_EventLog_drop_9 (by decide) (fun hc9 => ?_) (fun hc9 => ?_)
  · have hf := ip hc9 hf
    cases hf
  · have hf := im hc9 hf
    refine lv_iload_n hx hb d_EventLog_drop_12 rfl (lv_at hl 2 rfl) ?_
    refine lv_iload_n hx hb d_EventLog_drop_13 rfl (lv_at hl 0 rfl) ?_
    refine lv_icmp_le (tgt := 27) hx hb d_EventLog_drop_14 (by decide) (fun hc14 => ?_) (fun hc14 => ?_)
    · have hf := ip hc14 hf
      refine lv_aload_n hx hb d_EventLog_drop_27 rfl (lv_at hl 1 rfl) ?_
      refine gt (ci := 5) (v := .ref h_events) C hH (iwT iw_EventLog) 0 rfl rfl 0 (by decide) (.tail _ wd_131) rfl d_EventLog_drop_28 ?_
      refine lv_iload_n hx hb d_EventLog_drop_31 rfl (lv_at hl 2 rfl) ?_
      obtain ⟨r32, hr32, hf⟩ := lb hf
      refine fnV (rest := []) (wr := [(h, .inr (5, [.ref h_events, .ref h_spare, .ref h_log, .ref h_packer, .ref h_reader])), (h_spare, .inr (2, [.ref h_spare_kinds, .ref h_spare_differences, .ref h_spare_partsA, .ref h_spare_partsB, .int st.2.1.2.2.2.2])), (h_spare_kinds, .inl (cI, 300, .inl st.2.1.1)), (h_spare_differences, .inl (cL, 300, .inr (.inl st.2.1.2.1))), (h_spare_partsA, .inl (cL, 300, .inr (.inl st.2.1.2.2.1))), (h_spare_partsB, .inl (cI, 300, .inl st.2.1.2.2.2.1)), (h_log, .inr (0, [.ref h_log_row, .int st.2.2.1.2])), (h_log_row, .inl (cI, 5000, .inl st.2.2.1.1)), (h_packer, .inr (3, [.ref h_log, .ref h_packer_past, .int (bI st.2.2.2.1.2.1), .int st.2.2.2.1.2.2.1, .int st.2.2.2.1.2.2.2.1, .int st.2.2.2.1.2.2.2.2.1, .int st.2.2.2.1.2.2.2.2.2.1, .int st.2.2.2.1.2.2.2.2.2.2])), (h_packer_past, .inr (1, [.ref h_packer_past_typed, .int st.2.2.2.1.1.2.1, .int st.2.2.2.1.1.2.2])), (h_packer_past_typed, .inl (cI, 300, .inl st.2.2.2.1.1.1)), (h_reader, .inr (4, [.ref h_log, .ref h_reader_past, .int st.2.2.2.2.2.1, .int st.2.2.2.2.2.2.1, .int st.2.2.2.2.2.2.2])), (h_reader_past, .inr (1, [.ref h_reader_past_typed, .int st.2.2.2.2.1.2.1, .int st.2.2.2.2.1.2.2])), (h_reader_past_typed, .inl (cI, 300, .inl st.2.2.2.2.1.1))]) (w2 := [(h, .inr (5, [.ref h_events, .ref h_spare, .ref h_log, .ref h_packer, .ref h_reader])), (h_events, .inr (2, [.ref h_events_kinds, .ref h_events_differences, .ref h_events_partsA, .ref h_events_partsB, .int r32.2.2.2.2])), (h_events_kinds, .inl (cI, 300, .inl r32.1)), (h_events_differences, .inl (cL, 300, .inr (.inl r32.2.1))), (h_events_partsA, .inl (cL, 300, .inr (.inl r32.2.2.1))), (h_events_partsB, .inl (cI, 300, .inl r32.2.2.2.1)), (h_spare, .inr (2, [.ref h_spare_kinds, .ref h_spare_differences, .ref h_spare_partsA, .ref h_spare_partsB, .int st.2.1.2.2.2.2])), (h_spare_kinds, .inl (cI, 300, .inl st.2.1.1)), (h_spare_differences, .inl (cL, 300, .inr (.inl st.2.1.2.1))), (h_spare_partsA, .inl (cL, 300, .inr (.inl st.2.1.2.2.1))), (h_spare_partsB, .inl (cI, 300, .inl st.2.1.2.2.2.1)), (h_log, .inr (0, [.ref h_log_row, .int st.2.2.1.2])), (h_log_row, .inl (cI, 5000, .inl st.2.2.1.1)), (h_packer, .inr (3, [.ref h_log, .ref h_packer_past, .int (bI st.2.2.2.1.2.1), .int st.2.2.2.1.2.2.1, .int st.2.2.2.1.2.2.2.1, .int st.2.2.2.1.2.2.2.2.1, .int st.2.2.2.1.2.2.2.2.2.1, .int st.2.2.2.1.2.2.2.2.2.2])), (h_packer_past, .inr (1, [.ref h_packer_past_typed, .int st.2.2.2.1.1.2.1, .int st.2.2.2.1.1.2.2])), (h_packer_past_typed, .inl (cI, 300, .inl st.2.2.2.1.1.1)), (h_reader, .inr (4, [.ref h_log, .ref h_reader_past, .int st.2.2.2.2.2.1, .int st.2.2.2.2.2.2.1, .int st.2.2.2.2.2.2.2])), (h_reader_past, .inr (1, [.ref h_reader_past_typed, .int st.2.2.2.2.1.2.1, .int st.2.2.2.2.1.2.2])), (h_reader_past_typed, .inl (cI, 300, .inl st.2.2.2.2.1.1))]) (st2 := []) C (c_Events_keepFirst l D cI cL h_events h_events_kinds h_events_differences h_events_partsA h_events_partsB st.1 x1 r32 hr32) (cV hts kV_Events_keepFirst wd_506 ⟨Nat.le_of_ble_eq_true rfl, Nat.le_of_ble_eq_true rfl⟩) hH [1, 2, 3, 4, 5] [0, 6, 7, 8, 9, 10, 11, 12, 13, 14, 15, 16, 17, 18] [0, 14, 15, 16, 17, 18, 1, 2, 3, 4, 5, 6, 7, 8, 9, 10, 11, 12, 13] rfl rfl rfl rfl (by decide) rfl rfl 0 rfl rfl rfl hl.1 rfl (Nat.le_of_ble_eq_true rfl) d_EventLog_drop_32 ⟨Nat.le_of_ble_eq_true rfl, Nat.le_of_ble_eq_true rfl⟩ rfl (fun H locs hH => ?_)
      refine lv_iload_n hx hb d_EventLog_drop_35 rfl (lv_at hl 0 rfl) ?_
      refine lv_iload_n hx hb d_EventLog_drop_36 rfl (lv_at hl 2 rfl) ?_
      refine lv_isub hx hb d_EventLog_drop_37 ?_
      have hf := Sum.inr.inj hf
      subst hf
      exact rI (v := (f_Events_number st.1) - x1) C hH d_EventLog_drop_38
    · have hf := im hc14 hf
      cases hf
set_option maxRecDepth 100000 in
set_option maxHeartbeats 4000000 in
theorem t_EventLog_drop (l : Launch) (hfl : l.flags = pinnedFlags ++ [noTraceFlag]) (D : va_G) (cI cL : ClassId) (h h_events h_events_kinds h_events_differences h_events_partsA h_events_partsB h_spare h_spare_kinds h_spare_differences h_spare_partsA h_spare_partsB h_log h_log_row h_packer h_packer_past h_packer_past_typed h_reader h_reader_past h_reader_past_typed : Nat) (st : S_EventLog) (x1 : Int32) (k : Nat) (hf : f_EventLog_drop st x1 = .inl k) :
    FnT l D vwCl [(cI, .int), (cL, .long)] y_EventLog_drop ws_EventLog_drop { frames := 6, cells := 1, slots := 6, locals := 83 } [.ref h, .int x1] [(h, .inr (5, [.ref h_events, .ref h_spare, .ref h_log, .ref h_packer, .ref h_reader])), (h_events, .inr (2, [.ref h_events_kinds, .ref h_events_differences, .ref h_events_partsA, .ref h_events_partsB, .int st.1.2.2.2.2])), (h_events_kinds, .inl (cI, 300, .inl st.1.1)), (h_events_differences, .inl (cL, 300, .inr (.inl st.1.2.1))), (h_events_partsA, .inl (cL, 300, .inr (.inl st.1.2.2.1))), (h_events_partsB, .inl (cI, 300, .inl st.1.2.2.2.1)), (h_spare, .inr (2, [.ref h_spare_kinds, .ref h_spare_differences, .ref h_spare_partsA, .ref h_spare_partsB, .int st.2.1.2.2.2.2])), (h_spare_kinds, .inl (cI, 300, .inl st.2.1.1)), (h_spare_differences, .inl (cL, 300, .inr (.inl st.2.1.2.1))), (h_spare_partsA, .inl (cL, 300, .inr (.inl st.2.1.2.2.1))), (h_spare_partsB, .inl (cI, 300, .inl st.2.1.2.2.2.1)), (h_log, .inr (0, [.ref h_log_row, .int st.2.2.1.2])), (h_log_row, .inl (cI, 5000, .inl st.2.2.1.1)), (h_packer, .inr (3, [.ref h_log, .ref h_packer_past, .int (bI st.2.2.2.1.2.1), .int st.2.2.2.1.2.2.1, .int st.2.2.2.1.2.2.2.1, .int st.2.2.2.1.2.2.2.2.1, .int st.2.2.2.1.2.2.2.2.2.1, .int st.2.2.2.1.2.2.2.2.2.2])), (h_packer_past, .inr (1, [.ref h_packer_past_typed, .int st.2.2.2.1.1.2.1, .int st.2.2.2.1.1.2.2])), (h_packer_past_typed, .inl (cI, 300, .inl st.2.2.2.1.1.1)), (h_reader, .inr (4, [.ref h_log, .ref h_reader_past, .int st.2.2.2.2.2.1, .int st.2.2.2.2.2.2.1, .int st.2.2.2.2.2.2.2])), (h_reader_past, .inr (1, [.ref h_reader_past_typed, .int st.2.2.2.2.1.2.1, .int st.2.2.2.2.1.2.2])), (h_reader_past_typed, .inl (cI, 300, .inl st.2.2.2.2.1.1))] (TE [("EventLog", 74, "not a number of events")]) (exN k) := by
  refine FnT.ofW (cc := b_EventLog_drop) (maxL := 3) (ret := (some .int)) (by decide) rfl (Nat.le_of_ble_eq_true rfl) ?_
  intro p e s m below meth c A ls C hH hE hAe hex hl
  have hl : lv_has ls 3 [(0, .ref h), (1, .int x1)] := hl
  obtain ⟨hx, hb, hr, hml, hown, hts, hlk, hK, hA⟩ := id C
  unfold f_EventLog_drop at hf
  refine lv_aload_n hx hb d_EventLog_drop_0 rfl (lv_at hl 0 rfl) ?_
  refine gt (ci := 5) (v := .ref h_events) C hH (iwT iw_EventLog) 0 rfl rfl 0 (by decide) (.tail _ wd_131) rfl d_EventLog_drop_1 ?_
  refine fnVR (rest := []) (st2 := [.int (f_Events_number st.1)]) C (c_Events_number l D cI cL h_events h_events_kinds h_events_differences h_events_partsA h_events_partsB st.1 _ rfl) (cV hts kV_Events_number wd_369 ⟨Nat.le_of_ble_eq_true rfl, Nat.le_of_ble_eq_true rfl⟩) hH [1, 2, 3, 4, 5] rfl rfl 0 rfl rfl rfl hl.1 rfl (Nat.le_of_ble_eq_true rfl) d_EventLog_drop_4 ⟨Nat.le_of_ble_eq_true rfl, Nat.le_of_ble_eq_true rfl⟩ rfl (fun H locs hH => ?_)
  refine lv_istore_n (lv' := [(2, .int (f_Events_number st.1)), (0, .ref h), (1, .int x1)]) hx hb d_EventLog_drop_7 rfl hl (by decide) rfl (fun ls hl => ?_)
  refine lv_iload_n hx hb d_EventLog_drop_8 rfl (lv_at hl 2 rfl) ?_
  refine lv_if_lt (tgt := 17) hx hb d_EventLog_drop_9 (by decide) (fun hc9 => ?_) (fun hc9 => ?_)
  · have hf := ip hc9 hf
    have hf := Sum.inl.inj hf
    subst hf
    exact thr1 (ic := 50) hfl C hH hAe hex hl.1 hE 0 rfl wd_448 (.tail _ wd_405) ⟨Nat.le_of_ble_eq_true rfl, Nat.le_of_ble_eq_true rfl, Nat.le_of_ble_eq_true rfl, Nat.le_of_ble_eq_true rfl⟩ d_EventLog_drop_17 d_EventLog_drop_20 d_EventLog_drop_21 d_EventLog_drop_23 d_EventLog_drop_26
  · have hf := im hc9 hf
    refine lv_iload_n hx hb d_EventLog_drop_12 rfl (lv_at hl 2 rfl) ?_
    refine lv_iload_n hx hb d_EventLog_drop_13 rfl (lv_at hl 0 rfl) ?_
    refine lv_icmp_le (tgt := 27) hx hb d_EventLog_drop_14 (by decide) (fun hc14 => ?_) (fun hc14 => ?_)
    · have hf := ip hc14 hf
      refine lv_aload_n hx hb d_EventLog_drop_27 rfl (lv_at hl 1 rfl) ?_
      refine gt (ci := 5) (v := .ref h_events) C hH (iwT iw_EventLog) 0 rfl rfl 0 (by decide) (.tail _ wd_131) rfl d_EventLog_drop_28 ?_
      refine lv_iload_n hx hb d_EventLog_drop_31 rfl (lv_at hl 2 rfl) ?_
      exact absurd hf (by simp [lt1])
    · have hf := im hc14 hf
      have hf := Sum.inl.inj hf
      subst hf
      exact thr1 (ic := 50) hfl C hH hAe hex hl.1 hE 0 rfl wd_448 (.tail _ wd_405) ⟨Nat.le_of_ble_eq_true rfl, Nat.le_of_ble_eq_true rfl, Nat.le_of_ble_eq_true rfl, Nat.le_of_ble_eq_true rfl⟩ d_EventLog_drop_17 d_EventLog_drop_20 d_EventLog_drop_21 d_EventLog_drop_23 d_EventLog_drop_26
def f_EventLog_pack (st : S_EventLog)  : Option (Int32 × S_EventLog) :=
  (f_Packer_run ((st.2.2.1, st.2.2.2.1.1, st.2.2.2.1.2.1, st.2.2.2.1.2.2.1, st.2.2.2.1.2.2.2.1, st.2.2.2.1.2.2.2.2.1, st.2.2.2.1.2.2.2.2.2.1, st.2.2.2.1.2.2.2.2.2.2)) st.1 true).bind (fun r9 => some ((f_Packer_bytes r9, (st.1, st.2.1, r9.1, r9.2, st.2.2.2.2))))
set_option maxRecDepth 100000 in
set_option maxHeartbeats 4000000 in
theorem c_EventLog_pack (l : Launch) (D : va_G) (cI cL : ClassId) (h h_events h_events_kinds h_events_differences h_events_partsA h_events_partsB h_spare h_spare_kinds h_spare_differences h_spare_partsA h_spare_partsB h_log h_log_row h_packer h_packer_past h_packer_past_typed h_reader h_reader_past h_reader_past_typed : Nat) (st : S_EventLog)  (res : Int32 × S_EventLog) (hf : f_EventLog_pack st = some res) :
    Fn l D vwCl [(cI, .int), (cL, .long)] y_EventLog_pack ws_EventLog_pack { frames := 6, cells := 0, slots := 0, locals := 139 } [.ref h] [(h, .inr (5, [.ref h_events, .ref h_spare, .ref h_log, .ref h_packer, .ref h_reader])), (h_events, .inr (2, [.ref h_events_kinds, .ref h_events_differences, .ref h_events_partsA, .ref h_events_partsB, .int st.1.2.2.2.2])), (h_events_kinds, .inl (cI, 300, .inl st.1.1)), (h_events_differences, .inl (cL, 300, .inr (.inl st.1.2.1))), (h_events_partsA, .inl (cL, 300, .inr (.inl st.1.2.2.1))), (h_events_partsB, .inl (cI, 300, .inl st.1.2.2.2.1)), (h_spare, .inr (2, [.ref h_spare_kinds, .ref h_spare_differences, .ref h_spare_partsA, .ref h_spare_partsB, .int st.2.1.2.2.2.2])), (h_spare_kinds, .inl (cI, 300, .inl st.2.1.1)), (h_spare_differences, .inl (cL, 300, .inr (.inl st.2.1.2.1))), (h_spare_partsA, .inl (cL, 300, .inr (.inl st.2.1.2.2.1))), (h_spare_partsB, .inl (cI, 300, .inl st.2.1.2.2.2.1)), (h_log, .inr (0, [.ref h_log_row, .int st.2.2.1.2])), (h_log_row, .inl (cI, 5000, .inl st.2.2.1.1)), (h_packer, .inr (3, [.ref h_log, .ref h_packer_past, .int (bI st.2.2.2.1.2.1), .int st.2.2.2.1.2.2.1, .int st.2.2.2.1.2.2.2.1, .int st.2.2.2.1.2.2.2.2.1, .int st.2.2.2.1.2.2.2.2.2.1, .int st.2.2.2.1.2.2.2.2.2.2])), (h_packer_past, .inr (1, [.ref h_packer_past_typed, .int st.2.2.2.1.1.2.1, .int st.2.2.2.1.1.2.2])), (h_packer_past_typed, .inl (cI, 300, .inl st.2.2.2.1.1.1)), (h_reader, .inr (4, [.ref h_log, .ref h_reader_past, .int st.2.2.2.2.2.1, .int st.2.2.2.2.2.2.1, .int st.2.2.2.2.2.2.2])), (h_reader_past, .inr (1, [.ref h_reader_past_typed, .int st.2.2.2.2.1.2.1, .int st.2.2.2.2.1.2.2])), (h_reader_past_typed, .inl (cI, 300, .inl st.2.2.2.2.1.1))] (some (.int res.1)) [(h, .inr (5, [.ref h_events, .ref h_spare, .ref h_log, .ref h_packer, .ref h_reader])), (h_events, .inr (2, [.ref h_events_kinds, .ref h_events_differences, .ref h_events_partsA, .ref h_events_partsB, .int res.2.1.2.2.2.2])), (h_events_kinds, .inl (cI, 300, .inl res.2.1.1)), (h_events_differences, .inl (cL, 300, .inr (.inl res.2.1.2.1))), (h_events_partsA, .inl (cL, 300, .inr (.inl res.2.1.2.2.1))), (h_events_partsB, .inl (cI, 300, .inl res.2.1.2.2.2.1)), (h_spare, .inr (2, [.ref h_spare_kinds, .ref h_spare_differences, .ref h_spare_partsA, .ref h_spare_partsB, .int res.2.2.1.2.2.2.2])), (h_spare_kinds, .inl (cI, 300, .inl res.2.2.1.1)), (h_spare_differences, .inl (cL, 300, .inr (.inl res.2.2.1.2.1))), (h_spare_partsA, .inl (cL, 300, .inr (.inl res.2.2.1.2.2.1))), (h_spare_partsB, .inl (cI, 300, .inl res.2.2.1.2.2.2.1)), (h_log, .inr (0, [.ref h_log_row, .int res.2.2.2.1.2])), (h_log_row, .inl (cI, 5000, .inl res.2.2.2.1.1)), (h_packer, .inr (3, [.ref h_log, .ref h_packer_past, .int (bI res.2.2.2.2.1.2.1), .int res.2.2.2.2.1.2.2.1, .int res.2.2.2.2.1.2.2.2.1, .int res.2.2.2.2.1.2.2.2.2.1, .int res.2.2.2.2.1.2.2.2.2.2.1, .int res.2.2.2.2.1.2.2.2.2.2.2])), (h_packer_past, .inr (1, [.ref h_packer_past_typed, .int res.2.2.2.2.1.1.2.1, .int res.2.2.2.2.1.1.2.2])), (h_packer_past_typed, .inl (cI, 300, .inl res.2.2.2.2.1.1.1)), (h_reader, .inr (4, [.ref h_log, .ref h_reader_past, .int res.2.2.2.2.2.2.1, .int res.2.2.2.2.2.2.2.1, .int res.2.2.2.2.2.2.2.2])), (h_reader_past, .inr (1, [.ref h_reader_past_typed, .int res.2.2.2.2.2.1.2.1, .int res.2.2.2.2.2.1.2.2])), (h_reader_past_typed, .inl (cI, 300, .inl res.2.2.2.2.2.1.1))] := by
  refine Fn.ofW (cc := b_EventLog_pack) (maxL := 1) (ret := (some .int)) (by decide) rfl (Nat.le_of_ble_eq_true rfl) ?_
  intro p e s m below meth c A ls C hH hinit hl
  have hl : lv_has ls 1 [(0, .ref h)] := hl
  obtain ⟨hx, hb, hr, hml, hown, hts, hlk, hK, hA⟩ := id C
  unfold f_EventLog_pack at hf
  refine lv_aload_n hx hb d_EventLog_pack_0 rfl (lv_at hl 0 rfl) ?_
  refine gt (ci := 5) (v := .ref h_packer) C hH (iwT iw_EventLog) 0 rfl rfl 3 (by decide) (.tail _ wd_134) rfl d_EventLog_pack_1 ?_
  refine lv_aload_n hx hb d_EventLog_pack_4 rfl (lv_at hl 0 rfl) ?_
  refine gt (ci := 5) (v := .ref h_events) C hH (iwT iw_EventLog) 0 rfl rfl 0 (by decide) (.tail _ wd_131) rfl d_EventLog_pack_5 ?_
  refine lv_iconst (v := 1) hx hb d_EventLog_pack_8 (by decide) ?_
  obtain ⟨r9, hr9, hf⟩ := ob hf
  refine fnV (rest := []) (wr := [(h, .inr (5, [.ref h_events, .ref h_spare, .ref h_log, .ref h_packer, .ref h_reader])), (h_spare, .inr (2, [.ref h_spare_kinds, .ref h_spare_differences, .ref h_spare_partsA, .ref h_spare_partsB, .int st.2.1.2.2.2.2])), (h_spare_kinds, .inl (cI, 300, .inl st.2.1.1)), (h_spare_differences, .inl (cL, 300, .inr (.inl st.2.1.2.1))), (h_spare_partsA, .inl (cL, 300, .inr (.inl st.2.1.2.2.1))), (h_spare_partsB, .inl (cI, 300, .inl st.2.1.2.2.2.1)), (h_reader, .inr (4, [.ref h_log, .ref h_reader_past, .int st.2.2.2.2.2.1, .int st.2.2.2.2.2.2.1, .int st.2.2.2.2.2.2.2])), (h_reader_past, .inr (1, [.ref h_reader_past_typed, .int st.2.2.2.2.1.2.1, .int st.2.2.2.2.1.2.2])), (h_reader_past_typed, .inl (cI, 300, .inl st.2.2.2.2.1.1))]) (w2 := [(h, .inr (5, [.ref h_events, .ref h_spare, .ref h_log, .ref h_packer, .ref h_reader])), (h_events, .inr (2, [.ref h_events_kinds, .ref h_events_differences, .ref h_events_partsA, .ref h_events_partsB, .int st.1.2.2.2.2])), (h_events_kinds, .inl (cI, 300, .inl st.1.1)), (h_events_differences, .inl (cL, 300, .inr (.inl st.1.2.1))), (h_events_partsA, .inl (cL, 300, .inr (.inl st.1.2.2.1))), (h_events_partsB, .inl (cI, 300, .inl st.1.2.2.2.1)), (h_spare, .inr (2, [.ref h_spare_kinds, .ref h_spare_differences, .ref h_spare_partsA, .ref h_spare_partsB, .int st.2.1.2.2.2.2])), (h_spare_kinds, .inl (cI, 300, .inl st.2.1.1)), (h_spare_differences, .inl (cL, 300, .inr (.inl st.2.1.2.1))), (h_spare_partsA, .inl (cL, 300, .inr (.inl st.2.1.2.2.1))), (h_spare_partsB, .inl (cI, 300, .inl st.2.1.2.2.2.1)), (h_log, .inr (0, [.ref h_log_row, .int r9.1.2])), (h_log_row, .inl (cI, 5000, .inl r9.1.1)), (h_packer, .inr (3, [.ref h_log, .ref h_packer_past, .int (bI r9.2.2.1), .int r9.2.2.2.1, .int r9.2.2.2.2.1, .int r9.2.2.2.2.2.1, .int r9.2.2.2.2.2.2.1, .int r9.2.2.2.2.2.2.2])), (h_packer_past, .inr (1, [.ref h_packer_past_typed, .int r9.2.1.2.1, .int r9.2.1.2.2])), (h_packer_past_typed, .inl (cI, 300, .inl r9.2.1.1)), (h_reader, .inr (4, [.ref h_log, .ref h_reader_past, .int st.2.2.2.2.2.1, .int st.2.2.2.2.2.2.1, .int st.2.2.2.2.2.2.2])), (h_reader_past, .inr (1, [.ref h_reader_past_typed, .int st.2.2.2.2.1.2.1, .int st.2.2.2.2.1.2.2])), (h_reader_past_typed, .inl (cI, 300, .inl st.2.2.2.2.1.1))]) (st2 := []) C (c_Packer_run l D cI cL h_packer h_log h_log_row h_packer_past h_packer_past_typed h_events h_events_kinds h_events_differences h_events_partsA h_events_partsB ((st.2.2.1, st.2.2.2.1.1, st.2.2.2.1.2.1, st.2.2.2.1.2.2.1, st.2.2.2.1.2.2.2.1, st.2.2.2.1.2.2.2.2.1, st.2.2.2.1.2.2.2.2.2.1, st.2.2.2.1.2.2.2.2.2.2)) st.1 true r9 hr9) (cV hts kV_Packer_run wd_151 ⟨Nat.le_of_ble_eq_true rfl, Nat.le_of_ble_eq_true rfl⟩) hH [13, 11, 12, 14, 15, 1, 2, 3, 4, 5] [0, 6, 7, 8, 9, 10, 16, 17, 18] [0, 14, 15, 16, 17, 18, 1, 2, 3, 4, 5, 10, 11, 9, 12, 13, 6, 7, 8] rfl rfl rfl rfl (by decide) rfl rfl 0 rfl rfl rfl hl.1 rfl (Nat.le_of_ble_eq_true rfl) d_EventLog_pack_9 ⟨Nat.le_of_ble_eq_true rfl, Nat.le_of_ble_eq_true rfl⟩ rfl (fun H locs hH => ?_)
  refine lv_aload_n hx hb d_EventLog_pack_12 rfl (lv_at hl 0 rfl) ?_
  refine gt (ci := 5) (v := .ref h_packer) C hH (iwT iw_EventLog) 0 rfl rfl 3 (by decide) (.tail _ wd_134) rfl d_EventLog_pack_13 ?_
  refine fnVR (rest := []) (st2 := [.int (f_Packer_bytes r9)]) C (c_Packer_bytes l D cI cL h_packer h_log h_log_row h_packer_past h_packer_past_typed r9 _ rfl) (cV hts kV_Packer_bytes wd_256 ⟨Nat.le_of_ble_eq_true rfl, Nat.le_of_ble_eq_true rfl⟩) hH [13, 11, 12, 14, 15] rfl rfl 0 rfl rfl rfl hl.1 rfl (Nat.le_of_ble_eq_true rfl) d_EventLog_pack_16 ⟨Nat.le_of_ble_eq_true rfl, Nat.le_of_ble_eq_true rfl⟩ rfl (fun H locs hH => ?_)
  have hf := Option.some.inj hf
  subst hf
  exact rI (v := f_Packer_bytes r9) C hH d_EventLog_pack_19
def f_EventLog_size (st : S_EventLog)  : Option (Int32 × S_EventLog) :=
  (f_Packer_run ((st.2.2.1, st.2.2.2.1.1, st.2.2.2.1.2.1, st.2.2.2.1.2.2.1, st.2.2.2.1.2.2.2.1, st.2.2.2.1.2.2.2.2.1, st.2.2.2.1.2.2.2.2.2.1, st.2.2.2.1.2.2.2.2.2.2)) st.1 false).bind (fun r9 => some ((f_Packer_bytes r9, (st.1, st.2.1, r9.1, r9.2, st.2.2.2.2))))
set_option maxRecDepth 100000 in
set_option maxHeartbeats 4000000 in
theorem c_EventLog_size (l : Launch) (D : va_G) (cI cL : ClassId) (h h_events h_events_kinds h_events_differences h_events_partsA h_events_partsB h_spare h_spare_kinds h_spare_differences h_spare_partsA h_spare_partsB h_log h_log_row h_packer h_packer_past h_packer_past_typed h_reader h_reader_past h_reader_past_typed : Nat) (st : S_EventLog)  (res : Int32 × S_EventLog) (hf : f_EventLog_size st = some res) :
    Fn l D vwCl [(cI, .int), (cL, .long)] y_EventLog_size ws_EventLog_size { frames := 6, cells := 0, slots := 0, locals := 139 } [.ref h] [(h, .inr (5, [.ref h_events, .ref h_spare, .ref h_log, .ref h_packer, .ref h_reader])), (h_events, .inr (2, [.ref h_events_kinds, .ref h_events_differences, .ref h_events_partsA, .ref h_events_partsB, .int st.1.2.2.2.2])), (h_events_kinds, .inl (cI, 300, .inl st.1.1)), (h_events_differences, .inl (cL, 300, .inr (.inl st.1.2.1))), (h_events_partsA, .inl (cL, 300, .inr (.inl st.1.2.2.1))), (h_events_partsB, .inl (cI, 300, .inl st.1.2.2.2.1)), (h_spare, .inr (2, [.ref h_spare_kinds, .ref h_spare_differences, .ref h_spare_partsA, .ref h_spare_partsB, .int st.2.1.2.2.2.2])), (h_spare_kinds, .inl (cI, 300, .inl st.2.1.1)), (h_spare_differences, .inl (cL, 300, .inr (.inl st.2.1.2.1))), (h_spare_partsA, .inl (cL, 300, .inr (.inl st.2.1.2.2.1))), (h_spare_partsB, .inl (cI, 300, .inl st.2.1.2.2.2.1)), (h_log, .inr (0, [.ref h_log_row, .int st.2.2.1.2])), (h_log_row, .inl (cI, 5000, .inl st.2.2.1.1)), (h_packer, .inr (3, [.ref h_log, .ref h_packer_past, .int (bI st.2.2.2.1.2.1), .int st.2.2.2.1.2.2.1, .int st.2.2.2.1.2.2.2.1, .int st.2.2.2.1.2.2.2.2.1, .int st.2.2.2.1.2.2.2.2.2.1, .int st.2.2.2.1.2.2.2.2.2.2])), (h_packer_past, .inr (1, [.ref h_packer_past_typed, .int st.2.2.2.1.1.2.1, .int st.2.2.2.1.1.2.2])), (h_packer_past_typed, .inl (cI, 300, .inl st.2.2.2.1.1.1)), (h_reader, .inr (4, [.ref h_log, .ref h_reader_past, .int st.2.2.2.2.2.1, .int st.2.2.2.2.2.2.1, .int st.2.2.2.2.2.2.2])), (h_reader_past, .inr (1, [.ref h_reader_past_typed, .int st.2.2.2.2.1.2.1, .int st.2.2.2.2.1.2.2])), (h_reader_past_typed, .inl (cI, 300, .inl st.2.2.2.2.1.1))] (some (.int res.1)) [(h, .inr (5, [.ref h_events, .ref h_spare, .ref h_log, .ref h_packer, .ref h_reader])), (h_events, .inr (2, [.ref h_events_kinds, .ref h_events_differences, .ref h_events_partsA, .ref h_events_partsB, .int res.2.1.2.2.2.2])), (h_events_kinds, .inl (cI, 300, .inl res.2.1.1)), (h_events_differences, .inl (cL, 300, .inr (.inl res.2.1.2.1))), (h_events_partsA, .inl (cL, 300, .inr (.inl res.2.1.2.2.1))), (h_events_partsB, .inl (cI, 300, .inl res.2.1.2.2.2.1)), (h_spare, .inr (2, [.ref h_spare_kinds, .ref h_spare_differences, .ref h_spare_partsA, .ref h_spare_partsB, .int res.2.2.1.2.2.2.2])), (h_spare_kinds, .inl (cI, 300, .inl res.2.2.1.1)), (h_spare_differences, .inl (cL, 300, .inr (.inl res.2.2.1.2.1))), (h_spare_partsA, .inl (cL, 300, .inr (.inl res.2.2.1.2.2.1))), (h_spare_partsB, .inl (cI, 300, .inl res.2.2.1.2.2.2.1)), (h_log, .inr (0, [.ref h_log_row, .int res.2.2.2.1.2])), (h_log_row, .inl (cI, 5000, .inl res.2.2.2.1.1)), (h_packer, .inr (3, [.ref h_log, .ref h_packer_past, .int (bI res.2.2.2.2.1.2.1), .int res.2.2.2.2.1.2.2.1, .int res.2.2.2.2.1.2.2.2.1, .int res.2.2.2.2.1.2.2.2.2.1, .int res.2.2.2.2.1.2.2.2.2.2.1, .int res.2.2.2.2.1.2.2.2.2.2.2])), (h_packer_past, .inr (1, [.ref h_packer_past_typed, .int res.2.2.2.2.1.1.2.1, .int res.2.2.2.2.1.1.2.2])), (h_packer_past_typed, .inl (cI, 300, .inl res.2.2.2.2.1.1.1)), (h_reader, .inr (4, [.ref h_log, .ref h_reader_past, .int res.2.2.2.2.2.2.1, .int res.2.2.2.2.2.2.2.1, .int res.2.2.2.2.2.2.2.2])), (h_reader_past, .inr (1, [.ref h_reader_past_typed, .int res.2.2.2.2.2.1.2.1, .int res.2.2.2.2.2.1.2.2])), (h_reader_past_typed, .inl (cI, 300, .inl res.2.2.2.2.2.1.1))] := by
  refine Fn.ofW (cc := b_EventLog_size) (maxL := 1) (ret := (some .int)) (by decide) rfl (Nat.le_of_ble_eq_true rfl) ?_
  intro p e s m below meth c A ls C hH hinit hl
  have hl : lv_has ls 1 [(0, .ref h)] := hl
  obtain ⟨hx, hb, hr, hml, hown, hts, hlk, hK, hA⟩ := id C
  unfold f_EventLog_size at hf
  refine lv_aload_n hx hb d_EventLog_size_0 rfl (lv_at hl 0 rfl) ?_
  refine gt (ci := 5) (v := .ref h_packer) C hH (iwT iw_EventLog) 0 rfl rfl 3 (by decide) (.tail _ wd_134) rfl d_EventLog_size_1 ?_
  refine lv_aload_n hx hb d_EventLog_size_4 rfl (lv_at hl 0 rfl) ?_
  refine gt (ci := 5) (v := .ref h_events) C hH (iwT iw_EventLog) 0 rfl rfl 0 (by decide) (.tail _ wd_131) rfl d_EventLog_size_5 ?_
  refine lv_iconst (v := 0) hx hb d_EventLog_size_8 (by decide) ?_
  obtain ⟨r9, hr9, hf⟩ := ob hf
  refine fnV (rest := []) (wr := [(h, .inr (5, [.ref h_events, .ref h_spare, .ref h_log, .ref h_packer, .ref h_reader])), (h_spare, .inr (2, [.ref h_spare_kinds, .ref h_spare_differences, .ref h_spare_partsA, .ref h_spare_partsB, .int st.2.1.2.2.2.2])), (h_spare_kinds, .inl (cI, 300, .inl st.2.1.1)), (h_spare_differences, .inl (cL, 300, .inr (.inl st.2.1.2.1))), (h_spare_partsA, .inl (cL, 300, .inr (.inl st.2.1.2.2.1))), (h_spare_partsB, .inl (cI, 300, .inl st.2.1.2.2.2.1)), (h_reader, .inr (4, [.ref h_log, .ref h_reader_past, .int st.2.2.2.2.2.1, .int st.2.2.2.2.2.2.1, .int st.2.2.2.2.2.2.2])), (h_reader_past, .inr (1, [.ref h_reader_past_typed, .int st.2.2.2.2.1.2.1, .int st.2.2.2.2.1.2.2])), (h_reader_past_typed, .inl (cI, 300, .inl st.2.2.2.2.1.1))]) (w2 := [(h, .inr (5, [.ref h_events, .ref h_spare, .ref h_log, .ref h_packer, .ref h_reader])), (h_events, .inr (2, [.ref h_events_kinds, .ref h_events_differences, .ref h_events_partsA, .ref h_events_partsB, .int st.1.2.2.2.2])), (h_events_kinds, .inl (cI, 300, .inl st.1.1)), (h_events_differences, .inl (cL, 300, .inr (.inl st.1.2.1))), (h_events_partsA, .inl (cL, 300, .inr (.inl st.1.2.2.1))), (h_events_partsB, .inl (cI, 300, .inl st.1.2.2.2.1)), (h_spare, .inr (2, [.ref h_spare_kinds, .ref h_spare_differences, .ref h_spare_partsA, .ref h_spare_partsB, .int st.2.1.2.2.2.2])), (h_spare_kinds, .inl (cI, 300, .inl st.2.1.1)), (h_spare_differences, .inl (cL, 300, .inr (.inl st.2.1.2.1))), (h_spare_partsA, .inl (cL, 300, .inr (.inl st.2.1.2.2.1))), (h_spare_partsB, .inl (cI, 300, .inl st.2.1.2.2.2.1)), (h_log, .inr (0, [.ref h_log_row, .int r9.1.2])), (h_log_row, .inl (cI, 5000, .inl r9.1.1)), (h_packer, .inr (3, [.ref h_log, .ref h_packer_past, .int (bI r9.2.2.1), .int r9.2.2.2.1, .int r9.2.2.2.2.1, .int r9.2.2.2.2.2.1, .int r9.2.2.2.2.2.2.1, .int r9.2.2.2.2.2.2.2])), (h_packer_past, .inr (1, [.ref h_packer_past_typed, .int r9.2.1.2.1, .int r9.2.1.2.2])), (h_packer_past_typed, .inl (cI, 300, .inl r9.2.1.1)), (h_reader, .inr (4, [.ref h_log, .ref h_reader_past, .int st.2.2.2.2.2.1, .int st.2.2.2.2.2.2.1, .int st.2.2.2.2.2.2.2])), (h_reader_past, .inr (1, [.ref h_reader_past_typed, .int st.2.2.2.2.1.2.1, .int st.2.2.2.2.1.2.2])), (h_reader_past_typed, .inl (cI, 300, .inl st.2.2.2.2.1.1))]) (st2 := []) C (c_Packer_run l D cI cL h_packer h_log h_log_row h_packer_past h_packer_past_typed h_events h_events_kinds h_events_differences h_events_partsA h_events_partsB ((st.2.2.1, st.2.2.2.1.1, st.2.2.2.1.2.1, st.2.2.2.1.2.2.1, st.2.2.2.1.2.2.2.1, st.2.2.2.1.2.2.2.2.1, st.2.2.2.1.2.2.2.2.2.1, st.2.2.2.1.2.2.2.2.2.2)) st.1 false r9 hr9) (cV hts kV_Packer_run wd_151 ⟨Nat.le_of_ble_eq_true rfl, Nat.le_of_ble_eq_true rfl⟩) hH [13, 11, 12, 14, 15, 1, 2, 3, 4, 5] [0, 6, 7, 8, 9, 10, 16, 17, 18] [0, 14, 15, 16, 17, 18, 1, 2, 3, 4, 5, 10, 11, 9, 12, 13, 6, 7, 8] rfl rfl rfl rfl (by decide) rfl rfl 0 rfl rfl rfl hl.1 rfl (Nat.le_of_ble_eq_true rfl) d_EventLog_size_9 ⟨Nat.le_of_ble_eq_true rfl, Nat.le_of_ble_eq_true rfl⟩ rfl (fun H locs hH => ?_)
  refine lv_aload_n hx hb d_EventLog_size_12 rfl (lv_at hl 0 rfl) ?_
  refine gt (ci := 5) (v := .ref h_packer) C hH (iwT iw_EventLog) 0 rfl rfl 3 (by decide) (.tail _ wd_134) rfl d_EventLog_size_13 ?_
  refine fnVR (rest := []) (st2 := [.int (f_Packer_bytes r9)]) C (c_Packer_bytes l D cI cL h_packer h_log h_log_row h_packer_past h_packer_past_typed r9 _ rfl) (cV hts kV_Packer_bytes wd_256 ⟨Nat.le_of_ble_eq_true rfl, Nat.le_of_ble_eq_true rfl⟩) hH [13, 11, 12, 14, 15] rfl rfl 0 rfl rfl rfl hl.1 rfl (Nat.le_of_ble_eq_true rfl) d_EventLog_size_16 ⟨Nat.le_of_ble_eq_true rfl, Nat.le_of_ble_eq_true rfl⟩ rfl (fun H locs hH => ?_)
  have hf := Option.some.inj hf
  subst hf
  exact rI (v := f_Packer_bytes r9) C hH d_EventLog_size_19
def f_EventLog_read (st : S_EventLog)  : Option (Int32 × S_EventLog) :=
  (f_Reader_run ((st.2.2.1, st.2.2.2.2.1, st.2.2.2.2.2.1, st.2.2.2.2.2.2.1, st.2.2.2.2.2.2.2)) st.2.1).bind (fun r8 => if r8.1 < 0 then (some ((r8.1, (st.1, r8.2.2, r8.2.1.1, st.2.2.2.1, r8.2.1.2)))) else (some ((r8.1, (r8.2.2, st.1, r8.2.1.1, st.2.2.2.1, r8.2.1.2)))))
set_option maxRecDepth 100000 in
set_option maxHeartbeats 4000000 in
theorem c_EventLog_read (l : Launch) (D : va_G) (cI cL : ClassId) (h h_events h_events_kinds h_events_differences h_events_partsA h_events_partsB h_spare h_spare_kinds h_spare_differences h_spare_partsA h_spare_partsB h_log h_log_row h_packer h_packer_past h_packer_past_typed h_reader h_reader_past h_reader_past_typed : Nat) (st : S_EventLog)  (res : Int32 × S_EventLog) (hf : f_EventLog_read st = some res) (w2 : va_W) (hw2 : w2 = if res.1 < 0 then [(h, .inr (5, [.ref h_events, .ref h_spare, .ref h_log, .ref h_packer, .ref h_reader])), (h_events, .inr (2, [.ref h_events_kinds, .ref h_events_differences, .ref h_events_partsA, .ref h_events_partsB, .int res.2.1.2.2.2.2])), (h_events_kinds, .inl (cI, 300, .inl res.2.1.1)), (h_events_differences, .inl (cL, 300, .inr (.inl res.2.1.2.1))), (h_events_partsA, .inl (cL, 300, .inr (.inl res.2.1.2.2.1))), (h_events_partsB, .inl (cI, 300, .inl res.2.1.2.2.2.1)), (h_spare, .inr (2, [.ref h_spare_kinds, .ref h_spare_differences, .ref h_spare_partsA, .ref h_spare_partsB, .int res.2.2.1.2.2.2.2])), (h_spare_kinds, .inl (cI, 300, .inl res.2.2.1.1)), (h_spare_differences, .inl (cL, 300, .inr (.inl res.2.2.1.2.1))), (h_spare_partsA, .inl (cL, 300, .inr (.inl res.2.2.1.2.2.1))), (h_spare_partsB, .inl (cI, 300, .inl res.2.2.1.2.2.2.1)), (h_log, .inr (0, [.ref h_log_row, .int res.2.2.2.1.2])), (h_log_row, .inl (cI, 5000, .inl res.2.2.2.1.1)), (h_packer, .inr (3, [.ref h_log, .ref h_packer_past, .int (bI res.2.2.2.2.1.2.1), .int res.2.2.2.2.1.2.2.1, .int res.2.2.2.2.1.2.2.2.1, .int res.2.2.2.2.1.2.2.2.2.1, .int res.2.2.2.2.1.2.2.2.2.2.1, .int res.2.2.2.2.1.2.2.2.2.2.2])), (h_packer_past, .inr (1, [.ref h_packer_past_typed, .int res.2.2.2.2.1.1.2.1, .int res.2.2.2.2.1.1.2.2])), (h_packer_past_typed, .inl (cI, 300, .inl res.2.2.2.2.1.1.1)), (h_reader, .inr (4, [.ref h_log, .ref h_reader_past, .int res.2.2.2.2.2.2.1, .int res.2.2.2.2.2.2.2.1, .int res.2.2.2.2.2.2.2.2])), (h_reader_past, .inr (1, [.ref h_reader_past_typed, .int res.2.2.2.2.2.1.2.1, .int res.2.2.2.2.2.1.2.2])), (h_reader_past_typed, .inl (cI, 300, .inl res.2.2.2.2.2.1.1))] else [(h, .inr (5, [.ref h_spare, .ref h_events, .ref h_log, .ref h_packer, .ref h_reader])), (h_spare, .inr (2, [.ref h_spare_kinds, .ref h_spare_differences, .ref h_spare_partsA, .ref h_spare_partsB, .int res.2.1.2.2.2.2])), (h_spare_kinds, .inl (cI, 300, .inl res.2.1.1)), (h_spare_differences, .inl (cL, 300, .inr (.inl res.2.1.2.1))), (h_spare_partsA, .inl (cL, 300, .inr (.inl res.2.1.2.2.1))), (h_spare_partsB, .inl (cI, 300, .inl res.2.1.2.2.2.1)), (h_events, .inr (2, [.ref h_events_kinds, .ref h_events_differences, .ref h_events_partsA, .ref h_events_partsB, .int res.2.2.1.2.2.2.2])), (h_events_kinds, .inl (cI, 300, .inl res.2.2.1.1)), (h_events_differences, .inl (cL, 300, .inr (.inl res.2.2.1.2.1))), (h_events_partsA, .inl (cL, 300, .inr (.inl res.2.2.1.2.2.1))), (h_events_partsB, .inl (cI, 300, .inl res.2.2.1.2.2.2.1)), (h_log, .inr (0, [.ref h_log_row, .int res.2.2.2.1.2])), (h_log_row, .inl (cI, 5000, .inl res.2.2.2.1.1)), (h_packer, .inr (3, [.ref h_log, .ref h_packer_past, .int (bI res.2.2.2.2.1.2.1), .int res.2.2.2.2.1.2.2.1, .int res.2.2.2.2.1.2.2.2.1, .int res.2.2.2.2.1.2.2.2.2.1, .int res.2.2.2.2.1.2.2.2.2.2.1, .int res.2.2.2.2.1.2.2.2.2.2.2])), (h_packer_past, .inr (1, [.ref h_packer_past_typed, .int res.2.2.2.2.1.1.2.1, .int res.2.2.2.2.1.1.2.2])), (h_packer_past_typed, .inl (cI, 300, .inl res.2.2.2.2.1.1.1)), (h_reader, .inr (4, [.ref h_log, .ref h_reader_past, .int res.2.2.2.2.2.2.1, .int res.2.2.2.2.2.2.2.1, .int res.2.2.2.2.2.2.2.2])), (h_reader_past, .inr (1, [.ref h_reader_past_typed, .int res.2.2.2.2.2.1.2.1, .int res.2.2.2.2.2.1.2.2])), (h_reader_past_typed, .inl (cI, 300, .inl res.2.2.2.2.2.1.1))]) :
    Fn l D vwCl [(cI, .int), (cL, .long)] y_EventLog_read ws_EventLog_read { frames := 6, cells := 0, slots := 0, locals := 153 } [.ref h] [(h, .inr (5, [.ref h_events, .ref h_spare, .ref h_log, .ref h_packer, .ref h_reader])), (h_events, .inr (2, [.ref h_events_kinds, .ref h_events_differences, .ref h_events_partsA, .ref h_events_partsB, .int st.1.2.2.2.2])), (h_events_kinds, .inl (cI, 300, .inl st.1.1)), (h_events_differences, .inl (cL, 300, .inr (.inl st.1.2.1))), (h_events_partsA, .inl (cL, 300, .inr (.inl st.1.2.2.1))), (h_events_partsB, .inl (cI, 300, .inl st.1.2.2.2.1)), (h_spare, .inr (2, [.ref h_spare_kinds, .ref h_spare_differences, .ref h_spare_partsA, .ref h_spare_partsB, .int st.2.1.2.2.2.2])), (h_spare_kinds, .inl (cI, 300, .inl st.2.1.1)), (h_spare_differences, .inl (cL, 300, .inr (.inl st.2.1.2.1))), (h_spare_partsA, .inl (cL, 300, .inr (.inl st.2.1.2.2.1))), (h_spare_partsB, .inl (cI, 300, .inl st.2.1.2.2.2.1)), (h_log, .inr (0, [.ref h_log_row, .int st.2.2.1.2])), (h_log_row, .inl (cI, 5000, .inl st.2.2.1.1)), (h_packer, .inr (3, [.ref h_log, .ref h_packer_past, .int (bI st.2.2.2.1.2.1), .int st.2.2.2.1.2.2.1, .int st.2.2.2.1.2.2.2.1, .int st.2.2.2.1.2.2.2.2.1, .int st.2.2.2.1.2.2.2.2.2.1, .int st.2.2.2.1.2.2.2.2.2.2])), (h_packer_past, .inr (1, [.ref h_packer_past_typed, .int st.2.2.2.1.1.2.1, .int st.2.2.2.1.1.2.2])), (h_packer_past_typed, .inl (cI, 300, .inl st.2.2.2.1.1.1)), (h_reader, .inr (4, [.ref h_log, .ref h_reader_past, .int st.2.2.2.2.2.1, .int st.2.2.2.2.2.2.1, .int st.2.2.2.2.2.2.2])), (h_reader_past, .inr (1, [.ref h_reader_past_typed, .int st.2.2.2.2.1.2.1, .int st.2.2.2.2.1.2.2])), (h_reader_past_typed, .inl (cI, 300, .inl st.2.2.2.2.1.1))] (some (.int res.1)) w2 := by
  refine Fn.ofW (cc := b_EventLog_read) (maxL := 3) (ret := (some .int)) (by decide) rfl (Nat.le_of_ble_eq_true rfl) ?_
  intro p e s m below meth c A ls C hH hinit hl
  have hl : lv_has ls 3 [(0, .ref h)] := hl
  obtain ⟨hx, hb, hr, hml, hown, hts, hlk, hK, hA⟩ := id C
  unfold f_EventLog_read at hf
  refine lv_aload_n hx hb d_EventLog_read_0 rfl (lv_at hl 0 rfl) ?_
  refine gt (ci := 5) (v := .ref h_reader) C hH (iwT iw_EventLog) 0 rfl rfl 4 (by decide) (.tail _ wd_135) rfl d_EventLog_read_1 ?_
  refine lv_aload_n hx hb d_EventLog_read_4 rfl (lv_at hl 0 rfl) ?_
  refine gt (ci := 5) (v := .ref h_spare) C hH (iwT iw_EventLog) 0 rfl rfl 1 (by decide) (.tail _ wd_132) rfl d_EventLog_read_5 ?_
  obtain ⟨r8, hr8, hf⟩ := ob hf
  refine fnV (rest := []) (wr := [(h, .inr (5, [.ref h_events, .ref h_spare, .ref h_log, .ref h_packer, .ref h_reader])), (h_events, .inr (2, [.ref h_events_kinds, .ref h_events_differences, .ref h_events_partsA, .ref h_events_partsB, .int st.1.2.2.2.2])), (h_events_kinds, .inl (cI, 300, .inl st.1.1)), (h_events_differences, .inl (cL, 300, .inr (.inl st.1.2.1))), (h_events_partsA, .inl (cL, 300, .inr (.inl st.1.2.2.1))), (h_events_partsB, .inl (cI, 300, .inl st.1.2.2.2.1)), (h_packer, .inr (3, [.ref h_log, .ref h_packer_past, .int (bI st.2.2.2.1.2.1), .int st.2.2.2.1.2.2.1, .int st.2.2.2.1.2.2.2.1, .int st.2.2.2.1.2.2.2.2.1, .int st.2.2.2.1.2.2.2.2.2.1, .int st.2.2.2.1.2.2.2.2.2.2])), (h_packer_past, .inr (1, [.ref h_packer_past_typed, .int st.2.2.2.1.1.2.1, .int st.2.2.2.1.1.2.2])), (h_packer_past_typed, .inl (cI, 300, .inl st.2.2.2.1.1.1))]) (w2 := [(h, .inr (5, [.ref h_events, .ref h_spare, .ref h_log, .ref h_packer, .ref h_reader])), (h_events, .inr (2, [.ref h_events_kinds, .ref h_events_differences, .ref h_events_partsA, .ref h_events_partsB, .int st.1.2.2.2.2])), (h_events_kinds, .inl (cI, 300, .inl st.1.1)), (h_events_differences, .inl (cL, 300, .inr (.inl st.1.2.1))), (h_events_partsA, .inl (cL, 300, .inr (.inl st.1.2.2.1))), (h_events_partsB, .inl (cI, 300, .inl st.1.2.2.2.1)), (h_spare, .inr (2, [.ref h_spare_kinds, .ref h_spare_differences, .ref h_spare_partsA, .ref h_spare_partsB, .int r8.2.2.2.2.2.2])), (h_spare_kinds, .inl (cI, 300, .inl r8.2.2.1)), (h_spare_differences, .inl (cL, 300, .inr (.inl r8.2.2.2.1))), (h_spare_partsA, .inl (cL, 300, .inr (.inl r8.2.2.2.2.1))), (h_spare_partsB, .inl (cI, 300, .inl r8.2.2.2.2.2.1)), (h_log, .inr (0, [.ref h_log_row, .int r8.2.1.1.2])), (h_log_row, .inl (cI, 5000, .inl r8.2.1.1.1)), (h_packer, .inr (3, [.ref h_log, .ref h_packer_past, .int (bI st.2.2.2.1.2.1), .int st.2.2.2.1.2.2.1, .int st.2.2.2.1.2.2.2.1, .int st.2.2.2.1.2.2.2.2.1, .int st.2.2.2.1.2.2.2.2.2.1, .int st.2.2.2.1.2.2.2.2.2.2])), (h_packer_past, .inr (1, [.ref h_packer_past_typed, .int st.2.2.2.1.1.2.1, .int st.2.2.2.1.1.2.2])), (h_packer_past_typed, .inl (cI, 300, .inl st.2.2.2.1.1.1)), (h_reader, .inr (4, [.ref h_log, .ref h_reader_past, .int r8.2.1.2.2.1, .int r8.2.1.2.2.2.1, .int r8.2.1.2.2.2.2])), (h_reader_past, .inr (1, [.ref h_reader_past_typed, .int r8.2.1.2.1.2.1, .int r8.2.1.2.1.2.2])), (h_reader_past_typed, .inl (cI, 300, .inl r8.2.1.2.1.1))]) (st2 := [.int r8.1]) C (c_Reader_run l D cI cL h_reader h_log h_log_row h_reader_past h_reader_past_typed h_spare h_spare_kinds h_spare_differences h_spare_partsA h_spare_partsB ((st.2.2.1, st.2.2.2.2.1, st.2.2.2.2.2.1, st.2.2.2.2.2.2.1, st.2.2.2.2.2.2.2)) st.2.1 r8 hr8) (cV hts kV_Reader_run wd_268 ⟨Nat.le_of_ble_eq_true rfl, Nat.le_of_ble_eq_true rfl⟩) hH [16, 11, 12, 17, 18, 6, 7, 8, 9, 10] [0, 1, 2, 3, 4, 5, 13, 14, 15] [0, 1, 2, 3, 4, 5, 14, 15, 16, 17, 18, 10, 11, 6, 7, 8, 9, 12, 13] rfl rfl rfl rfl (by decide) rfl rfl 0 rfl rfl rfl hl.1 rfl (Nat.le_of_ble_eq_true rfl) d_EventLog_read_8 ⟨Nat.le_of_ble_eq_true rfl, Nat.le_of_ble_eq_true rfl⟩ rfl (fun H locs hH => ?_)
  refine lv_istore_n (lv' := [(1, .int r8.1), (0, .ref h)]) hx hb d_EventLog_read_11 rfl hl (by decide) rfl (fun ls hl => ?_)
  refine lv_iload_n hx hb d_EventLog_read_12 rfl (lv_at hl 0 rfl) ?_
  refine lv_if_lt (tgt := 34) hx hb d_EventLog_read_13 (by decide) (fun hc13 => ?_) (fun hc13 => ?_)
  · have hf := ip hc13 hf
    refine lv_iload_n hx hb d_EventLog_read_34 rfl (lv_at hl 0 rfl) ?_
    have hf := Option.some.inj hf
    subst hf
    rw [if_pos hc13] at hw2
    subst hw2
    exact rI (v := r8.1) C hH d_EventLog_read_35
  · have hf := im hc13 hf
    refine lv_aload_n hx hb d_EventLog_read_16 rfl (lv_at hl 1 rfl) ?_
    refine gt (ci := 5) (v := .ref h_events) C hH (iwT iw_EventLog) 0 rfl rfl 0 (by decide) (.tail _ wd_131) rfl d_EventLog_read_17 ?_
    refine lv_astore_n (lv' := [(2, .ref h_events), (1, .int r8.1), (0, .ref h)]) hx hb d_EventLog_read_20 rfl hl (by decide) rfl (fun ls hl => ?_)
    refine lv_aload_n hx hb d_EventLog_read_21 rfl (lv_at hl 2 rfl) ?_
    refine lv_aload_n hx hb d_EventLog_read_22 rfl (lv_at hl 2 rfl) ?_
    refine gt (ci := 5) (v := .ref h_spare) C hH (iwT iw_EventLog) 0 rfl rfl 1 (by decide) (.tail _ wd_132) rfl d_EventLog_read_23 ?_
    refine pt (ci := 5) (v := .ref h_spare) C hH (iwT iw_EventLog) ty_EventLog tyok_EventLog nm_EventLog 0 rfl rfl 0 (by decide) (.tail _ wd_131) rfl rfl rfl (Nat.le_of_ble_eq_true rfl) d_EventLog_read_26 [(h, .inr (5, [.ref h_spare, .ref h_spare, .ref h_log, .ref h_packer, .ref h_reader])), (h_events, .inr (2, [.ref h_events_kinds, .ref h_events_differences, .ref h_events_partsA, .ref h_events_partsB, .int st.1.2.2.2.2])), (h_events_kinds, .inl (cI, 300, .inl st.1.1)), (h_events_differences, .inl (cL, 300, .inr (.inl st.1.2.1))), (h_events_partsA, .inl (cL, 300, .inr (.inl st.1.2.2.1))), (h_events_partsB, .inl (cI, 300, .inl st.1.2.2.2.1)), (h_spare, .inr (2, [.ref h_spare_kinds, .ref h_spare_differences, .ref h_spare_partsA, .ref h_spare_partsB, .int r8.2.2.2.2.2.2])), (h_spare_kinds, .inl (cI, 300, .inl r8.2.2.1)), (h_spare_differences, .inl (cL, 300, .inr (.inl r8.2.2.2.1))), (h_spare_partsA, .inl (cL, 300, .inr (.inl r8.2.2.2.2.1))), (h_spare_partsB, .inl (cI, 300, .inl r8.2.2.2.2.2.1)), (h_log, .inr (0, [.ref h_log_row, .int r8.2.1.1.2])), (h_log_row, .inl (cI, 5000, .inl r8.2.1.1.1)), (h_packer, .inr (3, [.ref h_log, .ref h_packer_past, .int (bI st.2.2.2.1.2.1), .int st.2.2.2.1.2.2.1, .int st.2.2.2.1.2.2.2.1, .int st.2.2.2.1.2.2.2.2.1, .int st.2.2.2.1.2.2.2.2.2.1, .int st.2.2.2.1.2.2.2.2.2.2])), (h_packer_past, .inr (1, [.ref h_packer_past_typed, .int st.2.2.2.1.1.2.1, .int st.2.2.2.1.1.2.2])), (h_packer_past_typed, .inl (cI, 300, .inl st.2.2.2.1.1.1)), (h_reader, .inr (4, [.ref h_log, .ref h_reader_past, .int r8.2.1.2.2.1, .int r8.2.1.2.2.2.1, .int r8.2.1.2.2.2.2])), (h_reader_past, .inr (1, [.ref h_reader_past_typed, .int r8.2.1.2.1.2.1, .int r8.2.1.2.1.2.2])), (h_reader_past_typed, .inl (cI, 300, .inl r8.2.1.2.1.1))] rfl (fun H locs hH => ?_)
    refine lv_aload_n hx hb d_EventLog_read_29 rfl (lv_at hl 2 rfl) ?_
    refine lv_aload_n hx hb d_EventLog_read_30 rfl (lv_at hl 0 rfl) ?_
    refine pt (ci := 5) (v := .ref h_events) C hH (iwT iw_EventLog) ty_EventLog tyok_EventLog nm_EventLog 0 rfl rfl 1 (by decide) (.tail _ wd_132) rfl rfl rfl (Nat.le_of_ble_eq_true rfl) d_EventLog_read_31 [(h, .inr (5, [.ref h_spare, .ref h_events, .ref h_log, .ref h_packer, .ref h_reader])), (h_events, .inr (2, [.ref h_events_kinds, .ref h_events_differences, .ref h_events_partsA, .ref h_events_partsB, .int st.1.2.2.2.2])), (h_events_kinds, .inl (cI, 300, .inl st.1.1)), (h_events_differences, .inl (cL, 300, .inr (.inl st.1.2.1))), (h_events_partsA, .inl (cL, 300, .inr (.inl st.1.2.2.1))), (h_events_partsB, .inl (cI, 300, .inl st.1.2.2.2.1)), (h_spare, .inr (2, [.ref h_spare_kinds, .ref h_spare_differences, .ref h_spare_partsA, .ref h_spare_partsB, .int r8.2.2.2.2.2.2])), (h_spare_kinds, .inl (cI, 300, .inl r8.2.2.1)), (h_spare_differences, .inl (cL, 300, .inr (.inl r8.2.2.2.1))), (h_spare_partsA, .inl (cL, 300, .inr (.inl r8.2.2.2.2.1))), (h_spare_partsB, .inl (cI, 300, .inl r8.2.2.2.2.2.1)), (h_log, .inr (0, [.ref h_log_row, .int r8.2.1.1.2])), (h_log_row, .inl (cI, 5000, .inl r8.2.1.1.1)), (h_packer, .inr (3, [.ref h_log, .ref h_packer_past, .int (bI st.2.2.2.1.2.1), .int st.2.2.2.1.2.2.1, .int st.2.2.2.1.2.2.2.1, .int st.2.2.2.1.2.2.2.2.1, .int st.2.2.2.1.2.2.2.2.2.1, .int st.2.2.2.1.2.2.2.2.2.2])), (h_packer_past, .inr (1, [.ref h_packer_past_typed, .int st.2.2.2.1.1.2.1, .int st.2.2.2.1.1.2.2])), (h_packer_past_typed, .inl (cI, 300, .inl st.2.2.2.1.1.1)), (h_reader, .inr (4, [.ref h_log, .ref h_reader_past, .int r8.2.1.2.2.1, .int r8.2.1.2.2.2.1, .int r8.2.1.2.2.2.2])), (h_reader_past, .inr (1, [.ref h_reader_past_typed, .int r8.2.1.2.1.2.1, .int r8.2.1.2.1.2.2])), (h_reader_past_typed, .inl (cI, 300, .inl r8.2.1.2.1.1))] rfl (fun H locs hH => ?_)
    refine lv_iload_n hx hb d_EventLog_read_34 rfl (lv_at hl 1 rfl) ?_
    have hf := Option.some.inj hf
    subst hf
    rw [if_neg hc13] at hw2
    subst hw2
    have hH := Hp.pm (w2 := [(h, .inr (5, [.ref h_spare, .ref h_events, .ref h_log, .ref h_packer, .ref h_reader])), (h_spare, .inr (2, [.ref h_spare_kinds, .ref h_spare_differences, .ref h_spare_partsA, .ref h_spare_partsB, .int r8.2.2.2.2.2.2])), (h_spare_kinds, .inl (cI, 300, .inl r8.2.2.1)), (h_spare_differences, .inl (cL, 300, .inr (.inl r8.2.2.2.1))), (h_spare_partsA, .inl (cL, 300, .inr (.inl r8.2.2.2.2.1))), (h_spare_partsB, .inl (cI, 300, .inl r8.2.2.2.2.2.1)), (h_events, .inr (2, [.ref h_events_kinds, .ref h_events_differences, .ref h_events_partsA, .ref h_events_partsB, .int st.1.2.2.2.2])), (h_events_kinds, .inl (cI, 300, .inl st.1.1)), (h_events_differences, .inl (cL, 300, .inr (.inl st.1.2.1))), (h_events_partsA, .inl (cL, 300, .inr (.inl st.1.2.2.1))), (h_events_partsB, .inl (cI, 300, .inl st.1.2.2.2.1)), (h_log, .inr (0, [.ref h_log_row, .int r8.2.1.1.2])), (h_log_row, .inl (cI, 5000, .inl r8.2.1.1.1)), (h_packer, .inr (3, [.ref h_log, .ref h_packer_past, .int (bI st.2.2.2.1.2.1), .int st.2.2.2.1.2.2.1, .int st.2.2.2.1.2.2.2.1, .int st.2.2.2.1.2.2.2.2.1, .int st.2.2.2.1.2.2.2.2.2.1, .int st.2.2.2.1.2.2.2.2.2.2])), (h_packer_past, .inr (1, [.ref h_packer_past_typed, .int st.2.2.2.1.1.2.1, .int st.2.2.2.1.1.2.2])), (h_packer_past_typed, .inl (cI, 300, .inl st.2.2.2.1.1.1)), (h_reader, .inr (4, [.ref h_log, .ref h_reader_past, .int r8.2.1.2.2.1, .int r8.2.1.2.2.2.1, .int r8.2.1.2.2.2.2])), (h_reader_past, .inr (1, [.ref h_reader_past_typed, .int r8.2.1.2.1.2.1, .int r8.2.1.2.1.2.2])), (h_reader_past_typed, .inl (cI, 300, .inl r8.2.1.2.1.1))]) hH [0, 6, 7, 8, 9, 10, 1, 2, 3, 4, 5, 11, 12, 13, 14, 15, 16, 17, 18] rfl rfl
    exact rI (v := r8.1) C hH d_EventLog_read_35
def f_EventLog_poke (st : S_EventLog) (x1 : Int32) (x2 : Int32) : Sum Nat (S_EventLog) :=
  if x2 < 0 then (.inl 1) else (if x2 ≤ (255 : Int32) then (if x1 < 0 then (.inl 3) else (if x1 ≤ (f_Bytes_length st.2.2.1) then (if x1 < (5000 : Int32) then (if x1 = (f_Bytes_length st.2.2.1) then (lt1 (f_Bytes_append st.2.2.1 x2) (fun r79 => .inr ((st.1, st.2.1, r79, st.2.2.2.1, st.2.2.2.2)))) else (lt1 (f_Bytes_put st.2.2.1 x1 x2) (fun r91 => .inr ((st.1, st.2.1, r91, st.2.2.2.1, st.2.2.2.2))))) else (.inl 2)) else (.inl 3))) else (.inl 1))
set_option maxRecDepth 100000 in
set_option maxHeartbeats 4000000 in
theorem c_EventLog_poke (l : Launch) (D : va_G) (cI cL : ClassId) (h h_events h_events_kinds h_events_differences h_events_partsA h_events_partsB h_spare h_spare_kinds h_spare_differences h_spare_partsA h_spare_partsB h_log h_log_row h_packer h_packer_past h_packer_past_typed h_reader h_reader_past h_reader_past_typed : Nat) (st : S_EventLog) (x1 : Int32) (x2 : Int32) (res : S_EventLog) (hf : f_EventLog_poke st x1 x2 = .inr res) :
    Fn l D vwCl [(cI, .int), (cL, .long)] y_EventLog_poke ws_EventLog_poke { frames := 1, cells := 0, slots := 0, locals := 22 } [.ref h, .int x1, .int x2] [(h, .inr (5, [.ref h_events, .ref h_spare, .ref h_log, .ref h_packer, .ref h_reader])), (h_events, .inr (2, [.ref h_events_kinds, .ref h_events_differences, .ref h_events_partsA, .ref h_events_partsB, .int st.1.2.2.2.2])), (h_events_kinds, .inl (cI, 300, .inl st.1.1)), (h_events_differences, .inl (cL, 300, .inr (.inl st.1.2.1))), (h_events_partsA, .inl (cL, 300, .inr (.inl st.1.2.2.1))), (h_events_partsB, .inl (cI, 300, .inl st.1.2.2.2.1)), (h_spare, .inr (2, [.ref h_spare_kinds, .ref h_spare_differences, .ref h_spare_partsA, .ref h_spare_partsB, .int st.2.1.2.2.2.2])), (h_spare_kinds, .inl (cI, 300, .inl st.2.1.1)), (h_spare_differences, .inl (cL, 300, .inr (.inl st.2.1.2.1))), (h_spare_partsA, .inl (cL, 300, .inr (.inl st.2.1.2.2.1))), (h_spare_partsB, .inl (cI, 300, .inl st.2.1.2.2.2.1)), (h_log, .inr (0, [.ref h_log_row, .int st.2.2.1.2])), (h_log_row, .inl (cI, 5000, .inl st.2.2.1.1)), (h_packer, .inr (3, [.ref h_log, .ref h_packer_past, .int (bI st.2.2.2.1.2.1), .int st.2.2.2.1.2.2.1, .int st.2.2.2.1.2.2.2.1, .int st.2.2.2.1.2.2.2.2.1, .int st.2.2.2.1.2.2.2.2.2.1, .int st.2.2.2.1.2.2.2.2.2.2])), (h_packer_past, .inr (1, [.ref h_packer_past_typed, .int st.2.2.2.1.1.2.1, .int st.2.2.2.1.1.2.2])), (h_packer_past_typed, .inl (cI, 300, .inl st.2.2.2.1.1.1)), (h_reader, .inr (4, [.ref h_log, .ref h_reader_past, .int st.2.2.2.2.2.1, .int st.2.2.2.2.2.2.1, .int st.2.2.2.2.2.2.2])), (h_reader_past, .inr (1, [.ref h_reader_past_typed, .int st.2.2.2.2.1.2.1, .int st.2.2.2.2.1.2.2])), (h_reader_past_typed, .inl (cI, 300, .inl st.2.2.2.2.1.1))] (none) [(h, .inr (5, [.ref h_events, .ref h_spare, .ref h_log, .ref h_packer, .ref h_reader])), (h_events, .inr (2, [.ref h_events_kinds, .ref h_events_differences, .ref h_events_partsA, .ref h_events_partsB, .int res.1.2.2.2.2])), (h_events_kinds, .inl (cI, 300, .inl res.1.1)), (h_events_differences, .inl (cL, 300, .inr (.inl res.1.2.1))), (h_events_partsA, .inl (cL, 300, .inr (.inl res.1.2.2.1))), (h_events_partsB, .inl (cI, 300, .inl res.1.2.2.2.1)), (h_spare, .inr (2, [.ref h_spare_kinds, .ref h_spare_differences, .ref h_spare_partsA, .ref h_spare_partsB, .int res.2.1.2.2.2.2])), (h_spare_kinds, .inl (cI, 300, .inl res.2.1.1)), (h_spare_differences, .inl (cL, 300, .inr (.inl res.2.1.2.1))), (h_spare_partsA, .inl (cL, 300, .inr (.inl res.2.1.2.2.1))), (h_spare_partsB, .inl (cI, 300, .inl res.2.1.2.2.2.1)), (h_log, .inr (0, [.ref h_log_row, .int res.2.2.1.2])), (h_log_row, .inl (cI, 5000, .inl res.2.2.1.1)), (h_packer, .inr (3, [.ref h_log, .ref h_packer_past, .int (bI res.2.2.2.1.2.1), .int res.2.2.2.1.2.2.1, .int res.2.2.2.1.2.2.2.1, .int res.2.2.2.1.2.2.2.2.1, .int res.2.2.2.1.2.2.2.2.2.1, .int res.2.2.2.1.2.2.2.2.2.2])), (h_packer_past, .inr (1, [.ref h_packer_past_typed, .int res.2.2.2.1.1.2.1, .int res.2.2.2.1.1.2.2])), (h_packer_past_typed, .inl (cI, 300, .inl res.2.2.2.1.1.1)), (h_reader, .inr (4, [.ref h_log, .ref h_reader_past, .int res.2.2.2.2.2.1, .int res.2.2.2.2.2.2.1, .int res.2.2.2.2.2.2.2])), (h_reader_past, .inr (1, [.ref h_reader_past_typed, .int res.2.2.2.2.1.2.1, .int res.2.2.2.2.1.2.2])), (h_reader_past_typed, .inl (cI, 300, .inl res.2.2.2.2.1.1))] := by
  refine Fn.ofW (cc := b_EventLog_poke) (maxL := 3) (ret := none) (by decide) rfl (Nat.le_of_ble_eq_true rfl) ?_
  intro p e s m below meth c A ls C hH hinit hl
  have hl : lv_has ls 3 [(0, .ref h), (1, .int x1), (2, .int x2)] := hl
  obtain ⟨hx, hb, hr, hml, hown, hts, hlk, hK, hA⟩ := id C
  unfold f_EventLog_poke at hf
  refine lv_iload_n hx hb d_EventLog_poke_0 rfl (lv_at hl 2 rfl) ?_
  refine lv_if_lt (tgt := 11) hx hb d_EventLog_poke_1 (by decide) (fun hc1 => ?_) (fun hc1 => ?_)
  · have hf := ip hc1 hf
    cases hf
  · have hf := im hc1 hf
    refine lv_iload_n hx hb d_EventLog_poke_4 rfl (lv_at hl 2 rfl) ?_
    refine lv_sipush (v := 255) hx hb d_EventLog_poke_5 (by decide) ?_
    refine lv_icmp_le (tgt := 21) hx hb d_EventLog_poke_8 (by decide) (fun hc8 => ?_) (fun hc8 => ?_)
    · have hf := ip hc8 hf
      refine lv_iload_n hx hb d_EventLog_poke_21 rfl (lv_at hl 1 rfl) ?_
      refine lv_if_lt (tgt := 36) hx hb d_EventLog_poke_22 (by decide) (fun hc22 => ?_) (fun hc22 => ?_)
      · have hf := ip hc22 hf
        cases hf
      · have hf := im hc22 hf
        refine lv_iload_n hx hb d_EventLog_poke_25 rfl (lv_at hl 1 rfl) ?_
        refine lv_aload_n hx hb d_EventLog_poke_26 rfl (lv_at hl 0 rfl) ?_
        refine gt (ci := 5) (v := .ref h_log) C hH (iwT iw_EventLog) 0 rfl rfl 2 (by decide) (.tail _ wd_133) rfl d_EventLog_poke_27 ?_
        refine fnVR (rest := [.int x1]) (st2 := [.int (f_Bytes_length st.2.2.1), .int x1]) C (c_Bytes_length l D cI cL h_log h_log_row st.2.2.1 _ rfl) (cV hts kV_Bytes_length wd_370 ⟨Nat.le_of_ble_eq_true rfl, Nat.le_of_ble_eq_true rfl⟩) hH [11, 12] rfl rfl 0 rfl rfl rfl hl.1 rfl (Nat.le_of_ble_eq_true rfl) d_EventLog_poke_30 ⟨Nat.le_of_ble_eq_true rfl, Nat.le_of_ble_eq_true rfl⟩ rfl (fun H locs hH => ?_)
        refine lv_icmp_le (tgt := 46) hx hb d_EventLog_poke_33 (by decide) (fun hc33 => ?_) (fun hc33 => ?_)
        · have hf := ip hc33 hf
          refine lv_iload_n hx hb d_EventLog_poke_46 rfl (lv_at hl 1 rfl) ?_
          refine lv_sipush (v := 5000) hx hb d_EventLog_poke_47 (by decide) ?_
          refine lv_icmp_lt (tgt := 63) hx hb d_EventLog_poke_50 (by decide) (fun hc50 => ?_) (fun hc50 => ?_)
          · have hf := ip hc50 hf
            refine lv_iload_n hx hb d_EventLog_poke_63 rfl (lv_at hl 1 rfl) ?_
            refine lv_aload_n hx hb d_EventLog_poke_64 rfl (lv_at hl 0 rfl) ?_
            refine gt (ci := 5) (v := .ref h_log) C hH (iwT iw_EventLog) 0 rfl rfl 2 (by decide) (.tail _ wd_133) rfl d_EventLog_poke_65 ?_
            refine fnVR (rest := [.int x1]) (st2 := [.int (f_Bytes_length st.2.2.1), .int x1]) C (c_Bytes_length l D cI cL h_log h_log_row st.2.2.1 _ rfl) (cV hts kV_Bytes_length wd_370 ⟨Nat.le_of_ble_eq_true rfl, Nat.le_of_ble_eq_true rfl⟩) hH [11, 12] rfl rfl 0 rfl rfl rfl hl.1 rfl (Nat.le_of_ble_eq_true rfl) d_EventLog_poke_68 ⟨Nat.le_of_ble_eq_true rfl, Nat.le_of_ble_eq_true rfl⟩ rfl (fun H locs hH => ?_)
            refine lv_icmp_ne (tgt := 85) hx hb d_EventLog_poke_71 (by decide) (fun hc71 => ?_) (fun hc71 => ?_)
            · have hf := im hc71 hf
              refine lv_aload_n hx hb d_EventLog_poke_85 rfl (lv_at hl 0 rfl) ?_
              refine gt (ci := 5) (v := .ref h_log) C hH (iwT iw_EventLog) 0 rfl rfl 2 (by decide) (.tail _ wd_133) rfl d_EventLog_poke_86 ?_
              refine lv_iload_n hx hb d_EventLog_poke_89 rfl (lv_at hl 1 rfl) ?_
              refine lv_iload_n hx hb d_EventLog_poke_90 rfl (lv_at hl 2 rfl) ?_
              obtain ⟨r91, hr91, hf⟩ := lb hf
              refine fnV (rest := []) (wr := [(h, .inr (5, [.ref h_events, .ref h_spare, .ref h_log, .ref h_packer, .ref h_reader])), (h_events, .inr (2, [.ref h_events_kinds, .ref h_events_differences, .ref h_events_partsA, .ref h_events_partsB, .int st.1.2.2.2.2])), (h_events_kinds, .inl (cI, 300, .inl st.1.1)), (h_events_differences, .inl (cL, 300, .inr (.inl st.1.2.1))), (h_events_partsA, .inl (cL, 300, .inr (.inl st.1.2.2.1))), (h_events_partsB, .inl (cI, 300, .inl st.1.2.2.2.1)), (h_spare, .inr (2, [.ref h_spare_kinds, .ref h_spare_differences, .ref h_spare_partsA, .ref h_spare_partsB, .int st.2.1.2.2.2.2])), (h_spare_kinds, .inl (cI, 300, .inl st.2.1.1)), (h_spare_differences, .inl (cL, 300, .inr (.inl st.2.1.2.1))), (h_spare_partsA, .inl (cL, 300, .inr (.inl st.2.1.2.2.1))), (h_spare_partsB, .inl (cI, 300, .inl st.2.1.2.2.2.1)), (h_packer, .inr (3, [.ref h_log, .ref h_packer_past, .int (bI st.2.2.2.1.2.1), .int st.2.2.2.1.2.2.1, .int st.2.2.2.1.2.2.2.1, .int st.2.2.2.1.2.2.2.2.1, .int st.2.2.2.1.2.2.2.2.2.1, .int st.2.2.2.1.2.2.2.2.2.2])), (h_packer_past, .inr (1, [.ref h_packer_past_typed, .int st.2.2.2.1.1.2.1, .int st.2.2.2.1.1.2.2])), (h_packer_past_typed, .inl (cI, 300, .inl st.2.2.2.1.1.1)), (h_reader, .inr (4, [.ref h_log, .ref h_reader_past, .int st.2.2.2.2.2.1, .int st.2.2.2.2.2.2.1, .int st.2.2.2.2.2.2.2])), (h_reader_past, .inr (1, [.ref h_reader_past_typed, .int st.2.2.2.2.1.2.1, .int st.2.2.2.2.1.2.2])), (h_reader_past_typed, .inl (cI, 300, .inl st.2.2.2.2.1.1))]) (w2 := [(h, .inr (5, [.ref h_events, .ref h_spare, .ref h_log, .ref h_packer, .ref h_reader])), (h_events, .inr (2, [.ref h_events_kinds, .ref h_events_differences, .ref h_events_partsA, .ref h_events_partsB, .int st.1.2.2.2.2])), (h_events_kinds, .inl (cI, 300, .inl st.1.1)), (h_events_differences, .inl (cL, 300, .inr (.inl st.1.2.1))), (h_events_partsA, .inl (cL, 300, .inr (.inl st.1.2.2.1))), (h_events_partsB, .inl (cI, 300, .inl st.1.2.2.2.1)), (h_spare, .inr (2, [.ref h_spare_kinds, .ref h_spare_differences, .ref h_spare_partsA, .ref h_spare_partsB, .int st.2.1.2.2.2.2])), (h_spare_kinds, .inl (cI, 300, .inl st.2.1.1)), (h_spare_differences, .inl (cL, 300, .inr (.inl st.2.1.2.1))), (h_spare_partsA, .inl (cL, 300, .inr (.inl st.2.1.2.2.1))), (h_spare_partsB, .inl (cI, 300, .inl st.2.1.2.2.2.1)), (h_log, .inr (0, [.ref h_log_row, .int r91.2])), (h_log_row, .inl (cI, 5000, .inl r91.1)), (h_packer, .inr (3, [.ref h_log, .ref h_packer_past, .int (bI st.2.2.2.1.2.1), .int st.2.2.2.1.2.2.1, .int st.2.2.2.1.2.2.2.1, .int st.2.2.2.1.2.2.2.2.1, .int st.2.2.2.1.2.2.2.2.2.1, .int st.2.2.2.1.2.2.2.2.2.2])), (h_packer_past, .inr (1, [.ref h_packer_past_typed, .int st.2.2.2.1.1.2.1, .int st.2.2.2.1.1.2.2])), (h_packer_past_typed, .inl (cI, 300, .inl st.2.2.2.1.1.1)), (h_reader, .inr (4, [.ref h_log, .ref h_reader_past, .int st.2.2.2.2.2.1, .int st.2.2.2.2.2.2.1, .int st.2.2.2.2.2.2.2])), (h_reader_past, .inr (1, [.ref h_reader_past_typed, .int st.2.2.2.2.1.2.1, .int st.2.2.2.2.1.2.2])), (h_reader_past_typed, .inl (cI, 300, .inl st.2.2.2.2.1.1))]) (st2 := []) C (c_Bytes_put l D cI cL h_log h_log_row st.2.2.1 x1 x2 r91 hr91) (cV hts kV_Bytes_put wd_534 ⟨Nat.le_of_ble_eq_true rfl, Nat.le_of_ble_eq_true rfl⟩) hH [11, 12] [0, 1, 2, 3, 4, 5, 6, 7, 8, 9, 10, 13, 14, 15, 16, 17, 18] [0, 1, 2, 3, 4, 5, 6, 7, 8, 9, 10, 17, 18, 11, 12, 13, 14, 15, 16] rfl rfl rfl rfl (by decide) rfl rfl 0 rfl rfl rfl hl.1 rfl (Nat.le_of_ble_eq_true rfl) d_EventLog_poke_91 ⟨Nat.le_of_ble_eq_true rfl, Nat.le_of_ble_eq_true rfl⟩ rfl (fun H locs hH => ?_)
              have hf := Sum.inr.inj hf
              subst hf
              exact rV C hH d_EventLog_poke_94
            · have hf := ip hc71 hf
              refine lv_aload_n hx hb d_EventLog_poke_74 rfl (lv_at hl 0 rfl) ?_
              refine gt (ci := 5) (v := .ref h_log) C hH (iwT iw_EventLog) 0 rfl rfl 2 (by decide) (.tail _ wd_133) rfl d_EventLog_poke_75 ?_
              refine lv_iload_n hx hb d_EventLog_poke_78 rfl (lv_at hl 2 rfl) ?_
              obtain ⟨r79, hr79, hf⟩ := lb hf
              refine fnV (rest := []) (wr := [(h, .inr (5, [.ref h_events, .ref h_spare, .ref h_log, .ref h_packer, .ref h_reader])), (h_events, .inr (2, [.ref h_events_kinds, .ref h_events_differences, .ref h_events_partsA, .ref h_events_partsB, .int st.1.2.2.2.2])), (h_events_kinds, .inl (cI, 300, .inl st.1.1)), (h_events_differences, .inl (cL, 300, .inr (.inl st.1.2.1))), (h_events_partsA, .inl (cL, 300, .inr (.inl st.1.2.2.1))), (h_events_partsB, .inl (cI, 300, .inl st.1.2.2.2.1)), (h_spare, .inr (2, [.ref h_spare_kinds, .ref h_spare_differences, .ref h_spare_partsA, .ref h_spare_partsB, .int st.2.1.2.2.2.2])), (h_spare_kinds, .inl (cI, 300, .inl st.2.1.1)), (h_spare_differences, .inl (cL, 300, .inr (.inl st.2.1.2.1))), (h_spare_partsA, .inl (cL, 300, .inr (.inl st.2.1.2.2.1))), (h_spare_partsB, .inl (cI, 300, .inl st.2.1.2.2.2.1)), (h_packer, .inr (3, [.ref h_log, .ref h_packer_past, .int (bI st.2.2.2.1.2.1), .int st.2.2.2.1.2.2.1, .int st.2.2.2.1.2.2.2.1, .int st.2.2.2.1.2.2.2.2.1, .int st.2.2.2.1.2.2.2.2.2.1, .int st.2.2.2.1.2.2.2.2.2.2])), (h_packer_past, .inr (1, [.ref h_packer_past_typed, .int st.2.2.2.1.1.2.1, .int st.2.2.2.1.1.2.2])), (h_packer_past_typed, .inl (cI, 300, .inl st.2.2.2.1.1.1)), (h_reader, .inr (4, [.ref h_log, .ref h_reader_past, .int st.2.2.2.2.2.1, .int st.2.2.2.2.2.2.1, .int st.2.2.2.2.2.2.2])), (h_reader_past, .inr (1, [.ref h_reader_past_typed, .int st.2.2.2.2.1.2.1, .int st.2.2.2.2.1.2.2])), (h_reader_past_typed, .inl (cI, 300, .inl st.2.2.2.2.1.1))]) (w2 := [(h, .inr (5, [.ref h_events, .ref h_spare, .ref h_log, .ref h_packer, .ref h_reader])), (h_events, .inr (2, [.ref h_events_kinds, .ref h_events_differences, .ref h_events_partsA, .ref h_events_partsB, .int st.1.2.2.2.2])), (h_events_kinds, .inl (cI, 300, .inl st.1.1)), (h_events_differences, .inl (cL, 300, .inr (.inl st.1.2.1))), (h_events_partsA, .inl (cL, 300, .inr (.inl st.1.2.2.1))), (h_events_partsB, .inl (cI, 300, .inl st.1.2.2.2.1)), (h_spare, .inr (2, [.ref h_spare_kinds, .ref h_spare_differences, .ref h_spare_partsA, .ref h_spare_partsB, .int st.2.1.2.2.2.2])), (h_spare_kinds, .inl (cI, 300, .inl st.2.1.1)), (h_spare_differences, .inl (cL, 300, .inr (.inl st.2.1.2.1))), (h_spare_partsA, .inl (cL, 300, .inr (.inl st.2.1.2.2.1))), (h_spare_partsB, .inl (cI, 300, .inl st.2.1.2.2.2.1)), (h_log, .inr (0, [.ref h_log_row, .int r79.2])), (h_log_row, .inl (cI, 5000, .inl r79.1)), (h_packer, .inr (3, [.ref h_log, .ref h_packer_past, .int (bI st.2.2.2.1.2.1), .int st.2.2.2.1.2.2.1, .int st.2.2.2.1.2.2.2.1, .int st.2.2.2.1.2.2.2.2.1, .int st.2.2.2.1.2.2.2.2.2.1, .int st.2.2.2.1.2.2.2.2.2.2])), (h_packer_past, .inr (1, [.ref h_packer_past_typed, .int st.2.2.2.1.1.2.1, .int st.2.2.2.1.1.2.2])), (h_packer_past_typed, .inl (cI, 300, .inl st.2.2.2.1.1.1)), (h_reader, .inr (4, [.ref h_log, .ref h_reader_past, .int st.2.2.2.2.2.1, .int st.2.2.2.2.2.2.1, .int st.2.2.2.2.2.2.2])), (h_reader_past, .inr (1, [.ref h_reader_past_typed, .int st.2.2.2.2.1.2.1, .int st.2.2.2.2.1.2.2])), (h_reader_past_typed, .inl (cI, 300, .inl st.2.2.2.2.1.1))]) (st2 := []) C (c_Bytes_append l D cI cL h_log h_log_row st.2.2.1 x2 r79 hr79) (cV hts kV_Bytes_append wd_533 ⟨Nat.le_of_ble_eq_true rfl, Nat.le_of_ble_eq_true rfl⟩) hH [11, 12] [0, 1, 2, 3, 4, 5, 6, 7, 8, 9, 10, 13, 14, 15, 16, 17, 18] [0, 1, 2, 3, 4, 5, 6, 7, 8, 9, 10, 17, 18, 11, 12, 13, 14, 15, 16] rfl rfl rfl rfl (by decide) rfl rfl 0 rfl rfl rfl hl.1 rfl (Nat.le_of_ble_eq_true rfl) d_EventLog_poke_79 ⟨Nat.le_of_ble_eq_true rfl, Nat.le_of_ble_eq_true rfl⟩ rfl (fun H locs hH => ?_)
              refine lv_goto (tgt := 94) hx hb d_EventLog_poke_82 (by decide) ?_
              have hf := Sum.inr.inj hf
              subst hf
              exact rV C hH d_EventLog_poke_94
          · have hf := im hc50 hf
            cases hf
        · have hf := im hc33 hf
          cases hf
    · have hf := im hc8 hf
      cases hf
set_option maxRecDepth 100000 in
set_option maxHeartbeats 4000000 in
theorem t_EventLog_poke (l : Launch) (hfl : l.flags = pinnedFlags ++ [noTraceFlag]) (D : va_G) (cI cL : ClassId) (h h_events h_events_kinds h_events_differences h_events_partsA h_events_partsB h_spare h_spare_kinds h_spare_differences h_spare_partsA h_spare_partsB h_log h_log_row h_packer h_packer_past h_packer_past_typed h_reader h_reader_past h_reader_past_typed : Nat) (st : S_EventLog) (x1 : Int32) (x2 : Int32) (k : Nat) (hf : f_EventLog_poke st x1 x2 = .inl k) :
    FnT l D vwCl [(cI, .int), (cL, .long)] y_EventLog_poke ws_EventLog_poke { frames := 6, cells := 1, slots := 6, locals := 83 } [.ref h, .int x1, .int x2] [(h, .inr (5, [.ref h_events, .ref h_spare, .ref h_log, .ref h_packer, .ref h_reader])), (h_events, .inr (2, [.ref h_events_kinds, .ref h_events_differences, .ref h_events_partsA, .ref h_events_partsB, .int st.1.2.2.2.2])), (h_events_kinds, .inl (cI, 300, .inl st.1.1)), (h_events_differences, .inl (cL, 300, .inr (.inl st.1.2.1))), (h_events_partsA, .inl (cL, 300, .inr (.inl st.1.2.2.1))), (h_events_partsB, .inl (cI, 300, .inl st.1.2.2.2.1)), (h_spare, .inr (2, [.ref h_spare_kinds, .ref h_spare_differences, .ref h_spare_partsA, .ref h_spare_partsB, .int st.2.1.2.2.2.2])), (h_spare_kinds, .inl (cI, 300, .inl st.2.1.1)), (h_spare_differences, .inl (cL, 300, .inr (.inl st.2.1.2.1))), (h_spare_partsA, .inl (cL, 300, .inr (.inl st.2.1.2.2.1))), (h_spare_partsB, .inl (cI, 300, .inl st.2.1.2.2.2.1)), (h_log, .inr (0, [.ref h_log_row, .int st.2.2.1.2])), (h_log_row, .inl (cI, 5000, .inl st.2.2.1.1)), (h_packer, .inr (3, [.ref h_log, .ref h_packer_past, .int (bI st.2.2.2.1.2.1), .int st.2.2.2.1.2.2.1, .int st.2.2.2.1.2.2.2.1, .int st.2.2.2.1.2.2.2.2.1, .int st.2.2.2.1.2.2.2.2.2.1, .int st.2.2.2.1.2.2.2.2.2.2])), (h_packer_past, .inr (1, [.ref h_packer_past_typed, .int st.2.2.2.1.1.2.1, .int st.2.2.2.1.1.2.2])), (h_packer_past_typed, .inl (cI, 300, .inl st.2.2.2.1.1.1)), (h_reader, .inr (4, [.ref h_log, .ref h_reader_past, .int st.2.2.2.2.2.1, .int st.2.2.2.2.2.2.1, .int st.2.2.2.2.2.2.2])), (h_reader_past, .inr (1, [.ref h_reader_past_typed, .int st.2.2.2.2.1.2.1, .int st.2.2.2.2.1.2.2])), (h_reader_past_typed, .inl (cI, 300, .inl st.2.2.2.2.1.1))] (TE [("EventLog", 90, "not a byte"), ("EventLog", 97, "not a place in the log or its end"), ("EventLog", 100, "the log has 5000 bytes")]) (exN k) := by
  refine FnT.ofW (cc := b_EventLog_poke) (maxL := 3) (ret := none) (by decide) rfl (Nat.le_of_ble_eq_true rfl) ?_
  intro p e s m below meth c A ls C hH hE hAe hex hl
  have hl : lv_has ls 3 [(0, .ref h), (1, .int x1), (2, .int x2)] := hl
  obtain ⟨hx, hb, hr, hml, hown, hts, hlk, hK, hA⟩ := id C
  unfold f_EventLog_poke at hf
  refine lv_iload_n hx hb d_EventLog_poke_0 rfl (lv_at hl 2 rfl) ?_
  refine lv_if_lt (tgt := 11) hx hb d_EventLog_poke_1 (by decide) (fun hc1 => ?_) (fun hc1 => ?_)
  · have hf := ip hc1 hf
    have hf := Sum.inl.inj hf
    subst hf
    exact thr1 (ic := 50) hfl C hH hAe hex hl.1 hE 0 rfl wd_448 (.tail _ wd_405) ⟨Nat.le_of_ble_eq_true rfl, Nat.le_of_ble_eq_true rfl, Nat.le_of_ble_eq_true rfl, Nat.le_of_ble_eq_true rfl⟩ d_EventLog_poke_11 d_EventLog_poke_14 d_EventLog_poke_15 d_EventLog_poke_17 d_EventLog_poke_20
  · have hf := im hc1 hf
    refine lv_iload_n hx hb d_EventLog_poke_4 rfl (lv_at hl 2 rfl) ?_
    refine lv_sipush (v := 255) hx hb d_EventLog_poke_5 (by decide) ?_
    refine lv_icmp_le (tgt := 21) hx hb d_EventLog_poke_8 (by decide) (fun hc8 => ?_) (fun hc8 => ?_)
    · have hf := ip hc8 hf
      refine lv_iload_n hx hb d_EventLog_poke_21 rfl (lv_at hl 1 rfl) ?_
      refine lv_if_lt (tgt := 36) hx hb d_EventLog_poke_22 (by decide) (fun hc22 => ?_) (fun hc22 => ?_)
      · have hf := ip hc22 hf
        have hf := Sum.inl.inj hf
        subst hf
        exact thr3 (ic := 99) hfl C hH hAe hex hl.1 hE 1 rfl wd_526 (.tail _ wd_516) ⟨Nat.le_of_ble_eq_true rfl, Nat.le_of_ble_eq_true rfl, Nat.le_of_ble_eq_true rfl, Nat.le_of_ble_eq_true rfl⟩ d_EventLog_poke_36 d_EventLog_poke_39 d_EventLog_poke_40 d_EventLog_poke_42 d_EventLog_poke_45
      · have hf := im hc22 hf
        refine lv_iload_n hx hb d_EventLog_poke_25 rfl (lv_at hl 1 rfl) ?_
        refine lv_aload_n hx hb d_EventLog_poke_26 rfl (lv_at hl 0 rfl) ?_
        refine gt (ci := 5) (v := .ref h_log) C hH (iwT iw_EventLog) 0 rfl rfl 2 (by decide) (.tail _ wd_133) rfl d_EventLog_poke_27 ?_
        refine fnVR (rest := [.int x1]) (st2 := [.int (f_Bytes_length st.2.2.1), .int x1]) C (c_Bytes_length l D cI cL h_log h_log_row st.2.2.1 _ rfl) (cV hts kV_Bytes_length wd_370 ⟨Nat.le_of_ble_eq_true rfl, Nat.le_of_ble_eq_true rfl⟩) hH [11, 12] rfl rfl 0 rfl rfl rfl hl.1 rfl (Nat.le_of_ble_eq_true rfl) d_EventLog_poke_30 ⟨Nat.le_of_ble_eq_true rfl, Nat.le_of_ble_eq_true rfl⟩ rfl (fun H locs hH => ?_)
        refine lv_icmp_le (tgt := 46) hx hb d_EventLog_poke_33 (by decide) (fun hc33 => ?_) (fun hc33 => ?_)
        · have hf := ip hc33 hf
          refine lv_iload_n hx hb d_EventLog_poke_46 rfl (lv_at hl 1 rfl) ?_
          refine lv_sipush (v := 5000) hx hb d_EventLog_poke_47 (by decide) ?_
          refine lv_icmp_lt (tgt := 63) hx hb d_EventLog_poke_50 (by decide) (fun hc50 => ?_) (fun hc50 => ?_)
          · have hf := ip hc50 hf
            refine lv_iload_n hx hb d_EventLog_poke_63 rfl (lv_at hl 1 rfl) ?_
            refine lv_aload_n hx hb d_EventLog_poke_64 rfl (lv_at hl 0 rfl) ?_
            refine gt (ci := 5) (v := .ref h_log) C hH (iwT iw_EventLog) 0 rfl rfl 2 (by decide) (.tail _ wd_133) rfl d_EventLog_poke_65 ?_
            refine fnVR (rest := [.int x1]) (st2 := [.int (f_Bytes_length st.2.2.1), .int x1]) C (c_Bytes_length l D cI cL h_log h_log_row st.2.2.1 _ rfl) (cV hts kV_Bytes_length wd_370 ⟨Nat.le_of_ble_eq_true rfl, Nat.le_of_ble_eq_true rfl⟩) hH [11, 12] rfl rfl 0 rfl rfl rfl hl.1 rfl (Nat.le_of_ble_eq_true rfl) d_EventLog_poke_68 ⟨Nat.le_of_ble_eq_true rfl, Nat.le_of_ble_eq_true rfl⟩ rfl (fun H locs hH => ?_)
            refine lv_icmp_ne (tgt := 85) hx hb d_EventLog_poke_71 (by decide) (fun hc71 => ?_) (fun hc71 => ?_)
            · have hf := im hc71 hf
              refine lv_aload_n hx hb d_EventLog_poke_85 rfl (lv_at hl 0 rfl) ?_
              refine gt (ci := 5) (v := .ref h_log) C hH (iwT iw_EventLog) 0 rfl rfl 2 (by decide) (.tail _ wd_133) rfl d_EventLog_poke_86 ?_
              refine lv_iload_n hx hb d_EventLog_poke_89 rfl (lv_at hl 1 rfl) ?_
              refine lv_iload_n hx hb d_EventLog_poke_90 rfl (lv_at hl 2 rfl) ?_
              exact absurd hf (by simp [lt1])
            · have hf := ip hc71 hf
              refine lv_aload_n hx hb d_EventLog_poke_74 rfl (lv_at hl 0 rfl) ?_
              refine gt (ci := 5) (v := .ref h_log) C hH (iwT iw_EventLog) 0 rfl rfl 2 (by decide) (.tail _ wd_133) rfl d_EventLog_poke_75 ?_
              refine lv_iload_n hx hb d_EventLog_poke_78 rfl (lv_at hl 2 rfl) ?_
              exact absurd hf (by simp [lt1])
          · have hf := im hc50 hf
            have hf := Sum.inl.inj hf
            subst hf
            exact thr2 (ic := 61) hfl C hH hAe hex hl.1 hE 2 rfl wd_484 (.tail _ wd_474) ⟨Nat.le_of_ble_eq_true rfl, Nat.le_of_ble_eq_true rfl, Nat.le_of_ble_eq_true rfl, Nat.le_of_ble_eq_true rfl⟩ d_EventLog_poke_53 d_EventLog_poke_56 d_EventLog_poke_57 d_EventLog_poke_59 d_EventLog_poke_62
        · have hf := im hc33 hf
          have hf := Sum.inl.inj hf
          subst hf
          exact thr3 (ic := 99) hfl C hH hAe hex hl.1 hE 1 rfl wd_526 (.tail _ wd_516) ⟨Nat.le_of_ble_eq_true rfl, Nat.le_of_ble_eq_true rfl, Nat.le_of_ble_eq_true rfl, Nat.le_of_ble_eq_true rfl⟩ d_EventLog_poke_36 d_EventLog_poke_39 d_EventLog_poke_40 d_EventLog_poke_42 d_EventLog_poke_45
    · have hf := im hc8 hf
      have hf := Sum.inl.inj hf
      subst hf
      exact thr1 (ic := 50) hfl C hH hAe hex hl.1 hE 0 rfl wd_448 (.tail _ wd_405) ⟨Nat.le_of_ble_eq_true rfl, Nat.le_of_ble_eq_true rfl, Nat.le_of_ble_eq_true rfl, Nat.le_of_ble_eq_true rfl⟩ d_EventLog_poke_11 d_EventLog_poke_14 d_EventLog_poke_15 d_EventLog_poke_17 d_EventLog_poke_20
def f_EventLog_cut (st : S_EventLog) (x1 : Int32) : Sum Nat (Int32 × S_EventLog) :=
  if x1 < 0 then (.inl 3) else (if x1 ≤ (f_Bytes_length st.2.2.1) then (lt1 (f_Bytes_keepFirst st.2.2.1 x1) (fun r32 => .inr (((f_Bytes_length st.2.2.1) - x1, (st.1, st.2.1, r32, st.2.2.2.1, st.2.2.2.2))))) else (.inl 3))
set_option maxRecDepth 100000 in
set_option maxHeartbeats 4000000 in
theorem c_EventLog_cut (l : Launch) (D : va_G) (cI cL : ClassId) (h h_events h_events_kinds h_events_differences h_events_partsA h_events_partsB h_spare h_spare_kinds h_spare_differences h_spare_partsA h_spare_partsB h_log h_log_row h_packer h_packer_past h_packer_past_typed h_reader h_reader_past h_reader_past_typed : Nat) (st : S_EventLog) (x1 : Int32) (res : Int32 × S_EventLog) (hf : f_EventLog_cut st x1 = .inr res) :
    Fn l D vwCl [(cI, .int), (cL, .long)] y_EventLog_cut ws_EventLog_cut { frames := 1, cells := 0, slots := 0, locals := 21 } [.ref h, .int x1] [(h, .inr (5, [.ref h_events, .ref h_spare, .ref h_log, .ref h_packer, .ref h_reader])), (h_events, .inr (2, [.ref h_events_kinds, .ref h_events_differences, .ref h_events_partsA, .ref h_events_partsB, .int st.1.2.2.2.2])), (h_events_kinds, .inl (cI, 300, .inl st.1.1)), (h_events_differences, .inl (cL, 300, .inr (.inl st.1.2.1))), (h_events_partsA, .inl (cL, 300, .inr (.inl st.1.2.2.1))), (h_events_partsB, .inl (cI, 300, .inl st.1.2.2.2.1)), (h_spare, .inr (2, [.ref h_spare_kinds, .ref h_spare_differences, .ref h_spare_partsA, .ref h_spare_partsB, .int st.2.1.2.2.2.2])), (h_spare_kinds, .inl (cI, 300, .inl st.2.1.1)), (h_spare_differences, .inl (cL, 300, .inr (.inl st.2.1.2.1))), (h_spare_partsA, .inl (cL, 300, .inr (.inl st.2.1.2.2.1))), (h_spare_partsB, .inl (cI, 300, .inl st.2.1.2.2.2.1)), (h_log, .inr (0, [.ref h_log_row, .int st.2.2.1.2])), (h_log_row, .inl (cI, 5000, .inl st.2.2.1.1)), (h_packer, .inr (3, [.ref h_log, .ref h_packer_past, .int (bI st.2.2.2.1.2.1), .int st.2.2.2.1.2.2.1, .int st.2.2.2.1.2.2.2.1, .int st.2.2.2.1.2.2.2.2.1, .int st.2.2.2.1.2.2.2.2.2.1, .int st.2.2.2.1.2.2.2.2.2.2])), (h_packer_past, .inr (1, [.ref h_packer_past_typed, .int st.2.2.2.1.1.2.1, .int st.2.2.2.1.1.2.2])), (h_packer_past_typed, .inl (cI, 300, .inl st.2.2.2.1.1.1)), (h_reader, .inr (4, [.ref h_log, .ref h_reader_past, .int st.2.2.2.2.2.1, .int st.2.2.2.2.2.2.1, .int st.2.2.2.2.2.2.2])), (h_reader_past, .inr (1, [.ref h_reader_past_typed, .int st.2.2.2.2.1.2.1, .int st.2.2.2.2.1.2.2])), (h_reader_past_typed, .inl (cI, 300, .inl st.2.2.2.2.1.1))] (some (.int res.1)) [(h, .inr (5, [.ref h_events, .ref h_spare, .ref h_log, .ref h_packer, .ref h_reader])), (h_events, .inr (2, [.ref h_events_kinds, .ref h_events_differences, .ref h_events_partsA, .ref h_events_partsB, .int res.2.1.2.2.2.2])), (h_events_kinds, .inl (cI, 300, .inl res.2.1.1)), (h_events_differences, .inl (cL, 300, .inr (.inl res.2.1.2.1))), (h_events_partsA, .inl (cL, 300, .inr (.inl res.2.1.2.2.1))), (h_events_partsB, .inl (cI, 300, .inl res.2.1.2.2.2.1)), (h_spare, .inr (2, [.ref h_spare_kinds, .ref h_spare_differences, .ref h_spare_partsA, .ref h_spare_partsB, .int res.2.2.1.2.2.2.2])), (h_spare_kinds, .inl (cI, 300, .inl res.2.2.1.1)), (h_spare_differences, .inl (cL, 300, .inr (.inl res.2.2.1.2.1))), (h_spare_partsA, .inl (cL, 300, .inr (.inl res.2.2.1.2.2.1))), (h_spare_partsB, .inl (cI, 300, .inl res.2.2.1.2.2.2.1)), (h_log, .inr (0, [.ref h_log_row, .int res.2.2.2.1.2])), (h_log_row, .inl (cI, 5000, .inl res.2.2.2.1.1)), (h_packer, .inr (3, [.ref h_log, .ref h_packer_past, .int (bI res.2.2.2.2.1.2.1), .int res.2.2.2.2.1.2.2.1, .int res.2.2.2.2.1.2.2.2.1, .int res.2.2.2.2.1.2.2.2.2.1, .int res.2.2.2.2.1.2.2.2.2.2.1, .int res.2.2.2.2.1.2.2.2.2.2.2])), (h_packer_past, .inr (1, [.ref h_packer_past_typed, .int res.2.2.2.2.1.1.2.1, .int res.2.2.2.2.1.1.2.2])), (h_packer_past_typed, .inl (cI, 300, .inl res.2.2.2.2.1.1.1)), (h_reader, .inr (4, [.ref h_log, .ref h_reader_past, .int res.2.2.2.2.2.2.1, .int res.2.2.2.2.2.2.2.1, .int res.2.2.2.2.2.2.2.2])), (h_reader_past, .inr (1, [.ref h_reader_past_typed, .int res.2.2.2.2.2.1.2.1, .int res.2.2.2.2.2.1.2.2])), (h_reader_past_typed, .inl (cI, 300, .inl res.2.2.2.2.2.1.1))] := by
  refine Fn.ofW (cc := b_EventLog_cut) (maxL := 3) (ret := (some .int)) (by decide) rfl (Nat.le_of_ble_eq_true rfl) ?_
  intro p e s m below meth c A ls C hH hinit hl
  have hl : lv_has ls 3 [(0, .ref h), (1, .int x1)] := hl
  obtain ⟨hx, hb, hr, hml, hown, hts, hlk, hK, hA⟩ := id C
  unfold f_EventLog_cut at hf
  refine lv_aload_n hx hb d_EventLog_cut_0 rfl (lv_at hl 0 rfl) ?_
  refine gt (ci := 5) (v := .ref h_log) C hH (iwT iw_EventLog) 0 rfl rfl 2 (by decide) (.tail _ wd_133) rfl d_EventLog_cut_1 ?_
  refine fnVR (rest := []) (st2 := [.int (f_Bytes_length st.2.2.1)]) C (c_Bytes_length l D cI cL h_log h_log_row st.2.2.1 _ rfl) (cV hts kV_Bytes_length wd_370 ⟨Nat.le_of_ble_eq_true rfl, Nat.le_of_ble_eq_true rfl⟩) hH [11, 12] rfl rfl 0 rfl rfl rfl hl.1 rfl (Nat.le_of_ble_eq_true rfl) d_EventLog_cut_4 ⟨Nat.le_of_ble_eq_true rfl, Nat.le_of_ble_eq_true rfl⟩ rfl (fun H locs hH => ?_)
  refine lv_istore_n (lv' := [(2, .int (f_Bytes_length st.2.2.1)), (0, .ref h), (1, .int x1)]) hx hb d_EventLog_cut_7 rfl hl (by decide) rfl (fun ls hl => ?_)
  refine lv_iload_n hx hb d_EventLog_cut_8 rfl (lv_at hl 2 rfl) ?_
  refine lv_if_lt (tgt := 17) hx hb d_EventLog_cut_9 (by decide) (fun hc9 => ?_) (fun hc9 => ?_)
  · have hf := ip hc9 hf
    cases hf
  · have hf := im hc9 hf
    refine lv_iload_n hx hb d_EventLog_cut_12 rfl (lv_at hl 2 rfl) ?_
    refine lv_iload_n hx hb d_EventLog_cut_13 rfl (lv_at hl 0 rfl) ?_
    refine lv_icmp_le (tgt := 27) hx hb d_EventLog_cut_14 (by decide) (fun hc14 => ?_) (fun hc14 => ?_)
    · have hf := ip hc14 hf
      refine lv_aload_n hx hb d_EventLog_cut_27 rfl (lv_at hl 1 rfl) ?_
      refine gt (ci := 5) (v := .ref h_log) C hH (iwT iw_EventLog) 0 rfl rfl 2 (by decide) (.tail _ wd_133) rfl d_EventLog_cut_28 ?_
      refine lv_iload_n hx hb d_EventLog_cut_31 rfl (lv_at hl 2 rfl) ?_
      obtain ⟨r32, hr32, hf⟩ := lb hf
      refine fnV (rest := []) (wr := [(h, .inr (5, [.ref h_events, .ref h_spare, .ref h_log, .ref h_packer, .ref h_reader])), (h_events, .inr (2, [.ref h_events_kinds, .ref h_events_differences, .ref h_events_partsA, .ref h_events_partsB, .int st.1.2.2.2.2])), (h_events_kinds, .inl (cI, 300, .inl st.1.1)), (h_events_differences, .inl (cL, 300, .inr (.inl st.1.2.1))), (h_events_partsA, .inl (cL, 300, .inr (.inl st.1.2.2.1))), (h_events_partsB, .inl (cI, 300, .inl st.1.2.2.2.1)), (h_spare, .inr (2, [.ref h_spare_kinds, .ref h_spare_differences, .ref h_spare_partsA, .ref h_spare_partsB, .int st.2.1.2.2.2.2])), (h_spare_kinds, .inl (cI, 300, .inl st.2.1.1)), (h_spare_differences, .inl (cL, 300, .inr (.inl st.2.1.2.1))), (h_spare_partsA, .inl (cL, 300, .inr (.inl st.2.1.2.2.1))), (h_spare_partsB, .inl (cI, 300, .inl st.2.1.2.2.2.1)), (h_packer, .inr (3, [.ref h_log, .ref h_packer_past, .int (bI st.2.2.2.1.2.1), .int st.2.2.2.1.2.2.1, .int st.2.2.2.1.2.2.2.1, .int st.2.2.2.1.2.2.2.2.1, .int st.2.2.2.1.2.2.2.2.2.1, .int st.2.2.2.1.2.2.2.2.2.2])), (h_packer_past, .inr (1, [.ref h_packer_past_typed, .int st.2.2.2.1.1.2.1, .int st.2.2.2.1.1.2.2])), (h_packer_past_typed, .inl (cI, 300, .inl st.2.2.2.1.1.1)), (h_reader, .inr (4, [.ref h_log, .ref h_reader_past, .int st.2.2.2.2.2.1, .int st.2.2.2.2.2.2.1, .int st.2.2.2.2.2.2.2])), (h_reader_past, .inr (1, [.ref h_reader_past_typed, .int st.2.2.2.2.1.2.1, .int st.2.2.2.2.1.2.2])), (h_reader_past_typed, .inl (cI, 300, .inl st.2.2.2.2.1.1))]) (w2 := [(h, .inr (5, [.ref h_events, .ref h_spare, .ref h_log, .ref h_packer, .ref h_reader])), (h_events, .inr (2, [.ref h_events_kinds, .ref h_events_differences, .ref h_events_partsA, .ref h_events_partsB, .int st.1.2.2.2.2])), (h_events_kinds, .inl (cI, 300, .inl st.1.1)), (h_events_differences, .inl (cL, 300, .inr (.inl st.1.2.1))), (h_events_partsA, .inl (cL, 300, .inr (.inl st.1.2.2.1))), (h_events_partsB, .inl (cI, 300, .inl st.1.2.2.2.1)), (h_spare, .inr (2, [.ref h_spare_kinds, .ref h_spare_differences, .ref h_spare_partsA, .ref h_spare_partsB, .int st.2.1.2.2.2.2])), (h_spare_kinds, .inl (cI, 300, .inl st.2.1.1)), (h_spare_differences, .inl (cL, 300, .inr (.inl st.2.1.2.1))), (h_spare_partsA, .inl (cL, 300, .inr (.inl st.2.1.2.2.1))), (h_spare_partsB, .inl (cI, 300, .inl st.2.1.2.2.2.1)), (h_log, .inr (0, [.ref h_log_row, .int r32.2])), (h_log_row, .inl (cI, 5000, .inl r32.1)), (h_packer, .inr (3, [.ref h_log, .ref h_packer_past, .int (bI st.2.2.2.1.2.1), .int st.2.2.2.1.2.2.1, .int st.2.2.2.1.2.2.2.1, .int st.2.2.2.1.2.2.2.2.1, .int st.2.2.2.1.2.2.2.2.2.1, .int st.2.2.2.1.2.2.2.2.2.2])), (h_packer_past, .inr (1, [.ref h_packer_past_typed, .int st.2.2.2.1.1.2.1, .int st.2.2.2.1.1.2.2])), (h_packer_past_typed, .inl (cI, 300, .inl st.2.2.2.1.1.1)), (h_reader, .inr (4, [.ref h_log, .ref h_reader_past, .int st.2.2.2.2.2.1, .int st.2.2.2.2.2.2.1, .int st.2.2.2.2.2.2.2])), (h_reader_past, .inr (1, [.ref h_reader_past_typed, .int st.2.2.2.2.1.2.1, .int st.2.2.2.2.1.2.2])), (h_reader_past_typed, .inl (cI, 300, .inl st.2.2.2.2.1.1))]) (st2 := []) C (c_Bytes_keepFirst l D cI cL h_log h_log_row st.2.2.1 x1 r32 hr32) (cV hts kV_Bytes_keepFirst wd_546 ⟨Nat.le_of_ble_eq_true rfl, Nat.le_of_ble_eq_true rfl⟩) hH [11, 12] [0, 1, 2, 3, 4, 5, 6, 7, 8, 9, 10, 13, 14, 15, 16, 17, 18] [0, 1, 2, 3, 4, 5, 6, 7, 8, 9, 10, 17, 18, 11, 12, 13, 14, 15, 16] rfl rfl rfl rfl (by decide) rfl rfl 0 rfl rfl rfl hl.1 rfl (Nat.le_of_ble_eq_true rfl) d_EventLog_cut_32 ⟨Nat.le_of_ble_eq_true rfl, Nat.le_of_ble_eq_true rfl⟩ rfl (fun H locs hH => ?_)
      refine lv_iload_n hx hb d_EventLog_cut_35 rfl (lv_at hl 0 rfl) ?_
      refine lv_iload_n hx hb d_EventLog_cut_36 rfl (lv_at hl 2 rfl) ?_
      refine lv_isub hx hb d_EventLog_cut_37 ?_
      have hf := Sum.inr.inj hf
      subst hf
      exact rI (v := (f_Bytes_length st.2.2.1) - x1) C hH d_EventLog_cut_38
    · have hf := im hc14 hf
      cases hf
set_option maxRecDepth 100000 in
set_option maxHeartbeats 4000000 in
theorem t_EventLog_cut (l : Launch) (hfl : l.flags = pinnedFlags ++ [noTraceFlag]) (D : va_G) (cI cL : ClassId) (h h_events h_events_kinds h_events_differences h_events_partsA h_events_partsB h_spare h_spare_kinds h_spare_differences h_spare_partsA h_spare_partsB h_log h_log_row h_packer h_packer_past h_packer_past_typed h_reader h_reader_past h_reader_past_typed : Nat) (st : S_EventLog) (x1 : Int32) (k : Nat) (hf : f_EventLog_cut st x1 = .inl k) :
    FnT l D vwCl [(cI, .int), (cL, .long)] y_EventLog_cut ws_EventLog_cut { frames := 6, cells := 1, slots := 6, locals := 83 } [.ref h, .int x1] [(h, .inr (5, [.ref h_events, .ref h_spare, .ref h_log, .ref h_packer, .ref h_reader])), (h_events, .inr (2, [.ref h_events_kinds, .ref h_events_differences, .ref h_events_partsA, .ref h_events_partsB, .int st.1.2.2.2.2])), (h_events_kinds, .inl (cI, 300, .inl st.1.1)), (h_events_differences, .inl (cL, 300, .inr (.inl st.1.2.1))), (h_events_partsA, .inl (cL, 300, .inr (.inl st.1.2.2.1))), (h_events_partsB, .inl (cI, 300, .inl st.1.2.2.2.1)), (h_spare, .inr (2, [.ref h_spare_kinds, .ref h_spare_differences, .ref h_spare_partsA, .ref h_spare_partsB, .int st.2.1.2.2.2.2])), (h_spare_kinds, .inl (cI, 300, .inl st.2.1.1)), (h_spare_differences, .inl (cL, 300, .inr (.inl st.2.1.2.1))), (h_spare_partsA, .inl (cL, 300, .inr (.inl st.2.1.2.2.1))), (h_spare_partsB, .inl (cI, 300, .inl st.2.1.2.2.2.1)), (h_log, .inr (0, [.ref h_log_row, .int st.2.2.1.2])), (h_log_row, .inl (cI, 5000, .inl st.2.2.1.1)), (h_packer, .inr (3, [.ref h_log, .ref h_packer_past, .int (bI st.2.2.2.1.2.1), .int st.2.2.2.1.2.2.1, .int st.2.2.2.1.2.2.2.1, .int st.2.2.2.1.2.2.2.2.1, .int st.2.2.2.1.2.2.2.2.2.1, .int st.2.2.2.1.2.2.2.2.2.2])), (h_packer_past, .inr (1, [.ref h_packer_past_typed, .int st.2.2.2.1.1.2.1, .int st.2.2.2.1.1.2.2])), (h_packer_past_typed, .inl (cI, 300, .inl st.2.2.2.1.1.1)), (h_reader, .inr (4, [.ref h_log, .ref h_reader_past, .int st.2.2.2.2.2.1, .int st.2.2.2.2.2.2.1, .int st.2.2.2.2.2.2.2])), (h_reader_past, .inr (1, [.ref h_reader_past_typed, .int st.2.2.2.2.1.2.1, .int st.2.2.2.2.1.2.2])), (h_reader_past_typed, .inl (cI, 300, .inl st.2.2.2.2.1.1))] (TE [("EventLog", 108, "not a length up to the log's")]) (exN k) := by
  refine FnT.ofW (cc := b_EventLog_cut) (maxL := 3) (ret := (some .int)) (by decide) rfl (Nat.le_of_ble_eq_true rfl) ?_
  intro p e s m below meth c A ls C hH hE hAe hex hl
  have hl : lv_has ls 3 [(0, .ref h), (1, .int x1)] := hl
  obtain ⟨hx, hb, hr, hml, hown, hts, hlk, hK, hA⟩ := id C
  unfold f_EventLog_cut at hf
  refine lv_aload_n hx hb d_EventLog_cut_0 rfl (lv_at hl 0 rfl) ?_
  refine gt (ci := 5) (v := .ref h_log) C hH (iwT iw_EventLog) 0 rfl rfl 2 (by decide) (.tail _ wd_133) rfl d_EventLog_cut_1 ?_
  refine fnVR (rest := []) (st2 := [.int (f_Bytes_length st.2.2.1)]) C (c_Bytes_length l D cI cL h_log h_log_row st.2.2.1 _ rfl) (cV hts kV_Bytes_length wd_370 ⟨Nat.le_of_ble_eq_true rfl, Nat.le_of_ble_eq_true rfl⟩) hH [11, 12] rfl rfl 0 rfl rfl rfl hl.1 rfl (Nat.le_of_ble_eq_true rfl) d_EventLog_cut_4 ⟨Nat.le_of_ble_eq_true rfl, Nat.le_of_ble_eq_true rfl⟩ rfl (fun H locs hH => ?_)
  refine lv_istore_n (lv' := [(2, .int (f_Bytes_length st.2.2.1)), (0, .ref h), (1, .int x1)]) hx hb d_EventLog_cut_7 rfl hl (by decide) rfl (fun ls hl => ?_)
  refine lv_iload_n hx hb d_EventLog_cut_8 rfl (lv_at hl 2 rfl) ?_
  refine lv_if_lt (tgt := 17) hx hb d_EventLog_cut_9 (by decide) (fun hc9 => ?_) (fun hc9 => ?_)
  · have hf := ip hc9 hf
    have hf := Sum.inl.inj hf
    subst hf
    exact thr3 (ic := 99) hfl C hH hAe hex hl.1 hE 0 rfl wd_526 (.tail _ wd_516) ⟨Nat.le_of_ble_eq_true rfl, Nat.le_of_ble_eq_true rfl, Nat.le_of_ble_eq_true rfl, Nat.le_of_ble_eq_true rfl⟩ d_EventLog_cut_17 d_EventLog_cut_20 d_EventLog_cut_21 d_EventLog_cut_23 d_EventLog_cut_26
  · have hf := im hc9 hf
    refine lv_iload_n hx hb d_EventLog_cut_12 rfl (lv_at hl 2 rfl) ?_
    refine lv_iload_n hx hb d_EventLog_cut_13 rfl (lv_at hl 0 rfl) ?_
    refine lv_icmp_le (tgt := 27) hx hb d_EventLog_cut_14 (by decide) (fun hc14 => ?_) (fun hc14 => ?_)
    · have hf := ip hc14 hf
      refine lv_aload_n hx hb d_EventLog_cut_27 rfl (lv_at hl 1 rfl) ?_
      refine gt (ci := 5) (v := .ref h_log) C hH (iwT iw_EventLog) 0 rfl rfl 2 (by decide) (.tail _ wd_133) rfl d_EventLog_cut_28 ?_
      refine lv_iload_n hx hb d_EventLog_cut_31 rfl (lv_at hl 2 rfl) ?_
      exact absurd hf (by simp [lt1])
    · have hf := im hc14 hf
      have hf := Sum.inl.inj hf
      subst hf
      exact thr3 (ic := 99) hfl C hH hAe hex hl.1 hE 0 rfl wd_526 (.tail _ wd_516) ⟨Nat.le_of_ble_eq_true rfl, Nat.le_of_ble_eq_true rfl, Nat.le_of_ble_eq_true rfl, Nat.le_of_ble_eq_true rfl⟩ d_EventLog_cut_17 d_EventLog_cut_20 d_EventLog_cut_21 d_EventLog_cut_23 d_EventLog_cut_26
def f_EventLog_byteAt (st : S_EventLog) (x1 : Int32) : Sum Nat (Int32) :=
  if x1 < 0 then (.inl 3) else (if x1 < (f_Bytes_length st.2.2.1) then (.inr (f_Bytes_get st.2.2.1 x1)) else (.inl 3))
set_option maxRecDepth 100000 in
set_option maxHeartbeats 4000000 in
theorem c_EventLog_byteAt (l : Launch) (D : va_G) (cI cL : ClassId) (h h_events h_events_kinds h_events_differences h_events_partsA h_events_partsB h_spare h_spare_kinds h_spare_differences h_spare_partsA h_spare_partsB h_log h_log_row h_packer h_packer_past h_packer_past_typed h_reader h_reader_past h_reader_past_typed : Nat) (st : S_EventLog) (x1 : Int32) (res : Int32) (hf : f_EventLog_byteAt st x1 = .inr res) :
    FnR l D vwCl [(cI, .int), (cL, .long)] y_EventLog_byteAt ws_EventLog_byteAt { frames := 1, cells := 0, slots := 0, locals := 21 } [.ref h, .int x1] [(h, .inr (5, [.ref h_events, .ref h_spare, .ref h_log, .ref h_packer, .ref h_reader])), (h_events, .inr (2, [.ref h_events_kinds, .ref h_events_differences, .ref h_events_partsA, .ref h_events_partsB, .int st.1.2.2.2.2])), (h_events_kinds, .inl (cI, 300, .inl st.1.1)), (h_events_differences, .inl (cL, 300, .inr (.inl st.1.2.1))), (h_events_partsA, .inl (cL, 300, .inr (.inl st.1.2.2.1))), (h_events_partsB, .inl (cI, 300, .inl st.1.2.2.2.1)), (h_spare, .inr (2, [.ref h_spare_kinds, .ref h_spare_differences, .ref h_spare_partsA, .ref h_spare_partsB, .int st.2.1.2.2.2.2])), (h_spare_kinds, .inl (cI, 300, .inl st.2.1.1)), (h_spare_differences, .inl (cL, 300, .inr (.inl st.2.1.2.1))), (h_spare_partsA, .inl (cL, 300, .inr (.inl st.2.1.2.2.1))), (h_spare_partsB, .inl (cI, 300, .inl st.2.1.2.2.2.1)), (h_log, .inr (0, [.ref h_log_row, .int st.2.2.1.2])), (h_log_row, .inl (cI, 5000, .inl st.2.2.1.1)), (h_packer, .inr (3, [.ref h_log, .ref h_packer_past, .int (bI st.2.2.2.1.2.1), .int st.2.2.2.1.2.2.1, .int st.2.2.2.1.2.2.2.1, .int st.2.2.2.1.2.2.2.2.1, .int st.2.2.2.1.2.2.2.2.2.1, .int st.2.2.2.1.2.2.2.2.2.2])), (h_packer_past, .inr (1, [.ref h_packer_past_typed, .int st.2.2.2.1.1.2.1, .int st.2.2.2.1.1.2.2])), (h_packer_past_typed, .inl (cI, 300, .inl st.2.2.2.1.1.1)), (h_reader, .inr (4, [.ref h_log, .ref h_reader_past, .int st.2.2.2.2.2.1, .int st.2.2.2.2.2.2.1, .int st.2.2.2.2.2.2.2])), (h_reader_past, .inr (1, [.ref h_reader_past_typed, .int st.2.2.2.2.1.2.1, .int st.2.2.2.2.1.2.2])), (h_reader_past_typed, .inl (cI, 300, .inl st.2.2.2.2.1.1))] (some (.int res)) := by
  refine FnR.ofW (cc := b_EventLog_byteAt) (maxL := 2) (ret := (some .int)) (by decide) rfl (Nat.le_of_ble_eq_true rfl) ?_
  intro p e s m below meth c A ls C hH hl
  have hl : lv_has ls 2 [(0, .ref h), (1, .int x1)] := hl
  obtain ⟨hx, hb, hr, hml, hown, hts, hlk, hK, hA⟩ := id C
  unfold f_EventLog_byteAt at hf
  refine lv_iload_n hx hb d_EventLog_byteAt_0 rfl (lv_at hl 1 rfl) ?_
  refine lv_if_lt (tgt := 15) hx hb d_EventLog_byteAt_1 (by decide) (fun hc1 => ?_) (fun hc1 => ?_)
  · have hf := ip hc1 hf
    cases hf
  · have hf := im hc1 hf
    refine lv_iload_n hx hb d_EventLog_byteAt_4 rfl (lv_at hl 1 rfl) ?_
    refine lv_aload_n hx hb d_EventLog_byteAt_5 rfl (lv_at hl 0 rfl) ?_
    refine gt (ci := 5) (v := .ref h_log) C hH (iwT iw_EventLog) 0 rfl rfl 2 (by decide) (.tail _ wd_133) rfl d_EventLog_byteAt_6 ?_
    refine fnVR (rest := [.int x1]) (st2 := [.int (f_Bytes_length st.2.2.1), .int x1]) C (c_Bytes_length l D cI cL h_log h_log_row st.2.2.1 _ rfl) (cV hts kV_Bytes_length wd_370 ⟨Nat.le_of_ble_eq_true rfl, Nat.le_of_ble_eq_true rfl⟩) hH [11, 12] rfl rfl 0 rfl rfl rfl hl.1 rfl (Nat.le_of_ble_eq_true rfl) d_EventLog_byteAt_9 ⟨Nat.le_of_ble_eq_true rfl, Nat.le_of_ble_eq_true rfl⟩ rfl (fun H locs hH => ?_)
    refine lv_icmp_lt (tgt := 25) hx hb d_EventLog_byteAt_12 (by decide) (fun hc12 => ?_) (fun hc12 => ?_)
    · have hf := ip hc12 hf
      refine lv_aload_n hx hb d_EventLog_byteAt_25 rfl (lv_at hl 0 rfl) ?_
      refine gt (ci := 5) (v := .ref h_log) C hH (iwT iw_EventLog) 0 rfl rfl 2 (by decide) (.tail _ wd_133) rfl d_EventLog_byteAt_26 ?_
      refine lv_iload_n hx hb d_EventLog_byteAt_29 rfl (lv_at hl 1 rfl) ?_
      refine fnVR (rest := []) (st2 := [.int (f_Bytes_get st.2.2.1 x1)]) C (c_Bytes_get l D cI cL h_log h_log_row st.2.2.1 x1 _ rfl) (cV hts kV_Bytes_get wd_555 ⟨Nat.le_of_ble_eq_true rfl, Nat.le_of_ble_eq_true rfl⟩) hH [11, 12] rfl rfl 0 rfl rfl rfl hl.1 rfl (Nat.le_of_ble_eq_true rfl) d_EventLog_byteAt_30 ⟨Nat.le_of_ble_eq_true rfl, Nat.le_of_ble_eq_true rfl⟩ rfl (fun H locs hH => ?_)
      have hf := Sum.inr.inj hf
      subst hf
      exact rIR (v := f_Bytes_get st.2.2.1 x1) C hH d_EventLog_byteAt_33
    · have hf := im hc12 hf
      cases hf
set_option maxRecDepth 100000 in
set_option maxHeartbeats 4000000 in
theorem t_EventLog_byteAt (l : Launch) (hfl : l.flags = pinnedFlags ++ [noTraceFlag]) (D : va_G) (cI cL : ClassId) (h h_events h_events_kinds h_events_differences h_events_partsA h_events_partsB h_spare h_spare_kinds h_spare_differences h_spare_partsA h_spare_partsB h_log h_log_row h_packer h_packer_past h_packer_past_typed h_reader h_reader_past h_reader_past_typed : Nat) (st : S_EventLog) (x1 : Int32) (k : Nat) (hf : f_EventLog_byteAt st x1 = .inl k) :
    FnT l D vwCl [(cI, .int), (cL, .long)] y_EventLog_byteAt ws_EventLog_byteAt { frames := 6, cells := 1, slots := 6, locals := 83 } [.ref h, .int x1] [(h, .inr (5, [.ref h_events, .ref h_spare, .ref h_log, .ref h_packer, .ref h_reader])), (h_events, .inr (2, [.ref h_events_kinds, .ref h_events_differences, .ref h_events_partsA, .ref h_events_partsB, .int st.1.2.2.2.2])), (h_events_kinds, .inl (cI, 300, .inl st.1.1)), (h_events_differences, .inl (cL, 300, .inr (.inl st.1.2.1))), (h_events_partsA, .inl (cL, 300, .inr (.inl st.1.2.2.1))), (h_events_partsB, .inl (cI, 300, .inl st.1.2.2.2.1)), (h_spare, .inr (2, [.ref h_spare_kinds, .ref h_spare_differences, .ref h_spare_partsA, .ref h_spare_partsB, .int st.2.1.2.2.2.2])), (h_spare_kinds, .inl (cI, 300, .inl st.2.1.1)), (h_spare_differences, .inl (cL, 300, .inr (.inl st.2.1.2.1))), (h_spare_partsA, .inl (cL, 300, .inr (.inl st.2.1.2.2.1))), (h_spare_partsB, .inl (cI, 300, .inl st.2.1.2.2.2.1)), (h_log, .inr (0, [.ref h_log_row, .int st.2.2.1.2])), (h_log_row, .inl (cI, 5000, .inl st.2.2.1.1)), (h_packer, .inr (3, [.ref h_log, .ref h_packer_past, .int (bI st.2.2.2.1.2.1), .int st.2.2.2.1.2.2.1, .int st.2.2.2.1.2.2.2.1, .int st.2.2.2.1.2.2.2.2.1, .int st.2.2.2.1.2.2.2.2.2.1, .int st.2.2.2.1.2.2.2.2.2.2])), (h_packer_past, .inr (1, [.ref h_packer_past_typed, .int st.2.2.2.1.1.2.1, .int st.2.2.2.1.1.2.2])), (h_packer_past_typed, .inl (cI, 300, .inl st.2.2.2.1.1.1)), (h_reader, .inr (4, [.ref h_log, .ref h_reader_past, .int st.2.2.2.2.2.1, .int st.2.2.2.2.2.2.1, .int st.2.2.2.2.2.2.2])), (h_reader_past, .inr (1, [.ref h_reader_past_typed, .int st.2.2.2.2.1.2.1, .int st.2.2.2.2.1.2.2])), (h_reader_past_typed, .inl (cI, 300, .inl st.2.2.2.2.1.1))] (TE [("EventLog", 111, "no such byte")]) (exN k) := by
  refine FnT.ofW (cc := b_EventLog_byteAt) (maxL := 2) (ret := (some .int)) (by decide) rfl (Nat.le_of_ble_eq_true rfl) ?_
  intro p e s m below meth c A ls C hH hE hAe hex hl
  have hl : lv_has ls 2 [(0, .ref h), (1, .int x1)] := hl
  obtain ⟨hx, hb, hr, hml, hown, hts, hlk, hK, hA⟩ := id C
  unfold f_EventLog_byteAt at hf
  refine lv_iload_n hx hb d_EventLog_byteAt_0 rfl (lv_at hl 1 rfl) ?_
  refine lv_if_lt (tgt := 15) hx hb d_EventLog_byteAt_1 (by decide) (fun hc1 => ?_) (fun hc1 => ?_)
  · have hf := ip hc1 hf
    have hf := Sum.inl.inj hf
    subst hf
    exact thr3 (ic := 99) hfl C hH hAe hex hl.1 hE 0 rfl wd_526 (.tail _ wd_516) ⟨Nat.le_of_ble_eq_true rfl, Nat.le_of_ble_eq_true rfl, Nat.le_of_ble_eq_true rfl, Nat.le_of_ble_eq_true rfl⟩ d_EventLog_byteAt_15 d_EventLog_byteAt_18 d_EventLog_byteAt_19 d_EventLog_byteAt_21 d_EventLog_byteAt_24
  · have hf := im hc1 hf
    refine lv_iload_n hx hb d_EventLog_byteAt_4 rfl (lv_at hl 1 rfl) ?_
    refine lv_aload_n hx hb d_EventLog_byteAt_5 rfl (lv_at hl 0 rfl) ?_
    refine gt (ci := 5) (v := .ref h_log) C hH (iwT iw_EventLog) 0 rfl rfl 2 (by decide) (.tail _ wd_133) rfl d_EventLog_byteAt_6 ?_
    refine fnVR (rest := [.int x1]) (st2 := [.int (f_Bytes_length st.2.2.1), .int x1]) C (c_Bytes_length l D cI cL h_log h_log_row st.2.2.1 _ rfl) (cV hts kV_Bytes_length wd_370 ⟨Nat.le_of_ble_eq_true rfl, Nat.le_of_ble_eq_true rfl⟩) hH [11, 12] rfl rfl 0 rfl rfl rfl hl.1 rfl (Nat.le_of_ble_eq_true rfl) d_EventLog_byteAt_9 ⟨Nat.le_of_ble_eq_true rfl, Nat.le_of_ble_eq_true rfl⟩ rfl (fun H locs hH => ?_)
    refine lv_icmp_lt (tgt := 25) hx hb d_EventLog_byteAt_12 (by decide) (fun hc12 => ?_) (fun hc12 => ?_)
    · have hf := ip hc12 hf
      refine lv_aload_n hx hb d_EventLog_byteAt_25 rfl (lv_at hl 0 rfl) ?_
      refine gt (ci := 5) (v := .ref h_log) C hH (iwT iw_EventLog) 0 rfl rfl 2 (by decide) (.tail _ wd_133) rfl d_EventLog_byteAt_26 ?_
      refine lv_iload_n hx hb d_EventLog_byteAt_29 rfl (lv_at hl 1 rfl) ?_
      refine fnVR (rest := []) (st2 := [.int (f_Bytes_get st.2.2.1 x1)]) C (c_Bytes_get l D cI cL h_log h_log_row st.2.2.1 x1 _ rfl) (cV hts kV_Bytes_get wd_555 ⟨Nat.le_of_ble_eq_true rfl, Nat.le_of_ble_eq_true rfl⟩) hH [11, 12] rfl rfl 0 rfl rfl rfl hl.1 rfl (Nat.le_of_ble_eq_true rfl) d_EventLog_byteAt_30 ⟨Nat.le_of_ble_eq_true rfl, Nat.le_of_ble_eq_true rfl⟩ rfl (fun H locs hH => ?_)
      cases hf
    · have hf := im hc12 hf
      have hf := Sum.inl.inj hf
      subst hf
      exact thr3 (ic := 99) hfl C hH hAe hex hl.1 hE 0 rfl wd_526 (.tail _ wd_516) ⟨Nat.le_of_ble_eq_true rfl, Nat.le_of_ble_eq_true rfl, Nat.le_of_ble_eq_true rfl, Nat.le_of_ble_eq_true rfl⟩ d_EventLog_byteAt_15 d_EventLog_byteAt_18 d_EventLog_byteAt_19 d_EventLog_byteAt_21 d_EventLog_byteAt_24
def f_EventLog_event (st : S_EventLog) (x1 : Int32) (x2 : Int32) : Option (Sum Nat (Int64)) :=
  if (bI (f_Events_has st.1 x1)) = 0 then (some (.inl 4)) else (if x2 = 0 then (some (.inr ((f_Events_kind st.1 x1).toInt64))) else if x2 = 1 then (some (.inr (f_Events_difference st.1 x1))) else if x2 = 2 then (some (.inr (f_Events_a st.1 x1))) else if x2 = 3 then (some (.inr ((f_Events_b st.1 x1).toInt64))) else if x2 = 4 then ((f_Events_sumUpTo st.1 x1).bind (fun r99 => some (.inr r99))) else (some (.inl 1)))
set_option maxRecDepth 100000 in
set_option maxHeartbeats 4000000 in
theorem c_EventLog_event (l : Launch) (D : va_G) (cI cL : ClassId) (h h_events h_events_kinds h_events_differences h_events_partsA h_events_partsB h_spare h_spare_kinds h_spare_differences h_spare_partsA h_spare_partsB h_log h_log_row h_packer h_packer_past h_packer_past_typed h_reader h_reader_past h_reader_past_typed : Nat) (st : S_EventLog) (x1 : Int32) (x2 : Int32) (res : Int64) (hf : f_EventLog_event st x1 x2 = some (.inr res)) :
    FnR l D vwCl [(cI, .int), (cL, .long)] y_EventLog_event ws_EventLog_event { frames := 3, cells := 0, slots := 0, locals := 66 } [.ref h, .int x1, .int x2] [(h, .inr (5, [.ref h_events, .ref h_spare, .ref h_log, .ref h_packer, .ref h_reader])), (h_events, .inr (2, [.ref h_events_kinds, .ref h_events_differences, .ref h_events_partsA, .ref h_events_partsB, .int st.1.2.2.2.2])), (h_events_kinds, .inl (cI, 300, .inl st.1.1)), (h_events_differences, .inl (cL, 300, .inr (.inl st.1.2.1))), (h_events_partsA, .inl (cL, 300, .inr (.inl st.1.2.2.1))), (h_events_partsB, .inl (cI, 300, .inl st.1.2.2.2.1)), (h_spare, .inr (2, [.ref h_spare_kinds, .ref h_spare_differences, .ref h_spare_partsA, .ref h_spare_partsB, .int st.2.1.2.2.2.2])), (h_spare_kinds, .inl (cI, 300, .inl st.2.1.1)), (h_spare_differences, .inl (cL, 300, .inr (.inl st.2.1.2.1))), (h_spare_partsA, .inl (cL, 300, .inr (.inl st.2.1.2.2.1))), (h_spare_partsB, .inl (cI, 300, .inl st.2.1.2.2.2.1)), (h_log, .inr (0, [.ref h_log_row, .int st.2.2.1.2])), (h_log_row, .inl (cI, 5000, .inl st.2.2.1.1)), (h_packer, .inr (3, [.ref h_log, .ref h_packer_past, .int (bI st.2.2.2.1.2.1), .int st.2.2.2.1.2.2.1, .int st.2.2.2.1.2.2.2.1, .int st.2.2.2.1.2.2.2.2.1, .int st.2.2.2.1.2.2.2.2.2.1, .int st.2.2.2.1.2.2.2.2.2.2])), (h_packer_past, .inr (1, [.ref h_packer_past_typed, .int st.2.2.2.1.1.2.1, .int st.2.2.2.1.1.2.2])), (h_packer_past_typed, .inl (cI, 300, .inl st.2.2.2.1.1.1)), (h_reader, .inr (4, [.ref h_log, .ref h_reader_past, .int st.2.2.2.2.2.1, .int st.2.2.2.2.2.2.1, .int st.2.2.2.2.2.2.2])), (h_reader_past, .inr (1, [.ref h_reader_past_typed, .int st.2.2.2.2.1.2.1, .int st.2.2.2.2.1.2.2])), (h_reader_past_typed, .inl (cI, 300, .inl st.2.2.2.2.1.1))] (some (.long res)) := by
  refine FnR.ofW (cc := b_EventLog_event) (maxL := 3) (ret := (some .long)) (by decide) rfl (Nat.le_of_ble_eq_true rfl) ?_
  intro p e s m below meth c A ls C hH hl
  have hl : lv_has ls 3 [(0, .ref h), (1, .int x1), (2, .int x2)] := hl
  obtain ⟨hx, hb, hr, hml, hown, hts, hlk, hK, hA⟩ := id C
  unfold f_EventLog_event at hf
  refine lv_aload_n hx hb d_EventLog_event_0 rfl (lv_at hl 0 rfl) ?_
  refine gt (ci := 5) (v := .ref h_events) C hH (iwT iw_EventLog) 0 rfl rfl 0 (by decide) (.tail _ wd_131) rfl d_EventLog_event_1 ?_
  refine lv_iload_n hx hb d_EventLog_event_4 rfl (lv_at hl 1 rfl) ?_
  refine fnVR (rest := []) (st2 := [.int (bI (f_Events_has st.1 x1))]) C (c_Events_has l D cI cL h_events h_events_kinds h_events_differences h_events_partsA h_events_partsB st.1 x1 _ rfl) (cV hts kV_Events_has wd_564 ⟨Nat.le_of_ble_eq_true rfl, Nat.le_of_ble_eq_true rfl⟩) hH [1, 2, 3, 4, 5] rfl rfl 0 rfl rfl rfl hl.1 rfl (Nat.le_of_ble_eq_true rfl) d_EventLog_event_5 ⟨Nat.le_of_ble_eq_true rfl, Nat.le_of_ble_eq_true rfl⟩ rfl (fun H locs hH => ?_)
  refine lv_if_ne (tgt := 21) hx hb d_EventLog_event_8 (by decide) (fun hc8 => ?_) (fun hc8 => ?_)
  · have hf := im hc8 hf
    refine lv_iload_n hx hb d_EventLog_event_21 rfl (lv_at hl 2 rfl) ?_
    by_cases hc22_0 : x2 = 0
    · have hf := ip hc22_0 hf
      refine lv_tableIn (tgt := 56) hx hb d_EventLog_event_22 (by rw [hc22_0]; decide) (by rw [hc22_0]; decide) (by rw [hc22_0]; rfl) (by decide) ?_
      refine lv_aload_n hx hb d_EventLog_event_56 rfl (lv_at hl 0 rfl) ?_
      refine gt (ci := 5) (v := .ref h_events) C hH (iwT iw_EventLog) 0 rfl rfl 0 (by decide) (.tail _ wd_131) rfl d_EventLog_event_57 ?_
      refine lv_iload_n hx hb d_EventLog_event_60 rfl (lv_at hl 1 rfl) ?_
      refine fnVR (rest := []) (st2 := [.int (f_Events_kind st.1 x1)]) C (c_Events_kind l D cI cL h_events h_events_kinds h_events_differences h_events_partsA h_events_partsB st.1 x1 _ rfl) (cV hts kV_Events_kind wd_581 ⟨Nat.le_of_ble_eq_true rfl, Nat.le_of_ble_eq_true rfl⟩) hH [1, 2, 3, 4, 5] rfl rfl 0 rfl rfl rfl hl.1 rfl (Nat.le_of_ble_eq_true rfl) d_EventLog_event_61 ⟨Nat.le_of_ble_eq_true rfl, Nat.le_of_ble_eq_true rfl⟩ rfl (fun H locs hH => ?_)
      refine lv_i2l (v := (f_Events_kind st.1 x1).toInt64) hx hb d_EventLog_event_64 rfl ?_
      have hf := Option.some.inj hf
      have hf := Sum.inr.inj hf
      subst hf
      exact rJR (v := (f_Events_kind st.1 x1).toInt64) C hH d_EventLog_event_65
    have hf := im hc22_0 hf
    by_cases hc22_1 : x2 = 1
    · have hf := ip hc22_1 hf
      refine lv_tableIn (tgt := 66) hx hb d_EventLog_event_22 (by rw [hc22_1]; decide) (by rw [hc22_1]; decide) (by rw [hc22_1]; rfl) (by decide) ?_
      refine lv_aload_n hx hb d_EventLog_event_66 rfl (lv_at hl 0 rfl) ?_
      refine gt (ci := 5) (v := .ref h_events) C hH (iwT iw_EventLog) 0 rfl rfl 0 (by decide) (.tail _ wd_131) rfl d_EventLog_event_67 ?_
      refine lv_iload_n hx hb d_EventLog_event_70 rfl (lv_at hl 1 rfl) ?_
      refine fnVR (rest := []) (st2 := [.long (f_Events_difference st.1 x1)]) C (c_Events_difference l D cI cL h_events h_events_kinds h_events_differences h_events_partsA h_events_partsB st.1 x1 _ rfl) (cV hts kV_Events_difference wd_582 ⟨Nat.le_of_ble_eq_true rfl, Nat.le_of_ble_eq_true rfl⟩) hH [1, 2, 3, 4, 5] rfl rfl 0 rfl rfl rfl hl.1 rfl (Nat.le_of_ble_eq_true rfl) d_EventLog_event_71 ⟨Nat.le_of_ble_eq_true rfl, Nat.le_of_ble_eq_true rfl⟩ rfl (fun H locs hH => ?_)
      have hf := Option.some.inj hf
      have hf := Sum.inr.inj hf
      subst hf
      exact rJR (v := f_Events_difference st.1 x1) C hH d_EventLog_event_74
    have hf := im hc22_1 hf
    by_cases hc22_2 : x2 = 2
    · have hf := ip hc22_2 hf
      refine lv_tableIn (tgt := 75) hx hb d_EventLog_event_22 (by rw [hc22_2]; decide) (by rw [hc22_2]; decide) (by rw [hc22_2]; rfl) (by decide) ?_
      refine lv_aload_n hx hb d_EventLog_event_75 rfl (lv_at hl 0 rfl) ?_
      refine gt (ci := 5) (v := .ref h_events) C hH (iwT iw_EventLog) 0 rfl rfl 0 (by decide) (.tail _ wd_131) rfl d_EventLog_event_76 ?_
      refine lv_iload_n hx hb d_EventLog_event_79 rfl (lv_at hl 1 rfl) ?_
      refine fnVR (rest := []) (st2 := [.long (f_Events_a st.1 x1)]) C (c_Events_a l D cI cL h_events h_events_kinds h_events_differences h_events_partsA h_events_partsB st.1 x1 _ rfl) (cV hts kV_Events_a wd_583 ⟨Nat.le_of_ble_eq_true rfl, Nat.le_of_ble_eq_true rfl⟩) hH [1, 2, 3, 4, 5] rfl rfl 0 rfl rfl rfl hl.1 rfl (Nat.le_of_ble_eq_true rfl) d_EventLog_event_80 ⟨Nat.le_of_ble_eq_true rfl, Nat.le_of_ble_eq_true rfl⟩ rfl (fun H locs hH => ?_)
      have hf := Option.some.inj hf
      have hf := Sum.inr.inj hf
      subst hf
      exact rJR (v := f_Events_a st.1 x1) C hH d_EventLog_event_83
    have hf := im hc22_2 hf
    by_cases hc22_3 : x2 = 3
    · have hf := ip hc22_3 hf
      refine lv_tableIn (tgt := 84) hx hb d_EventLog_event_22 (by rw [hc22_3]; decide) (by rw [hc22_3]; decide) (by rw [hc22_3]; rfl) (by decide) ?_
      refine lv_aload_n hx hb d_EventLog_event_84 rfl (lv_at hl 0 rfl) ?_
      refine gt (ci := 5) (v := .ref h_events) C hH (iwT iw_EventLog) 0 rfl rfl 0 (by decide) (.tail _ wd_131) rfl d_EventLog_event_85 ?_
      refine lv_iload_n hx hb d_EventLog_event_88 rfl (lv_at hl 1 rfl) ?_
      refine fnVR (rest := []) (st2 := [.int (f_Events_b st.1 x1)]) C (c_Events_b l D cI cL h_events h_events_kinds h_events_differences h_events_partsA h_events_partsB st.1 x1 _ rfl) (cV hts kV_Events_b wd_584 ⟨Nat.le_of_ble_eq_true rfl, Nat.le_of_ble_eq_true rfl⟩) hH [1, 2, 3, 4, 5] rfl rfl 0 rfl rfl rfl hl.1 rfl (Nat.le_of_ble_eq_true rfl) d_EventLog_event_89 ⟨Nat.le_of_ble_eq_true rfl, Nat.le_of_ble_eq_true rfl⟩ rfl (fun H locs hH => ?_)
      refine lv_i2l (v := (f_Events_b st.1 x1).toInt64) hx hb d_EventLog_event_92 rfl ?_
      have hf := Option.some.inj hf
      have hf := Sum.inr.inj hf
      subst hf
      exact rJR (v := (f_Events_b st.1 x1).toInt64) C hH d_EventLog_event_93
    have hf := im hc22_3 hf
    by_cases hc22_4 : x2 = 4
    · have hf := ip hc22_4 hf
      refine lv_tableIn (tgt := 94) hx hb d_EventLog_event_22 (by rw [hc22_4]; decide) (by rw [hc22_4]; decide) (by rw [hc22_4]; rfl) (by decide) ?_
      refine lv_aload_n hx hb d_EventLog_event_94 rfl (lv_at hl 0 rfl) ?_
      refine gt (ci := 5) (v := .ref h_events) C hH (iwT iw_EventLog) 0 rfl rfl 0 (by decide) (.tail _ wd_131) rfl d_EventLog_event_95 ?_
      refine lv_iload_n hx hb d_EventLog_event_98 rfl (lv_at hl 1 rfl) ?_
      obtain ⟨r99, hr99, hf⟩ := ob hf
      refine fnVR (rest := []) (st2 := [.long r99]) C (c_Events_sumUpTo l D cI cL h_events h_events_kinds h_events_differences h_events_partsA h_events_partsB st.1 x1 r99 hr99) (cV hts kV_Events_sumUpTo wd_585 ⟨Nat.le_of_ble_eq_true rfl, Nat.le_of_ble_eq_true rfl⟩) hH [1, 2, 3, 4, 5] rfl rfl 0 rfl rfl rfl hl.1 rfl (Nat.le_of_ble_eq_true rfl) d_EventLog_event_99 ⟨Nat.le_of_ble_eq_true rfl, Nat.le_of_ble_eq_true rfl⟩ rfl (fun H locs hH => ?_)
      have hf := Option.some.inj hf
      have hf := Sum.inr.inj hf
      subst hf
      exact rJR (v := r99) C hH d_EventLog_event_102
    have hf := im hc22_4 hf
    refine lv_tableOut (tgt := 103) hx hb d_EventLog_event_22 (by have h0 := i32n (k := 0) hc22_0 (by decide); have h1 := i32n (k := 1) hc22_1 (by decide); have h2 := i32n (k := 2) hc22_2 (by decide); have h3 := i32n (k := 3) hc22_3 (by decide); have h4 := i32n (k := 4) hc22_4 (by decide); omega) (by decide) ?_
    cases hf
  · have hf := ip hc8 hf
    cases hf
set_option maxRecDepth 100000 in
set_option maxHeartbeats 4000000 in
theorem t_EventLog_event (l : Launch) (hfl : l.flags = pinnedFlags ++ [noTraceFlag]) (D : va_G) (cI cL : ClassId) (h h_events h_events_kinds h_events_differences h_events_partsA h_events_partsB h_spare h_spare_kinds h_spare_differences h_spare_partsA h_spare_partsB h_log h_log_row h_packer h_packer_past h_packer_past_typed h_reader h_reader_past h_reader_past_typed : Nat) (st : S_EventLog) (x1 : Int32) (x2 : Int32) (k : Nat) (hf : f_EventLog_event st x1 x2 = some (.inl k)) :
    FnT l D vwCl [(cI, .int), (cL, .long)] y_EventLog_event ws_EventLog_event { frames := 6, cells := 1, slots := 6, locals := 83 } [.ref h, .int x1, .int x2] [(h, .inr (5, [.ref h_events, .ref h_spare, .ref h_log, .ref h_packer, .ref h_reader])), (h_events, .inr (2, [.ref h_events_kinds, .ref h_events_differences, .ref h_events_partsA, .ref h_events_partsB, .int st.1.2.2.2.2])), (h_events_kinds, .inl (cI, 300, .inl st.1.1)), (h_events_differences, .inl (cL, 300, .inr (.inl st.1.2.1))), (h_events_partsA, .inl (cL, 300, .inr (.inl st.1.2.2.1))), (h_events_partsB, .inl (cI, 300, .inl st.1.2.2.2.1)), (h_spare, .inr (2, [.ref h_spare_kinds, .ref h_spare_differences, .ref h_spare_partsA, .ref h_spare_partsB, .int st.2.1.2.2.2.2])), (h_spare_kinds, .inl (cI, 300, .inl st.2.1.1)), (h_spare_differences, .inl (cL, 300, .inr (.inl st.2.1.2.1))), (h_spare_partsA, .inl (cL, 300, .inr (.inl st.2.1.2.2.1))), (h_spare_partsB, .inl (cI, 300, .inl st.2.1.2.2.2.1)), (h_log, .inr (0, [.ref h_log_row, .int st.2.2.1.2])), (h_log_row, .inl (cI, 5000, .inl st.2.2.1.1)), (h_packer, .inr (3, [.ref h_log, .ref h_packer_past, .int (bI st.2.2.2.1.2.1), .int st.2.2.2.1.2.2.1, .int st.2.2.2.1.2.2.2.1, .int st.2.2.2.1.2.2.2.2.1, .int st.2.2.2.1.2.2.2.2.2.1, .int st.2.2.2.1.2.2.2.2.2.2])), (h_packer_past, .inr (1, [.ref h_packer_past_typed, .int st.2.2.2.1.1.2.1, .int st.2.2.2.1.1.2.2])), (h_packer_past_typed, .inl (cI, 300, .inl st.2.2.2.1.1.1)), (h_reader, .inr (4, [.ref h_log, .ref h_reader_past, .int st.2.2.2.2.2.1, .int st.2.2.2.2.2.2.1, .int st.2.2.2.2.2.2.2])), (h_reader_past, .inr (1, [.ref h_reader_past_typed, .int st.2.2.2.2.1.2.1, .int st.2.2.2.2.1.2.2])), (h_reader_past_typed, .inl (cI, 300, .inl st.2.2.2.2.1.1))] (TE [("EventLog", 123, "no such event"), ("EventLog", 142, "nothing that an event has")]) (exN k) := by
  refine FnT.ofW (cc := b_EventLog_event) (maxL := 3) (ret := (some .long)) (by decide) rfl (Nat.le_of_ble_eq_true rfl) ?_
  intro p e s m below meth c A ls C hH hE hAe hex hl
  have hl : lv_has ls 3 [(0, .ref h), (1, .int x1), (2, .int x2)] := hl
  obtain ⟨hx, hb, hr, hml, hown, hts, hlk, hK, hA⟩ := id C
  unfold f_EventLog_event at hf
  refine lv_aload_n hx hb d_EventLog_event_0 rfl (lv_at hl 0 rfl) ?_
  refine gt (ci := 5) (v := .ref h_events) C hH (iwT iw_EventLog) 0 rfl rfl 0 (by decide) (.tail _ wd_131) rfl d_EventLog_event_1 ?_
  refine lv_iload_n hx hb d_EventLog_event_4 rfl (lv_at hl 1 rfl) ?_
  refine fnVR (rest := []) (st2 := [.int (bI (f_Events_has st.1 x1))]) C (c_Events_has l D cI cL h_events h_events_kinds h_events_differences h_events_partsA h_events_partsB st.1 x1 _ rfl) (cV hts kV_Events_has wd_564 ⟨Nat.le_of_ble_eq_true rfl, Nat.le_of_ble_eq_true rfl⟩) hH [1, 2, 3, 4, 5] rfl rfl 0 rfl rfl rfl hl.1 rfl (Nat.le_of_ble_eq_true rfl) d_EventLog_event_5 ⟨Nat.le_of_ble_eq_true rfl, Nat.le_of_ble_eq_true rfl⟩ rfl (fun H locs hH => ?_)
  refine lv_if_ne (tgt := 21) hx hb d_EventLog_event_8 (by decide) (fun hc8 => ?_) (fun hc8 => ?_)
  · have hf := im hc8 hf
    refine lv_iload_n hx hb d_EventLog_event_21 rfl (lv_at hl 2 rfl) ?_
    by_cases hc22_0 : x2 = 0
    · have hf := ip hc22_0 hf
      refine lv_tableIn (tgt := 56) hx hb d_EventLog_event_22 (by rw [hc22_0]; decide) (by rw [hc22_0]; decide) (by rw [hc22_0]; rfl) (by decide) ?_
      refine lv_aload_n hx hb d_EventLog_event_56 rfl (lv_at hl 0 rfl) ?_
      refine gt (ci := 5) (v := .ref h_events) C hH (iwT iw_EventLog) 0 rfl rfl 0 (by decide) (.tail _ wd_131) rfl d_EventLog_event_57 ?_
      refine lv_iload_n hx hb d_EventLog_event_60 rfl (lv_at hl 1 rfl) ?_
      refine fnVR (rest := []) (st2 := [.int (f_Events_kind st.1 x1)]) C (c_Events_kind l D cI cL h_events h_events_kinds h_events_differences h_events_partsA h_events_partsB st.1 x1 _ rfl) (cV hts kV_Events_kind wd_581 ⟨Nat.le_of_ble_eq_true rfl, Nat.le_of_ble_eq_true rfl⟩) hH [1, 2, 3, 4, 5] rfl rfl 0 rfl rfl rfl hl.1 rfl (Nat.le_of_ble_eq_true rfl) d_EventLog_event_61 ⟨Nat.le_of_ble_eq_true rfl, Nat.le_of_ble_eq_true rfl⟩ rfl (fun H locs hH => ?_)
      refine lv_i2l (v := (f_Events_kind st.1 x1).toInt64) hx hb d_EventLog_event_64 rfl ?_
      cases hf
    have hf := im hc22_0 hf
    by_cases hc22_1 : x2 = 1
    · have hf := ip hc22_1 hf
      refine lv_tableIn (tgt := 66) hx hb d_EventLog_event_22 (by rw [hc22_1]; decide) (by rw [hc22_1]; decide) (by rw [hc22_1]; rfl) (by decide) ?_
      refine lv_aload_n hx hb d_EventLog_event_66 rfl (lv_at hl 0 rfl) ?_
      refine gt (ci := 5) (v := .ref h_events) C hH (iwT iw_EventLog) 0 rfl rfl 0 (by decide) (.tail _ wd_131) rfl d_EventLog_event_67 ?_
      refine lv_iload_n hx hb d_EventLog_event_70 rfl (lv_at hl 1 rfl) ?_
      refine fnVR (rest := []) (st2 := [.long (f_Events_difference st.1 x1)]) C (c_Events_difference l D cI cL h_events h_events_kinds h_events_differences h_events_partsA h_events_partsB st.1 x1 _ rfl) (cV hts kV_Events_difference wd_582 ⟨Nat.le_of_ble_eq_true rfl, Nat.le_of_ble_eq_true rfl⟩) hH [1, 2, 3, 4, 5] rfl rfl 0 rfl rfl rfl hl.1 rfl (Nat.le_of_ble_eq_true rfl) d_EventLog_event_71 ⟨Nat.le_of_ble_eq_true rfl, Nat.le_of_ble_eq_true rfl⟩ rfl (fun H locs hH => ?_)
      cases hf
    have hf := im hc22_1 hf
    by_cases hc22_2 : x2 = 2
    · have hf := ip hc22_2 hf
      refine lv_tableIn (tgt := 75) hx hb d_EventLog_event_22 (by rw [hc22_2]; decide) (by rw [hc22_2]; decide) (by rw [hc22_2]; rfl) (by decide) ?_
      refine lv_aload_n hx hb d_EventLog_event_75 rfl (lv_at hl 0 rfl) ?_
      refine gt (ci := 5) (v := .ref h_events) C hH (iwT iw_EventLog) 0 rfl rfl 0 (by decide) (.tail _ wd_131) rfl d_EventLog_event_76 ?_
      refine lv_iload_n hx hb d_EventLog_event_79 rfl (lv_at hl 1 rfl) ?_
      refine fnVR (rest := []) (st2 := [.long (f_Events_a st.1 x1)]) C (c_Events_a l D cI cL h_events h_events_kinds h_events_differences h_events_partsA h_events_partsB st.1 x1 _ rfl) (cV hts kV_Events_a wd_583 ⟨Nat.le_of_ble_eq_true rfl, Nat.le_of_ble_eq_true rfl⟩) hH [1, 2, 3, 4, 5] rfl rfl 0 rfl rfl rfl hl.1 rfl (Nat.le_of_ble_eq_true rfl) d_EventLog_event_80 ⟨Nat.le_of_ble_eq_true rfl, Nat.le_of_ble_eq_true rfl⟩ rfl (fun H locs hH => ?_)
      cases hf
    have hf := im hc22_2 hf
    by_cases hc22_3 : x2 = 3
    · have hf := ip hc22_3 hf
      refine lv_tableIn (tgt := 84) hx hb d_EventLog_event_22 (by rw [hc22_3]; decide) (by rw [hc22_3]; decide) (by rw [hc22_3]; rfl) (by decide) ?_
      refine lv_aload_n hx hb d_EventLog_event_84 rfl (lv_at hl 0 rfl) ?_
      refine gt (ci := 5) (v := .ref h_events) C hH (iwT iw_EventLog) 0 rfl rfl 0 (by decide) (.tail _ wd_131) rfl d_EventLog_event_85 ?_
      refine lv_iload_n hx hb d_EventLog_event_88 rfl (lv_at hl 1 rfl) ?_
      refine fnVR (rest := []) (st2 := [.int (f_Events_b st.1 x1)]) C (c_Events_b l D cI cL h_events h_events_kinds h_events_differences h_events_partsA h_events_partsB st.1 x1 _ rfl) (cV hts kV_Events_b wd_584 ⟨Nat.le_of_ble_eq_true rfl, Nat.le_of_ble_eq_true rfl⟩) hH [1, 2, 3, 4, 5] rfl rfl 0 rfl rfl rfl hl.1 rfl (Nat.le_of_ble_eq_true rfl) d_EventLog_event_89 ⟨Nat.le_of_ble_eq_true rfl, Nat.le_of_ble_eq_true rfl⟩ rfl (fun H locs hH => ?_)
      refine lv_i2l (v := (f_Events_b st.1 x1).toInt64) hx hb d_EventLog_event_92 rfl ?_
      cases hf
    have hf := im hc22_3 hf
    by_cases hc22_4 : x2 = 4
    · have hf := ip hc22_4 hf
      refine lv_tableIn (tgt := 94) hx hb d_EventLog_event_22 (by rw [hc22_4]; decide) (by rw [hc22_4]; decide) (by rw [hc22_4]; rfl) (by decide) ?_
      refine lv_aload_n hx hb d_EventLog_event_94 rfl (lv_at hl 0 rfl) ?_
      refine gt (ci := 5) (v := .ref h_events) C hH (iwT iw_EventLog) 0 rfl rfl 0 (by decide) (.tail _ wd_131) rfl d_EventLog_event_95 ?_
      refine lv_iload_n hx hb d_EventLog_event_98 rfl (lv_at hl 1 rfl) ?_
      obtain ⟨r99, hr99, hf⟩ := ob hf
      refine fnVR (rest := []) (st2 := [.long r99]) C (c_Events_sumUpTo l D cI cL h_events h_events_kinds h_events_differences h_events_partsA h_events_partsB st.1 x1 r99 hr99) (cV hts kV_Events_sumUpTo wd_585 ⟨Nat.le_of_ble_eq_true rfl, Nat.le_of_ble_eq_true rfl⟩) hH [1, 2, 3, 4, 5] rfl rfl 0 rfl rfl rfl hl.1 rfl (Nat.le_of_ble_eq_true rfl) d_EventLog_event_99 ⟨Nat.le_of_ble_eq_true rfl, Nat.le_of_ble_eq_true rfl⟩ rfl (fun H locs hH => ?_)
      cases hf
    have hf := im hc22_4 hf
    refine lv_tableOut (tgt := 103) hx hb d_EventLog_event_22 (by have h0 := i32n (k := 0) hc22_0 (by decide); have h1 := i32n (k := 1) hc22_1 (by decide); have h2 := i32n (k := 2) hc22_2 (by decide); have h3 := i32n (k := 3) hc22_3 (by decide); have h4 := i32n (k := 4) hc22_4 (by decide); omega) (by decide) ?_
    have hf := Option.some.inj hf
    have hf := Sum.inl.inj hf
    subst hf
    exact thr1 (ic := 50) hfl C hH hAe hex hl.1 hE 1 rfl wd_448 (.tail _ wd_405) ⟨Nat.le_of_ble_eq_true rfl, Nat.le_of_ble_eq_true rfl, Nat.le_of_ble_eq_true rfl, Nat.le_of_ble_eq_true rfl⟩ d_EventLog_event_103 d_EventLog_event_106 d_EventLog_event_107 d_EventLog_event_109 d_EventLog_event_112
  · have hf := ip hc8 hf
    have hf := Option.some.inj hf
    have hf := Sum.inl.inj hf
    subst hf
    exact thr4 (ic := 125) hfl C hH hAe hex hl.1 hE 0 rfl wd_575 (.tail _ wd_565) ⟨Nat.le_of_ble_eq_true rfl, Nat.le_of_ble_eq_true rfl, Nat.le_of_ble_eq_true rfl, Nat.le_of_ble_eq_true rfl⟩ d_EventLog_event_11 d_EventLog_event_14 d_EventLog_event_15 d_EventLog_event_17 d_EventLog_event_20
def f_EventLog_at (st : S_EventLog) (x1 : Int64) : Option (Int32) :=
  (f_Events_lastWithSumUpTo st.1 x1).bind (fun r5 => some r5)
set_option maxRecDepth 100000 in
set_option maxHeartbeats 4000000 in
theorem c_EventLog_at (l : Launch) (D : va_G) (cI cL : ClassId) (h h_events h_events_kinds h_events_differences h_events_partsA h_events_partsB h_spare h_spare_kinds h_spare_differences h_spare_partsA h_spare_partsB h_log h_log_row h_packer h_packer_past h_packer_past_typed h_reader h_reader_past h_reader_past_typed : Nat) (st : S_EventLog) (x1 : Int64) (res : Int32) (hf : f_EventLog_at st x1 = some res) :
    FnR l D vwCl [(cI, .int), (cL, .long)] y_EventLog_at ws_EventLog_at { frames := 3, cells := 0, slots := 0, locals := 67 } [.ref h, .long x1] [(h, .inr (5, [.ref h_events, .ref h_spare, .ref h_log, .ref h_packer, .ref h_reader])), (h_events, .inr (2, [.ref h_events_kinds, .ref h_events_differences, .ref h_events_partsA, .ref h_events_partsB, .int st.1.2.2.2.2])), (h_events_kinds, .inl (cI, 300, .inl st.1.1)), (h_events_differences, .inl (cL, 300, .inr (.inl st.1.2.1))), (h_events_partsA, .inl (cL, 300, .inr (.inl st.1.2.2.1))), (h_events_partsB, .inl (cI, 300, .inl st.1.2.2.2.1)), (h_spare, .inr (2, [.ref h_spare_kinds, .ref h_spare_differences, .ref h_spare_partsA, .ref h_spare_partsB, .int st.2.1.2.2.2.2])), (h_spare_kinds, .inl (cI, 300, .inl st.2.1.1)), (h_spare_differences, .inl (cL, 300, .inr (.inl st.2.1.2.1))), (h_spare_partsA, .inl (cL, 300, .inr (.inl st.2.1.2.2.1))), (h_spare_partsB, .inl (cI, 300, .inl st.2.1.2.2.2.1)), (h_log, .inr (0, [.ref h_log_row, .int st.2.2.1.2])), (h_log_row, .inl (cI, 5000, .inl st.2.2.1.1)), (h_packer, .inr (3, [.ref h_log, .ref h_packer_past, .int (bI st.2.2.2.1.2.1), .int st.2.2.2.1.2.2.1, .int st.2.2.2.1.2.2.2.1, .int st.2.2.2.1.2.2.2.2.1, .int st.2.2.2.1.2.2.2.2.2.1, .int st.2.2.2.1.2.2.2.2.2.2])), (h_packer_past, .inr (1, [.ref h_packer_past_typed, .int st.2.2.2.1.1.2.1, .int st.2.2.2.1.1.2.2])), (h_packer_past_typed, .inl (cI, 300, .inl st.2.2.2.1.1.1)), (h_reader, .inr (4, [.ref h_log, .ref h_reader_past, .int st.2.2.2.2.2.1, .int st.2.2.2.2.2.2.1, .int st.2.2.2.2.2.2.2])), (h_reader_past, .inr (1, [.ref h_reader_past_typed, .int st.2.2.2.2.1.2.1, .int st.2.2.2.2.1.2.2])), (h_reader_past_typed, .inl (cI, 300, .inl st.2.2.2.2.1.1))] (some (.int res)) := by
  refine FnR.ofW (cc := b_EventLog_at) (maxL := 3) (ret := (some .int)) (by decide) rfl (Nat.le_of_ble_eq_true rfl) ?_
  intro p e s m below meth c A ls C hH hl
  have hl : lv_has ls 3 [(0, .ref h), (1, .long x1)] := hl
  obtain ⟨hx, hb, hr, hml, hown, hts, hlk, hK, hA⟩ := id C
  unfold f_EventLog_at at hf
  refine lv_aload_n hx hb d_EventLog_at_0 rfl (lv_at hl 0 rfl) ?_
  refine gt (ci := 5) (v := .ref h_events) C hH (iwT iw_EventLog) 0 rfl rfl 0 (by decide) (.tail _ wd_131) rfl d_EventLog_at_1 ?_
  refine lv_lload_n hx hb d_EventLog_at_4 rfl (lv_at hl 1 rfl) ?_
  obtain ⟨r5, hr5, hf⟩ := ob hf
  refine fnVR (rest := []) (st2 := [.int r5]) C (c_Events_lastWithSumUpTo l D cI cL h_events h_events_kinds h_events_differences h_events_partsA h_events_partsB st.1 x1 r5 hr5) (cV hts kV_Events_lastWithSumUpTo wd_361 ⟨Nat.le_of_ble_eq_true rfl, Nat.le_of_ble_eq_true rfl⟩) hH [1, 2, 3, 4, 5] rfl rfl 0 rfl rfl rfl hl.1 rfl (Nat.le_of_ble_eq_true rfl) d_EventLog_at_5 ⟨Nat.le_of_ble_eq_true rfl, Nat.le_of_ble_eq_true rfl⟩ rfl (fun H locs hH => ?_)
  have hf := Option.some.inj hf
  subst hf
  exact rIR (v := r5) C hH d_EventLog_at_8
def f_EventLog_count (st : S_EventLog) (x1 : Int32) : Option (Int32 × S_EventLog) :=
  if x1 = 0 then (some ((f_Events_number st.1, st))) else (if x1 = (1 : Int32) then (some ((f_Bytes_length st.2.2.1, st))) else ((f_Packer_run ((st.2.2.1, st.2.2.2.1.1, st.2.2.2.1.2.1, st.2.2.2.1.2.2.1, st.2.2.2.1.2.2.2.1, st.2.2.2.1.2.2.2.2.1, st.2.2.2.1.2.2.2.2.2.1, st.2.2.2.1.2.2.2.2.2.2)) st.1 false).bind (fun r34 => if x1 = 2 then (some ((f_Packer_entries r34, (st.1, st.2.1, r34.1, r34.2, st.2.2.2.2)))) else if x1 = 3 then (some ((f_Packer_runs r34, (st.1, st.2.1, r34.1, r34.2, st.2.2.2.2)))) else if x1 = 4 then (some ((f_Packer_sames r34, (st.1, st.2.1, r34.1, r34.2, st.2.2.2.2)))) else if x1 = 5 then (some ((f_Packer_repeats r34, (st.1, st.2.1, r34.1, r34.2, st.2.2.2.2)))) else (some (((-1), (st.1, st.2.1, r34.1, r34.2, st.2.2.2.2)))))))
set_option maxRecDepth 100000 in
set_option maxHeartbeats 4000000 in
theorem c_EventLog_count (l : Launch) (D : va_G) (cI cL : ClassId) (h h_events h_events_kinds h_events_differences h_events_partsA h_events_partsB h_spare h_spare_kinds h_spare_differences h_spare_partsA h_spare_partsB h_log h_log_row h_packer h_packer_past h_packer_past_typed h_reader h_reader_past h_reader_past_typed : Nat) (st : S_EventLog) (x1 : Int32) (res : Int32 × S_EventLog) (hf : f_EventLog_count st x1 = some res) :
    Fn l D vwCl [(cI, .int), (cL, .long)] y_EventLog_count ws_EventLog_count { frames := 6, cells := 0, slots := 0, locals := 139 } [.ref h, .int x1] [(h, .inr (5, [.ref h_events, .ref h_spare, .ref h_log, .ref h_packer, .ref h_reader])), (h_events, .inr (2, [.ref h_events_kinds, .ref h_events_differences, .ref h_events_partsA, .ref h_events_partsB, .int st.1.2.2.2.2])), (h_events_kinds, .inl (cI, 300, .inl st.1.1)), (h_events_differences, .inl (cL, 300, .inr (.inl st.1.2.1))), (h_events_partsA, .inl (cL, 300, .inr (.inl st.1.2.2.1))), (h_events_partsB, .inl (cI, 300, .inl st.1.2.2.2.1)), (h_spare, .inr (2, [.ref h_spare_kinds, .ref h_spare_differences, .ref h_spare_partsA, .ref h_spare_partsB, .int st.2.1.2.2.2.2])), (h_spare_kinds, .inl (cI, 300, .inl st.2.1.1)), (h_spare_differences, .inl (cL, 300, .inr (.inl st.2.1.2.1))), (h_spare_partsA, .inl (cL, 300, .inr (.inl st.2.1.2.2.1))), (h_spare_partsB, .inl (cI, 300, .inl st.2.1.2.2.2.1)), (h_log, .inr (0, [.ref h_log_row, .int st.2.2.1.2])), (h_log_row, .inl (cI, 5000, .inl st.2.2.1.1)), (h_packer, .inr (3, [.ref h_log, .ref h_packer_past, .int (bI st.2.2.2.1.2.1), .int st.2.2.2.1.2.2.1, .int st.2.2.2.1.2.2.2.1, .int st.2.2.2.1.2.2.2.2.1, .int st.2.2.2.1.2.2.2.2.2.1, .int st.2.2.2.1.2.2.2.2.2.2])), (h_packer_past, .inr (1, [.ref h_packer_past_typed, .int st.2.2.2.1.1.2.1, .int st.2.2.2.1.1.2.2])), (h_packer_past_typed, .inl (cI, 300, .inl st.2.2.2.1.1.1)), (h_reader, .inr (4, [.ref h_log, .ref h_reader_past, .int st.2.2.2.2.2.1, .int st.2.2.2.2.2.2.1, .int st.2.2.2.2.2.2.2])), (h_reader_past, .inr (1, [.ref h_reader_past_typed, .int st.2.2.2.2.1.2.1, .int st.2.2.2.2.1.2.2])), (h_reader_past_typed, .inl (cI, 300, .inl st.2.2.2.2.1.1))] (some (.int res.1)) [(h, .inr (5, [.ref h_events, .ref h_spare, .ref h_log, .ref h_packer, .ref h_reader])), (h_events, .inr (2, [.ref h_events_kinds, .ref h_events_differences, .ref h_events_partsA, .ref h_events_partsB, .int res.2.1.2.2.2.2])), (h_events_kinds, .inl (cI, 300, .inl res.2.1.1)), (h_events_differences, .inl (cL, 300, .inr (.inl res.2.1.2.1))), (h_events_partsA, .inl (cL, 300, .inr (.inl res.2.1.2.2.1))), (h_events_partsB, .inl (cI, 300, .inl res.2.1.2.2.2.1)), (h_spare, .inr (2, [.ref h_spare_kinds, .ref h_spare_differences, .ref h_spare_partsA, .ref h_spare_partsB, .int res.2.2.1.2.2.2.2])), (h_spare_kinds, .inl (cI, 300, .inl res.2.2.1.1)), (h_spare_differences, .inl (cL, 300, .inr (.inl res.2.2.1.2.1))), (h_spare_partsA, .inl (cL, 300, .inr (.inl res.2.2.1.2.2.1))), (h_spare_partsB, .inl (cI, 300, .inl res.2.2.1.2.2.2.1)), (h_log, .inr (0, [.ref h_log_row, .int res.2.2.2.1.2])), (h_log_row, .inl (cI, 5000, .inl res.2.2.2.1.1)), (h_packer, .inr (3, [.ref h_log, .ref h_packer_past, .int (bI res.2.2.2.2.1.2.1), .int res.2.2.2.2.1.2.2.1, .int res.2.2.2.2.1.2.2.2.1, .int res.2.2.2.2.1.2.2.2.2.1, .int res.2.2.2.2.1.2.2.2.2.2.1, .int res.2.2.2.2.1.2.2.2.2.2.2])), (h_packer_past, .inr (1, [.ref h_packer_past_typed, .int res.2.2.2.2.1.1.2.1, .int res.2.2.2.2.1.1.2.2])), (h_packer_past_typed, .inl (cI, 300, .inl res.2.2.2.2.1.1.1)), (h_reader, .inr (4, [.ref h_log, .ref h_reader_past, .int res.2.2.2.2.2.2.1, .int res.2.2.2.2.2.2.2.1, .int res.2.2.2.2.2.2.2.2])), (h_reader_past, .inr (1, [.ref h_reader_past_typed, .int res.2.2.2.2.2.1.2.1, .int res.2.2.2.2.2.1.2.2])), (h_reader_past_typed, .inl (cI, 300, .inl res.2.2.2.2.2.1.1))] := by
  refine Fn.ofW (cc := b_EventLog_count) (maxL := 2) (ret := (some .int)) (by decide) rfl (Nat.le_of_ble_eq_true rfl) ?_
  intro p e s m below meth c A ls C hH hinit hl
  have hl : lv_has ls 2 [(0, .ref h), (1, .int x1)] := hl
  obtain ⟨hx, hb, hr, hml, hown, hts, hlk, hK, hA⟩ := id C
  unfold f_EventLog_count at hf
  refine lv_iload_n hx hb d_EventLog_count_0 rfl (lv_at hl 1 rfl) ?_
  refine lv_if_ne (tgt := 12) hx hb d_EventLog_count_1 (by decide) (fun hc1 => ?_) (fun hc1 => ?_)
  · have hf := im hc1 hf
    refine lv_iload_n hx hb d_EventLog_count_12 rfl (lv_at hl 1 rfl) ?_
    refine lv_iconst (v := 1) hx hb d_EventLog_count_13 (by decide) ?_
    refine lv_icmp_ne (tgt := 25) hx hb d_EventLog_count_14 (by decide) (fun hc14 => ?_) (fun hc14 => ?_)
    · have hf := im hc14 hf
      refine lv_aload_n hx hb d_EventLog_count_25 rfl (lv_at hl 0 rfl) ?_
      refine gt (ci := 5) (v := .ref h_packer) C hH (iwT iw_EventLog) 0 rfl rfl 3 (by decide) (.tail _ wd_134) rfl d_EventLog_count_26 ?_
      refine lv_aload_n hx hb d_EventLog_count_29 rfl (lv_at hl 0 rfl) ?_
      refine gt (ci := 5) (v := .ref h_events) C hH (iwT iw_EventLog) 0 rfl rfl 0 (by decide) (.tail _ wd_131) rfl d_EventLog_count_30 ?_
      refine lv_iconst (v := 0) hx hb d_EventLog_count_33 (by decide) ?_
      obtain ⟨r34, hr34, hf⟩ := ob hf
      refine fnV (rest := []) (wr := [(h, .inr (5, [.ref h_events, .ref h_spare, .ref h_log, .ref h_packer, .ref h_reader])), (h_spare, .inr (2, [.ref h_spare_kinds, .ref h_spare_differences, .ref h_spare_partsA, .ref h_spare_partsB, .int st.2.1.2.2.2.2])), (h_spare_kinds, .inl (cI, 300, .inl st.2.1.1)), (h_spare_differences, .inl (cL, 300, .inr (.inl st.2.1.2.1))), (h_spare_partsA, .inl (cL, 300, .inr (.inl st.2.1.2.2.1))), (h_spare_partsB, .inl (cI, 300, .inl st.2.1.2.2.2.1)), (h_reader, .inr (4, [.ref h_log, .ref h_reader_past, .int st.2.2.2.2.2.1, .int st.2.2.2.2.2.2.1, .int st.2.2.2.2.2.2.2])), (h_reader_past, .inr (1, [.ref h_reader_past_typed, .int st.2.2.2.2.1.2.1, .int st.2.2.2.2.1.2.2])), (h_reader_past_typed, .inl (cI, 300, .inl st.2.2.2.2.1.1))]) (w2 := [(h, .inr (5, [.ref h_events, .ref h_spare, .ref h_log, .ref h_packer, .ref h_reader])), (h_events, .inr (2, [.ref h_events_kinds, .ref h_events_differences, .ref h_events_partsA, .ref h_events_partsB, .int st.1.2.2.2.2])), (h_events_kinds, .inl (cI, 300, .inl st.1.1)), (h_events_differences, .inl (cL, 300, .inr (.inl st.1.2.1))), (h_events_partsA, .inl (cL, 300, .inr (.inl st.1.2.2.1))), (h_events_partsB, .inl (cI, 300, .inl st.1.2.2.2.1)), (h_spare, .inr (2, [.ref h_spare_kinds, .ref h_spare_differences, .ref h_spare_partsA, .ref h_spare_partsB, .int st.2.1.2.2.2.2])), (h_spare_kinds, .inl (cI, 300, .inl st.2.1.1)), (h_spare_differences, .inl (cL, 300, .inr (.inl st.2.1.2.1))), (h_spare_partsA, .inl (cL, 300, .inr (.inl st.2.1.2.2.1))), (h_spare_partsB, .inl (cI, 300, .inl st.2.1.2.2.2.1)), (h_log, .inr (0, [.ref h_log_row, .int r34.1.2])), (h_log_row, .inl (cI, 5000, .inl r34.1.1)), (h_packer, .inr (3, [.ref h_log, .ref h_packer_past, .int (bI r34.2.2.1), .int r34.2.2.2.1, .int r34.2.2.2.2.1, .int r34.2.2.2.2.2.1, .int r34.2.2.2.2.2.2.1, .int r34.2.2.2.2.2.2.2])), (h_packer_past, .inr (1, [.ref h_packer_past_typed, .int r34.2.1.2.1, .int r34.2.1.2.2])), (h_packer_past_typed, .inl (cI, 300, .inl r34.2.1.1)), (h_reader, .inr (4, [.ref h_log, .ref h_reader_past, .int st.2.2.2.2.2.1, .int st.2.2.2.2.2.2.1, .int st.2.2.2.2.2.2.2])), (h_reader_past, .inr (1, [.ref h_reader_past_typed, .int st.2.2.2.2.1.2.1, .int st.2.2.2.2.1.2.2])), (h_reader_past_typed, .inl (cI, 300, .inl st.2.2.2.2.1.1))]) (st2 := []) C (c_Packer_run l D cI cL h_packer h_log h_log_row h_packer_past h_packer_past_typed h_events h_events_kinds h_events_differences h_events_partsA h_events_partsB ((st.2.2.1, st.2.2.2.1.1, st.2.2.2.1.2.1, st.2.2.2.1.2.2.1, st.2.2.2.1.2.2.2.1, st.2.2.2.1.2.2.2.2.1, st.2.2.2.1.2.2.2.2.2.1, st.2.2.2.1.2.2.2.2.2.2)) st.1 false r34 hr34) (cV hts kV_Packer_run wd_151 ⟨Nat.le_of_ble_eq_true rfl, Nat.le_of_ble_eq_true rfl⟩) hH [13, 11, 12, 14, 15, 1, 2, 3, 4, 5] [0, 6, 7, 8, 9, 10, 16, 17, 18] [0, 14, 15, 16, 17, 18, 1, 2, 3, 4, 5, 10, 11, 9, 12, 13, 6, 7, 8] rfl rfl rfl rfl (by decide) rfl rfl 0 rfl rfl rfl hl.1 rfl (Nat.le_of_ble_eq_true rfl) d_EventLog_count_34 ⟨Nat.le_of_ble_eq_true rfl, Nat.le_of_ble_eq_true rfl⟩ rfl (fun H locs hH => ?_)
      refine lv_iload_n hx hb d_EventLog_count_37 rfl (lv_at hl 1 rfl) ?_
      by_cases hc38_0 : x1 = 2
      · have hf := ip hc38_0 hf
        refine lv_tableIn (tgt := 68) hx hb d_EventLog_count_38 (by rw [hc38_0]; decide) (by rw [hc38_0]; decide) (by rw [hc38_0]; rfl) (by decide) ?_
        refine lv_aload_n hx hb d_EventLog_count_68 rfl (lv_at hl 0 rfl) ?_
        refine gt (ci := 5) (v := .ref h_packer) C hH (iwT iw_EventLog) 0 rfl rfl 3 (by decide) (.tail _ wd_134) rfl d_EventLog_count_69 ?_
        refine fnVR (rest := []) (st2 := [.int (f_Packer_entries r34)]) C (c_Packer_entries l D cI cL h_packer h_log h_log_row h_packer_past h_packer_past_typed r34 _ rfl) (cV hts kV_Packer_entries wd_371 ⟨Nat.le_of_ble_eq_true rfl, Nat.le_of_ble_eq_true rfl⟩) hH [13, 11, 12, 14, 15] rfl rfl 0 rfl rfl rfl hl.1 rfl (Nat.le_of_ble_eq_true rfl) d_EventLog_count_72 ⟨Nat.le_of_ble_eq_true rfl, Nat.le_of_ble_eq_true rfl⟩ rfl (fun H locs hH => ?_)
        have hf := Option.some.inj hf
        subst hf
        exact rI (v := f_Packer_entries r34) C hH d_EventLog_count_75
      have hf := im hc38_0 hf
      by_cases hc38_1 : x1 = 3
      · have hf := ip hc38_1 hf
        refine lv_tableIn (tgt := 76) hx hb d_EventLog_count_38 (by rw [hc38_1]; decide) (by rw [hc38_1]; decide) (by rw [hc38_1]; rfl) (by decide) ?_
        refine lv_aload_n hx hb d_EventLog_count_76 rfl (lv_at hl 0 rfl) ?_
        refine gt (ci := 5) (v := .ref h_packer) C hH (iwT iw_EventLog) 0 rfl rfl 3 (by decide) (.tail _ wd_134) rfl d_EventLog_count_77 ?_
        refine fnVR (rest := []) (st2 := [.int (f_Packer_runs r34)]) C (c_Packer_runs l D cI cL h_packer h_log h_log_row h_packer_past h_packer_past_typed r34 _ rfl) (cV hts kV_Packer_runs wd_375 ⟨Nat.le_of_ble_eq_true rfl, Nat.le_of_ble_eq_true rfl⟩) hH [13, 11, 12, 14, 15] rfl rfl 0 rfl rfl rfl hl.1 rfl (Nat.le_of_ble_eq_true rfl) d_EventLog_count_80 ⟨Nat.le_of_ble_eq_true rfl, Nat.le_of_ble_eq_true rfl⟩ rfl (fun H locs hH => ?_)
        have hf := Option.some.inj hf
        subst hf
        exact rI (v := f_Packer_runs r34) C hH d_EventLog_count_83
      have hf := im hc38_1 hf
      by_cases hc38_2 : x1 = 4
      · have hf := ip hc38_2 hf
        refine lv_tableIn (tgt := 84) hx hb d_EventLog_count_38 (by rw [hc38_2]; decide) (by rw [hc38_2]; decide) (by rw [hc38_2]; rfl) (by decide) ?_
        refine lv_aload_n hx hb d_EventLog_count_84 rfl (lv_at hl 0 rfl) ?_
        refine gt (ci := 5) (v := .ref h_packer) C hH (iwT iw_EventLog) 0 rfl rfl 3 (by decide) (.tail _ wd_134) rfl d_EventLog_count_85 ?_
        refine fnVR (rest := []) (st2 := [.int (f_Packer_sames r34)]) C (c_Packer_sames l D cI cL h_packer h_log h_log_row h_packer_past h_packer_past_typed r34 _ rfl) (cV hts kV_Packer_sames wd_379 ⟨Nat.le_of_ble_eq_true rfl, Nat.le_of_ble_eq_true rfl⟩) hH [13, 11, 12, 14, 15] rfl rfl 0 rfl rfl rfl hl.1 rfl (Nat.le_of_ble_eq_true rfl) d_EventLog_count_88 ⟨Nat.le_of_ble_eq_true rfl, Nat.le_of_ble_eq_true rfl⟩ rfl (fun H locs hH => ?_)
        have hf := Option.some.inj hf
        subst hf
        exact rI (v := f_Packer_sames r34) C hH d_EventLog_count_91
      have hf := im hc38_2 hf
      by_cases hc38_3 : x1 = 5
      · have hf := ip hc38_3 hf
        refine lv_tableIn (tgt := 92) hx hb d_EventLog_count_38 (by rw [hc38_3]; decide) (by rw [hc38_3]; decide) (by rw [hc38_3]; rfl) (by decide) ?_
        refine lv_aload_n hx hb d_EventLog_count_92 rfl (lv_at hl 0 rfl) ?_
        refine gt (ci := 5) (v := .ref h_packer) C hH (iwT iw_EventLog) 0 rfl rfl 3 (by decide) (.tail _ wd_134) rfl d_EventLog_count_93 ?_
        refine fnVR (rest := []) (st2 := [.int (f_Packer_repeats r34)]) C (c_Packer_repeats l D cI cL h_packer h_log h_log_row h_packer_past h_packer_past_typed r34 _ rfl) (cV hts kV_Packer_repeats wd_383 ⟨Nat.le_of_ble_eq_true rfl, Nat.le_of_ble_eq_true rfl⟩) hH [13, 11, 12, 14, 15] rfl rfl 0 rfl rfl rfl hl.1 rfl (Nat.le_of_ble_eq_true rfl) d_EventLog_count_96 ⟨Nat.le_of_ble_eq_true rfl, Nat.le_of_ble_eq_true rfl⟩ rfl (fun H locs hH => ?_)
        have hf := Option.some.inj hf
        subst hf
        exact rI (v := f_Packer_repeats r34) C hH d_EventLog_count_99
      have hf := im hc38_3 hf
      refine lv_tableOut (tgt := 100) hx hb d_EventLog_count_38 (by have h0 := i32n (k := 2) hc38_0 (by decide); have h1 := i32n (k := 3) hc38_1 (by decide); have h2 := i32n (k := 4) hc38_2 (by decide); have h3 := i32n (k := 5) hc38_3 (by decide); omega) (by decide) ?_
      refine lv_iconst (v := (-1)) hx hb d_EventLog_count_100 (by decide) ?_
      have hf := Option.some.inj hf
      subst hf
      exact rI (v := (-1)) C hH d_EventLog_count_101
    · have hf := ip hc14 hf
      refine lv_aload_n hx hb d_EventLog_count_17 rfl (lv_at hl 0 rfl) ?_
      refine gt (ci := 5) (v := .ref h_log) C hH (iwT iw_EventLog) 0 rfl rfl 2 (by decide) (.tail _ wd_133) rfl d_EventLog_count_18 ?_
      refine fnVR (rest := []) (st2 := [.int (f_Bytes_length st.2.2.1)]) C (c_Bytes_length l D cI cL h_log h_log_row st.2.2.1 _ rfl) (cV hts kV_Bytes_length wd_370 ⟨Nat.le_of_ble_eq_true rfl, Nat.le_of_ble_eq_true rfl⟩) hH [11, 12] rfl rfl 0 rfl rfl rfl hl.1 rfl (Nat.le_of_ble_eq_true rfl) d_EventLog_count_21 ⟨Nat.le_of_ble_eq_true rfl, Nat.le_of_ble_eq_true rfl⟩ rfl (fun H locs hH => ?_)
      have hf := Option.some.inj hf
      subst hf
      exact rI (v := f_Bytes_length st.2.2.1) C hH d_EventLog_count_24
  · have hf := ip hc1 hf
    refine lv_aload_n hx hb d_EventLog_count_4 rfl (lv_at hl 0 rfl) ?_
    refine gt (ci := 5) (v := .ref h_events) C hH (iwT iw_EventLog) 0 rfl rfl 0 (by decide) (.tail _ wd_131) rfl d_EventLog_count_5 ?_
    refine fnVR (rest := []) (st2 := [.int (f_Events_number st.1)]) C (c_Events_number l D cI cL h_events h_events_kinds h_events_differences h_events_partsA h_events_partsB st.1 _ rfl) (cV hts kV_Events_number wd_369 ⟨Nat.le_of_ble_eq_true rfl, Nat.le_of_ble_eq_true rfl⟩) hH [1, 2, 3, 4, 5] rfl rfl 0 rfl rfl rfl hl.1 rfl (Nat.le_of_ble_eq_true rfl) d_EventLog_count_8 ⟨Nat.le_of_ble_eq_true rfl, Nat.le_of_ble_eq_true rfl⟩ rfl (fun H locs hH => ?_)
    have hf := Option.some.inj hf
    subst hf
    exact rI (v := f_Events_number st.1) C hH d_EventLog_count_11
