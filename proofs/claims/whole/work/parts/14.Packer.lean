def f_Packer_bytes (st : S_Packer)  : Int32 :=
  st.2.2.2.1
set_option maxRecDepth 100000 in
set_option maxHeartbeats 4000000 in
theorem c_Packer_bytes (l : Launch) (D : va_G) (cI cL : ClassId) (h h_log h_log_row h_past h_past_typed : Nat) (st : S_Packer)  (res : Int32) (hf : f_Packer_bytes st = res) :
    FnR l D vwCl [(cI, .int), (cL, .long)] y_Packer_bytes ws_Packer_bytes { frames := 0, cells := 0, slots := 0, locals := 0 } [.ref h] [(h, .inr (3, [.ref h_log, .ref h_past, .int (bI st.2.2.1), .int st.2.2.2.1, .int st.2.2.2.2.1, .int st.2.2.2.2.2.1, .int st.2.2.2.2.2.2.1, .int st.2.2.2.2.2.2.2])), (h_log, .inr (0, [.ref h_log_row, .int st.1.2])), (h_log_row, .inl (cI, 5000, .inl st.1.1)), (h_past, .inr (1, [.ref h_past_typed, .int st.2.1.2.1, .int st.2.1.2.2])), (h_past_typed, .inl (cI, 300, .inl st.2.1.1))] (some (.int res)) := by
  refine FnR.ofW (cc := b_Packer_bytes) (maxL := 1) (ret := (some .int)) (by decide) rfl (Nat.le_of_ble_eq_true rfl) ?_
  intro p e s m below meth c A ls C hH hl
  have hl : lv_has ls 1 [(0, .ref h)] := hl
  obtain ⟨hx, hb, hr, hml, hown, hts, hlk, hK, hA⟩ := id C
  unfold f_Packer_bytes at hf
  refine lv_aload_n hx hb d_Packer_bytes_0 rfl (lv_at hl 0 rfl) ?_
  refine gt (ci := 3) (v := .int st.2.2.2.1) C hH (iwT iw_Packer) 0 rfl rfl 3 (by decide) (.tail _ wd_85) rfl d_Packer_bytes_1 ?_
  subst hf
  exact rIR (v := st.2.2.2.1) C hH d_Packer_bytes_4
def f_Packer_entries (st : S_Packer)  : Int32 :=
  st.2.2.2.2.1
set_option maxRecDepth 100000 in
set_option maxHeartbeats 4000000 in
theorem c_Packer_entries (l : Launch) (D : va_G) (cI cL : ClassId) (h h_log h_log_row h_past h_past_typed : Nat) (st : S_Packer)  (res : Int32) (hf : f_Packer_entries st = res) :
    FnR l D vwCl [(cI, .int), (cL, .long)] y_Packer_entries ws_Packer_entries { frames := 0, cells := 0, slots := 0, locals := 0 } [.ref h] [(h, .inr (3, [.ref h_log, .ref h_past, .int (bI st.2.2.1), .int st.2.2.2.1, .int st.2.2.2.2.1, .int st.2.2.2.2.2.1, .int st.2.2.2.2.2.2.1, .int st.2.2.2.2.2.2.2])), (h_log, .inr (0, [.ref h_log_row, .int st.1.2])), (h_log_row, .inl (cI, 5000, .inl st.1.1)), (h_past, .inr (1, [.ref h_past_typed, .int st.2.1.2.1, .int st.2.1.2.2])), (h_past_typed, .inl (cI, 300, .inl st.2.1.1))] (some (.int res)) := by
  refine FnR.ofW (cc := b_Packer_entries) (maxL := 1) (ret := (some .int)) (by decide) rfl (Nat.le_of_ble_eq_true rfl) ?_
  intro p e s m below meth c A ls C hH hl
  have hl : lv_has ls 1 [(0, .ref h)] := hl
  obtain ⟨hx, hb, hr, hml, hown, hts, hlk, hK, hA⟩ := id C
  unfold f_Packer_entries at hf
  refine lv_aload_n hx hb d_Packer_entries_0 rfl (lv_at hl 0 rfl) ?_
  refine gt (ci := 3) (v := .int st.2.2.2.2.1) C hH (iwT iw_Packer) 0 rfl rfl 4 (by decide) (.tail _ wd_86) rfl d_Packer_entries_1 ?_
  subst hf
  exact rIR (v := st.2.2.2.2.1) C hH d_Packer_entries_4
def f_Packer_runs (st : S_Packer)  : Int32 :=
  st.2.2.2.2.2.1
set_option maxRecDepth 100000 in
set_option maxHeartbeats 4000000 in
theorem c_Packer_runs (l : Launch) (D : va_G) (cI cL : ClassId) (h h_log h_log_row h_past h_past_typed : Nat) (st : S_Packer)  (res : Int32) (hf : f_Packer_runs st = res) :
    FnR l D vwCl [(cI, .int), (cL, .long)] y_Packer_runs ws_Packer_runs { frames := 0, cells := 0, slots := 0, locals := 0 } [.ref h] [(h, .inr (3, [.ref h_log, .ref h_past, .int (bI st.2.2.1), .int st.2.2.2.1, .int st.2.2.2.2.1, .int st.2.2.2.2.2.1, .int st.2.2.2.2.2.2.1, .int st.2.2.2.2.2.2.2])), (h_log, .inr (0, [.ref h_log_row, .int st.1.2])), (h_log_row, .inl (cI, 5000, .inl st.1.1)), (h_past, .inr (1, [.ref h_past_typed, .int st.2.1.2.1, .int st.2.1.2.2])), (h_past_typed, .inl (cI, 300, .inl st.2.1.1))] (some (.int res)) := by
  refine FnR.ofW (cc := b_Packer_runs) (maxL := 1) (ret := (some .int)) (by decide) rfl (Nat.le_of_ble_eq_true rfl) ?_
  intro p e s m below meth c A ls C hH hl
  have hl : lv_has ls 1 [(0, .ref h)] := hl
  obtain ⟨hx, hb, hr, hml, hown, hts, hlk, hK, hA⟩ := id C
  unfold f_Packer_runs at hf
  refine lv_aload_n hx hb d_Packer_runs_0 rfl (lv_at hl 0 rfl) ?_
  refine gt (ci := 3) (v := .int st.2.2.2.2.2.1) C hH (iwT iw_Packer) 0 rfl rfl 5 (by decide) (.tail _ wd_87) rfl d_Packer_runs_1 ?_
  subst hf
  exact rIR (v := st.2.2.2.2.2.1) C hH d_Packer_runs_4
def f_Packer_sames (st : S_Packer)  : Int32 :=
  st.2.2.2.2.2.2.1
set_option maxRecDepth 100000 in
set_option maxHeartbeats 4000000 in
theorem c_Packer_sames (l : Launch) (D : va_G) (cI cL : ClassId) (h h_log h_log_row h_past h_past_typed : Nat) (st : S_Packer)  (res : Int32) (hf : f_Packer_sames st = res) :
    FnR l D vwCl [(cI, .int), (cL, .long)] y_Packer_sames ws_Packer_sames { frames := 0, cells := 0, slots := 0, locals := 0 } [.ref h] [(h, .inr (3, [.ref h_log, .ref h_past, .int (bI st.2.2.1), .int st.2.2.2.1, .int st.2.2.2.2.1, .int st.2.2.2.2.2.1, .int st.2.2.2.2.2.2.1, .int st.2.2.2.2.2.2.2])), (h_log, .inr (0, [.ref h_log_row, .int st.1.2])), (h_log_row, .inl (cI, 5000, .inl st.1.1)), (h_past, .inr (1, [.ref h_past_typed, .int st.2.1.2.1, .int st.2.1.2.2])), (h_past_typed, .inl (cI, 300, .inl st.2.1.1))] (some (.int res)) := by
  refine FnR.ofW (cc := b_Packer_sames) (maxL := 1) (ret := (some .int)) (by decide) rfl (Nat.le_of_ble_eq_true rfl) ?_
  intro p e s m below meth c A ls C hH hl
  have hl : lv_has ls 1 [(0, .ref h)] := hl
  obtain ⟨hx, hb, hr, hml, hown, hts, hlk, hK, hA⟩ := id C
  unfold f_Packer_sames at hf
  refine lv_aload_n hx hb d_Packer_sames_0 rfl (lv_at hl 0 rfl) ?_
  refine gt (ci := 3) (v := .int st.2.2.2.2.2.2.1) C hH (iwT iw_Packer) 0 rfl rfl 6 (by decide) (.tail _ wd_88) rfl d_Packer_sames_1 ?_
  subst hf
  exact rIR (v := st.2.2.2.2.2.2.1) C hH d_Packer_sames_4
def f_Packer_repeats (st : S_Packer)  : Int32 :=
  st.2.2.2.2.2.2.2
set_option maxRecDepth 100000 in
set_option maxHeartbeats 4000000 in
theorem c_Packer_repeats (l : Launch) (D : va_G) (cI cL : ClassId) (h h_log h_log_row h_past h_past_typed : Nat) (st : S_Packer)  (res : Int32) (hf : f_Packer_repeats st = res) :
    FnR l D vwCl [(cI, .int), (cL, .long)] y_Packer_repeats ws_Packer_repeats { frames := 0, cells := 0, slots := 0, locals := 0 } [.ref h] [(h, .inr (3, [.ref h_log, .ref h_past, .int (bI st.2.2.1), .int st.2.2.2.1, .int st.2.2.2.2.1, .int st.2.2.2.2.2.1, .int st.2.2.2.2.2.2.1, .int st.2.2.2.2.2.2.2])), (h_log, .inr (0, [.ref h_log_row, .int st.1.2])), (h_log_row, .inl (cI, 5000, .inl st.1.1)), (h_past, .inr (1, [.ref h_past_typed, .int st.2.1.2.1, .int st.2.1.2.2])), (h_past_typed, .inl (cI, 300, .inl st.2.1.1))] (some (.int res)) := by
  refine FnR.ofW (cc := b_Packer_repeats) (maxL := 1) (ret := (some .int)) (by decide) rfl (Nat.le_of_ble_eq_true rfl) ?_
  intro p e s m below meth c A ls C hH hl
  have hl : lv_has ls 1 [(0, .ref h)] := hl
  obtain ⟨hx, hb, hr, hml, hown, hts, hlk, hK, hA⟩ := id C
  unfold f_Packer_repeats at hf
  refine lv_aload_n hx hb d_Packer_repeats_0 rfl (lv_at hl 0 rfl) ?_
  refine gt (ci := 3) (v := .int st.2.2.2.2.2.2.2) C hH (iwT iw_Packer) 0 rfl rfl 7 (by decide) (.tail _ wd_89) rfl d_Packer_repeats_1 ?_
  subst hf
  exact rIR (v := st.2.2.2.2.2.2.2) C hH d_Packer_repeats_4
def f_Packer_begin_b20 (st : S_Packer)  : S_Packer :=
  lt1 (f_Past_forget st.2.1) (fun r24 => (st.1, r24, st.2.2.1, 0, 0, 0, 0, 0))
set_option maxRecDepth 100000 in
set_option maxHeartbeats 4000000 in
theorem w_Packer_begin_b20 (l : Launch) (D : va_G) (cI cL : ClassId) (h h_log h_log_row h_past h_past_typed : Nat) {p : Program} {e : Env} {s : State} {m : MethodId} {args : Array Value} {below : List Frame} {meth : Method} {c : Code} {A : Nat → Prop} (C : Cx p s m args meth c D vwCl [(cI, .int), (cL, .long)] A b_Packer_begin 2 none ws_Packer_begin y_Packer_begin.cls) : ∀ (st : S_Packer)  (res : S_Packer), f_Packer_begin_b20 st = res → ∀ (H : Heap) (locs : List Loc) (ls : Array Slot), Hp D vwCl A A s.heap H locs [(h, .inr (3, [.ref h_log, .ref h_past, .int (bI st.2.2.1), .int st.2.2.2.1, .int st.2.2.2.2.1, .int st.2.2.2.2.2.1, .int st.2.2.2.2.2.2.1, .int st.2.2.2.2.2.2.2])), (h_log, .inr (0, [.ref h_log_row, .int st.1.2])), (h_log_row, .inl (cI, 5000, .inl st.1.1)), (h_past, .inr (1, [.ref h_past_typed, .int st.2.1.2.1, .int st.2.1.2.2])), (h_past_typed, .inl (cI, 300, .inl st.2.1.1))] → lv_has ls 2 [(0, .ref h)] → W p l e { frames := 1, cells := 0, slots := 0, locals := 21 } s m args below meth c H locs 0 0 (MQ below (Qw D vwCl [(cI, .int), (cL, .long)] (none) A [(h, .inr (3, [.ref h_log, .ref h_past, .int (bI res.2.2.1), .int res.2.2.2.1, .int res.2.2.2.2.1, .int res.2.2.2.2.2.1, .int res.2.2.2.2.2.2.1, .int res.2.2.2.2.2.2.2])), (h_log, .inr (0, [.ref h_log_row, .int res.1.2])), (h_log_row, .inl (cI, 5000, .inl res.1.1)), (h_past, .inr (1, [.ref h_past_typed, .int res.2.1.2.1, .int res.2.1.2.2])), (h_past_typed, .inl (cI, 300, .inl res.2.1.1))]) args s 0 0 A) (F0 m 20 ls []) := by
  obtain ⟨hx, hb, hr, hml, hown, hts, hlk, hK, hA⟩ := id C
  intro st res hf H locs ls hH hl
  unfold f_Packer_begin_b20 at hf
  refine lv_aload_n hx hb d_Packer_begin_20 rfl (lv_at hl 0 rfl) ?_
  refine gt (ci := 3) (v := .ref h_past) C hH (iwT iw_Packer) 0 rfl rfl 1 (by decide) (.tail _ wd_83) rfl d_Packer_begin_21 ?_
  obtain ⟨r24, hr24, hf⟩ := lb hf
  refine fnV (rest := []) (wr := [(h, .inr (3, [.ref h_log, .ref h_past, .int (bI st.2.2.1), .int st.2.2.2.1, .int st.2.2.2.2.1, .int st.2.2.2.2.2.1, .int st.2.2.2.2.2.2.1, .int st.2.2.2.2.2.2.2])), (h_log, .inr (0, [.ref h_log_row, .int st.1.2])), (h_log_row, .inl (cI, 5000, .inl st.1.1))]) (w2 := [(h, .inr (3, [.ref h_log, .ref h_past, .int (bI st.2.2.1), .int st.2.2.2.1, .int st.2.2.2.2.1, .int st.2.2.2.2.2.1, .int st.2.2.2.2.2.2.1, .int st.2.2.2.2.2.2.2])), (h_log, .inr (0, [.ref h_log_row, .int st.1.2])), (h_log_row, .inl (cI, 5000, .inl st.1.1)), (h_past, .inr (1, [.ref h_past_typed, .int r24.2.1, .int r24.2.2])), (h_past_typed, .inl (cI, 300, .inl r24.1))]) (st2 := []) C (c_Past_forget l D cI cL h_past h_past_typed st.2.1 r24 hr24) (cV hts kV_Past_forget wd_163 ⟨Nat.le_of_ble_eq_true rfl, Nat.le_of_ble_eq_true rfl⟩) hH [3, 4] [0, 1, 2] [0, 1, 2, 3, 4] rfl rfl rfl rfl (by decide) rfl rfl 0 rfl rfl rfl hl.1 rfl (Nat.le_of_ble_eq_true rfl) d_Packer_begin_24 ⟨Nat.le_of_ble_eq_true rfl, Nat.le_of_ble_eq_true rfl⟩ rfl (fun H locs hH => ?_)
  refine lv_aload_n hx hb d_Packer_begin_27 rfl (lv_at hl 0 rfl) ?_
  refine lv_iconst (v := 0) hx hb d_Packer_begin_28 (by decide) ?_
  refine pt (ci := 3) (v := .int 0) C hH (iwT iw_Packer) ty_Packer tyok_Packer nm_Packer 0 rfl rfl 3 (by decide) (.tail _ wd_85) rfl rfl rfl (Nat.le_of_ble_eq_true rfl) d_Packer_begin_29 [(h, .inr (3, [.ref h_log, .ref h_past, .int (bI st.2.2.1), .int 0, .int st.2.2.2.2.1, .int st.2.2.2.2.2.1, .int st.2.2.2.2.2.2.1, .int st.2.2.2.2.2.2.2])), (h_log, .inr (0, [.ref h_log_row, .int st.1.2])), (h_log_row, .inl (cI, 5000, .inl st.1.1)), (h_past, .inr (1, [.ref h_past_typed, .int r24.2.1, .int r24.2.2])), (h_past_typed, .inl (cI, 300, .inl r24.1))] rfl (fun H locs hH => ?_)
  refine lv_aload_n hx hb d_Packer_begin_32 rfl (lv_at hl 0 rfl) ?_
  refine lv_iconst (v := 0) hx hb d_Packer_begin_33 (by decide) ?_
  refine pt (ci := 3) (v := .int 0) C hH (iwT iw_Packer) ty_Packer tyok_Packer nm_Packer 0 rfl rfl 4 (by decide) (.tail _ wd_86) rfl rfl rfl (Nat.le_of_ble_eq_true rfl) d_Packer_begin_34 [(h, .inr (3, [.ref h_log, .ref h_past, .int (bI st.2.2.1), .int 0, .int 0, .int st.2.2.2.2.2.1, .int st.2.2.2.2.2.2.1, .int st.2.2.2.2.2.2.2])), (h_log, .inr (0, [.ref h_log_row, .int st.1.2])), (h_log_row, .inl (cI, 5000, .inl st.1.1)), (h_past, .inr (1, [.ref h_past_typed, .int r24.2.1, .int r24.2.2])), (h_past_typed, .inl (cI, 300, .inl r24.1))] rfl (fun H locs hH => ?_)
  refine lv_aload_n hx hb d_Packer_begin_37 rfl (lv_at hl 0 rfl) ?_
  refine lv_iconst (v := 0) hx hb d_Packer_begin_38 (by decide) ?_
  refine pt (ci := 3) (v := .int 0) C hH (iwT iw_Packer) ty_Packer tyok_Packer nm_Packer 0 rfl rfl 5 (by decide) (.tail _ wd_87) rfl rfl rfl (Nat.le_of_ble_eq_true rfl) d_Packer_begin_39 [(h, .inr (3, [.ref h_log, .ref h_past, .int (bI st.2.2.1), .int 0, .int 0, .int 0, .int st.2.2.2.2.2.2.1, .int st.2.2.2.2.2.2.2])), (h_log, .inr (0, [.ref h_log_row, .int st.1.2])), (h_log_row, .inl (cI, 5000, .inl st.1.1)), (h_past, .inr (1, [.ref h_past_typed, .int r24.2.1, .int r24.2.2])), (h_past_typed, .inl (cI, 300, .inl r24.1))] rfl (fun H locs hH => ?_)
  refine lv_aload_n hx hb d_Packer_begin_42 rfl (lv_at hl 0 rfl) ?_
  refine lv_iconst (v := 0) hx hb d_Packer_begin_43 (by decide) ?_
  refine pt (ci := 3) (v := .int 0) C hH (iwT iw_Packer) ty_Packer tyok_Packer nm_Packer 0 rfl rfl 6 (by decide) (.tail _ wd_88) rfl rfl rfl (Nat.le_of_ble_eq_true rfl) d_Packer_begin_44 [(h, .inr (3, [.ref h_log, .ref h_past, .int (bI st.2.2.1), .int 0, .int 0, .int 0, .int 0, .int st.2.2.2.2.2.2.2])), (h_log, .inr (0, [.ref h_log_row, .int st.1.2])), (h_log_row, .inl (cI, 5000, .inl st.1.1)), (h_past, .inr (1, [.ref h_past_typed, .int r24.2.1, .int r24.2.2])), (h_past_typed, .inl (cI, 300, .inl r24.1))] rfl (fun H locs hH => ?_)
  refine lv_aload_n hx hb d_Packer_begin_47 rfl (lv_at hl 0 rfl) ?_
  refine lv_iconst (v := 0) hx hb d_Packer_begin_48 (by decide) ?_
  refine pt (ci := 3) (v := .int 0) C hH (iwT iw_Packer) ty_Packer tyok_Packer nm_Packer 0 rfl rfl 7 (by decide) (.tail _ wd_89) rfl rfl rfl (Nat.le_of_ble_eq_true rfl) d_Packer_begin_49 [(h, .inr (3, [.ref h_log, .ref h_past, .int (bI st.2.2.1), .int 0, .int 0, .int 0, .int 0, .int 0])), (h_log, .inr (0, [.ref h_log_row, .int st.1.2])), (h_log_row, .inl (cI, 5000, .inl st.1.1)), (h_past, .inr (1, [.ref h_past_typed, .int r24.2.1, .int r24.2.2])), (h_past_typed, .inl (cI, 300, .inl r24.1))] rfl (fun H locs hH => ?_)
  subst hf
  exact rV C hH d_Packer_begin_52
def f_Packer_begin (st : S_Packer) (x1 : Bool) : S_Packer :=
  if (bI x1) = 0 then (f_Packer_begin_b20 ((st.1, st.2.1, x1, st.2.2.2.1, st.2.2.2.2.1, st.2.2.2.2.2.1, st.2.2.2.2.2.2.1, st.2.2.2.2.2.2.2))) else (lt1 (f_Bytes_keepFirst st.1 0) (fun r17 => f_Packer_begin_b20 ((r17, st.2.1, x1, st.2.2.2.1, st.2.2.2.2.1, st.2.2.2.2.2.1, st.2.2.2.2.2.2.1, st.2.2.2.2.2.2.2))))
set_option maxRecDepth 100000 in
set_option maxHeartbeats 4000000 in
theorem c_Packer_begin (l : Launch) (D : va_G) (cI cL : ClassId) (h h_log h_log_row h_past h_past_typed : Nat) (st : S_Packer) (x1 : Bool) (res : S_Packer) (hf : f_Packer_begin st x1 = res) :
    Fn l D vwCl [(cI, .int), (cL, .long)] y_Packer_begin ws_Packer_begin { frames := 1, cells := 0, slots := 0, locals := 21 } [.ref h, .int (bI x1)] [(h, .inr (3, [.ref h_log, .ref h_past, .int (bI st.2.2.1), .int st.2.2.2.1, .int st.2.2.2.2.1, .int st.2.2.2.2.2.1, .int st.2.2.2.2.2.2.1, .int st.2.2.2.2.2.2.2])), (h_log, .inr (0, [.ref h_log_row, .int st.1.2])), (h_log_row, .inl (cI, 5000, .inl st.1.1)), (h_past, .inr (1, [.ref h_past_typed, .int st.2.1.2.1, .int st.2.1.2.2])), (h_past_typed, .inl (cI, 300, .inl st.2.1.1))] (none) [(h, .inr (3, [.ref h_log, .ref h_past, .int (bI res.2.2.1), .int res.2.2.2.1, .int res.2.2.2.2.1, .int res.2.2.2.2.2.1, .int res.2.2.2.2.2.2.1, .int res.2.2.2.2.2.2.2])), (h_log, .inr (0, [.ref h_log_row, .int res.1.2])), (h_log_row, .inl (cI, 5000, .inl res.1.1)), (h_past, .inr (1, [.ref h_past_typed, .int res.2.1.2.1, .int res.2.1.2.2])), (h_past_typed, .inl (cI, 300, .inl res.2.1.1))] := by
  refine Fn.ofW (cc := b_Packer_begin) (maxL := 2) (ret := none) (by decide) rfl (Nat.le_of_ble_eq_true rfl) ?_
  intro p e s m below meth c A ls C hH hinit hl
  have hl : lv_has ls 2 [(0, .ref h), (1, .int (bI x1))] := hl
  obtain ⟨hx, hb, hr, hml, hown, hts, hlk, hK, hA⟩ := id C
  unfold f_Packer_begin at hf
  refine lv_aload_n hx hb d_Packer_begin_0 rfl (lv_at hl 0 rfl) ?_
  refine lv_iload_n hx hb d_Packer_begin_1 rfl (lv_at hl 1 rfl) ?_
  refine pt (ci := 3) (v := .int (bI x1)) C hH (iwT iw_Packer) ty_Packer tyok_Packer nm_Packer 0 rfl rfl 2 (by decide) (.tail _ wd_84) rfl (bI_n x1) (bI_f x1) (Nat.le_of_ble_eq_true rfl) d_Packer_begin_2 [(h, .inr (3, [.ref h_log, .ref h_past, .int (bI x1), .int st.2.2.2.1, .int st.2.2.2.2.1, .int st.2.2.2.2.2.1, .int st.2.2.2.2.2.2.1, .int st.2.2.2.2.2.2.2])), (h_log, .inr (0, [.ref h_log_row, .int st.1.2])), (h_log_row, .inl (cI, 5000, .inl st.1.1)), (h_past, .inr (1, [.ref h_past_typed, .int st.2.1.2.1, .int st.2.1.2.2])), (h_past_typed, .inl (cI, 300, .inl st.2.1.1))] rfl (fun H locs hH => ?_)
  refine lv_aload_n hx hb d_Packer_begin_5 rfl (lv_at hl 0 rfl) ?_
  refine gt (ci := 3) (v := .int (bI x1)) C hH (iwT iw_Packer) 0 rfl rfl 2 (by decide) (.tail _ wd_84) rfl d_Packer_begin_6 ?_
  refine lv_if_eq (tgt := 20) hx hb d_Packer_begin_9 (by decide) (fun hc9 => ?_) (fun hc9 => ?_)
  · have hf := ip hc9 hf
    exact w_Packer_begin_b20 l D cI cL h h_log h_log_row h_past h_past_typed C ((st.1, st.2.1, x1, st.2.2.2.1, st.2.2.2.2.1, st.2.2.2.2.2.1, st.2.2.2.2.2.2.1, st.2.2.2.2.2.2.2)) res hf _ _ _ hH (lv_sub hl [0] rfl)
  · have hf := im hc9 hf
    refine lv_aload_n hx hb d_Packer_begin_12 rfl (lv_at hl 0 rfl) ?_
    refine gt (ci := 3) (v := .ref h_log) C hH (iwT iw_Packer) 0 rfl rfl 0 (by decide) (.tail _ wd_82) rfl d_Packer_begin_13 ?_
    refine lv_iconst (v := 0) hx hb d_Packer_begin_16 (by decide) ?_
    obtain ⟨r17, hr17, hf⟩ := lb hf
    refine fnV (rest := []) (wr := [(h, .inr (3, [.ref h_log, .ref h_past, .int (bI x1), .int st.2.2.2.1, .int st.2.2.2.2.1, .int st.2.2.2.2.2.1, .int st.2.2.2.2.2.2.1, .int st.2.2.2.2.2.2.2])), (h_past, .inr (1, [.ref h_past_typed, .int st.2.1.2.1, .int st.2.1.2.2])), (h_past_typed, .inl (cI, 300, .inl st.2.1.1))]) (w2 := [(h, .inr (3, [.ref h_log, .ref h_past, .int (bI x1), .int st.2.2.2.1, .int st.2.2.2.2.1, .int st.2.2.2.2.2.1, .int st.2.2.2.2.2.2.1, .int st.2.2.2.2.2.2.2])), (h_log, .inr (0, [.ref h_log_row, .int r17.2])), (h_log_row, .inl (cI, 5000, .inl r17.1)), (h_past, .inr (1, [.ref h_past_typed, .int st.2.1.2.1, .int st.2.1.2.2])), (h_past_typed, .inl (cI, 300, .inl st.2.1.1))]) (st2 := []) C (c_Bytes_keepFirst l D cI cL h_log h_log_row st.1 0 r17 hr17) (cV hts kV_Bytes_keepFirst wd_159 ⟨Nat.le_of_ble_eq_true rfl, Nat.le_of_ble_eq_true rfl⟩) hH [1, 2] [0, 3, 4] [0, 3, 4, 1, 2] rfl rfl rfl rfl (by decide) rfl rfl 0 rfl rfl rfl hl.1 rfl (Nat.le_of_ble_eq_true rfl) d_Packer_begin_17 ⟨Nat.le_of_ble_eq_true rfl, Nat.le_of_ble_eq_true rfl⟩ rfl (fun H locs hH => ?_)
    exact w_Packer_begin_b20 l D cI cL h h_log h_log_row h_past h_past_typed C ((r17, st.2.1, x1, st.2.2.2.1, st.2.2.2.2.1, st.2.2.2.2.2.1, st.2.2.2.2.2.2.1, st.2.2.2.2.2.2.2)) res hf _ _ _ hH (lv_sub hl [0] rfl)
def f_Packer_packByte (st : S_Packer) (x1 : Int32) : S_Packer :=
  if (bI st.2.2.1) = 0 then ((st.1, st.2.1, st.2.2.1, st.2.2.2.1 + 1, st.2.2.2.2.1, st.2.2.2.2.2.1, st.2.2.2.2.2.2.1, st.2.2.2.2.2.2.2)) else (lt1 (f_Bytes_append st.1 x1) (fun r22 => (r22, st.2.1, st.2.2.1, st.2.2.2.1 + 1, st.2.2.2.2.1, st.2.2.2.2.2.1, st.2.2.2.2.2.2.1, st.2.2.2.2.2.2.2)))
set_option maxRecDepth 100000 in
set_option maxHeartbeats 4000000 in
theorem c_Packer_packByte (l : Launch) (D : va_G) (cI cL : ClassId) (h h_log h_log_row h_past h_past_typed : Nat) (st : S_Packer) (x1 : Int32) (res : S_Packer) (hf : f_Packer_packByte st x1 = res) :
    Fn l D vwCl [(cI, .int), (cL, .long)] y_Packer_packByte ws_Packer_packByte { frames := 1, cells := 0, slots := 0, locals := 21 } [.ref h, .int x1] [(h, .inr (3, [.ref h_log, .ref h_past, .int (bI st.2.2.1), .int st.2.2.2.1, .int st.2.2.2.2.1, .int st.2.2.2.2.2.1, .int st.2.2.2.2.2.2.1, .int st.2.2.2.2.2.2.2])), (h_log, .inr (0, [.ref h_log_row, .int st.1.2])), (h_log_row, .inl (cI, 5000, .inl st.1.1)), (h_past, .inr (1, [.ref h_past_typed, .int st.2.1.2.1, .int st.2.1.2.2])), (h_past_typed, .inl (cI, 300, .inl st.2.1.1))] (none) [(h, .inr (3, [.ref h_log, .ref h_past, .int (bI res.2.2.1), .int res.2.2.2.1, .int res.2.2.2.2.1, .int res.2.2.2.2.2.1, .int res.2.2.2.2.2.2.1, .int res.2.2.2.2.2.2.2])), (h_log, .inr (0, [.ref h_log_row, .int res.1.2])), (h_log_row, .inl (cI, 5000, .inl res.1.1)), (h_past, .inr (1, [.ref h_past_typed, .int res.2.1.2.1, .int res.2.1.2.2])), (h_past_typed, .inl (cI, 300, .inl res.2.1.1))] := by
  refine Fn.ofW (cc := b_Packer_packByte) (maxL := 2) (ret := none) (by decide) rfl (Nat.le_of_ble_eq_true rfl) ?_
  intro p e s m below meth c A ls C hH hinit hl
  have hl : lv_has ls 2 [(0, .ref h), (1, .int x1)] := hl
  obtain ⟨hx, hb, hr, hml, hown, hts, hlk, hK, hA⟩ := id C
  unfold f_Packer_packByte at hf
  refine lv_aload_n hx hb d_Packer_packByte_0 rfl (lv_at hl 0 rfl) ?_
  refine lv_dup hx hb d_Packer_packByte_1 rfl ?_
  refine gt (ci := 3) (v := .int st.2.2.2.1) C hH (iwT iw_Packer) 0 rfl rfl 3 (by decide) (.tail _ wd_85) rfl d_Packer_packByte_2 ?_
  refine lv_iconst (v := 1) hx hb d_Packer_packByte_5 (by decide) ?_
  refine lv_iadd hx hb d_Packer_packByte_6 ?_
  refine pt (ci := 3) (v := .int (st.2.2.2.1 + 1)) C hH (iwT iw_Packer) ty_Packer tyok_Packer nm_Packer 0 rfl rfl 3 (by decide) (.tail _ wd_85) rfl rfl rfl (Nat.le_of_ble_eq_true rfl) d_Packer_packByte_7 [(h, .inr (3, [.ref h_log, .ref h_past, .int (bI st.2.2.1), .int (st.2.2.2.1 + 1), .int st.2.2.2.2.1, .int st.2.2.2.2.2.1, .int st.2.2.2.2.2.2.1, .int st.2.2.2.2.2.2.2])), (h_log, .inr (0, [.ref h_log_row, .int st.1.2])), (h_log_row, .inl (cI, 5000, .inl st.1.1)), (h_past, .inr (1, [.ref h_past_typed, .int st.2.1.2.1, .int st.2.1.2.2])), (h_past_typed, .inl (cI, 300, .inl st.2.1.1))] rfl (fun H locs hH => ?_)
  refine lv_aload_n hx hb d_Packer_packByte_10 rfl (lv_at hl 0 rfl) ?_
  refine gt (ci := 3) (v := .int (bI st.2.2.1)) C hH (iwT iw_Packer) 0 rfl rfl 2 (by decide) (.tail _ wd_84) rfl d_Packer_packByte_11 ?_
  refine lv_if_eq (tgt := 25) hx hb d_Packer_packByte_14 (by decide) (fun hc14 => ?_) (fun hc14 => ?_)
  · have hf := ip hc14 hf
    subst hf
    exact rV C hH d_Packer_packByte_25
  · have hf := im hc14 hf
    refine lv_aload_n hx hb d_Packer_packByte_17 rfl (lv_at hl 0 rfl) ?_
    refine gt (ci := 3) (v := .ref h_log) C hH (iwT iw_Packer) 0 rfl rfl 0 (by decide) (.tail _ wd_82) rfl d_Packer_packByte_18 ?_
    refine lv_iload_n hx hb d_Packer_packByte_21 rfl (lv_at hl 1 rfl) ?_
    obtain ⟨r22, hr22, hf⟩ := lb hf
    refine fnV (rest := []) (wr := [(h, .inr (3, [.ref h_log, .ref h_past, .int (bI st.2.2.1), .int (st.2.2.2.1 + 1), .int st.2.2.2.2.1, .int st.2.2.2.2.2.1, .int st.2.2.2.2.2.2.1, .int st.2.2.2.2.2.2.2])), (h_past, .inr (1, [.ref h_past_typed, .int st.2.1.2.1, .int st.2.1.2.2])), (h_past_typed, .inl (cI, 300, .inl st.2.1.1))]) (w2 := [(h, .inr (3, [.ref h_log, .ref h_past, .int (bI st.2.2.1), .int (st.2.2.2.1 + 1), .int st.2.2.2.2.1, .int st.2.2.2.2.2.1, .int st.2.2.2.2.2.2.1, .int st.2.2.2.2.2.2.2])), (h_log, .inr (0, [.ref h_log_row, .int r22.2])), (h_log_row, .inl (cI, 5000, .inl r22.1)), (h_past, .inr (1, [.ref h_past_typed, .int st.2.1.2.1, .int st.2.1.2.2])), (h_past_typed, .inl (cI, 300, .inl st.2.1.1))]) (st2 := []) C (c_Bytes_append l D cI cL h_log h_log_row st.1 x1 r22 hr22) (cV hts kV_Bytes_append wd_180 ⟨Nat.le_of_ble_eq_true rfl, Nat.le_of_ble_eq_true rfl⟩) hH [1, 2] [0, 3, 4] [0, 3, 4, 1, 2] rfl rfl rfl rfl (by decide) rfl rfl 0 rfl rfl rfl hl.1 rfl (Nat.le_of_ble_eq_true rfl) d_Packer_packByte_22 ⟨Nat.le_of_ble_eq_true rfl, Nat.le_of_ble_eq_true rfl⟩ rfl (fun H locs hH => ?_)
    subst hf
    exact rV C hH d_Packer_packByte_25
def f_Packer_packVarint_b45 (st : S_Packer) (x3 : Int64) : Option (S_Packer) :=
  lt1 (f_Packer_packByte st ((x3 &&& 127).toInt32)) (fun r52 => some r52)
set_option maxRecDepth 100000 in
set_option maxHeartbeats 4000000 in
theorem w_Packer_packVarint_b45 (l : Launch) (D : va_G) (cI cL : ClassId) (h h_log h_log_row h_past h_past_typed : Nat) {p : Program} {e : Env} {s : State} {m : MethodId} {args : Array Value} {below : List Frame} {meth : Method} {c : Code} {A : Nat → Prop} (C : Cx p s m args meth c D vwCl [(cI, .int), (cL, .long)] A b_Packer_packVarint 6 none ws_Packer_packVarint y_Packer_packVarint.cls) : ∀ (st : S_Packer) (x3 : Int64) (res : S_Packer), f_Packer_packVarint_b45 st x3 = some res → ∀ (H : Heap) (locs : List Loc) (ls : Array Slot), Hp D vwCl A A s.heap H locs [(h, .inr (3, [.ref h_log, .ref h_past, .int (bI st.2.2.1), .int st.2.2.2.1, .int st.2.2.2.2.1, .int st.2.2.2.2.2.1, .int st.2.2.2.2.2.2.1, .int st.2.2.2.2.2.2.2])), (h_log, .inr (0, [.ref h_log_row, .int st.1.2])), (h_log_row, .inl (cI, 5000, .inl st.1.1)), (h_past, .inr (1, [.ref h_past_typed, .int st.2.1.2.1, .int st.2.1.2.2])), (h_past_typed, .inl (cI, 300, .inl st.2.1.1))] → lv_has ls 6 [(0, .ref h), (3, .long x3)] → W p l e { frames := 2, cells := 0, slots := 0, locals := 42 } s m args below meth c H locs 0 0 (MQ below (Qw D vwCl [(cI, .int), (cL, .long)] (none) A [(h, .inr (3, [.ref h_log, .ref h_past, .int (bI res.2.2.1), .int res.2.2.2.1, .int res.2.2.2.2.1, .int res.2.2.2.2.2.1, .int res.2.2.2.2.2.2.1, .int res.2.2.2.2.2.2.2])), (h_log, .inr (0, [.ref h_log_row, .int res.1.2])), (h_log_row, .inl (cI, 5000, .inl res.1.1)), (h_past, .inr (1, [.ref h_past_typed, .int res.2.1.2.1, .int res.2.1.2.2])), (h_past_typed, .inl (cI, 300, .inl res.2.1.1))]) args s 0 0 A) (F0 m 45 ls []) := by
  obtain ⟨hx, hb, hr, hml, hown, hts, hlk, hK, hA⟩ := id C
  intro st x3 res hf H locs ls hH hl
  unfold f_Packer_packVarint_b45 at hf
  refine lv_aload_n hx hb d_Packer_packVarint_45 rfl (lv_at hl 0 rfl) ?_
  refine lv_lload_n hx hb d_Packer_packVarint_46 rfl (lv_at hl 1 rfl) ?_
  refine lv_ldc2 (v := 127) hx hb hown (hts _ (.tail _ wd_175)) d_Packer_packVarint_47 ?_
  refine lv_land hx hb d_Packer_packVarint_50 ?_
  refine lv_l2i (v := (x3 &&& 127).toInt32) hx hb d_Packer_packVarint_51 rfl ?_
  obtain ⟨r52, hr52, hf⟩ := lb hf
  refine fnV (rest := []) (wr := []) (w2 := [(h, .inr (3, [.ref h_log, .ref h_past, .int (bI r52.2.2.1), .int r52.2.2.2.1, .int r52.2.2.2.2.1, .int r52.2.2.2.2.2.1, .int r52.2.2.2.2.2.2.1, .int r52.2.2.2.2.2.2.2])), (h_log, .inr (0, [.ref h_log_row, .int r52.1.2])), (h_log_row, .inl (cI, 5000, .inl r52.1.1)), (h_past, .inr (1, [.ref h_past_typed, .int r52.2.1.2.1, .int r52.2.1.2.2])), (h_past_typed, .inl (cI, 300, .inl r52.2.1.1))]) (st2 := []) C (c_Packer_packByte l D cI cL h h_log h_log_row h_past h_past_typed st ((x3 &&& 127).toInt32) r52 hr52) (cV hts kV_Packer_packByte wd_176 ⟨Nat.le_of_ble_eq_true rfl, Nat.le_of_ble_eq_true rfl⟩) hH [0, 1, 2, 3, 4] [] [0, 1, 2, 3, 4] rfl rfl rfl rfl (by decide) rfl rfl 0 rfl rfl rfl hl.1 rfl (Nat.le_of_ble_eq_true rfl) d_Packer_packVarint_52 ⟨Nat.le_of_ble_eq_true rfl, Nat.le_of_ble_eq_true rfl⟩ rfl (fun H locs hH => ?_)
  have hf := Option.some.inj hf
  subst hf
  exact rV C hH d_Packer_packVarint_55
def f_Packer_packVarint_b5 : Nat → S_Packer → Int64 → Int32 → Option (S_Packer)
  | 0, _, _, _ => none
  | n + 1, st, x3, x5 =>
  if (7 : Int32) ≤ x5 then (f_Packer_packVarint_b45 st x3) else (if (lg_cmp x3 127) ≤ 0 then (f_Packer_packVarint_b45 st x3) else (lt1 (f_Packer_packByte st (((x3 &&& 127).toInt32) ||| 128)) (fun r31 => f_Packer_packVarint_b5 n r31 ((x3.toUInt64 >>> ((7 : Int32).toInt64.toUInt64 &&& Int64.toUInt64 63)).toInt64) (x5 + 1))))
set_option maxRecDepth 100000 in
set_option maxHeartbeats 4000000 in
theorem w_Packer_packVarint_b5 (l : Launch) (D : va_G) (cI cL : ClassId) (h h_log h_log_row h_past h_past_typed : Nat) {p : Program} {e : Env} {s : State} {m : MethodId} {args : Array Value} {below : List Frame} {meth : Method} {c : Code} {A : Nat → Prop} (C : Cx p s m args meth c D vwCl [(cI, .int), (cL, .long)] A b_Packer_packVarint 6 none ws_Packer_packVarint y_Packer_packVarint.cls) : ∀ (n : Nat) (st : S_Packer) (x3 : Int64) (x5 : Int32) (res : S_Packer), f_Packer_packVarint_b5 n st x3 x5 = some res → ∀ (H : Heap) (locs : List Loc) (ls : Array Slot), Hp D vwCl A A s.heap H locs [(h, .inr (3, [.ref h_log, .ref h_past, .int (bI st.2.2.1), .int st.2.2.2.1, .int st.2.2.2.2.1, .int st.2.2.2.2.2.1, .int st.2.2.2.2.2.2.1, .int st.2.2.2.2.2.2.2])), (h_log, .inr (0, [.ref h_log_row, .int st.1.2])), (h_log_row, .inl (cI, 5000, .inl st.1.1)), (h_past, .inr (1, [.ref h_past_typed, .int st.2.1.2.1, .int st.2.1.2.2])), (h_past_typed, .inl (cI, 300, .inl st.2.1.1))] → lv_has ls 6 [(0, .ref h), (3, .long x3), (5, .int x5)] → W p l e { frames := 2, cells := 0, slots := 0, locals := 42 } s m args below meth c H locs 0 0 (MQ below (Qw D vwCl [(cI, .int), (cL, .long)] (none) A [(h, .inr (3, [.ref h_log, .ref h_past, .int (bI res.2.2.1), .int res.2.2.2.1, .int res.2.2.2.2.1, .int res.2.2.2.2.2.1, .int res.2.2.2.2.2.2.1, .int res.2.2.2.2.2.2.2])), (h_log, .inr (0, [.ref h_log_row, .int res.1.2])), (h_log_row, .inl (cI, 5000, .inl res.1.1)), (h_past, .inr (1, [.ref h_past_typed, .int res.2.1.2.1, .int res.2.1.2.2])), (h_past_typed, .inl (cI, 300, .inl res.2.1.1))]) args s 0 0 A) (F0 m 5 ls []) := by
  obtain ⟨hx, hb, hr, hml, hown, hts, hlk, hK, hA⟩ := id C
  intro n
  induction n with
  | zero => intro st x3 x5 res hf; cases hf
  | succ n ih =>
    intro st x3 x5 res hf H locs ls hH hl
    rw [f_Packer_packVarint_b5] at hf
    refine lv_iload hx hb d_Packer_packVarint_5 (lv_at hl 2 rfl) ?_
    refine lv_bipush (v := 7) hx hb d_Packer_packVarint_7 (by decide) ?_
    refine lv_icmp_ge (tgt := 45) hx hb d_Packer_packVarint_9 (by decide) (fun hc9 => ?_) (fun hc9 => ?_)
    · have hf := ip hc9 hf
      exact w_Packer_packVarint_b45 l D cI cL h h_log h_log_row h_past h_past_typed C st x3 res hf _ _ _ hH (lv_sub hl [0, 1] rfl)
    · have hf := im hc9 hf
      refine lv_lload_n hx hb d_Packer_packVarint_12 rfl (lv_at hl 1 rfl) ?_
      refine lv_ldc2 (v := 127) hx hb hown (hts _ (.tail _ wd_175)) d_Packer_packVarint_13 ?_
      refine W.lcmp hx hb d_Packer_packVarint_16 ?_
      refine lv_if_le (tgt := 45) hx hb d_Packer_packVarint_17 (by decide) (fun hc17 => ?_) (fun hc17 => ?_)
      · have hf := ip hc17 hf
        exact w_Packer_packVarint_b45 l D cI cL h h_log h_log_row h_past h_past_typed C st x3 res hf _ _ _ hH (lv_sub hl [0, 1] rfl)
      · have hf := im hc17 hf
        refine lv_aload_n hx hb d_Packer_packVarint_20 rfl (lv_at hl 0 rfl) ?_
        refine lv_lload_n hx hb d_Packer_packVarint_21 rfl (lv_at hl 1 rfl) ?_
        refine lv_ldc2 (v := 127) hx hb hown (hts _ (.tail _ wd_175)) d_Packer_packVarint_22 ?_
        refine lv_land hx hb d_Packer_packVarint_25 ?_
        refine lv_l2i (v := (x3 &&& 127).toInt32) hx hb d_Packer_packVarint_26 rfl ?_
        refine lv_sipush (v := 128) hx hb d_Packer_packVarint_27 (by decide) ?_
        refine lv_ior hx hb d_Packer_packVarint_30 ?_
        obtain ⟨r31, hr31, hf⟩ := lb hf
        refine fnV (rest := []) (wr := []) (w2 := [(h, .inr (3, [.ref h_log, .ref h_past, .int (bI r31.2.2.1), .int r31.2.2.2.1, .int r31.2.2.2.2.1, .int r31.2.2.2.2.2.1, .int r31.2.2.2.2.2.2.1, .int r31.2.2.2.2.2.2.2])), (h_log, .inr (0, [.ref h_log_row, .int r31.1.2])), (h_log_row, .inl (cI, 5000, .inl r31.1.1)), (h_past, .inr (1, [.ref h_past_typed, .int r31.2.1.2.1, .int r31.2.1.2.2])), (h_past_typed, .inl (cI, 300, .inl r31.2.1.1))]) (st2 := []) C (c_Packer_packByte l D cI cL h h_log h_log_row h_past h_past_typed st (((x3 &&& 127).toInt32) ||| 128) r31 hr31) (cV hts kV_Packer_packByte wd_176 ⟨Nat.le_of_ble_eq_true rfl, Nat.le_of_ble_eq_true rfl⟩) hH [0, 1, 2, 3, 4] [] [0, 1, 2, 3, 4] rfl rfl rfl rfl (by decide) rfl rfl 0 rfl rfl rfl hl.1 rfl (Nat.le_of_ble_eq_true rfl) d_Packer_packVarint_31 ⟨Nat.le_of_ble_eq_true rfl, Nat.le_of_ble_eq_true rfl⟩ rfl (fun H locs hH => ?_)
        refine lv_lload_n hx hb d_Packer_packVarint_34 rfl (lv_at hl 1 rfl) ?_
        refine lv_bipush (v := 7) hx hb d_Packer_packVarint_35 (by decide) ?_
        refine lv_lushr (v := (x3.toUInt64 >>> ((7 : Int32).toInt64.toUInt64 &&& Int64.toUInt64 63)).toInt64) hx hb d_Packer_packVarint_37 rfl ?_
        refine lv_lstore_n (lv' := [(3, .long ((x3.toUInt64 >>> ((7 : Int32).toInt64.toUInt64 &&& Int64.toUInt64 63)).toInt64)), (0, .ref h), (5, .int x5)]) hx hb d_Packer_packVarint_38 rfl hl (by decide) rfl (fun ls hl => ?_)
        refine lv_iinc (v := x5 + 1) (lv' := [(5, .int (x5 + 1)), (3, .long ((x3.toUInt64 >>> ((7 : Int32).toInt64.toUInt64 &&& Int64.toUInt64 63)).toInt64)), (0, .ref h)]) hx hb d_Packer_packVarint_39 hl (k := 2) rfl rfl (by decide) rfl (fun ls hl => ?_)
        refine lv_goto (tgt := 5) hx hb d_Packer_packVarint_42 (by decide) ?_
        exact ih r31 ((x3.toUInt64 >>> ((7 : Int32).toInt64.toUInt64 &&& Int64.toUInt64 63)).toInt64) (x5 + 1) res hf _ _ _ hH (lv_sub hl [2, 1, 0] rfl)
def f_Packer_packVarint (st : S_Packer) (x1 : Int64) : Option (S_Packer) :=
  f_Packer_packVarint_b5 400 st x1 1
set_option maxRecDepth 100000 in
set_option maxHeartbeats 4000000 in
theorem c_Packer_packVarint (l : Launch) (D : va_G) (cI cL : ClassId) (h h_log h_log_row h_past h_past_typed : Nat) (st : S_Packer) (x1 : Int64) (res : S_Packer) (hf : f_Packer_packVarint st x1 = some res) :
    Fn l D vwCl [(cI, .int), (cL, .long)] y_Packer_packVarint ws_Packer_packVarint { frames := 2, cells := 0, slots := 0, locals := 42 } [.ref h, .long x1] [(h, .inr (3, [.ref h_log, .ref h_past, .int (bI st.2.2.1), .int st.2.2.2.1, .int st.2.2.2.2.1, .int st.2.2.2.2.2.1, .int st.2.2.2.2.2.2.1, .int st.2.2.2.2.2.2.2])), (h_log, .inr (0, [.ref h_log_row, .int st.1.2])), (h_log_row, .inl (cI, 5000, .inl st.1.1)), (h_past, .inr (1, [.ref h_past_typed, .int st.2.1.2.1, .int st.2.1.2.2])), (h_past_typed, .inl (cI, 300, .inl st.2.1.1))] (none) [(h, .inr (3, [.ref h_log, .ref h_past, .int (bI res.2.2.1), .int res.2.2.2.1, .int res.2.2.2.2.1, .int res.2.2.2.2.2.1, .int res.2.2.2.2.2.2.1, .int res.2.2.2.2.2.2.2])), (h_log, .inr (0, [.ref h_log_row, .int res.1.2])), (h_log_row, .inl (cI, 5000, .inl res.1.1)), (h_past, .inr (1, [.ref h_past_typed, .int res.2.1.2.1, .int res.2.1.2.2])), (h_past_typed, .inl (cI, 300, .inl res.2.1.1))] := by
  refine Fn.ofW (cc := b_Packer_packVarint) (maxL := 6) (ret := none) (by decide) rfl (Nat.le_of_ble_eq_true rfl) ?_
  intro p e s m below meth c A ls C hH hinit hl
  have hl : lv_has ls 6 [(0, .ref h), (1, .long x1)] := hl
  obtain ⟨hx, hb, hr, hml, hown, hts, hlk, hK, hA⟩ := id C
  unfold f_Packer_packVarint at hf
  refine lv_lload_n hx hb d_Packer_packVarint_0 rfl (lv_at hl 1 rfl) ?_
  refine lv_lstore_n (lv' := [(3, .long x1), (0, .ref h), (1, .long x1)]) hx hb d_Packer_packVarint_1 rfl hl (by decide) rfl (fun ls hl => ?_)
  refine lv_iconst (v := 1) hx hb d_Packer_packVarint_2 (by decide) ?_
  refine lv_istore (lv' := [(5, .int 1), (3, .long x1), (0, .ref h), (1, .long x1)]) hx hb d_Packer_packVarint_3 hl (by decide) rfl (fun ls hl => ?_)
  exact w_Packer_packVarint_b5 l D cI cL h h_log h_log_row h_past h_past_typed C 400 st x1 1 res hf _ _ _ hH (lv_sub hl [2, 1, 0] rfl)
def f_Packer_packRun (st : S_Packer) (x1 : Int32) : Option (S_Packer) :=
  if 0 < x1 then (if (15 : Int32) < x1 then (lt1 (f_Packer_packByte ((st.1, st.2.1, st.2.2.1, st.2.2.2.1, st.2.2.2.2.1 + 1, st.2.2.2.2.2.1 + 1, st.2.2.2.2.2.2.1, st.2.2.2.2.2.2.2)) 5) (fun r45 => (f_Packer_packVarint r45 x1.toInt64).bind (fun r51 => some r51))) else (lt1 (f_Packer_packByte ((st.1, st.2.1, st.2.2.1, st.2.2.2.1, st.2.2.2.2.1 + 1, st.2.2.2.2.2.1 + 1, st.2.2.2.2.2.2.1, st.2.2.2.2.2.2.2)) ((5 : Int32) ||| (x1 <<< (4 &&& 31)))) (fun r37 => some r37))) else (some st)
set_option maxRecDepth 100000 in
set_option maxHeartbeats 4000000 in
theorem c_Packer_packRun (l : Launch) (D : va_G) (cI cL : ClassId) (h h_log h_log_row h_past h_past_typed : Nat) (st : S_Packer) (x1 : Int32) (res : S_Packer) (hf : f_Packer_packRun st x1 = some res) :
    Fn l D vwCl [(cI, .int), (cL, .long)] y_Packer_packRun ws_Packer_packRun { frames := 3, cells := 0, slots := 0, locals := 67 } [.ref h, .int x1] [(h, .inr (3, [.ref h_log, .ref h_past, .int (bI st.2.2.1), .int st.2.2.2.1, .int st.2.2.2.2.1, .int st.2.2.2.2.2.1, .int st.2.2.2.2.2.2.1, .int st.2.2.2.2.2.2.2])), (h_log, .inr (0, [.ref h_log_row, .int st.1.2])), (h_log_row, .inl (cI, 5000, .inl st.1.1)), (h_past, .inr (1, [.ref h_past_typed, .int st.2.1.2.1, .int st.2.1.2.2])), (h_past_typed, .inl (cI, 300, .inl st.2.1.1))] (none) [(h, .inr (3, [.ref h_log, .ref h_past, .int (bI res.2.2.1), .int res.2.2.2.1, .int res.2.2.2.2.1, .int res.2.2.2.2.2.1, .int res.2.2.2.2.2.2.1, .int res.2.2.2.2.2.2.2])), (h_log, .inr (0, [.ref h_log_row, .int res.1.2])), (h_log_row, .inl (cI, 5000, .inl res.1.1)), (h_past, .inr (1, [.ref h_past_typed, .int res.2.1.2.1, .int res.2.1.2.2])), (h_past_typed, .inl (cI, 300, .inl res.2.1.1))] := by
  refine Fn.ofW (cc := b_Packer_packRun) (maxL := 2) (ret := none) (by decide) rfl (Nat.le_of_ble_eq_true rfl) ?_
  intro p e s m below meth c A ls C hH hinit hl
  have hl : lv_has ls 2 [(0, .ref h), (1, .int x1)] := hl
  obtain ⟨hx, hb, hr, hml, hown, hts, hlk, hK, hA⟩ := id C
  unfold f_Packer_packRun at hf
  refine lv_iload_n hx hb d_Packer_packRun_0 rfl (lv_at hl 1 rfl) ?_
  refine lv_if_gt (tgt := 5) hx hb d_Packer_packRun_1 (by decide) (fun hc1 => ?_) (fun hc1 => ?_)
  · have hf := ip hc1 hf
    refine lv_aload_n hx hb d_Packer_packRun_5 rfl (lv_at hl 0 rfl) ?_
    refine lv_dup hx hb d_Packer_packRun_6 rfl ?_
    refine gt (ci := 3) (v := .int st.2.2.2.2.1) C hH (iwT iw_Packer) 0 rfl rfl 4 (by decide) (.tail _ wd_86) rfl d_Packer_packRun_7 ?_
    refine lv_iconst (v := 1) hx hb d_Packer_packRun_10 (by decide) ?_
    refine lv_iadd hx hb d_Packer_packRun_11 ?_
    refine pt (ci := 3) (v := .int (st.2.2.2.2.1 + 1)) C hH (iwT iw_Packer) ty_Packer tyok_Packer nm_Packer 0 rfl rfl 4 (by decide) (.tail _ wd_86) rfl rfl rfl (Nat.le_of_ble_eq_true rfl) d_Packer_packRun_12 [(h, .inr (3, [.ref h_log, .ref h_past, .int (bI st.2.2.1), .int st.2.2.2.1, .int (st.2.2.2.2.1 + 1), .int st.2.2.2.2.2.1, .int st.2.2.2.2.2.2.1, .int st.2.2.2.2.2.2.2])), (h_log, .inr (0, [.ref h_log_row, .int st.1.2])), (h_log_row, .inl (cI, 5000, .inl st.1.1)), (h_past, .inr (1, [.ref h_past_typed, .int st.2.1.2.1, .int st.2.1.2.2])), (h_past_typed, .inl (cI, 300, .inl st.2.1.1))] rfl (fun H locs hH => ?_)
    refine lv_aload_n hx hb d_Packer_packRun_15 rfl (lv_at hl 0 rfl) ?_
    refine lv_dup hx hb d_Packer_packRun_16 rfl ?_
    refine gt (ci := 3) (v := .int st.2.2.2.2.2.1) C hH (iwT iw_Packer) 0 rfl rfl 5 (by decide) (.tail _ wd_87) rfl d_Packer_packRun_17 ?_
    refine lv_iconst (v := 1) hx hb d_Packer_packRun_20 (by decide) ?_
    refine lv_iadd hx hb d_Packer_packRun_21 ?_
    refine pt (ci := 3) (v := .int (st.2.2.2.2.2.1 + 1)) C hH (iwT iw_Packer) ty_Packer tyok_Packer nm_Packer 0 rfl rfl 5 (by decide) (.tail _ wd_87) rfl rfl rfl (Nat.le_of_ble_eq_true rfl) d_Packer_packRun_22 [(h, .inr (3, [.ref h_log, .ref h_past, .int (bI st.2.2.1), .int st.2.2.2.1, .int (st.2.2.2.2.1 + 1), .int (st.2.2.2.2.2.1 + 1), .int st.2.2.2.2.2.2.1, .int st.2.2.2.2.2.2.2])), (h_log, .inr (0, [.ref h_log_row, .int st.1.2])), (h_log_row, .inl (cI, 5000, .inl st.1.1)), (h_past, .inr (1, [.ref h_past_typed, .int st.2.1.2.1, .int st.2.1.2.2])), (h_past_typed, .inl (cI, 300, .inl st.2.1.1))] rfl (fun H locs hH => ?_)
    refine lv_iload_n hx hb d_Packer_packRun_25 rfl (lv_at hl 1 rfl) ?_
    refine lv_bipush (v := 15) hx hb d_Packer_packRun_26 (by decide) ?_
    refine lv_icmp_gt (tgt := 43) hx hb d_Packer_packRun_28 (by decide) (fun hc28 => ?_) (fun hc28 => ?_)
    · have hf := ip hc28 hf
      refine lv_aload_n hx hb d_Packer_packRun_43 rfl (lv_at hl 0 rfl) ?_
      refine lv_iconst (v := 5) hx hb d_Packer_packRun_44 (by decide) ?_
      obtain ⟨r45, hr45, hf⟩ := lb hf
      refine fnV (rest := []) (wr := []) (w2 := [(h, .inr (3, [.ref h_log, .ref h_past, .int (bI r45.2.2.1), .int r45.2.2.2.1, .int r45.2.2.2.2.1, .int r45.2.2.2.2.2.1, .int r45.2.2.2.2.2.2.1, .int r45.2.2.2.2.2.2.2])), (h_log, .inr (0, [.ref h_log_row, .int r45.1.2])), (h_log_row, .inl (cI, 5000, .inl r45.1.1)), (h_past, .inr (1, [.ref h_past_typed, .int r45.2.1.2.1, .int r45.2.1.2.2])), (h_past_typed, .inl (cI, 300, .inl r45.2.1.1))]) (st2 := []) C (c_Packer_packByte l D cI cL h h_log h_log_row h_past h_past_typed ((st.1, st.2.1, st.2.2.1, st.2.2.2.1, st.2.2.2.2.1 + 1, st.2.2.2.2.2.1 + 1, st.2.2.2.2.2.2.1, st.2.2.2.2.2.2.2)) 5 r45 hr45) (cV hts kV_Packer_packByte wd_176 ⟨Nat.le_of_ble_eq_true rfl, Nat.le_of_ble_eq_true rfl⟩) hH [0, 1, 2, 3, 4] [] [0, 1, 2, 3, 4] rfl rfl rfl rfl (by decide) rfl rfl 0 rfl rfl rfl hl.1 rfl (Nat.le_of_ble_eq_true rfl) d_Packer_packRun_45 ⟨Nat.le_of_ble_eq_true rfl, Nat.le_of_ble_eq_true rfl⟩ rfl (fun H locs hH => ?_)
      refine lv_aload_n hx hb d_Packer_packRun_48 rfl (lv_at hl 0 rfl) ?_
      refine lv_iload_n hx hb d_Packer_packRun_49 rfl (lv_at hl 1 rfl) ?_
      refine lv_i2l (v := x1.toInt64) hx hb d_Packer_packRun_50 rfl ?_
      obtain ⟨r51, hr51, hf⟩ := ob hf
      refine fnV (rest := []) (wr := []) (w2 := [(h, .inr (3, [.ref h_log, .ref h_past, .int (bI r51.2.2.1), .int r51.2.2.2.1, .int r51.2.2.2.2.1, .int r51.2.2.2.2.2.1, .int r51.2.2.2.2.2.2.1, .int r51.2.2.2.2.2.2.2])), (h_log, .inr (0, [.ref h_log_row, .int r51.1.2])), (h_log_row, .inl (cI, 5000, .inl r51.1.1)), (h_past, .inr (1, [.ref h_past_typed, .int r51.2.1.2.1, .int r51.2.1.2.2])), (h_past_typed, .inl (cI, 300, .inl r51.2.1.1))]) (st2 := []) C (c_Packer_packVarint l D cI cL h h_log h_log_row h_past h_past_typed r45 x1.toInt64 r51 hr51) (cV hts kV_Packer_packVarint wd_171 ⟨Nat.le_of_ble_eq_true rfl, Nat.le_of_ble_eq_true rfl⟩) hH [0, 1, 2, 3, 4] [] [0, 1, 2, 3, 4] rfl rfl rfl rfl (by decide) rfl rfl 0 rfl rfl rfl hl.1 rfl (Nat.le_of_ble_eq_true rfl) d_Packer_packRun_51 ⟨Nat.le_of_ble_eq_true rfl, Nat.le_of_ble_eq_true rfl⟩ rfl (fun H locs hH => ?_)
      have hf := Option.some.inj hf
      subst hf
      exact rV C hH d_Packer_packRun_54
    · have hf := im hc28 hf
      refine lv_aload_n hx hb d_Packer_packRun_31 rfl (lv_at hl 0 rfl) ?_
      refine lv_iconst (v := 5) hx hb d_Packer_packRun_32 (by decide) ?_
      refine lv_iload_n hx hb d_Packer_packRun_33 rfl (lv_at hl 1 rfl) ?_
      refine lv_iconst (v := 4) hx hb d_Packer_packRun_34 (by decide) ?_
      refine lv_ishl hx hb d_Packer_packRun_35 ?_
      refine lv_ior hx hb d_Packer_packRun_36 ?_
      obtain ⟨r37, hr37, hf⟩ := lb hf
      refine fnV (rest := []) (wr := []) (w2 := [(h, .inr (3, [.ref h_log, .ref h_past, .int (bI r37.2.2.1), .int r37.2.2.2.1, .int r37.2.2.2.2.1, .int r37.2.2.2.2.2.1, .int r37.2.2.2.2.2.2.1, .int r37.2.2.2.2.2.2.2])), (h_log, .inr (0, [.ref h_log_row, .int r37.1.2])), (h_log_row, .inl (cI, 5000, .inl r37.1.1)), (h_past, .inr (1, [.ref h_past_typed, .int r37.2.1.2.1, .int r37.2.1.2.2])), (h_past_typed, .inl (cI, 300, .inl r37.2.1.1))]) (st2 := []) C (c_Packer_packByte l D cI cL h h_log h_log_row h_past h_past_typed ((st.1, st.2.1, st.2.2.1, st.2.2.2.1, st.2.2.2.2.1 + 1, st.2.2.2.2.2.1 + 1, st.2.2.2.2.2.2.1, st.2.2.2.2.2.2.2)) ((5 : Int32) ||| (x1 <<< (4 &&& 31))) r37 hr37) (cV hts kV_Packer_packByte wd_176 ⟨Nat.le_of_ble_eq_true rfl, Nat.le_of_ble_eq_true rfl⟩) hH [0, 1, 2, 3, 4] [] [0, 1, 2, 3, 4] rfl rfl rfl rfl (by decide) rfl rfl 0 rfl rfl rfl hl.1 rfl (Nat.le_of_ble_eq_true rfl) d_Packer_packRun_37 ⟨Nat.le_of_ble_eq_true rfl, Nat.le_of_ble_eq_true rfl⟩ rfl (fun H locs hH => ?_)
      refine lv_goto (tgt := 54) hx hb d_Packer_packRun_40 (by decide) ?_
      have hf := Option.some.inj hf
      subst hf
      exact rV C hH d_Packer_packRun_54
  · have hf := im hc1 hf
    have hf := Option.some.inj hf
    subst hf
    exact rV C hH d_Packer_packRun_4
def f_Packer_repeated_b22 : Nat → S_Packer → S_Events → Int32 → Int32 → Option (Int32)
  | 0, _, _, _, _ => none
  | n + 1, st, e1, x2, x3 =>
  if (20 : Int32) < x3 then (some 0) else (if (bI (f_Events_bringTheSame e1 x2 (f_Past_typedBefore st.2.1 x3.toInt64))) = 0 then (f_Packer_repeated_b22 n st e1 x2 (x3 + 1)) else (some x3))
set_option maxRecDepth 100000 in
set_option maxHeartbeats 4000000 in
theorem w_Packer_repeated_b22 (l : Launch) (D : va_G) (cI cL : ClassId) (h h_log h_log_row h_past h_past_typed q1 q1_kinds q1_differences q1_partsA q1_partsB : Nat) {p : Program} {e : Env} {s : State} {m : MethodId} {args : Array Value} {below : List Frame} {meth : Method} {c : Code} {A : Nat → Prop} (C : Cx p s m args meth c D vwCl [(cI, .int), (cL, .long)] A b_Packer_repeated 4 (some .int) ws_Packer_repeated y_Packer_repeated.cls) : ∀ (n : Nat) (st : S_Packer) (e1 : S_Events) (x2 : Int32) (x3 : Int32) (res : Int32), f_Packer_repeated_b22 n st e1 x2 x3 = some res → ∀ (H : Heap) (locs : List Loc) (ls : Array Slot), Hp D vwCl (fun _ => True) A s.heap H locs [(h, .inr (3, [.ref h_log, .ref h_past, .int (bI st.2.2.1), .int st.2.2.2.1, .int st.2.2.2.2.1, .int st.2.2.2.2.2.1, .int st.2.2.2.2.2.2.1, .int st.2.2.2.2.2.2.2])), (h_log, .inr (0, [.ref h_log_row, .int st.1.2])), (h_log_row, .inl (cI, 5000, .inl st.1.1)), (h_past, .inr (1, [.ref h_past_typed, .int st.2.1.2.1, .int st.2.1.2.2])), (h_past_typed, .inl (cI, 300, .inl st.2.1.1)), (q1, .inr (2, [.ref q1_kinds, .ref q1_differences, .ref q1_partsA, .ref q1_partsB, .int e1.2.2.2.2])), (q1_kinds, .inl (cI, 300, .inl e1.1)), (q1_differences, .inl (cL, 300, .inr (.inl e1.2.1))), (q1_partsA, .inl (cL, 300, .inr (.inl e1.2.2.1))), (q1_partsB, .inl (cI, 300, .inl e1.2.2.2.1))] → lv_has ls 4 [(0, .ref h), (1, .ref q1), (2, .int x2), (3, .int x3)] → W p l e { frames := 2, cells := 0, slots := 0, locals := 43 } s m args below meth c H locs 0 0 (MQ below (QR (some (.int res)) A) args s 0 0 A) (F0 m 22 ls []) := by
  obtain ⟨hx, hb, hr, hml, hown, hts, hlk, hK, hA⟩ := id C
  intro n
  induction n with
  | zero => intro st e1 x2 x3 res hf; cases hf
  | succ n ih =>
    intro st e1 x2 x3 res hf H locs ls hH hl
    rw [f_Packer_repeated_b22] at hf
    refine lv_iload_n hx hb d_Packer_repeated_22 rfl (lv_at hl 3 rfl) ?_
    refine lv_bipush (v := 20) hx hb d_Packer_repeated_23 (by decide) ?_
    refine lv_icmp_gt (tgt := 53) hx hb d_Packer_repeated_25 (by decide) (fun hc25 => ?_) (fun hc25 => ?_)
    · have hf := ip hc25 hf
      refine lv_iconst (v := 0) hx hb d_Packer_repeated_53 (by decide) ?_
      have hf := Option.some.inj hf
      subst hf
      exact rIR (v := 0) C hH d_Packer_repeated_54
    · have hf := im hc25 hf
      refine lv_aload_n hx hb d_Packer_repeated_28 rfl (lv_at hl 1 rfl) ?_
      refine lv_iload_n hx hb d_Packer_repeated_29 rfl (lv_at hl 2 rfl) ?_
      refine lv_aload_n hx hb d_Packer_repeated_30 rfl (lv_at hl 0 rfl) ?_
      refine gt (ci := 3) (v := .ref h_past) C hH (iwT iw_Packer) 0 rfl rfl 1 (by decide) (.tail _ wd_83) rfl d_Packer_repeated_31 ?_
      refine lv_iload_n hx hb d_Packer_repeated_34 rfl (lv_at hl 3 rfl) ?_
      refine lv_i2l (v := x3.toInt64) hx hb d_Packer_repeated_35 rfl ?_
      refine fnVR (rest := [.int x2, .ref q1]) (st2 := [.int (f_Past_typedBefore st.2.1 x3.toInt64), .int x2, .ref q1]) C (c_Past_typedBefore l D cI cL h_past h_past_typed st.2.1 x3.toInt64 _ rfl) (cV hts kV_Past_typedBefore wd_225 ⟨Nat.le_of_ble_eq_true rfl, Nat.le_of_ble_eq_true rfl⟩) hH [3, 4] rfl rfl 0 rfl rfl rfl hl.1 rfl (Nat.le_of_ble_eq_true rfl) d_Packer_repeated_36 ⟨Nat.le_of_ble_eq_true rfl, Nat.le_of_ble_eq_true rfl⟩ rfl (fun H locs hH => ?_)
      refine fnVR (rest := []) (st2 := [.int (bI (f_Events_bringTheSame e1 x2 (f_Past_typedBefore st.2.1 x3.toInt64)))]) C (c_Events_bringTheSame l D cI cL q1 q1_kinds q1_differences q1_partsA q1_partsB e1 x2 (f_Past_typedBefore st.2.1 x3.toInt64) _ rfl) (cV hts kV_Events_bringTheSame wd_230 ⟨Nat.le_of_ble_eq_true rfl, Nat.le_of_ble_eq_true rfl⟩) hH [5, 6, 7, 8, 9] rfl rfl 0 rfl rfl rfl hl.1 rfl (Nat.le_of_ble_eq_true rfl) d_Packer_repeated_39 ⟨Nat.le_of_ble_eq_true rfl, Nat.le_of_ble_eq_true rfl⟩ rfl (fun H locs hH => ?_)
      refine lv_if_eq (tgt := 47) hx hb d_Packer_repeated_42 (by decide) (fun hc42 => ?_) (fun hc42 => ?_)
      · have hf := ip hc42 hf
        refine lv_iinc (v := x3 + 1) (lv' := [(3, .int (x3 + 1)), (0, .ref h), (1, .ref q1), (2, .int x2)]) hx hb d_Packer_repeated_47 hl (k := 3) rfl rfl (by decide) rfl (fun ls hl => ?_)
        refine lv_goto (tgt := 22) hx hb d_Packer_repeated_50 (by decide) ?_
        exact ih st e1 x2 (x3 + 1) res hf _ _ _ hH (lv_sub hl [1, 2, 3, 0] rfl)
      · have hf := im hc42 hf
        refine lv_iload_n hx hb d_Packer_repeated_45 rfl (lv_at hl 3 rfl) ?_
        have hf := Option.some.inj hf
        subst hf
        exact rIR (v := x3) C hH d_Packer_repeated_46
def f_Packer_repeated (st : S_Packer) (e1 : S_Events) (x2 : Int32) : Option (Int32) :=
  if (f_Events_kind e1 x2) = (1 : Int32) then (if (2 : Int32) ≤ (f_Events_b e1 x2) then (f_Packer_repeated_b22 400 st e1 x2 1) else (some 0)) else (some 0)
set_option maxRecDepth 100000 in
set_option maxHeartbeats 4000000 in
theorem c_Packer_repeated (l : Launch) (D : va_G) (cI cL : ClassId) (h h_log h_log_row h_past h_past_typed q1 q1_kinds q1_differences q1_partsA q1_partsB : Nat) (st : S_Packer) (e1 : S_Events) (x2 : Int32) (res : Int32) (hf : f_Packer_repeated st e1 x2 = some res) :
    FnR l D vwCl [(cI, .int), (cL, .long)] y_Packer_repeated ws_Packer_repeated { frames := 2, cells := 0, slots := 0, locals := 43 } [.ref h, .ref q1, .int x2] [(h, .inr (3, [.ref h_log, .ref h_past, .int (bI st.2.2.1), .int st.2.2.2.1, .int st.2.2.2.2.1, .int st.2.2.2.2.2.1, .int st.2.2.2.2.2.2.1, .int st.2.2.2.2.2.2.2])), (h_log, .inr (0, [.ref h_log_row, .int st.1.2])), (h_log_row, .inl (cI, 5000, .inl st.1.1)), (h_past, .inr (1, [.ref h_past_typed, .int st.2.1.2.1, .int st.2.1.2.2])), (h_past_typed, .inl (cI, 300, .inl st.2.1.1)), (q1, .inr (2, [.ref q1_kinds, .ref q1_differences, .ref q1_partsA, .ref q1_partsB, .int e1.2.2.2.2])), (q1_kinds, .inl (cI, 300, .inl e1.1)), (q1_differences, .inl (cL, 300, .inr (.inl e1.2.1))), (q1_partsA, .inl (cL, 300, .inr (.inl e1.2.2.1))), (q1_partsB, .inl (cI, 300, .inl e1.2.2.2.1))] (some (.int res)) := by
  refine FnR.ofW (cc := b_Packer_repeated) (maxL := 4) (ret := (some .int)) (by decide) rfl (Nat.le_of_ble_eq_true rfl) ?_
  intro p e s m below meth c A ls C hH hl
  have hl : lv_has ls 4 [(0, .ref h), (1, .ref q1), (2, .int x2)] := hl
  obtain ⟨hx, hb, hr, hml, hown, hts, hlk, hK, hA⟩ := id C
  unfold f_Packer_repeated at hf
  refine lv_aload_n hx hb d_Packer_repeated_0 rfl (lv_at hl 1 rfl) ?_
  refine lv_iload_n hx hb d_Packer_repeated_1 rfl (lv_at hl 2 rfl) ?_
  refine fnVR (rest := []) (st2 := [.int (f_Events_kind e1 x2)]) C (c_Events_kind l D cI cL q1 q1_kinds q1_differences q1_partsA q1_partsB e1 x2 _ rfl) (cV hts kV_Events_kind wd_217 ⟨Nat.le_of_ble_eq_true rfl, Nat.le_of_ble_eq_true rfl⟩) hH [5, 6, 7, 8, 9] rfl rfl 0 rfl rfl rfl hl.1 rfl (Nat.le_of_ble_eq_true rfl) d_Packer_repeated_2 ⟨Nat.le_of_ble_eq_true rfl, Nat.le_of_ble_eq_true rfl⟩ rfl (fun H locs hH => ?_)
  refine lv_iconst (v := 1) hx hb d_Packer_repeated_5 (by decide) ?_
  refine lv_icmp_ne (tgt := 18) hx hb d_Packer_repeated_6 (by decide) (fun hc6 => ?_) (fun hc6 => ?_)
  · have hf := im hc6 hf
    refine lv_iconst (v := 0) hx hb d_Packer_repeated_18 (by decide) ?_
    have hf := Option.some.inj hf
    subst hf
    exact rIR (v := 0) C hH d_Packer_repeated_19
  · have hf := ip hc6 hf
    refine lv_aload_n hx hb d_Packer_repeated_9 rfl (lv_at hl 1 rfl) ?_
    refine lv_iload_n hx hb d_Packer_repeated_10 rfl (lv_at hl 2 rfl) ?_
    refine fnVR (rest := []) (st2 := [.int (f_Events_b e1 x2)]) C (c_Events_b l D cI cL q1 q1_kinds q1_differences q1_partsA q1_partsB e1 x2 _ rfl) (cV hts kV_Events_b wd_221 ⟨Nat.le_of_ble_eq_true rfl, Nat.le_of_ble_eq_true rfl⟩) hH [5, 6, 7, 8, 9] rfl rfl 0 rfl rfl rfl hl.1 rfl (Nat.le_of_ble_eq_true rfl) d_Packer_repeated_11 ⟨Nat.le_of_ble_eq_true rfl, Nat.le_of_ble_eq_true rfl⟩ rfl (fun H locs hH => ?_)
    refine lv_iconst (v := 2) hx hb d_Packer_repeated_14 (by decide) ?_
    refine lv_icmp_ge (tgt := 20) hx hb d_Packer_repeated_15 (by decide) (fun hc15 => ?_) (fun hc15 => ?_)
    · have hf := ip hc15 hf
      refine lv_iconst (v := 1) hx hb d_Packer_repeated_20 (by decide) ?_
      refine lv_istore_n (lv' := [(3, .int 1), (0, .ref h), (1, .ref q1), (2, .int x2)]) hx hb d_Packer_repeated_21 rfl hl (by decide) rfl (fun ls hl => ?_)
      exact w_Packer_repeated_b22 l D cI cL h h_log h_log_row h_past h_past_typed q1 q1_kinds q1_differences q1_partsA q1_partsB C 400 st e1 x2 1 res hf _ _ _ hH (lv_sub hl [1, 2, 3, 0] rfl)
    · have hf := im hc15 hf
      refine lv_iconst (v := 0) hx hb d_Packer_repeated_18 (by decide) ?_
      have hf := Option.some.inj hf
      subst hf
      exact rIR (v := 0) C hH d_Packer_repeated_19
def f_Packer_headX (st : S_Packer) (e1 : S_Events) (x2 : Int32) (x3 : Int32) : Int32 :=
  if f_Events_kind e1 x2 = 0 then ((f_Events_a e1 x2).toInt32) else if f_Events_kind e1 x2 = 1 then (if x3 ≤ 0 then (f_Events_b e1 x2) else (0)) else if f_Events_kind e1 x2 = 2 then ((f_Events_a e1 x2).toInt32) else if f_Events_kind e1 x2 = 3 then (if (bI (f_Events_bringTheSame e1 x2 (f_Past_latestClock st.2.1))) = 0 then (0) else (1)) else (0)
set_option maxRecDepth 100000 in
set_option maxHeartbeats 4000000 in
theorem c_Packer_headX (l : Launch) (D : va_G) (cI cL : ClassId) (h h_log h_log_row h_past h_past_typed q1 q1_kinds q1_differences q1_partsA q1_partsB : Nat) (st : S_Packer) (e1 : S_Events) (x2 : Int32) (x3 : Int32) (res : Int32) (hf : f_Packer_headX st e1 x2 x3 = res) :
    FnR l D vwCl [(cI, .int), (cL, .long)] y_Packer_headX ws_Packer_headX { frames := 2, cells := 0, slots := 0, locals := 43 } [.ref h, .ref q1, .int x2, .int x3] [(h, .inr (3, [.ref h_log, .ref h_past, .int (bI st.2.2.1), .int st.2.2.2.1, .int st.2.2.2.2.1, .int st.2.2.2.2.2.1, .int st.2.2.2.2.2.2.1, .int st.2.2.2.2.2.2.2])), (h_log, .inr (0, [.ref h_log_row, .int st.1.2])), (h_log_row, .inl (cI, 5000, .inl st.1.1)), (h_past, .inr (1, [.ref h_past_typed, .int st.2.1.2.1, .int st.2.1.2.2])), (h_past_typed, .inl (cI, 300, .inl st.2.1.1)), (q1, .inr (2, [.ref q1_kinds, .ref q1_differences, .ref q1_partsA, .ref q1_partsB, .int e1.2.2.2.2])), (q1_kinds, .inl (cI, 300, .inl e1.1)), (q1_differences, .inl (cL, 300, .inr (.inl e1.2.1))), (q1_partsA, .inl (cL, 300, .inr (.inl e1.2.2.1))), (q1_partsB, .inl (cI, 300, .inl e1.2.2.2.1))] (some (.int res)) := by
  refine FnR.ofW (cc := b_Packer_headX) (maxL := 4) (ret := (some .int)) (by decide) rfl (Nat.le_of_ble_eq_true rfl) ?_
  intro p e s m below meth c A ls C hH hl
  have hl : lv_has ls 4 [(0, .ref h), (1, .ref q1), (2, .int x2), (3, .int x3)] := hl
  obtain ⟨hx, hb, hr, hml, hown, hts, hlk, hK, hA⟩ := id C
  unfold f_Packer_headX at hf
  refine lv_aload_n hx hb d_Packer_headX_0 rfl (lv_at hl 1 rfl) ?_
  refine lv_iload_n hx hb d_Packer_headX_1 rfl (lv_at hl 2 rfl) ?_
  refine fnVR (rest := []) (st2 := [.int (f_Events_kind e1 x2)]) C (c_Events_kind l D cI cL q1 q1_kinds q1_differences q1_partsA q1_partsB e1 x2 _ rfl) (cV hts kV_Events_kind wd_217 ⟨Nat.le_of_ble_eq_true rfl, Nat.le_of_ble_eq_true rfl⟩) hH [5, 6, 7, 8, 9] rfl rfl 0 rfl rfl rfl hl.1 rfl (Nat.le_of_ble_eq_true rfl) d_Packer_headX_2 ⟨Nat.le_of_ble_eq_true rfl, Nat.le_of_ble_eq_true rfl⟩ rfl (fun H locs hH => ?_)
  by_cases hc5_0 : f_Events_kind e1 x2 = 0
  · have hf := ip hc5_0 hf
    refine lv_tableIn (tgt := 36) hx hb d_Packer_headX_5 (by rw [hc5_0]; decide) (by rw [hc5_0]; decide) (by rw [hc5_0]; rfl) (by decide) ?_
    refine lv_aload_n hx hb d_Packer_headX_36 rfl (lv_at hl 1 rfl) ?_
    refine lv_iload_n hx hb d_Packer_headX_37 rfl (lv_at hl 2 rfl) ?_
    refine fnVR (rest := []) (st2 := [.long (f_Events_a e1 x2)]) C (c_Events_a l D cI cL q1 q1_kinds q1_differences q1_partsA q1_partsB e1 x2 _ rfl) (cV hts kV_Events_a wd_235 ⟨Nat.le_of_ble_eq_true rfl, Nat.le_of_ble_eq_true rfl⟩) hH [5, 6, 7, 8, 9] rfl rfl 0 rfl rfl rfl hl.1 rfl (Nat.le_of_ble_eq_true rfl) d_Packer_headX_38 ⟨Nat.le_of_ble_eq_true rfl, Nat.le_of_ble_eq_true rfl⟩ rfl (fun H locs hH => ?_)
    refine lv_l2i (v := (f_Events_a e1 x2).toInt32) hx hb d_Packer_headX_41 rfl ?_
    subst hf
    exact rIR (v := (f_Events_a e1 x2).toInt32) C hH d_Packer_headX_42
  have hf := im hc5_0 hf
  by_cases hc5_1 : f_Events_kind e1 x2 = 1
  · have hf := ip hc5_1 hf
    refine lv_tableIn (tgt := 43) hx hb d_Packer_headX_5 (by rw [hc5_1]; decide) (by rw [hc5_1]; decide) (by rw [hc5_1]; rfl) (by decide) ?_
    refine lv_iload_n hx hb d_Packer_headX_43 rfl (lv_at hl 3 rfl) ?_
    refine lv_if_le (tgt := 51) hx hb d_Packer_headX_44 (by decide) (fun hc44 => ?_) (fun hc44 => ?_)
    · have hf := ip hc44 hf
      refine lv_aload_n hx hb d_Packer_headX_51 rfl (lv_at hl 1 rfl) ?_
      refine lv_iload_n hx hb d_Packer_headX_52 rfl (lv_at hl 2 rfl) ?_
      refine fnVR (rest := []) (st2 := [.int (f_Events_b e1 x2)]) C (c_Events_b l D cI cL q1 q1_kinds q1_differences q1_partsA q1_partsB e1 x2 _ rfl) (cV hts kV_Events_b wd_221 ⟨Nat.le_of_ble_eq_true rfl, Nat.le_of_ble_eq_true rfl⟩) hH [5, 6, 7, 8, 9] rfl rfl 0 rfl rfl rfl hl.1 rfl (Nat.le_of_ble_eq_true rfl) d_Packer_headX_53 ⟨Nat.le_of_ble_eq_true rfl, Nat.le_of_ble_eq_true rfl⟩ rfl (fun H locs hH => ?_)
      subst hf
      exact rIR (v := f_Events_b e1 x2) C hH d_Packer_headX_56
    · have hf := im hc44 hf
      refine lv_iconst (v := 0) hx hb d_Packer_headX_47 (by decide) ?_
      refine lv_goto (tgt := 56) hx hb d_Packer_headX_48 (by decide) ?_
      subst hf
      exact rIR (v := 0) C hH d_Packer_headX_56
  have hf := im hc5_1 hf
  by_cases hc5_2 : f_Events_kind e1 x2 = 2
  · have hf := ip hc5_2 hf
    refine lv_tableIn (tgt := 36) hx hb d_Packer_headX_5 (by rw [hc5_2]; decide) (by rw [hc5_2]; decide) (by rw [hc5_2]; rfl) (by decide) ?_
    refine lv_aload_n hx hb d_Packer_headX_36 rfl (lv_at hl 1 rfl) ?_
    refine lv_iload_n hx hb d_Packer_headX_37 rfl (lv_at hl 2 rfl) ?_
    refine fnVR (rest := []) (st2 := [.long (f_Events_a e1 x2)]) C (c_Events_a l D cI cL q1 q1_kinds q1_differences q1_partsA q1_partsB e1 x2 _ rfl) (cV hts kV_Events_a wd_235 ⟨Nat.le_of_ble_eq_true rfl, Nat.le_of_ble_eq_true rfl⟩) hH [5, 6, 7, 8, 9] rfl rfl 0 rfl rfl rfl hl.1 rfl (Nat.le_of_ble_eq_true rfl) d_Packer_headX_38 ⟨Nat.le_of_ble_eq_true rfl, Nat.le_of_ble_eq_true rfl⟩ rfl (fun H locs hH => ?_)
    refine lv_l2i (v := (f_Events_a e1 x2).toInt32) hx hb d_Packer_headX_41 rfl ?_
    subst hf
    exact rIR (v := (f_Events_a e1 x2).toInt32) C hH d_Packer_headX_42
  have hf := im hc5_2 hf
  by_cases hc5_3 : f_Events_kind e1 x2 = 3
  · have hf := ip hc5_3 hf
    refine lv_tableIn (tgt := 57) hx hb d_Packer_headX_5 (by rw [hc5_3]; decide) (by rw [hc5_3]; decide) (by rw [hc5_3]; rfl) (by decide) ?_
    refine lv_aload_n hx hb d_Packer_headX_57 rfl (lv_at hl 1 rfl) ?_
    refine lv_iload_n hx hb d_Packer_headX_58 rfl (lv_at hl 2 rfl) ?_
    refine lv_aload_n hx hb d_Packer_headX_59 rfl (lv_at hl 0 rfl) ?_
    refine gt (ci := 3) (v := .ref h_past) C hH (iwT iw_Packer) 0 rfl rfl 1 (by decide) (.tail _ wd_83) rfl d_Packer_headX_60 ?_
    refine fnVR (rest := [.int x2, .ref q1]) (st2 := [.int (f_Past_latestClock st.2.1), .int x2, .ref q1]) C (c_Past_latestClock l D cI cL h_past h_past_typed st.2.1 _ rfl) (cV hts kV_Past_latestClock wd_239 ⟨Nat.le_of_ble_eq_true rfl, Nat.le_of_ble_eq_true rfl⟩) hH [3, 4] rfl rfl 0 rfl rfl rfl hl.1 rfl (Nat.le_of_ble_eq_true rfl) d_Packer_headX_63 ⟨Nat.le_of_ble_eq_true rfl, Nat.le_of_ble_eq_true rfl⟩ rfl (fun H locs hH => ?_)
    refine fnVR (rest := []) (st2 := [.int (bI (f_Events_bringTheSame e1 x2 (f_Past_latestClock st.2.1)))]) C (c_Events_bringTheSame l D cI cL q1 q1_kinds q1_differences q1_partsA q1_partsB e1 x2 (f_Past_latestClock st.2.1) _ rfl) (cV hts kV_Events_bringTheSame wd_230 ⟨Nat.le_of_ble_eq_true rfl, Nat.le_of_ble_eq_true rfl⟩) hH [5, 6, 7, 8, 9] rfl rfl 0 rfl rfl rfl hl.1 rfl (Nat.le_of_ble_eq_true rfl) d_Packer_headX_66 ⟨Nat.le_of_ble_eq_true rfl, Nat.le_of_ble_eq_true rfl⟩ rfl (fun H locs hH => ?_)
    refine lv_if_eq (tgt := 76) hx hb d_Packer_headX_69 (by decide) (fun hc69 => ?_) (fun hc69 => ?_)
    · have hf := ip hc69 hf
      refine lv_iconst (v := 0) hx hb d_Packer_headX_76 (by decide) ?_
      subst hf
      exact rIR (v := 0) C hH d_Packer_headX_77
    · have hf := im hc69 hf
      refine lv_iconst (v := 1) hx hb d_Packer_headX_72 (by decide) ?_
      refine lv_goto (tgt := 77) hx hb d_Packer_headX_73 (by decide) ?_
      subst hf
      exact rIR (v := 1) C hH d_Packer_headX_77
  have hf := im hc5_3 hf
  refine lv_tableOut (tgt := 78) hx hb d_Packer_headX_5 (by have h0 := i32n (k := 0) hc5_0 (by decide); have h1 := i32n (k := 1) hc5_1 (by decide); have h2 := i32n (k := 2) hc5_2 (by decide); have h3 := i32n (k := 3) hc5_3 (by decide); omega) (by decide) ?_
  refine lv_iconst (v := 0) hx hb d_Packer_headX_78 (by decide) ?_
  subst hf
  exact rIR (v := 0) C hH d_Packer_headX_79
def f_Packer_packBytes_b5 : Nat → S_Packer → Int64 → Int32 → Option (S_Packer)
  | 0, _, _, _ => none
  | n + 1, st, x1, x4 =>
  if x4 < 0 then (some st) else (lt1 (f_Packer_packByte st ((((x1.toUInt64 >>> (((8 : Int32) * x4).toInt64.toUInt64 &&& Int64.toUInt64 63)).toInt64).toInt32) &&& 255)) (fun r23 => f_Packer_packBytes_b5 n r23 x1 (x4 + (-1))))
set_option maxRecDepth 100000 in
set_option maxHeartbeats 4000000 in
theorem w_Packer_packBytes_b5 (l : Launch) (D : va_G) (cI cL : ClassId) (h h_log h_log_row h_past h_past_typed : Nat) {p : Program} {e : Env} {s : State} {m : MethodId} {args : Array Value} {below : List Frame} {meth : Method} {c : Code} {A : Nat → Prop} (C : Cx p s m args meth c D vwCl [(cI, .int), (cL, .long)] A b_Packer_packBytes 5 none ws_Packer_packBytes y_Packer_packBytes.cls) : ∀ (n : Nat) (st : S_Packer) (x1 : Int64) (x4 : Int32) (res : S_Packer), f_Packer_packBytes_b5 n st x1 x4 = some res → ∀ (H : Heap) (locs : List Loc) (ls : Array Slot), Hp D vwCl A A s.heap H locs [(h, .inr (3, [.ref h_log, .ref h_past, .int (bI st.2.2.1), .int st.2.2.2.1, .int st.2.2.2.2.1, .int st.2.2.2.2.2.1, .int st.2.2.2.2.2.2.1, .int st.2.2.2.2.2.2.2])), (h_log, .inr (0, [.ref h_log_row, .int st.1.2])), (h_log_row, .inl (cI, 5000, .inl st.1.1)), (h_past, .inr (1, [.ref h_past_typed, .int st.2.1.2.1, .int st.2.1.2.2])), (h_past_typed, .inl (cI, 300, .inl st.2.1.1))] → lv_has ls 5 [(0, .ref h), (1, .long x1), (4, .int x4)] → W p l e { frames := 2, cells := 0, slots := 0, locals := 42 } s m args below meth c H locs 0 0 (MQ below (Qw D vwCl [(cI, .int), (cL, .long)] (none) A [(h, .inr (3, [.ref h_log, .ref h_past, .int (bI res.2.2.1), .int res.2.2.2.1, .int res.2.2.2.2.1, .int res.2.2.2.2.2.1, .int res.2.2.2.2.2.2.1, .int res.2.2.2.2.2.2.2])), (h_log, .inr (0, [.ref h_log_row, .int res.1.2])), (h_log_row, .inl (cI, 5000, .inl res.1.1)), (h_past, .inr (1, [.ref h_past_typed, .int res.2.1.2.1, .int res.2.1.2.2])), (h_past_typed, .inl (cI, 300, .inl res.2.1.1))]) args s 0 0 A) (F0 m 5 ls []) := by
  obtain ⟨hx, hb, hr, hml, hown, hts, hlk, hK, hA⟩ := id C
  intro n
  induction n with
  | zero => intro st x1 x4 res hf; cases hf
  | succ n ih =>
    intro st x1 x4 res hf H locs ls hH hl
    rw [f_Packer_packBytes_b5] at hf
    refine lv_iload hx hb d_Packer_packBytes_5 (lv_at hl 2 rfl) ?_
    refine lv_if_lt (tgt := 32) hx hb d_Packer_packBytes_7 (by decide) (fun hc7 => ?_) (fun hc7 => ?_)
    · have hf := ip hc7 hf
      have hf := Option.some.inj hf
      subst hf
      exact rV C hH d_Packer_packBytes_32
    · have hf := im hc7 hf
      refine lv_aload_n hx hb d_Packer_packBytes_10 rfl (lv_at hl 0 rfl) ?_
      refine lv_lload_n hx hb d_Packer_packBytes_11 rfl (lv_at hl 1 rfl) ?_
      refine lv_bipush (v := 8) hx hb d_Packer_packBytes_12 (by decide) ?_
      refine lv_iload hx hb d_Packer_packBytes_14 (lv_at hl 2 rfl) ?_
      refine lv_imul hx hb d_Packer_packBytes_16 ?_
      refine lv_lushr (v := (x1.toUInt64 >>> (((8 : Int32) * x4).toInt64.toUInt64 &&& Int64.toUInt64 63)).toInt64) hx hb d_Packer_packBytes_17 rfl ?_
      refine lv_l2i (v := ((x1.toUInt64 >>> (((8 : Int32) * x4).toInt64.toUInt64 &&& Int64.toUInt64 63)).toInt64).toInt32) hx hb d_Packer_packBytes_18 rfl ?_
      refine lv_sipush (v := 255) hx hb d_Packer_packBytes_19 (by decide) ?_
      refine lv_iand hx hb d_Packer_packBytes_22 ?_
      obtain ⟨r23, hr23, hf⟩ := lb hf
      refine fnV (rest := []) (wr := []) (w2 := [(h, .inr (3, [.ref h_log, .ref h_past, .int (bI r23.2.2.1), .int r23.2.2.2.1, .int r23.2.2.2.2.1, .int r23.2.2.2.2.2.1, .int r23.2.2.2.2.2.2.1, .int r23.2.2.2.2.2.2.2])), (h_log, .inr (0, [.ref h_log_row, .int r23.1.2])), (h_log_row, .inl (cI, 5000, .inl r23.1.1)), (h_past, .inr (1, [.ref h_past_typed, .int r23.2.1.2.1, .int r23.2.1.2.2])), (h_past_typed, .inl (cI, 300, .inl r23.2.1.1))]) (st2 := []) C (c_Packer_packByte l D cI cL h h_log h_log_row h_past h_past_typed st ((((x1.toUInt64 >>> (((8 : Int32) * x4).toInt64.toUInt64 &&& Int64.toUInt64 63)).toInt64).toInt32) &&& 255) r23 hr23) (cV hts kV_Packer_packByte wd_176 ⟨Nat.le_of_ble_eq_true rfl, Nat.le_of_ble_eq_true rfl⟩) hH [0, 1, 2, 3, 4] [] [0, 1, 2, 3, 4] rfl rfl rfl rfl (by decide) rfl rfl 0 rfl rfl rfl hl.1 rfl (Nat.le_of_ble_eq_true rfl) d_Packer_packBytes_23 ⟨Nat.le_of_ble_eq_true rfl, Nat.le_of_ble_eq_true rfl⟩ rfl (fun H locs hH => ?_)
      refine lv_iinc (v := x4 + (-1)) (lv' := [(4, .int (x4 + (-1))), (0, .ref h), (1, .long x1)]) hx hb d_Packer_packBytes_26 hl (k := 2) rfl rfl (by decide) rfl (fun ls hl => ?_)
      refine lv_goto (tgt := 5) hx hb d_Packer_packBytes_29 (by decide) ?_
      exact ih r23 x1 (x4 + (-1)) res hf _ _ _ hH (lv_sub hl [1, 2, 0] rfl)
def f_Packer_packBytes (st : S_Packer) (x1 : Int64) (x3 : Int32) : Option (S_Packer) :=
  f_Packer_packBytes_b5 400 st x1 (x3 - 1)
set_option maxRecDepth 100000 in
set_option maxHeartbeats 4000000 in
theorem c_Packer_packBytes (l : Launch) (D : va_G) (cI cL : ClassId) (h h_log h_log_row h_past h_past_typed : Nat) (st : S_Packer) (x1 : Int64) (x3 : Int32) (res : S_Packer) (hf : f_Packer_packBytes st x1 x3 = some res) :
    Fn l D vwCl [(cI, .int), (cL, .long)] y_Packer_packBytes ws_Packer_packBytes { frames := 2, cells := 0, slots := 0, locals := 42 } [.ref h, .long x1, .int x3] [(h, .inr (3, [.ref h_log, .ref h_past, .int (bI st.2.2.1), .int st.2.2.2.1, .int st.2.2.2.2.1, .int st.2.2.2.2.2.1, .int st.2.2.2.2.2.2.1, .int st.2.2.2.2.2.2.2])), (h_log, .inr (0, [.ref h_log_row, .int st.1.2])), (h_log_row, .inl (cI, 5000, .inl st.1.1)), (h_past, .inr (1, [.ref h_past_typed, .int st.2.1.2.1, .int st.2.1.2.2])), (h_past_typed, .inl (cI, 300, .inl st.2.1.1))] (none) [(h, .inr (3, [.ref h_log, .ref h_past, .int (bI res.2.2.1), .int res.2.2.2.1, .int res.2.2.2.2.1, .int res.2.2.2.2.2.1, .int res.2.2.2.2.2.2.1, .int res.2.2.2.2.2.2.2])), (h_log, .inr (0, [.ref h_log_row, .int res.1.2])), (h_log_row, .inl (cI, 5000, .inl res.1.1)), (h_past, .inr (1, [.ref h_past_typed, .int res.2.1.2.1, .int res.2.1.2.2])), (h_past_typed, .inl (cI, 300, .inl res.2.1.1))] := by
  refine Fn.ofW (cc := b_Packer_packBytes) (maxL := 5) (ret := none) (by decide) rfl (Nat.le_of_ble_eq_true rfl) ?_
  intro p e s m below meth c A ls C hH hinit hl
  have hl : lv_has ls 5 [(0, .ref h), (1, .long x1), (3, .int x3)] := hl
  obtain ⟨hx, hb, hr, hml, hown, hts, hlk, hK, hA⟩ := id C
  unfold f_Packer_packBytes at hf
  refine lv_iload_n hx hb d_Packer_packBytes_0 rfl (lv_at hl 2 rfl) ?_
  refine lv_iconst (v := 1) hx hb d_Packer_packBytes_1 (by decide) ?_
  refine lv_isub hx hb d_Packer_packBytes_2 ?_
  refine lv_istore (lv' := [(4, .int (x3 - 1)), (0, .ref h), (1, .long x1), (3, .int x3)]) hx hb d_Packer_packBytes_3 hl (by decide) rfl (fun ls hl => ?_)
  exact w_Packer_packBytes_b5 l D cI cL h h_log h_log_row h_past h_past_typed C 400 st x1 (x3 - 1) res hf _ _ _ hH (lv_sub hl [1, 2, 0] rfl)
def f_Packer_packBrought (st : S_Packer) (e1 : S_Events) (x2 : Int32) (x3 : Int32) : Option (S_Packer) :=
  if f_Events_kind e1 x2 = 1 then ((f_Packer_packBytes st (f_Events_a e1 x2) (f_Events_b e1 x2)).bind (fun r47 => some r47)) else if f_Events_kind e1 x2 = 2 then (lt1 (f_Packer_packByte st (f_Events_b e1 x2)) (fun r59 => some r59)) else if f_Events_kind e1 x2 = 3 then (if x3 = 0 then ((f_Packer_packVarint st (f_Events_a e1 x2)).bind (fun r75 => some r75)) else (some st)) else if f_Events_kind e1 x2 = 4 then ((f_Packer_packBytes st (f_Events_a e1 x2) 4).bind (fun r88 => some r88)) else (some st)
set_option maxRecDepth 100000 in
set_option maxHeartbeats 4000000 in
theorem c_Packer_packBrought (l : Launch) (D : va_G) (cI cL : ClassId) (h h_log h_log_row h_past h_past_typed q1 q1_kinds q1_differences q1_partsA q1_partsB : Nat) (st : S_Packer) (e1 : S_Events) (x2 : Int32) (x3 : Int32) (res : S_Packer) (hf : f_Packer_packBrought st e1 x2 x3 = some res) :
    Fn l D vwCl [(cI, .int), (cL, .long)] y_Packer_packBrought ws_Packer_packBrought { frames := 3, cells := 0, slots := 0, locals := 67 } [.ref h, .ref q1, .int x2, .int x3] [(h, .inr (3, [.ref h_log, .ref h_past, .int (bI st.2.2.1), .int st.2.2.2.1, .int st.2.2.2.2.1, .int st.2.2.2.2.2.1, .int st.2.2.2.2.2.2.1, .int st.2.2.2.2.2.2.2])), (h_log, .inr (0, [.ref h_log_row, .int st.1.2])), (h_log_row, .inl (cI, 5000, .inl st.1.1)), (h_past, .inr (1, [.ref h_past_typed, .int st.2.1.2.1, .int st.2.1.2.2])), (h_past_typed, .inl (cI, 300, .inl st.2.1.1)), (q1, .inr (2, [.ref q1_kinds, .ref q1_differences, .ref q1_partsA, .ref q1_partsB, .int e1.2.2.2.2])), (q1_kinds, .inl (cI, 300, .inl e1.1)), (q1_differences, .inl (cL, 300, .inr (.inl e1.2.1))), (q1_partsA, .inl (cL, 300, .inr (.inl e1.2.2.1))), (q1_partsB, .inl (cI, 300, .inl e1.2.2.2.1))] (none) [(h, .inr (3, [.ref h_log, .ref h_past, .int (bI res.2.2.1), .int res.2.2.2.1, .int res.2.2.2.2.1, .int res.2.2.2.2.2.1, .int res.2.2.2.2.2.2.1, .int res.2.2.2.2.2.2.2])), (h_log, .inr (0, [.ref h_log_row, .int res.1.2])), (h_log_row, .inl (cI, 5000, .inl res.1.1)), (h_past, .inr (1, [.ref h_past_typed, .int res.2.1.2.1, .int res.2.1.2.2])), (h_past_typed, .inl (cI, 300, .inl res.2.1.1)), (q1, .inr (2, [.ref q1_kinds, .ref q1_differences, .ref q1_partsA, .ref q1_partsB, .int e1.2.2.2.2])), (q1_kinds, .inl (cI, 300, .inl e1.1)), (q1_differences, .inl (cL, 300, .inr (.inl e1.2.1))), (q1_partsA, .inl (cL, 300, .inr (.inl e1.2.2.1))), (q1_partsB, .inl (cI, 300, .inl e1.2.2.2.1))] := by
  refine Fn.ofW (cc := b_Packer_packBrought) (maxL := 4) (ret := none) (by decide) rfl (Nat.le_of_ble_eq_true rfl) ?_
  intro p e s m below meth c A ls C hH hinit hl
  have hl : lv_has ls 4 [(0, .ref h), (1, .ref q1), (2, .int x2), (3, .int x3)] := hl
  obtain ⟨hx, hb, hr, hml, hown, hts, hlk, hK, hA⟩ := id C
  unfold f_Packer_packBrought at hf
  refine lv_aload_n hx hb d_Packer_packBrought_0 rfl (lv_at hl 1 rfl) ?_
  refine lv_iload_n hx hb d_Packer_packBrought_1 rfl (lv_at hl 2 rfl) ?_
  refine fnVR (rest := []) (st2 := [.int (f_Events_kind e1 x2)]) C (c_Events_kind l D cI cL q1 q1_kinds q1_differences q1_partsA q1_partsB e1 x2 _ rfl) (cV hts kV_Events_kind wd_217 ⟨Nat.le_of_ble_eq_true rfl, Nat.le_of_ble_eq_true rfl⟩) hH [5, 6, 7, 8, 9] rfl rfl 0 rfl rfl rfl hl.1 rfl (Nat.le_of_ble_eq_true rfl) d_Packer_packBrought_2 ⟨Nat.le_of_ble_eq_true rfl, Nat.le_of_ble_eq_true rfl⟩ rfl (fun H locs hH => ?_)
  by_cases hc5_0 : f_Events_kind e1 x2 = 1
  · have hf := ip hc5_0 hf
    refine lv_tableIn (tgt := 36) hx hb d_Packer_packBrought_5 (by rw [hc5_0]; decide) (by rw [hc5_0]; decide) (by rw [hc5_0]; rfl) (by decide) ?_
    refine lv_aload_n hx hb d_Packer_packBrought_36 rfl (lv_at hl 0 rfl) ?_
    refine lv_aload_n hx hb d_Packer_packBrought_37 rfl (lv_at hl 1 rfl) ?_
    refine lv_iload_n hx hb d_Packer_packBrought_38 rfl (lv_at hl 2 rfl) ?_
    refine fnVR (rest := [.ref h]) (st2 := [.long (f_Events_a e1 x2), .ref h]) C (c_Events_a l D cI cL q1 q1_kinds q1_differences q1_partsA q1_partsB e1 x2 _ rfl) (cV hts kV_Events_a wd_235 ⟨Nat.le_of_ble_eq_true rfl, Nat.le_of_ble_eq_true rfl⟩) hH [5, 6, 7, 8, 9] rfl rfl 0 rfl rfl rfl hl.1 rfl (Nat.le_of_ble_eq_true rfl) d_Packer_packBrought_39 ⟨Nat.le_of_ble_eq_true rfl, Nat.le_of_ble_eq_true rfl⟩ rfl (fun H locs hH => ?_)
    refine lv_aload_n hx hb d_Packer_packBrought_42 rfl (lv_at hl 1 rfl) ?_
    refine lv_iload_n hx hb d_Packer_packBrought_43 rfl (lv_at hl 2 rfl) ?_
    refine fnVR (rest := [.long (f_Events_a e1 x2), .ref h]) (st2 := [.int (f_Events_b e1 x2), .long (f_Events_a e1 x2), .ref h]) C (c_Events_b l D cI cL q1 q1_kinds q1_differences q1_partsA q1_partsB e1 x2 _ rfl) (cV hts kV_Events_b wd_221 ⟨Nat.le_of_ble_eq_true rfl, Nat.le_of_ble_eq_true rfl⟩) hH [5, 6, 7, 8, 9] rfl rfl 0 rfl rfl rfl hl.1 rfl (Nat.le_of_ble_eq_true rfl) d_Packer_packBrought_44 ⟨Nat.le_of_ble_eq_true rfl, Nat.le_of_ble_eq_true rfl⟩ rfl (fun H locs hH => ?_)
    obtain ⟨r47, hr47, hf⟩ := ob hf
    refine fnV (rest := []) (wr := [(q1, .inr (2, [.ref q1_kinds, .ref q1_differences, .ref q1_partsA, .ref q1_partsB, .int e1.2.2.2.2])), (q1_kinds, .inl (cI, 300, .inl e1.1)), (q1_differences, .inl (cL, 300, .inr (.inl e1.2.1))), (q1_partsA, .inl (cL, 300, .inr (.inl e1.2.2.1))), (q1_partsB, .inl (cI, 300, .inl e1.2.2.2.1))]) (w2 := [(h, .inr (3, [.ref h_log, .ref h_past, .int (bI r47.2.2.1), .int r47.2.2.2.1, .int r47.2.2.2.2.1, .int r47.2.2.2.2.2.1, .int r47.2.2.2.2.2.2.1, .int r47.2.2.2.2.2.2.2])), (h_log, .inr (0, [.ref h_log_row, .int r47.1.2])), (h_log_row, .inl (cI, 5000, .inl r47.1.1)), (h_past, .inr (1, [.ref h_past_typed, .int r47.2.1.2.1, .int r47.2.1.2.2])), (h_past_typed, .inl (cI, 300, .inl r47.2.1.1)), (q1, .inr (2, [.ref q1_kinds, .ref q1_differences, .ref q1_partsA, .ref q1_partsB, .int e1.2.2.2.2])), (q1_kinds, .inl (cI, 300, .inl e1.1)), (q1_differences, .inl (cL, 300, .inr (.inl e1.2.1))), (q1_partsA, .inl (cL, 300, .inr (.inl e1.2.2.1))), (q1_partsB, .inl (cI, 300, .inl e1.2.2.2.1))]) (st2 := []) C (c_Packer_packBytes l D cI cL h h_log h_log_row h_past h_past_typed st (f_Events_a e1 x2) (f_Events_b e1 x2) r47 hr47) (cV hts kV_Packer_packBytes wd_248 ⟨Nat.le_of_ble_eq_true rfl, Nat.le_of_ble_eq_true rfl⟩) hH [0, 1, 2, 3, 4] [5, 6, 7, 8, 9] [5, 6, 7, 8, 9, 0, 1, 2, 3, 4] rfl rfl rfl rfl (by decide) rfl rfl 0 rfl rfl rfl hl.1 rfl (Nat.le_of_ble_eq_true rfl) d_Packer_packBrought_47 ⟨Nat.le_of_ble_eq_true rfl, Nat.le_of_ble_eq_true rfl⟩ rfl (fun H locs hH => ?_)
    refine lv_goto (tgt := 94) hx hb d_Packer_packBrought_50 (by decide) ?_
    have hf := Option.some.inj hf
    subst hf
    exact rV C hH d_Packer_packBrought_94
  have hf := im hc5_0 hf
  by_cases hc5_1 : f_Events_kind e1 x2 = 2
  · have hf := ip hc5_1 hf
    refine lv_tableIn (tgt := 53) hx hb d_Packer_packBrought_5 (by rw [hc5_1]; decide) (by rw [hc5_1]; decide) (by rw [hc5_1]; rfl) (by decide) ?_
    refine lv_aload_n hx hb d_Packer_packBrought_53 rfl (lv_at hl 0 rfl) ?_
    refine lv_aload_n hx hb d_Packer_packBrought_54 rfl (lv_at hl 1 rfl) ?_
    refine lv_iload_n hx hb d_Packer_packBrought_55 rfl (lv_at hl 2 rfl) ?_
    refine fnVR (rest := [.ref h]) (st2 := [.int (f_Events_b e1 x2), .ref h]) C (c_Events_b l D cI cL q1 q1_kinds q1_differences q1_partsA q1_partsB e1 x2 _ rfl) (cV hts kV_Events_b wd_221 ⟨Nat.le_of_ble_eq_true rfl, Nat.le_of_ble_eq_true rfl⟩) hH [5, 6, 7, 8, 9] rfl rfl 0 rfl rfl rfl hl.1 rfl (Nat.le_of_ble_eq_true rfl) d_Packer_packBrought_56 ⟨Nat.le_of_ble_eq_true rfl, Nat.le_of_ble_eq_true rfl⟩ rfl (fun H locs hH => ?_)
    obtain ⟨r59, hr59, hf⟩ := lb hf
    refine fnV (rest := []) (wr := [(q1, .inr (2, [.ref q1_kinds, .ref q1_differences, .ref q1_partsA, .ref q1_partsB, .int e1.2.2.2.2])), (q1_kinds, .inl (cI, 300, .inl e1.1)), (q1_differences, .inl (cL, 300, .inr (.inl e1.2.1))), (q1_partsA, .inl (cL, 300, .inr (.inl e1.2.2.1))), (q1_partsB, .inl (cI, 300, .inl e1.2.2.2.1))]) (w2 := [(h, .inr (3, [.ref h_log, .ref h_past, .int (bI r59.2.2.1), .int r59.2.2.2.1, .int r59.2.2.2.2.1, .int r59.2.2.2.2.2.1, .int r59.2.2.2.2.2.2.1, .int r59.2.2.2.2.2.2.2])), (h_log, .inr (0, [.ref h_log_row, .int r59.1.2])), (h_log_row, .inl (cI, 5000, .inl r59.1.1)), (h_past, .inr (1, [.ref h_past_typed, .int r59.2.1.2.1, .int r59.2.1.2.2])), (h_past_typed, .inl (cI, 300, .inl r59.2.1.1)), (q1, .inr (2, [.ref q1_kinds, .ref q1_differences, .ref q1_partsA, .ref q1_partsB, .int e1.2.2.2.2])), (q1_kinds, .inl (cI, 300, .inl e1.1)), (q1_differences, .inl (cL, 300, .inr (.inl e1.2.1))), (q1_partsA, .inl (cL, 300, .inr (.inl e1.2.2.1))), (q1_partsB, .inl (cI, 300, .inl e1.2.2.2.1))]) (st2 := []) C (c_Packer_packByte l D cI cL h h_log h_log_row h_past h_past_typed st (f_Events_b e1 x2) r59 hr59) (cV hts kV_Packer_packByte wd_176 ⟨Nat.le_of_ble_eq_true rfl, Nat.le_of_ble_eq_true rfl⟩) hH [0, 1, 2, 3, 4] [5, 6, 7, 8, 9] [5, 6, 7, 8, 9, 0, 1, 2, 3, 4] rfl rfl rfl rfl (by decide) rfl rfl 0 rfl rfl rfl hl.1 rfl (Nat.le_of_ble_eq_true rfl) d_Packer_packBrought_59 ⟨Nat.le_of_ble_eq_true rfl, Nat.le_of_ble_eq_true rfl⟩ rfl (fun H locs hH => ?_)
    refine lv_goto (tgt := 94) hx hb d_Packer_packBrought_62 (by decide) ?_
    have hf := Option.some.inj hf
    subst hf
    exact rV C hH d_Packer_packBrought_94
  have hf := im hc5_1 hf
  by_cases hc5_2 : f_Events_kind e1 x2 = 3
  · have hf := ip hc5_2 hf
    refine lv_tableIn (tgt := 65) hx hb d_Packer_packBrought_5 (by rw [hc5_2]; decide) (by rw [hc5_2]; decide) (by rw [hc5_2]; rfl) (by decide) ?_
    refine lv_iload_n hx hb d_Packer_packBrought_65 rfl (lv_at hl 3 rfl) ?_
    refine lv_if_ne (tgt := 94) hx hb d_Packer_packBrought_66 (by decide) (fun hc66 => ?_) (fun hc66 => ?_)
    · have hf := im hc66 hf
      have hf := Option.some.inj hf
      subst hf
      exact rV C hH d_Packer_packBrought_94
    · have hf := ip hc66 hf
      refine lv_aload_n hx hb d_Packer_packBrought_69 rfl (lv_at hl 0 rfl) ?_
      refine lv_aload_n hx hb d_Packer_packBrought_70 rfl (lv_at hl 1 rfl) ?_
      refine lv_iload_n hx hb d_Packer_packBrought_71 rfl (lv_at hl 2 rfl) ?_
      refine fnVR (rest := [.ref h]) (st2 := [.long (f_Events_a e1 x2), .ref h]) C (c_Events_a l D cI cL q1 q1_kinds q1_differences q1_partsA q1_partsB e1 x2 _ rfl) (cV hts kV_Events_a wd_235 ⟨Nat.le_of_ble_eq_true rfl, Nat.le_of_ble_eq_true rfl⟩) hH [5, 6, 7, 8, 9] rfl rfl 0 rfl rfl rfl hl.1 rfl (Nat.le_of_ble_eq_true rfl) d_Packer_packBrought_72 ⟨Nat.le_of_ble_eq_true rfl, Nat.le_of_ble_eq_true rfl⟩ rfl (fun H locs hH => ?_)
      obtain ⟨r75, hr75, hf⟩ := ob hf
      refine fnV (rest := []) (wr := [(q1, .inr (2, [.ref q1_kinds, .ref q1_differences, .ref q1_partsA, .ref q1_partsB, .int e1.2.2.2.2])), (q1_kinds, .inl (cI, 300, .inl e1.1)), (q1_differences, .inl (cL, 300, .inr (.inl e1.2.1))), (q1_partsA, .inl (cL, 300, .inr (.inl e1.2.2.1))), (q1_partsB, .inl (cI, 300, .inl e1.2.2.2.1))]) (w2 := [(h, .inr (3, [.ref h_log, .ref h_past, .int (bI r75.2.2.1), .int r75.2.2.2.1, .int r75.2.2.2.2.1, .int r75.2.2.2.2.2.1, .int r75.2.2.2.2.2.2.1, .int r75.2.2.2.2.2.2.2])), (h_log, .inr (0, [.ref h_log_row, .int r75.1.2])), (h_log_row, .inl (cI, 5000, .inl r75.1.1)), (h_past, .inr (1, [.ref h_past_typed, .int r75.2.1.2.1, .int r75.2.1.2.2])), (h_past_typed, .inl (cI, 300, .inl r75.2.1.1)), (q1, .inr (2, [.ref q1_kinds, .ref q1_differences, .ref q1_partsA, .ref q1_partsB, .int e1.2.2.2.2])), (q1_kinds, .inl (cI, 300, .inl e1.1)), (q1_differences, .inl (cL, 300, .inr (.inl e1.2.1))), (q1_partsA, .inl (cL, 300, .inr (.inl e1.2.2.1))), (q1_partsB, .inl (cI, 300, .inl e1.2.2.2.1))]) (st2 := []) C (c_Packer_packVarint l D cI cL h h_log h_log_row h_past h_past_typed st (f_Events_a e1 x2) r75 hr75) (cV hts kV_Packer_packVarint wd_171 ⟨Nat.le_of_ble_eq_true rfl, Nat.le_of_ble_eq_true rfl⟩) hH [0, 1, 2, 3, 4] [5, 6, 7, 8, 9] [5, 6, 7, 8, 9, 0, 1, 2, 3, 4] rfl rfl rfl rfl (by decide) rfl rfl 0 rfl rfl rfl hl.1 rfl (Nat.le_of_ble_eq_true rfl) d_Packer_packBrought_75 ⟨Nat.le_of_ble_eq_true rfl, Nat.le_of_ble_eq_true rfl⟩ rfl (fun H locs hH => ?_)
      refine lv_goto (tgt := 94) hx hb d_Packer_packBrought_78 (by decide) ?_
      have hf := Option.some.inj hf
      subst hf
      exact rV C hH d_Packer_packBrought_94
  have hf := im hc5_2 hf
  by_cases hc5_3 : f_Events_kind e1 x2 = 4
  · have hf := ip hc5_3 hf
    refine lv_tableIn (tgt := 81) hx hb d_Packer_packBrought_5 (by rw [hc5_3]; decide) (by rw [hc5_3]; decide) (by rw [hc5_3]; rfl) (by decide) ?_
    refine lv_aload_n hx hb d_Packer_packBrought_81 rfl (lv_at hl 0 rfl) ?_
    refine lv_aload_n hx hb d_Packer_packBrought_82 rfl (lv_at hl 1 rfl) ?_
    refine lv_iload_n hx hb d_Packer_packBrought_83 rfl (lv_at hl 2 rfl) ?_
    refine fnVR (rest := [.ref h]) (st2 := [.long (f_Events_a e1 x2), .ref h]) C (c_Events_a l D cI cL q1 q1_kinds q1_differences q1_partsA q1_partsB e1 x2 _ rfl) (cV hts kV_Events_a wd_235 ⟨Nat.le_of_ble_eq_true rfl, Nat.le_of_ble_eq_true rfl⟩) hH [5, 6, 7, 8, 9] rfl rfl 0 rfl rfl rfl hl.1 rfl (Nat.le_of_ble_eq_true rfl) d_Packer_packBrought_84 ⟨Nat.le_of_ble_eq_true rfl, Nat.le_of_ble_eq_true rfl⟩ rfl (fun H locs hH => ?_)
    refine lv_iconst (v := 4) hx hb d_Packer_packBrought_87 (by decide) ?_
    obtain ⟨r88, hr88, hf⟩ := ob hf
    refine fnV (rest := []) (wr := [(q1, .inr (2, [.ref q1_kinds, .ref q1_differences, .ref q1_partsA, .ref q1_partsB, .int e1.2.2.2.2])), (q1_kinds, .inl (cI, 300, .inl e1.1)), (q1_differences, .inl (cL, 300, .inr (.inl e1.2.1))), (q1_partsA, .inl (cL, 300, .inr (.inl e1.2.2.1))), (q1_partsB, .inl (cI, 300, .inl e1.2.2.2.1))]) (w2 := [(h, .inr (3, [.ref h_log, .ref h_past, .int (bI r88.2.2.1), .int r88.2.2.2.1, .int r88.2.2.2.2.1, .int r88.2.2.2.2.2.1, .int r88.2.2.2.2.2.2.1, .int r88.2.2.2.2.2.2.2])), (h_log, .inr (0, [.ref h_log_row, .int r88.1.2])), (h_log_row, .inl (cI, 5000, .inl r88.1.1)), (h_past, .inr (1, [.ref h_past_typed, .int r88.2.1.2.1, .int r88.2.1.2.2])), (h_past_typed, .inl (cI, 300, .inl r88.2.1.1)), (q1, .inr (2, [.ref q1_kinds, .ref q1_differences, .ref q1_partsA, .ref q1_partsB, .int e1.2.2.2.2])), (q1_kinds, .inl (cI, 300, .inl e1.1)), (q1_differences, .inl (cL, 300, .inr (.inl e1.2.1))), (q1_partsA, .inl (cL, 300, .inr (.inl e1.2.2.1))), (q1_partsB, .inl (cI, 300, .inl e1.2.2.2.1))]) (st2 := []) C (c_Packer_packBytes l D cI cL h h_log h_log_row h_past h_past_typed st (f_Events_a e1 x2) 4 r88 hr88) (cV hts kV_Packer_packBytes wd_248 ⟨Nat.le_of_ble_eq_true rfl, Nat.le_of_ble_eq_true rfl⟩) hH [0, 1, 2, 3, 4] [5, 6, 7, 8, 9] [5, 6, 7, 8, 9, 0, 1, 2, 3, 4] rfl rfl rfl rfl (by decide) rfl rfl 0 rfl rfl rfl hl.1 rfl (Nat.le_of_ble_eq_true rfl) d_Packer_packBrought_88 ⟨Nat.le_of_ble_eq_true rfl, Nat.le_of_ble_eq_true rfl⟩ rfl (fun H locs hH => ?_)
    refine lv_goto (tgt := 94) hx hb d_Packer_packBrought_91 (by decide) ?_
    have hf := Option.some.inj hf
    subst hf
    exact rV C hH d_Packer_packBrought_94
  have hf := im hc5_3 hf
  refine lv_tableOut (tgt := 94) hx hb d_Packer_packBrought_5 (by have h0 := i32n (k := 1) hc5_0 (by decide); have h1 := i32n (k := 2) hc5_1 (by decide); have h2 := i32n (k := 3) hc5_2 (by decide); have h3 := i32n (k := 4) hc5_3 (by decide); omega) (by decide) ?_
  have hf := Option.some.inj hf
  subst hf
  exact rV C hH d_Packer_packBrought_94
def f_Packer_packEntry_b85 (st : S_Packer) (e1 : S_Events) (x2 : Int32) (x4 : Int32) (x5 : Int32) : Option (S_Packer) :=
  if x4 ≤ 0 then ((f_Packer_packBrought st e1 x2 x5).bind (fun r115 => some r115)) else ((f_Packer_packVarint ((st.1, st.2.1, st.2.2.1, st.2.2.2.1, st.2.2.2.2.1, st.2.2.2.2.2.1, st.2.2.2.2.2.2.1, st.2.2.2.2.2.2.2 + 1)) x4.toInt64).bind (fun r104 => some r104))
set_option maxRecDepth 100000 in
set_option maxHeartbeats 4000000 in
theorem w_Packer_packEntry_b85 (l : Launch) (D : va_G) (cI cL : ClassId) (h h_log h_log_row h_past h_past_typed q1 q1_kinds q1_differences q1_partsA q1_partsB : Nat) {p : Program} {e : Env} {s : State} {m : MethodId} {args : Array Value} {below : List Frame} {meth : Method} {c : Code} {A : Nat → Prop} (C : Cx p s m args meth c D vwCl [(cI, .int), (cL, .long)] A b_Packer_packEntry 6 none ws_Packer_packEntry y_Packer_packEntry.cls) : ∀ (st : S_Packer) (e1 : S_Events) (x2 : Int32) (x4 : Int32) (x5 : Int32) (res : S_Packer), f_Packer_packEntry_b85 st e1 x2 x4 x5 = some res → ∀ (H : Heap) (locs : List Loc) (ls : Array Slot), Hp D vwCl A A s.heap H locs [(h, .inr (3, [.ref h_log, .ref h_past, .int (bI st.2.2.1), .int st.2.2.2.1, .int st.2.2.2.2.1, .int st.2.2.2.2.2.1, .int st.2.2.2.2.2.2.1, .int st.2.2.2.2.2.2.2])), (h_log, .inr (0, [.ref h_log_row, .int st.1.2])), (h_log_row, .inl (cI, 5000, .inl st.1.1)), (h_past, .inr (1, [.ref h_past_typed, .int st.2.1.2.1, .int st.2.1.2.2])), (h_past_typed, .inl (cI, 300, .inl st.2.1.1)), (q1, .inr (2, [.ref q1_kinds, .ref q1_differences, .ref q1_partsA, .ref q1_partsB, .int e1.2.2.2.2])), (q1_kinds, .inl (cI, 300, .inl e1.1)), (q1_differences, .inl (cL, 300, .inr (.inl e1.2.1))), (q1_partsA, .inl (cL, 300, .inr (.inl e1.2.2.1))), (q1_partsB, .inl (cI, 300, .inl e1.2.2.2.1))] → lv_has ls 6 [(0, .ref h), (1, .ref q1), (2, .int x2), (4, .int x4), (5, .int x5)] → W p l e { frames := 4, cells := 0, slots := 0, locals := 90 } s m args below meth c H locs 0 0 (MQ below (Qw D vwCl [(cI, .int), (cL, .long)] (none) A [(h, .inr (3, [.ref h_log, .ref h_past, .int (bI res.2.2.1), .int res.2.2.2.1, .int res.2.2.2.2.1, .int res.2.2.2.2.2.1, .int res.2.2.2.2.2.2.1, .int res.2.2.2.2.2.2.2])), (h_log, .inr (0, [.ref h_log_row, .int res.1.2])), (h_log_row, .inl (cI, 5000, .inl res.1.1)), (h_past, .inr (1, [.ref h_past_typed, .int res.2.1.2.1, .int res.2.1.2.2])), (h_past_typed, .inl (cI, 300, .inl res.2.1.1)), (q1, .inr (2, [.ref q1_kinds, .ref q1_differences, .ref q1_partsA, .ref q1_partsB, .int e1.2.2.2.2])), (q1_kinds, .inl (cI, 300, .inl e1.1)), (q1_differences, .inl (cL, 300, .inr (.inl e1.2.1))), (q1_partsA, .inl (cL, 300, .inr (.inl e1.2.2.1))), (q1_partsB, .inl (cI, 300, .inl e1.2.2.2.1))]) args s 0 0 A) (F0 m 85 ls []) := by
  obtain ⟨hx, hb, hr, hml, hown, hts, hlk, hK, hA⟩ := id C
  intro st e1 x2 x4 x5 res hf H locs ls hH hl
  unfold f_Packer_packEntry_b85 at hf
  refine lv_iload hx hb d_Packer_packEntry_85 (lv_at hl 3 rfl) ?_
  refine lv_if_le (tgt := 110) hx hb d_Packer_packEntry_87 (by decide) (fun hc87 => ?_) (fun hc87 => ?_)
  · have hf := ip hc87 hf
    refine lv_aload_n hx hb d_Packer_packEntry_110 rfl (lv_at hl 0 rfl) ?_
    refine lv_aload_n hx hb d_Packer_packEntry_111 rfl (lv_at hl 1 rfl) ?_
    refine lv_iload_n hx hb d_Packer_packEntry_112 rfl (lv_at hl 2 rfl) ?_
    refine lv_iload hx hb d_Packer_packEntry_113 (lv_at hl 4 rfl) ?_
    obtain ⟨r115, hr115, hf⟩ := ob hf
    refine fnV (rest := []) (wr := []) (w2 := [(h, .inr (3, [.ref h_log, .ref h_past, .int (bI r115.2.2.1), .int r115.2.2.2.1, .int r115.2.2.2.2.1, .int r115.2.2.2.2.2.1, .int r115.2.2.2.2.2.2.1, .int r115.2.2.2.2.2.2.2])), (h_log, .inr (0, [.ref h_log_row, .int r115.1.2])), (h_log_row, .inl (cI, 5000, .inl r115.1.1)), (h_past, .inr (1, [.ref h_past_typed, .int r115.2.1.2.1, .int r115.2.1.2.2])), (h_past_typed, .inl (cI, 300, .inl r115.2.1.1)), (q1, .inr (2, [.ref q1_kinds, .ref q1_differences, .ref q1_partsA, .ref q1_partsB, .int e1.2.2.2.2])), (q1_kinds, .inl (cI, 300, .inl e1.1)), (q1_differences, .inl (cL, 300, .inr (.inl e1.2.1))), (q1_partsA, .inl (cL, 300, .inr (.inl e1.2.2.1))), (q1_partsB, .inl (cI, 300, .inl e1.2.2.2.1))]) (st2 := []) C (c_Packer_packBrought l D cI cL h h_log h_log_row h_past h_past_typed q1 q1_kinds q1_differences q1_partsA q1_partsB st e1 x2 x5 r115 hr115) (cV hts kV_Packer_packBrought wd_244 ⟨Nat.le_of_ble_eq_true rfl, Nat.le_of_ble_eq_true rfl⟩) hH [0, 1, 2, 3, 4, 5, 6, 7, 8, 9] [] [0, 1, 2, 3, 4, 5, 6, 7, 8, 9] rfl rfl rfl rfl (by decide) rfl rfl 0 rfl rfl rfl hl.1 rfl (Nat.le_of_ble_eq_true rfl) d_Packer_packEntry_115 ⟨Nat.le_of_ble_eq_true rfl, Nat.le_of_ble_eq_true rfl⟩ rfl (fun H locs hH => ?_)
    have hf := Option.some.inj hf
    subst hf
    exact rV C hH d_Packer_packEntry_118
  · have hf := im hc87 hf
    refine lv_aload_n hx hb d_Packer_packEntry_90 rfl (lv_at hl 0 rfl) ?_
    refine lv_dup hx hb d_Packer_packEntry_91 rfl ?_
    refine gt (ci := 3) (v := .int st.2.2.2.2.2.2.2) C hH (iwT iw_Packer) 0 rfl rfl 7 (by decide) (.tail _ wd_89) rfl d_Packer_packEntry_92 ?_
    refine lv_iconst (v := 1) hx hb d_Packer_packEntry_95 (by decide) ?_
    refine lv_iadd hx hb d_Packer_packEntry_96 ?_
    refine pt (ci := 3) (v := .int (st.2.2.2.2.2.2.2 + 1)) C hH (iwT iw_Packer) ty_Packer tyok_Packer nm_Packer 0 rfl rfl 7 (by decide) (.tail _ wd_89) rfl rfl rfl (Nat.le_of_ble_eq_true rfl) d_Packer_packEntry_97 [(h, .inr (3, [.ref h_log, .ref h_past, .int (bI st.2.2.1), .int st.2.2.2.1, .int st.2.2.2.2.1, .int st.2.2.2.2.2.1, .int st.2.2.2.2.2.2.1, .int (st.2.2.2.2.2.2.2 + 1)])), (h_log, .inr (0, [.ref h_log_row, .int st.1.2])), (h_log_row, .inl (cI, 5000, .inl st.1.1)), (h_past, .inr (1, [.ref h_past_typed, .int st.2.1.2.1, .int st.2.1.2.2])), (h_past_typed, .inl (cI, 300, .inl st.2.1.1)), (q1, .inr (2, [.ref q1_kinds, .ref q1_differences, .ref q1_partsA, .ref q1_partsB, .int e1.2.2.2.2])), (q1_kinds, .inl (cI, 300, .inl e1.1)), (q1_differences, .inl (cL, 300, .inr (.inl e1.2.1))), (q1_partsA, .inl (cL, 300, .inr (.inl e1.2.2.1))), (q1_partsB, .inl (cI, 300, .inl e1.2.2.2.1))] rfl (fun H locs hH => ?_)
    refine lv_aload_n hx hb d_Packer_packEntry_100 rfl (lv_at hl 0 rfl) ?_
    refine lv_iload hx hb d_Packer_packEntry_101 (lv_at hl 3 rfl) ?_
    refine lv_i2l (v := x4.toInt64) hx hb d_Packer_packEntry_103 rfl ?_
    obtain ⟨r104, hr104, hf⟩ := ob hf
    refine fnV (rest := []) (wr := [(q1, .inr (2, [.ref q1_kinds, .ref q1_differences, .ref q1_partsA, .ref q1_partsB, .int e1.2.2.2.2])), (q1_kinds, .inl (cI, 300, .inl e1.1)), (q1_differences, .inl (cL, 300, .inr (.inl e1.2.1))), (q1_partsA, .inl (cL, 300, .inr (.inl e1.2.2.1))), (q1_partsB, .inl (cI, 300, .inl e1.2.2.2.1))]) (w2 := [(h, .inr (3, [.ref h_log, .ref h_past, .int (bI r104.2.2.1), .int r104.2.2.2.1, .int r104.2.2.2.2.1, .int r104.2.2.2.2.2.1, .int r104.2.2.2.2.2.2.1, .int r104.2.2.2.2.2.2.2])), (h_log, .inr (0, [.ref h_log_row, .int r104.1.2])), (h_log_row, .inl (cI, 5000, .inl r104.1.1)), (h_past, .inr (1, [.ref h_past_typed, .int r104.2.1.2.1, .int r104.2.1.2.2])), (h_past_typed, .inl (cI, 300, .inl r104.2.1.1)), (q1, .inr (2, [.ref q1_kinds, .ref q1_differences, .ref q1_partsA, .ref q1_partsB, .int e1.2.2.2.2])), (q1_kinds, .inl (cI, 300, .inl e1.1)), (q1_differences, .inl (cL, 300, .inr (.inl e1.2.1))), (q1_partsA, .inl (cL, 300, .inr (.inl e1.2.2.1))), (q1_partsB, .inl (cI, 300, .inl e1.2.2.2.1))]) (st2 := []) C (c_Packer_packVarint l D cI cL h h_log h_log_row h_past h_past_typed ((st.1, st.2.1, st.2.2.1, st.2.2.2.1, st.2.2.2.2.1, st.2.2.2.2.2.1, st.2.2.2.2.2.2.1, st.2.2.2.2.2.2.2 + 1)) x4.toInt64 r104 hr104) (cV hts kV_Packer_packVarint wd_171 ⟨Nat.le_of_ble_eq_true rfl, Nat.le_of_ble_eq_true rfl⟩) hH [0, 1, 2, 3, 4] [5, 6, 7, 8, 9] [5, 6, 7, 8, 9, 0, 1, 2, 3, 4] rfl rfl rfl rfl (by decide) rfl rfl 0 rfl rfl rfl hl.1 rfl (Nat.le_of_ble_eq_true rfl) d_Packer_packEntry_104 ⟨Nat.le_of_ble_eq_true rfl, Nat.le_of_ble_eq_true rfl⟩ rfl (fun H locs hH => ?_)
    refine lv_goto (tgt := 118) hx hb d_Packer_packEntry_107 (by decide) ?_
    have hf := Option.some.inj hf
    subst hf
    exact rV C hH d_Packer_packEntry_118
def f_Packer_packEntry_b50 (st : S_Packer) (e1 : S_Events) (x2 : Int32) (x3 : Bool) (x4 : Int32) (x5 : Int32) (z0 : Int32) (z1 : Int32) : Option (S_Packer) :=
  lt1 (f_Packer_packByte st ((z1 ||| z0) ||| (x5 <<< (4 &&& 31)))) (fun r56 => if (bI x3) = 0 then ((f_Packer_packVarint r56 (f_Events_difference e1 x2)).bind (fun r82 => f_Packer_packEntry_b85 r82 e1 x2 x4 x5)) else (f_Packer_packEntry_b85 ((r56.1, r56.2.1, r56.2.2.1, r56.2.2.2.1, r56.2.2.2.2.1, r56.2.2.2.2.2.1, r56.2.2.2.2.2.2.1 + 1, r56.2.2.2.2.2.2.2)) e1 x2 x4 x5))
set_option maxRecDepth 100000 in
set_option maxHeartbeats 4000000 in
theorem w_Packer_packEntry_b50 (l : Launch) (D : va_G) (cI cL : ClassId) (h h_log h_log_row h_past h_past_typed q1 q1_kinds q1_differences q1_partsA q1_partsB : Nat) {p : Program} {e : Env} {s : State} {m : MethodId} {args : Array Value} {below : List Frame} {meth : Method} {c : Code} {A : Nat → Prop} (C : Cx p s m args meth c D vwCl [(cI, .int), (cL, .long)] A b_Packer_packEntry 6 none ws_Packer_packEntry y_Packer_packEntry.cls) : ∀ (st : S_Packer) (e1 : S_Events) (x2 : Int32) (x3 : Bool) (x4 : Int32) (x5 : Int32) (z0 : Int32) (z1 : Int32) (res : S_Packer), f_Packer_packEntry_b50 st e1 x2 x3 x4 x5 z0 z1 = some res → ∀ (H : Heap) (locs : List Loc) (ls : Array Slot), Hp D vwCl A A s.heap H locs [(h, .inr (3, [.ref h_log, .ref h_past, .int (bI st.2.2.1), .int st.2.2.2.1, .int st.2.2.2.2.1, .int st.2.2.2.2.2.1, .int st.2.2.2.2.2.2.1, .int st.2.2.2.2.2.2.2])), (h_log, .inr (0, [.ref h_log_row, .int st.1.2])), (h_log_row, .inl (cI, 5000, .inl st.1.1)), (h_past, .inr (1, [.ref h_past_typed, .int st.2.1.2.1, .int st.2.1.2.2])), (h_past_typed, .inl (cI, 300, .inl st.2.1.1)), (q1, .inr (2, [.ref q1_kinds, .ref q1_differences, .ref q1_partsA, .ref q1_partsB, .int e1.2.2.2.2])), (q1_kinds, .inl (cI, 300, .inl e1.1)), (q1_differences, .inl (cL, 300, .inr (.inl e1.2.1))), (q1_partsA, .inl (cL, 300, .inr (.inl e1.2.2.1))), (q1_partsB, .inl (cI, 300, .inl e1.2.2.2.1))] → lv_has ls 6 [(0, .ref h), (1, .ref q1), (2, .int x2), (3, .int (bI x3)), (4, .int x4), (5, .int x5)] → W p l e { frames := 4, cells := 0, slots := 0, locals := 90 } s m args below meth c H locs 0 0 (MQ below (Qw D vwCl [(cI, .int), (cL, .long)] (none) A [(h, .inr (3, [.ref h_log, .ref h_past, .int (bI res.2.2.1), .int res.2.2.2.1, .int res.2.2.2.2.1, .int res.2.2.2.2.2.1, .int res.2.2.2.2.2.2.1, .int res.2.2.2.2.2.2.2])), (h_log, .inr (0, [.ref h_log_row, .int res.1.2])), (h_log_row, .inl (cI, 5000, .inl res.1.1)), (h_past, .inr (1, [.ref h_past_typed, .int res.2.1.2.1, .int res.2.1.2.2])), (h_past_typed, .inl (cI, 300, .inl res.2.1.1)), (q1, .inr (2, [.ref q1_kinds, .ref q1_differences, .ref q1_partsA, .ref q1_partsB, .int e1.2.2.2.2])), (q1_kinds, .inl (cI, 300, .inl e1.1)), (q1_differences, .inl (cL, 300, .inr (.inl e1.2.1))), (q1_partsA, .inl (cL, 300, .inr (.inl e1.2.2.1))), (q1_partsB, .inl (cI, 300, .inl e1.2.2.2.1))]) args s 0 0 A) (F0 m 50 ls [.int z0, .int z1, .ref h]) := by
  obtain ⟨hx, hb, hr, hml, hown, hts, hlk, hK, hA⟩ := id C
  intro st e1 x2 x3 x4 x5 z0 z1 res hf H locs ls hH hl
  unfold f_Packer_packEntry_b50 at hf
  refine lv_ior hx hb d_Packer_packEntry_50 ?_
  refine lv_iload hx hb d_Packer_packEntry_51 (lv_at hl 5 rfl) ?_
  refine lv_iconst (v := 4) hx hb d_Packer_packEntry_53 (by decide) ?_
  refine lv_ishl hx hb d_Packer_packEntry_54 ?_
  refine lv_ior hx hb d_Packer_packEntry_55 ?_
  obtain ⟨r56, hr56, hf⟩ := lb hf
  refine fnV (rest := []) (wr := [(q1, .inr (2, [.ref q1_kinds, .ref q1_differences, .ref q1_partsA, .ref q1_partsB, .int e1.2.2.2.2])), (q1_kinds, .inl (cI, 300, .inl e1.1)), (q1_differences, .inl (cL, 300, .inr (.inl e1.2.1))), (q1_partsA, .inl (cL, 300, .inr (.inl e1.2.2.1))), (q1_partsB, .inl (cI, 300, .inl e1.2.2.2.1))]) (w2 := [(h, .inr (3, [.ref h_log, .ref h_past, .int (bI r56.2.2.1), .int r56.2.2.2.1, .int r56.2.2.2.2.1, .int r56.2.2.2.2.2.1, .int r56.2.2.2.2.2.2.1, .int r56.2.2.2.2.2.2.2])), (h_log, .inr (0, [.ref h_log_row, .int r56.1.2])), (h_log_row, .inl (cI, 5000, .inl r56.1.1)), (h_past, .inr (1, [.ref h_past_typed, .int r56.2.1.2.1, .int r56.2.1.2.2])), (h_past_typed, .inl (cI, 300, .inl r56.2.1.1)), (q1, .inr (2, [.ref q1_kinds, .ref q1_differences, .ref q1_partsA, .ref q1_partsB, .int e1.2.2.2.2])), (q1_kinds, .inl (cI, 300, .inl e1.1)), (q1_differences, .inl (cL, 300, .inr (.inl e1.2.1))), (q1_partsA, .inl (cL, 300, .inr (.inl e1.2.2.1))), (q1_partsB, .inl (cI, 300, .inl e1.2.2.2.1))]) (st2 := []) C (c_Packer_packByte l D cI cL h h_log h_log_row h_past h_past_typed st ((z1 ||| z0) ||| (x5 <<< (4 &&& 31))) r56 hr56) (cV hts kV_Packer_packByte wd_176 ⟨Nat.le_of_ble_eq_true rfl, Nat.le_of_ble_eq_true rfl⟩) hH [0, 1, 2, 3, 4] [5, 6, 7, 8, 9] [5, 6, 7, 8, 9, 0, 1, 2, 3, 4] rfl rfl rfl rfl (by decide) rfl rfl 0 rfl rfl rfl hl.1 rfl (Nat.le_of_ble_eq_true rfl) d_Packer_packEntry_56 ⟨Nat.le_of_ble_eq_true rfl, Nat.le_of_ble_eq_true rfl⟩ rfl (fun H locs hH => ?_)
  refine lv_iload_n hx hb d_Packer_packEntry_59 rfl (lv_at hl 3 rfl) ?_
  refine lv_if_eq (tgt := 76) hx hb d_Packer_packEntry_60 (by decide) (fun hc60 => ?_) (fun hc60 => ?_)
  · have hf := ip hc60 hf
    refine lv_aload_n hx hb d_Packer_packEntry_76 rfl (lv_at hl 0 rfl) ?_
    refine lv_aload_n hx hb d_Packer_packEntry_77 rfl (lv_at hl 1 rfl) ?_
    refine lv_iload_n hx hb d_Packer_packEntry_78 rfl (lv_at hl 2 rfl) ?_
    refine fnVR (rest := [.ref h]) (st2 := [.long (f_Events_difference e1 x2), .ref h]) C (c_Events_difference l D cI cL q1 q1_kinds q1_differences q1_partsA q1_partsB e1 x2 _ rfl) (cV hts kV_Events_difference wd_243 ⟨Nat.le_of_ble_eq_true rfl, Nat.le_of_ble_eq_true rfl⟩) hH [5, 6, 7, 8, 9] rfl rfl 0 rfl rfl rfl hl.1 rfl (Nat.le_of_ble_eq_true rfl) d_Packer_packEntry_79 ⟨Nat.le_of_ble_eq_true rfl, Nat.le_of_ble_eq_true rfl⟩ rfl (fun H locs hH => ?_)
    obtain ⟨r82, hr82, hf⟩ := ob hf
    refine fnV (rest := []) (wr := [(q1, .inr (2, [.ref q1_kinds, .ref q1_differences, .ref q1_partsA, .ref q1_partsB, .int e1.2.2.2.2])), (q1_kinds, .inl (cI, 300, .inl e1.1)), (q1_differences, .inl (cL, 300, .inr (.inl e1.2.1))), (q1_partsA, .inl (cL, 300, .inr (.inl e1.2.2.1))), (q1_partsB, .inl (cI, 300, .inl e1.2.2.2.1))]) (w2 := [(h, .inr (3, [.ref h_log, .ref h_past, .int (bI r82.2.2.1), .int r82.2.2.2.1, .int r82.2.2.2.2.1, .int r82.2.2.2.2.2.1, .int r82.2.2.2.2.2.2.1, .int r82.2.2.2.2.2.2.2])), (h_log, .inr (0, [.ref h_log_row, .int r82.1.2])), (h_log_row, .inl (cI, 5000, .inl r82.1.1)), (h_past, .inr (1, [.ref h_past_typed, .int r82.2.1.2.1, .int r82.2.1.2.2])), (h_past_typed, .inl (cI, 300, .inl r82.2.1.1)), (q1, .inr (2, [.ref q1_kinds, .ref q1_differences, .ref q1_partsA, .ref q1_partsB, .int e1.2.2.2.2])), (q1_kinds, .inl (cI, 300, .inl e1.1)), (q1_differences, .inl (cL, 300, .inr (.inl e1.2.1))), (q1_partsA, .inl (cL, 300, .inr (.inl e1.2.2.1))), (q1_partsB, .inl (cI, 300, .inl e1.2.2.2.1))]) (st2 := []) C (c_Packer_packVarint l D cI cL h h_log h_log_row h_past h_past_typed r56 (f_Events_difference e1 x2) r82 hr82) (cV hts kV_Packer_packVarint wd_171 ⟨Nat.le_of_ble_eq_true rfl, Nat.le_of_ble_eq_true rfl⟩) hH [0, 1, 2, 3, 4] [5, 6, 7, 8, 9] [5, 6, 7, 8, 9, 0, 1, 2, 3, 4] rfl rfl rfl rfl (by decide) rfl rfl 0 rfl rfl rfl hl.1 rfl (Nat.le_of_ble_eq_true rfl) d_Packer_packEntry_82 ⟨Nat.le_of_ble_eq_true rfl, Nat.le_of_ble_eq_true rfl⟩ rfl (fun H locs hH => ?_)
    exact w_Packer_packEntry_b85 l D cI cL h h_log h_log_row h_past h_past_typed q1 q1_kinds q1_differences q1_partsA q1_partsB C r82 e1 x2 x4 x5 res hf _ _ _ hH (lv_sub hl [0, 1, 2, 4, 5] rfl)
  · have hf := im hc60 hf
    refine lv_aload_n hx hb d_Packer_packEntry_63 rfl (lv_at hl 0 rfl) ?_
    refine lv_dup hx hb d_Packer_packEntry_64 rfl ?_
    refine gt (ci := 3) (v := .int r56.2.2.2.2.2.2.1) C hH (iwT iw_Packer) 0 rfl rfl 6 (by decide) (.tail _ wd_88) rfl d_Packer_packEntry_65 ?_
    refine lv_iconst (v := 1) hx hb d_Packer_packEntry_68 (by decide) ?_
    refine lv_iadd hx hb d_Packer_packEntry_69 ?_
    refine pt (ci := 3) (v := .int (r56.2.2.2.2.2.2.1 + 1)) C hH (iwT iw_Packer) ty_Packer tyok_Packer nm_Packer 0 rfl rfl 6 (by decide) (.tail _ wd_88) rfl rfl rfl (Nat.le_of_ble_eq_true rfl) d_Packer_packEntry_70 [(h, .inr (3, [.ref h_log, .ref h_past, .int (bI r56.2.2.1), .int r56.2.2.2.1, .int r56.2.2.2.2.1, .int r56.2.2.2.2.2.1, .int (r56.2.2.2.2.2.2.1 + 1), .int r56.2.2.2.2.2.2.2])), (h_log, .inr (0, [.ref h_log_row, .int r56.1.2])), (h_log_row, .inl (cI, 5000, .inl r56.1.1)), (h_past, .inr (1, [.ref h_past_typed, .int r56.2.1.2.1, .int r56.2.1.2.2])), (h_past_typed, .inl (cI, 300, .inl r56.2.1.1)), (q1, .inr (2, [.ref q1_kinds, .ref q1_differences, .ref q1_partsA, .ref q1_partsB, .int e1.2.2.2.2])), (q1_kinds, .inl (cI, 300, .inl e1.1)), (q1_differences, .inl (cL, 300, .inr (.inl e1.2.1))), (q1_partsA, .inl (cL, 300, .inr (.inl e1.2.2.1))), (q1_partsB, .inl (cI, 300, .inl e1.2.2.2.1))] rfl (fun H locs hH => ?_)
    refine lv_goto (tgt := 85) hx hb d_Packer_packEntry_73 (by decide) ?_
    exact w_Packer_packEntry_b85 l D cI cL h h_log h_log_row h_past h_past_typed q1 q1_kinds q1_differences q1_partsA q1_partsB C ((r56.1, r56.2.1, r56.2.2.1, r56.2.2.2.1, r56.2.2.2.2.1, r56.2.2.2.2.2.1, r56.2.2.2.2.2.2.1 + 1, r56.2.2.2.2.2.2.2)) e1 x2 x4 x5 res hf _ _ _ hH (lv_sub hl [0, 1, 2, 4, 5] rfl)
def f_Packer_packEntry (st : S_Packer) (e1 : S_Events) (x2 : Int32) : Option (S_Packer) :=
  (f_Packer_repeated st e1 x2).bind (fun r9 => if (bI (f_Events_hasDifferenceBefore e1 x2)) = 0 then (f_Packer_packEntry_b50 ((st.1, st.2.1, st.2.2.1, st.2.2.2.1, st.2.2.2.2.1 + 1, st.2.2.2.2.2.1, st.2.2.2.2.2.2.1, st.2.2.2.2.2.2.2)) e1 x2 (f_Events_hasDifferenceBefore e1 x2) r9 (f_Packer_headX st e1 x2 r9) 0 (f_Events_kind e1 x2)) else (f_Packer_packEntry_b50 ((st.1, st.2.1, st.2.2.1, st.2.2.2.1, st.2.2.2.2.1 + 1, st.2.2.2.2.2.1, st.2.2.2.2.2.2.1, st.2.2.2.2.2.2.2)) e1 x2 (f_Events_hasDifferenceBefore e1 x2) r9 (f_Packer_headX st e1 x2 r9) 8 (f_Events_kind e1 x2)))
set_option maxRecDepth 100000 in
set_option maxHeartbeats 4000000 in
theorem c_Packer_packEntry (l : Launch) (D : va_G) (cI cL : ClassId) (h h_log h_log_row h_past h_past_typed q1 q1_kinds q1_differences q1_partsA q1_partsB : Nat) (st : S_Packer) (e1 : S_Events) (x2 : Int32) (res : S_Packer) (hf : f_Packer_packEntry st e1 x2 = some res) :
    Fn l D vwCl [(cI, .int), (cL, .long)] y_Packer_packEntry ws_Packer_packEntry { frames := 4, cells := 0, slots := 0, locals := 90 } [.ref h, .ref q1, .int x2] [(h, .inr (3, [.ref h_log, .ref h_past, .int (bI st.2.2.1), .int st.2.2.2.1, .int st.2.2.2.2.1, .int st.2.2.2.2.2.1, .int st.2.2.2.2.2.2.1, .int st.2.2.2.2.2.2.2])), (h_log, .inr (0, [.ref h_log_row, .int st.1.2])), (h_log_row, .inl (cI, 5000, .inl st.1.1)), (h_past, .inr (1, [.ref h_past_typed, .int st.2.1.2.1, .int st.2.1.2.2])), (h_past_typed, .inl (cI, 300, .inl st.2.1.1)), (q1, .inr (2, [.ref q1_kinds, .ref q1_differences, .ref q1_partsA, .ref q1_partsB, .int e1.2.2.2.2])), (q1_kinds, .inl (cI, 300, .inl e1.1)), (q1_differences, .inl (cL, 300, .inr (.inl e1.2.1))), (q1_partsA, .inl (cL, 300, .inr (.inl e1.2.2.1))), (q1_partsB, .inl (cI, 300, .inl e1.2.2.2.1))] (none) [(h, .inr (3, [.ref h_log, .ref h_past, .int (bI res.2.2.1), .int res.2.2.2.1, .int res.2.2.2.2.1, .int res.2.2.2.2.2.1, .int res.2.2.2.2.2.2.1, .int res.2.2.2.2.2.2.2])), (h_log, .inr (0, [.ref h_log_row, .int res.1.2])), (h_log_row, .inl (cI, 5000, .inl res.1.1)), (h_past, .inr (1, [.ref h_past_typed, .int res.2.1.2.1, .int res.2.1.2.2])), (h_past_typed, .inl (cI, 300, .inl res.2.1.1)), (q1, .inr (2, [.ref q1_kinds, .ref q1_differences, .ref q1_partsA, .ref q1_partsB, .int e1.2.2.2.2])), (q1_kinds, .inl (cI, 300, .inl e1.1)), (q1_differences, .inl (cL, 300, .inr (.inl e1.2.1))), (q1_partsA, .inl (cL, 300, .inr (.inl e1.2.2.1))), (q1_partsB, .inl (cI, 300, .inl e1.2.2.2.1))] := by
  refine Fn.ofW (cc := b_Packer_packEntry) (maxL := 6) (ret := none) (by decide) rfl (Nat.le_of_ble_eq_true rfl) ?_
  intro p e s m below meth c A ls C hH hinit hl
  have hl : lv_has ls 6 [(0, .ref h), (1, .ref q1), (2, .int x2)] := hl
  obtain ⟨hx, hb, hr, hml, hown, hts, hlk, hK, hA⟩ := id C
  unfold f_Packer_packEntry at hf
  refine lv_aload_n hx hb d_Packer_packEntry_0 rfl (lv_at hl 1 rfl) ?_
  refine lv_iload_n hx hb d_Packer_packEntry_1 rfl (lv_at hl 2 rfl) ?_
  refine fnVR (rest := []) (st2 := [.int (bI (f_Events_hasDifferenceBefore e1 x2))]) C (c_Events_hasDifferenceBefore l D cI cL q1 q1_kinds q1_differences q1_partsA q1_partsB e1 x2 _ rfl) (cV hts kV_Events_hasDifferenceBefore wd_212 ⟨Nat.le_of_ble_eq_true rfl, Nat.le_of_ble_eq_true rfl⟩) hH [5, 6, 7, 8, 9] rfl rfl 0 rfl rfl rfl hl.1 rfl (Nat.le_of_ble_eq_true rfl) d_Packer_packEntry_2 ⟨Nat.le_of_ble_eq_true rfl, Nat.le_of_ble_eq_true rfl⟩ rfl (fun H locs hH => ?_)
  refine lv_istore_n (lv' := [(3, .int (bI (f_Events_hasDifferenceBefore e1 x2))), (0, .ref h), (1, .ref q1), (2, .int x2)]) hx hb d_Packer_packEntry_5 rfl hl (by decide) rfl (fun ls hl => ?_)
  refine lv_aload_n hx hb d_Packer_packEntry_6 rfl (lv_at hl 1 rfl) ?_
  refine lv_aload_n hx hb d_Packer_packEntry_7 rfl (lv_at hl 2 rfl) ?_
  refine lv_iload_n hx hb d_Packer_packEntry_8 rfl (lv_at hl 3 rfl) ?_
  obtain ⟨r9, hr9, hf⟩ := ob hf
  refine fnVR (rest := []) (st2 := [.int r9]) C (c_Packer_repeated l D cI cL h h_log h_log_row h_past h_past_typed q1 q1_kinds q1_differences q1_partsA q1_partsB st e1 x2 r9 hr9) (cV hts kV_Packer_repeated wd_213 ⟨Nat.le_of_ble_eq_true rfl, Nat.le_of_ble_eq_true rfl⟩) hH [0, 1, 2, 3, 4, 5, 6, 7, 8, 9] rfl rfl 0 rfl rfl rfl hl.1 rfl (Nat.le_of_ble_eq_true rfl) d_Packer_packEntry_9 ⟨Nat.le_of_ble_eq_true rfl, Nat.le_of_ble_eq_true rfl⟩ rfl (fun H locs hH => ?_)
  refine lv_istore (lv' := [(4, .int r9), (3, .int (bI (f_Events_hasDifferenceBefore e1 x2))), (0, .ref h), (1, .ref q1), (2, .int x2)]) hx hb d_Packer_packEntry_12 hl (by decide) rfl (fun ls hl => ?_)
  refine lv_aload_n hx hb d_Packer_packEntry_14 rfl (lv_at hl 2 rfl) ?_
  refine lv_aload_n hx hb d_Packer_packEntry_15 rfl (lv_at hl 3 rfl) ?_
  refine lv_iload_n hx hb d_Packer_packEntry_16 rfl (lv_at hl 4 rfl) ?_
  refine lv_iload hx hb d_Packer_packEntry_17 (lv_at hl 0 rfl) ?_
  refine fnVR (rest := []) (st2 := [.int (f_Packer_headX st e1 x2 r9)]) C (c_Packer_headX l D cI cL h h_log h_log_row h_past h_past_typed q1 q1_kinds q1_differences q1_partsA q1_partsB st e1 x2 r9 _ rfl) (cV hts kV_Packer_headX wd_231 ⟨Nat.le_of_ble_eq_true rfl, Nat.le_of_ble_eq_true rfl⟩) hH [0, 1, 2, 3, 4, 5, 6, 7, 8, 9] rfl rfl 0 rfl rfl rfl hl.1 rfl (Nat.le_of_ble_eq_true rfl) d_Packer_packEntry_19 ⟨Nat.le_of_ble_eq_true rfl, Nat.le_of_ble_eq_true rfl⟩ rfl (fun H locs hH => ?_)
  refine lv_istore (lv' := [(5, .int (f_Packer_headX st e1 x2 r9)), (4, .int r9), (3, .int (bI (f_Events_hasDifferenceBefore e1 x2))), (0, .ref h), (1, .ref q1), (2, .int x2)]) hx hb d_Packer_packEntry_22 hl (by decide) rfl (fun ls hl => ?_)
  refine lv_aload_n hx hb d_Packer_packEntry_24 rfl (lv_at hl 3 rfl) ?_
  refine lv_dup hx hb d_Packer_packEntry_25 rfl ?_
  refine gt (ci := 3) (v := .int st.2.2.2.2.1) C hH (iwT iw_Packer) 0 rfl rfl 4 (by decide) (.tail _ wd_86) rfl d_Packer_packEntry_26 ?_
  refine lv_iconst (v := 1) hx hb d_Packer_packEntry_29 (by decide) ?_
  refine lv_iadd hx hb d_Packer_packEntry_30 ?_
  refine pt (ci := 3) (v := .int (st.2.2.2.2.1 + 1)) C hH (iwT iw_Packer) ty_Packer tyok_Packer nm_Packer 0 rfl rfl 4 (by decide) (.tail _ wd_86) rfl rfl rfl (Nat.le_of_ble_eq_true rfl) d_Packer_packEntry_31 [(h, .inr (3, [.ref h_log, .ref h_past, .int (bI st.2.2.1), .int st.2.2.2.1, .int (st.2.2.2.2.1 + 1), .int st.2.2.2.2.2.1, .int st.2.2.2.2.2.2.1, .int st.2.2.2.2.2.2.2])), (h_log, .inr (0, [.ref h_log_row, .int st.1.2])), (h_log_row, .inl (cI, 5000, .inl st.1.1)), (h_past, .inr (1, [.ref h_past_typed, .int st.2.1.2.1, .int st.2.1.2.2])), (h_past_typed, .inl (cI, 300, .inl st.2.1.1)), (q1, .inr (2, [.ref q1_kinds, .ref q1_differences, .ref q1_partsA, .ref q1_partsB, .int e1.2.2.2.2])), (q1_kinds, .inl (cI, 300, .inl e1.1)), (q1_differences, .inl (cL, 300, .inr (.inl e1.2.1))), (q1_partsA, .inl (cL, 300, .inr (.inl e1.2.2.1))), (q1_partsB, .inl (cI, 300, .inl e1.2.2.2.1))] rfl (fun H locs hH => ?_)
  refine lv_aload_n hx hb d_Packer_packEntry_34 rfl (lv_at hl 3 rfl) ?_
  refine lv_aload_n hx hb d_Packer_packEntry_35 rfl (lv_at hl 4 rfl) ?_
  refine lv_iload_n hx hb d_Packer_packEntry_36 rfl (lv_at hl 5 rfl) ?_
  refine fnVR (rest := [.ref h]) (st2 := [.int (f_Events_kind e1 x2), .ref h]) C (c_Events_kind l D cI cL q1 q1_kinds q1_differences q1_partsA q1_partsB e1 x2 _ rfl) (cV hts kV_Events_kind wd_217 ⟨Nat.le_of_ble_eq_true rfl, Nat.le_of_ble_eq_true rfl⟩) hH [5, 6, 7, 8, 9] rfl rfl 0 rfl rfl rfl hl.1 rfl (Nat.le_of_ble_eq_true rfl) d_Packer_packEntry_37 ⟨Nat.le_of_ble_eq_true rfl, Nat.le_of_ble_eq_true rfl⟩ rfl (fun H locs hH => ?_)
  refine lv_iload_n hx hb d_Packer_packEntry_40 rfl (lv_at hl 2 rfl) ?_
  refine lv_if_eq (tgt := 49) hx hb d_Packer_packEntry_41 (by decide) (fun hc41 => ?_) (fun hc41 => ?_)
  · have hf := ip hc41 hf
    refine lv_iconst (v := 0) hx hb d_Packer_packEntry_49 (by decide) ?_
    exact w_Packer_packEntry_b50 l D cI cL h h_log h_log_row h_past h_past_typed q1 q1_kinds q1_differences q1_partsA q1_partsB C ((st.1, st.2.1, st.2.2.1, st.2.2.2.1, st.2.2.2.2.1 + 1, st.2.2.2.2.2.1, st.2.2.2.2.2.2.1, st.2.2.2.2.2.2.2)) e1 x2 (f_Events_hasDifferenceBefore e1 x2) r9 (f_Packer_headX st e1 x2 r9) 0 (f_Events_kind e1 x2) res hf _ _ _ hH (lv_sub hl [3, 4, 5, 2, 1, 0] rfl)
  · have hf := im hc41 hf
    refine lv_bipush (v := 8) hx hb d_Packer_packEntry_44 (by decide) ?_
    refine lv_goto (tgt := 50) hx hb d_Packer_packEntry_46 (by decide) ?_
    exact w_Packer_packEntry_b50 l D cI cL h h_log h_log_row h_past h_past_typed q1 q1_kinds q1_differences q1_partsA q1_partsB C ((st.1, st.2.1, st.2.2.1, st.2.2.2.1, st.2.2.2.2.1 + 1, st.2.2.2.2.2.1, st.2.2.2.2.2.2.1, st.2.2.2.2.2.2.2)) e1 x2 (f_Events_hasDifferenceBefore e1 x2) r9 (f_Packer_headX st e1 x2 r9) 8 (f_Events_kind e1 x2) res hf _ _ _ hH (lv_sub hl [3, 4, 5, 2, 1, 0] rfl)
def f_Packer_run_b19 : Nat → S_Packer → S_Events → Int32 → Int32 → Option (S_Packer)
  | 0, _, _, _, _ => none
  | n + 1, st, e1, x3, x4 =>
  if (f_Events_number e1) ≤ x4 then ((f_Packer_packRun st x3).bind (fun r80 => some r80)) else (if (bI (f_Events_isLikeBefore e1 x4)) = 0 then ((f_Packer_packRun st x3).bind (fun r45 => (f_Packer_packEntry r45 e1 x4).bind (fun r54 => lt1 (f_Past_note r54.2.1 (f_Events_kind e1 x4) x4) (fun r69 => f_Packer_run_b19 n ((r54.1, r69, r54.2.2.1, r54.2.2.2.1, r54.2.2.2.2.1, r54.2.2.2.2.2.1, r54.2.2.2.2.2.2.1, r54.2.2.2.2.2.2.2)) e1 0 (x4 + 1))))) else (lt1 (f_Past_note st.2.1 (f_Events_kind e1 x4) x4) (fun r69 => f_Packer_run_b19 n ((st.1, r69, st.2.2.1, st.2.2.2.1, st.2.2.2.2.1, st.2.2.2.2.2.1, st.2.2.2.2.2.2.1, st.2.2.2.2.2.2.2)) e1 (x3 + 1) (x4 + 1))))
set_option maxRecDepth 100000 in
set_option maxHeartbeats 4000000 in
theorem w_Packer_run_b19 (l : Launch) (D : va_G) (cI cL : ClassId) (h h_log h_log_row h_past h_past_typed q1 q1_kinds q1_differences q1_partsA q1_partsB : Nat) {p : Program} {e : Env} {s : State} {m : MethodId} {args : Array Value} {below : List Frame} {meth : Method} {c : Code} {A : Nat → Prop} (C : Cx p s m args meth c D vwCl [(cI, .int), (cL, .long)] A b_Packer_run 5 none ws_Packer_run y_Packer_run.cls) : ∀ (n : Nat) (st : S_Packer) (e1 : S_Events) (x3 : Int32) (x4 : Int32) (res : S_Packer), f_Packer_run_b19 n st e1 x3 x4 = some res → ∀ (H : Heap) (locs : List Loc) (ls : Array Slot), Hp D vwCl A A s.heap H locs [(h, .inr (3, [.ref h_log, .ref h_past, .int (bI st.2.2.1), .int st.2.2.2.1, .int st.2.2.2.2.1, .int st.2.2.2.2.2.1, .int st.2.2.2.2.2.2.1, .int st.2.2.2.2.2.2.2])), (h_log, .inr (0, [.ref h_log_row, .int st.1.2])), (h_log_row, .inl (cI, 5000, .inl st.1.1)), (h_past, .inr (1, [.ref h_past_typed, .int st.2.1.2.1, .int st.2.1.2.2])), (h_past_typed, .inl (cI, 300, .inl st.2.1.1)), (q1, .inr (2, [.ref q1_kinds, .ref q1_differences, .ref q1_partsA, .ref q1_partsB, .int e1.2.2.2.2])), (q1_kinds, .inl (cI, 300, .inl e1.1)), (q1_differences, .inl (cL, 300, .inr (.inl e1.2.1))), (q1_partsA, .inl (cL, 300, .inr (.inl e1.2.2.1))), (q1_partsB, .inl (cI, 300, .inl e1.2.2.2.1))] → lv_has ls 5 [(0, .ref h), (1, .ref q1), (3, .int x3), (4, .int x4)] → W p l e { frames := 5, cells := 0, slots := 0, locals := 115 } s m args below meth c H locs 0 0 (MQ below (Qw D vwCl [(cI, .int), (cL, .long)] (none) A [(h, .inr (3, [.ref h_log, .ref h_past, .int (bI res.2.2.1), .int res.2.2.2.1, .int res.2.2.2.2.1, .int res.2.2.2.2.2.1, .int res.2.2.2.2.2.2.1, .int res.2.2.2.2.2.2.2])), (h_log, .inr (0, [.ref h_log_row, .int res.1.2])), (h_log_row, .inl (cI, 5000, .inl res.1.1)), (h_past, .inr (1, [.ref h_past_typed, .int res.2.1.2.1, .int res.2.1.2.2])), (h_past_typed, .inl (cI, 300, .inl res.2.1.1)), (q1, .inr (2, [.ref q1_kinds, .ref q1_differences, .ref q1_partsA, .ref q1_partsB, .int e1.2.2.2.2])), (q1_kinds, .inl (cI, 300, .inl e1.1)), (q1_differences, .inl (cL, 300, .inr (.inl e1.2.1))), (q1_partsA, .inl (cL, 300, .inr (.inl e1.2.2.1))), (q1_partsB, .inl (cI, 300, .inl e1.2.2.2.1))]) args s 0 0 A) (F0 m 19 ls []) := by
  obtain ⟨hx, hb, hr, hml, hown, hts, hlk, hK, hA⟩ := id C
  intro n
  induction n with
  | zero => intro st e1 x3 x4 res hf; cases hf
  | succ n ih =>
    intro st e1 x3 x4 res hf H locs ls hH hl
    rw [f_Packer_run_b19] at hf
    refine lv_iload hx hb d_Packer_run_19 (lv_at hl 3 rfl) ?_
    refine lv_aload_n hx hb d_Packer_run_21 rfl (lv_at hl 1 rfl) ?_
    refine fnVR (rest := [.int x4]) (st2 := [.int (f_Events_number e1), .int x4]) C (c_Events_number l D cI cL q1 q1_kinds q1_differences q1_partsA q1_partsB e1 _ rfl) (cV hts kV_Events_number wd_167 ⟨Nat.le_of_ble_eq_true rfl, Nat.le_of_ble_eq_true rfl⟩) hH [5, 6, 7, 8, 9] rfl rfl 0 rfl rfl rfl hl.1 rfl (Nat.le_of_ble_eq_true rfl) d_Packer_run_22 ⟨Nat.le_of_ble_eq_true rfl, Nat.le_of_ble_eq_true rfl⟩ rfl (fun H locs hH => ?_)
    refine lv_icmp_ge (tgt := 78) hx hb d_Packer_run_25 (by decide) (fun hc25 => ?_) (fun hc25 => ?_)
    · have hf := ip hc25 hf
      refine lv_aload_n hx hb d_Packer_run_78 rfl (lv_at hl 0 rfl) ?_
      refine lv_iload_n hx hb d_Packer_run_79 rfl (lv_at hl 2 rfl) ?_
      obtain ⟨r80, hr80, hf⟩ := ob hf
      refine fnV (rest := []) (wr := [(q1, .inr (2, [.ref q1_kinds, .ref q1_differences, .ref q1_partsA, .ref q1_partsB, .int e1.2.2.2.2])), (q1_kinds, .inl (cI, 300, .inl e1.1)), (q1_differences, .inl (cL, 300, .inr (.inl e1.2.1))), (q1_partsA, .inl (cL, 300, .inr (.inl e1.2.2.1))), (q1_partsB, .inl (cI, 300, .inl e1.2.2.2.1))]) (w2 := [(h, .inr (3, [.ref h_log, .ref h_past, .int (bI r80.2.2.1), .int r80.2.2.2.1, .int r80.2.2.2.2.1, .int r80.2.2.2.2.2.1, .int r80.2.2.2.2.2.2.1, .int r80.2.2.2.2.2.2.2])), (h_log, .inr (0, [.ref h_log_row, .int r80.1.2])), (h_log_row, .inl (cI, 5000, .inl r80.1.1)), (h_past, .inr (1, [.ref h_past_typed, .int r80.2.1.2.1, .int r80.2.1.2.2])), (h_past_typed, .inl (cI, 300, .inl r80.2.1.1)), (q1, .inr (2, [.ref q1_kinds, .ref q1_differences, .ref q1_partsA, .ref q1_partsB, .int e1.2.2.2.2])), (q1_kinds, .inl (cI, 300, .inl e1.1)), (q1_differences, .inl (cL, 300, .inr (.inl e1.2.1))), (q1_partsA, .inl (cL, 300, .inr (.inl e1.2.2.1))), (q1_partsB, .inl (cI, 300, .inl e1.2.2.2.1))]) (st2 := []) C (c_Packer_packRun l D cI cL h h_log h_log_row h_past h_past_typed st x3 r80 hr80) (cV hts kV_Packer_packRun wd_204 ⟨Nat.le_of_ble_eq_true rfl, Nat.le_of_ble_eq_true rfl⟩) hH [0, 1, 2, 3, 4] [5, 6, 7, 8, 9] [5, 6, 7, 8, 9, 0, 1, 2, 3, 4] rfl rfl rfl rfl (by decide) rfl rfl 0 rfl rfl rfl hl.1 rfl (Nat.le_of_ble_eq_true rfl) d_Packer_run_80 ⟨Nat.le_of_ble_eq_true rfl, Nat.le_of_ble_eq_true rfl⟩ rfl (fun H locs hH => ?_)
      have hf := Option.some.inj hf
      subst hf
      exact rV C hH d_Packer_run_83
    · have hf := im hc25 hf
      refine lv_aload_n hx hb d_Packer_run_28 rfl (lv_at hl 1 rfl) ?_
      refine lv_iload hx hb d_Packer_run_29 (lv_at hl 3 rfl) ?_
      refine fnVR (rest := []) (st2 := [.int (bI (f_Events_isLikeBefore e1 x4))]) C (c_Events_isLikeBefore l D cI cL q1 q1_kinds q1_differences q1_partsA q1_partsB e1 x4 _ rfl) (cV hts kV_Events_isLikeBefore wd_184 ⟨Nat.le_of_ble_eq_true rfl, Nat.le_of_ble_eq_true rfl⟩) hH [5, 6, 7, 8, 9] rfl rfl 0 rfl rfl rfl hl.1 rfl (Nat.le_of_ble_eq_true rfl) d_Packer_run_31 ⟨Nat.le_of_ble_eq_true rfl, Nat.le_of_ble_eq_true rfl⟩ rfl (fun H locs hH => ?_)
      refine lv_if_eq (tgt := 43) hx hb d_Packer_run_34 (by decide) (fun hc34 => ?_) (fun hc34 => ?_)
      · have hf := ip hc34 hf
        refine lv_aload_n hx hb d_Packer_run_43 rfl (lv_at hl 0 rfl) ?_
        refine lv_iload_n hx hb d_Packer_run_44 rfl (lv_at hl 2 rfl) ?_
        obtain ⟨r45, hr45, hf⟩ := ob hf
        refine fnV (rest := []) (wr := [(q1, .inr (2, [.ref q1_kinds, .ref q1_differences, .ref q1_partsA, .ref q1_partsB, .int e1.2.2.2.2])), (q1_kinds, .inl (cI, 300, .inl e1.1)), (q1_differences, .inl (cL, 300, .inr (.inl e1.2.1))), (q1_partsA, .inl (cL, 300, .inr (.inl e1.2.2.1))), (q1_partsB, .inl (cI, 300, .inl e1.2.2.2.1))]) (w2 := [(h, .inr (3, [.ref h_log, .ref h_past, .int (bI r45.2.2.1), .int r45.2.2.2.1, .int r45.2.2.2.2.1, .int r45.2.2.2.2.2.1, .int r45.2.2.2.2.2.2.1, .int r45.2.2.2.2.2.2.2])), (h_log, .inr (0, [.ref h_log_row, .int r45.1.2])), (h_log_row, .inl (cI, 5000, .inl r45.1.1)), (h_past, .inr (1, [.ref h_past_typed, .int r45.2.1.2.1, .int r45.2.1.2.2])), (h_past_typed, .inl (cI, 300, .inl r45.2.1.1)), (q1, .inr (2, [.ref q1_kinds, .ref q1_differences, .ref q1_partsA, .ref q1_partsB, .int e1.2.2.2.2])), (q1_kinds, .inl (cI, 300, .inl e1.1)), (q1_differences, .inl (cL, 300, .inr (.inl e1.2.1))), (q1_partsA, .inl (cL, 300, .inr (.inl e1.2.2.1))), (q1_partsB, .inl (cI, 300, .inl e1.2.2.2.1))]) (st2 := []) C (c_Packer_packRun l D cI cL h h_log h_log_row h_past h_past_typed st x3 r45 hr45) (cV hts kV_Packer_packRun wd_204 ⟨Nat.le_of_ble_eq_true rfl, Nat.le_of_ble_eq_true rfl⟩) hH [0, 1, 2, 3, 4] [5, 6, 7, 8, 9] [5, 6, 7, 8, 9, 0, 1, 2, 3, 4] rfl rfl rfl rfl (by decide) rfl rfl 0 rfl rfl rfl hl.1 rfl (Nat.le_of_ble_eq_true rfl) d_Packer_run_45 ⟨Nat.le_of_ble_eq_true rfl, Nat.le_of_ble_eq_true rfl⟩ rfl (fun H locs hH => ?_)
        refine lv_iconst (v := 0) hx hb d_Packer_run_48 (by decide) ?_
        refine lv_istore_n (lv' := [(3, .int 0), (0, .ref h), (1, .ref q1), (4, .int x4)]) hx hb d_Packer_run_49 rfl hl (by decide) rfl (fun ls hl => ?_)
        refine lv_aload_n hx hb d_Packer_run_50 rfl (lv_at hl 1 rfl) ?_
        refine lv_aload_n hx hb d_Packer_run_51 rfl (lv_at hl 2 rfl) ?_
        refine lv_iload hx hb d_Packer_run_52 (lv_at hl 3 rfl) ?_
        obtain ⟨r54, hr54, hf⟩ := ob hf
        refine fnV (rest := []) (wr := []) (w2 := [(h, .inr (3, [.ref h_log, .ref h_past, .int (bI r54.2.2.1), .int r54.2.2.2.1, .int r54.2.2.2.2.1, .int r54.2.2.2.2.2.1, .int r54.2.2.2.2.2.2.1, .int r54.2.2.2.2.2.2.2])), (h_log, .inr (0, [.ref h_log_row, .int r54.1.2])), (h_log_row, .inl (cI, 5000, .inl r54.1.1)), (h_past, .inr (1, [.ref h_past_typed, .int r54.2.1.2.1, .int r54.2.1.2.2])), (h_past_typed, .inl (cI, 300, .inl r54.2.1.1)), (q1, .inr (2, [.ref q1_kinds, .ref q1_differences, .ref q1_partsA, .ref q1_partsB, .int e1.2.2.2.2])), (q1_kinds, .inl (cI, 300, .inl e1.1)), (q1_differences, .inl (cL, 300, .inr (.inl e1.2.1))), (q1_partsA, .inl (cL, 300, .inr (.inl e1.2.2.1))), (q1_partsB, .inl (cI, 300, .inl e1.2.2.2.1))]) (st2 := []) C (c_Packer_packEntry l D cI cL h h_log h_log_row h_past h_past_typed q1 q1_kinds q1_differences q1_partsA q1_partsB r45 e1 x4 r54 hr54) (cV hts kV_Packer_packEntry wd_208 ⟨Nat.le_of_ble_eq_true rfl, Nat.le_of_ble_eq_true rfl⟩) hH [0, 1, 2, 3, 4, 5, 6, 7, 8, 9] [] [0, 1, 2, 3, 4, 5, 6, 7, 8, 9] rfl rfl rfl rfl (by decide) rfl rfl 0 rfl rfl rfl hl.1 rfl (Nat.le_of_ble_eq_true rfl) d_Packer_run_54 ⟨Nat.le_of_ble_eq_true rfl, Nat.le_of_ble_eq_true rfl⟩ rfl (fun H locs hH => ?_)
        refine lv_aload_n hx hb d_Packer_run_57 rfl (lv_at hl 1 rfl) ?_
        refine gt (ci := 3) (v := .ref h_past) C hH (iwT iw_Packer) 0 rfl rfl 1 (by decide) (.tail _ wd_83) rfl d_Packer_run_58 ?_
        refine lv_aload_n hx hb d_Packer_run_61 rfl (lv_at hl 2 rfl) ?_
        refine lv_iload hx hb d_Packer_run_62 (lv_at hl 3 rfl) ?_
        refine fnVR (rest := [.ref h_past]) (st2 := [.int (f_Events_kind e1 x4), .ref h_past]) C (c_Events_kind l D cI cL q1 q1_kinds q1_differences q1_partsA q1_partsB e1 x4 _ rfl) (cV hts kV_Events_kind wd_217 ⟨Nat.le_of_ble_eq_true rfl, Nat.le_of_ble_eq_true rfl⟩) hH [5, 6, 7, 8, 9] rfl rfl 0 rfl rfl rfl hl.1 rfl (Nat.le_of_ble_eq_true rfl) d_Packer_run_64 ⟨Nat.le_of_ble_eq_true rfl, Nat.le_of_ble_eq_true rfl⟩ rfl (fun H locs hH => ?_)
        refine lv_iload hx hb d_Packer_run_67 (lv_at hl 3 rfl) ?_
        obtain ⟨r69, hr69, hf⟩ := lb hf
        refine fnV (rest := []) (wr := [(h, .inr (3, [.ref h_log, .ref h_past, .int (bI r54.2.2.1), .int r54.2.2.2.1, .int r54.2.2.2.2.1, .int r54.2.2.2.2.2.1, .int r54.2.2.2.2.2.2.1, .int r54.2.2.2.2.2.2.2])), (h_log, .inr (0, [.ref h_log_row, .int r54.1.2])), (h_log_row, .inl (cI, 5000, .inl r54.1.1)), (q1, .inr (2, [.ref q1_kinds, .ref q1_differences, .ref q1_partsA, .ref q1_partsB, .int e1.2.2.2.2])), (q1_kinds, .inl (cI, 300, .inl e1.1)), (q1_differences, .inl (cL, 300, .inr (.inl e1.2.1))), (q1_partsA, .inl (cL, 300, .inr (.inl e1.2.2.1))), (q1_partsB, .inl (cI, 300, .inl e1.2.2.2.1))]) (w2 := [(h, .inr (3, [.ref h_log, .ref h_past, .int (bI r54.2.2.1), .int r54.2.2.2.1, .int r54.2.2.2.2.1, .int r54.2.2.2.2.2.1, .int r54.2.2.2.2.2.2.1, .int r54.2.2.2.2.2.2.2])), (h_log, .inr (0, [.ref h_log_row, .int r54.1.2])), (h_log_row, .inl (cI, 5000, .inl r54.1.1)), (h_past, .inr (1, [.ref h_past_typed, .int r69.2.1, .int r69.2.2])), (h_past_typed, .inl (cI, 300, .inl r69.1)), (q1, .inr (2, [.ref q1_kinds, .ref q1_differences, .ref q1_partsA, .ref q1_partsB, .int e1.2.2.2.2])), (q1_kinds, .inl (cI, 300, .inl e1.1)), (q1_differences, .inl (cL, 300, .inr (.inl e1.2.1))), (q1_partsA, .inl (cL, 300, .inr (.inl e1.2.2.1))), (q1_partsB, .inl (cI, 300, .inl e1.2.2.2.1))]) (st2 := []) C (c_Past_note l D cI cL h_past h_past_typed r54.2.1 (f_Events_kind e1 x4) x4 r69 hr69) (cV hts kV_Past_note wd_252 ⟨Nat.le_of_ble_eq_true rfl, Nat.le_of_ble_eq_true rfl⟩) hH [3, 4] [0, 1, 2, 5, 6, 7, 8, 9] [0, 1, 2, 8, 9, 3, 4, 5, 6, 7] rfl rfl rfl rfl (by decide) rfl rfl 0 rfl rfl rfl hl.1 rfl (Nat.le_of_ble_eq_true rfl) d_Packer_run_69 ⟨Nat.le_of_ble_eq_true rfl, Nat.le_of_ble_eq_true rfl⟩ rfl (fun H locs hH => ?_)
        refine lv_iinc (v := x4 + 1) (lv' := [(4, .int (x4 + 1)), (3, .int 0), (0, .ref h), (1, .ref q1)]) hx hb d_Packer_run_72 hl (k := 3) rfl rfl (by decide) rfl (fun ls hl => ?_)
        refine lv_goto (tgt := 19) hx hb d_Packer_run_75 (by decide) ?_
        exact ih ((r54.1, r69, r54.2.2.1, r54.2.2.2.1, r54.2.2.2.2.1, r54.2.2.2.2.2.1, r54.2.2.2.2.2.2.1, r54.2.2.2.2.2.2.2)) e1 0 (x4 + 1) res hf _ _ _ hH (lv_sub hl [2, 3, 1, 0] rfl)
      · have hf := im hc34 hf
        refine lv_iinc (v := x3 + 1) (lv' := [(3, .int (x3 + 1)), (0, .ref h), (1, .ref q1), (4, .int x4)]) hx hb d_Packer_run_37 hl (k := 2) rfl rfl (by decide) rfl (fun ls hl => ?_)
        refine lv_goto (tgt := 57) hx hb d_Packer_run_40 (by decide) ?_
        refine lv_aload_n hx hb d_Packer_run_57 rfl (lv_at hl 1 rfl) ?_
        refine gt (ci := 3) (v := .ref h_past) C hH (iwT iw_Packer) 0 rfl rfl 1 (by decide) (.tail _ wd_83) rfl d_Packer_run_58 ?_
        refine lv_aload_n hx hb d_Packer_run_61 rfl (lv_at hl 2 rfl) ?_
        refine lv_iload hx hb d_Packer_run_62 (lv_at hl 3 rfl) ?_
        refine fnVR (rest := [.ref h_past]) (st2 := [.int (f_Events_kind e1 x4), .ref h_past]) C (c_Events_kind l D cI cL q1 q1_kinds q1_differences q1_partsA q1_partsB e1 x4 _ rfl) (cV hts kV_Events_kind wd_217 ⟨Nat.le_of_ble_eq_true rfl, Nat.le_of_ble_eq_true rfl⟩) hH [5, 6, 7, 8, 9] rfl rfl 0 rfl rfl rfl hl.1 rfl (Nat.le_of_ble_eq_true rfl) d_Packer_run_64 ⟨Nat.le_of_ble_eq_true rfl, Nat.le_of_ble_eq_true rfl⟩ rfl (fun H locs hH => ?_)
        refine lv_iload hx hb d_Packer_run_67 (lv_at hl 3 rfl) ?_
        obtain ⟨r69, hr69, hf⟩ := lb hf
        refine fnV (rest := []) (wr := [(h, .inr (3, [.ref h_log, .ref h_past, .int (bI st.2.2.1), .int st.2.2.2.1, .int st.2.2.2.2.1, .int st.2.2.2.2.2.1, .int st.2.2.2.2.2.2.1, .int st.2.2.2.2.2.2.2])), (h_log, .inr (0, [.ref h_log_row, .int st.1.2])), (h_log_row, .inl (cI, 5000, .inl st.1.1)), (q1, .inr (2, [.ref q1_kinds, .ref q1_differences, .ref q1_partsA, .ref q1_partsB, .int e1.2.2.2.2])), (q1_kinds, .inl (cI, 300, .inl e1.1)), (q1_differences, .inl (cL, 300, .inr (.inl e1.2.1))), (q1_partsA, .inl (cL, 300, .inr (.inl e1.2.2.1))), (q1_partsB, .inl (cI, 300, .inl e1.2.2.2.1))]) (w2 := [(h, .inr (3, [.ref h_log, .ref h_past, .int (bI st.2.2.1), .int st.2.2.2.1, .int st.2.2.2.2.1, .int st.2.2.2.2.2.1, .int st.2.2.2.2.2.2.1, .int st.2.2.2.2.2.2.2])), (h_log, .inr (0, [.ref h_log_row, .int st.1.2])), (h_log_row, .inl (cI, 5000, .inl st.1.1)), (h_past, .inr (1, [.ref h_past_typed, .int r69.2.1, .int r69.2.2])), (h_past_typed, .inl (cI, 300, .inl r69.1)), (q1, .inr (2, [.ref q1_kinds, .ref q1_differences, .ref q1_partsA, .ref q1_partsB, .int e1.2.2.2.2])), (q1_kinds, .inl (cI, 300, .inl e1.1)), (q1_differences, .inl (cL, 300, .inr (.inl e1.2.1))), (q1_partsA, .inl (cL, 300, .inr (.inl e1.2.2.1))), (q1_partsB, .inl (cI, 300, .inl e1.2.2.2.1))]) (st2 := []) C (c_Past_note l D cI cL h_past h_past_typed st.2.1 (f_Events_kind e1 x4) x4 r69 hr69) (cV hts kV_Past_note wd_252 ⟨Nat.le_of_ble_eq_true rfl, Nat.le_of_ble_eq_true rfl⟩) hH [3, 4] [0, 1, 2, 5, 6, 7, 8, 9] [0, 1, 2, 8, 9, 3, 4, 5, 6, 7] rfl rfl rfl rfl (by decide) rfl rfl 0 rfl rfl rfl hl.1 rfl (Nat.le_of_ble_eq_true rfl) d_Packer_run_69 ⟨Nat.le_of_ble_eq_true rfl, Nat.le_of_ble_eq_true rfl⟩ rfl (fun H locs hH => ?_)
        refine lv_iinc (v := x4 + 1) (lv' := [(4, .int (x4 + 1)), (3, .int (x3 + 1)), (0, .ref h), (1, .ref q1)]) hx hb d_Packer_run_72 hl (k := 3) rfl rfl (by decide) rfl (fun ls hl => ?_)
        refine lv_goto (tgt := 19) hx hb d_Packer_run_75 (by decide) ?_
        exact ih ((st.1, r69, st.2.2.1, st.2.2.2.1, st.2.2.2.2.1, st.2.2.2.2.2.1, st.2.2.2.2.2.2.1, st.2.2.2.2.2.2.2)) e1 (x3 + 1) (x4 + 1) res hf _ _ _ hH (lv_sub hl [2, 3, 1, 0] rfl)
def f_Packer_run (st : S_Packer) (e1 : S_Events) (x2 : Bool) : Option (S_Packer) :=
  lt1 (f_Packer_begin st x2) (fun r2 => (f_Packer_packVarint r2 ((f_Events_number e1).toInt64)).bind (fun r11 => f_Packer_run_b19 400 r11 e1 0 0))
set_option maxRecDepth 100000 in
set_option maxHeartbeats 4000000 in
theorem c_Packer_run (l : Launch) (D : va_G) (cI cL : ClassId) (h h_log h_log_row h_past h_past_typed q1 q1_kinds q1_differences q1_partsA q1_partsB : Nat) (st : S_Packer) (e1 : S_Events) (x2 : Bool) (res : S_Packer) (hf : f_Packer_run st e1 x2 = some res) :
    Fn l D vwCl [(cI, .int), (cL, .long)] y_Packer_run ws_Packer_run { frames := 5, cells := 0, slots := 0, locals := 115 } [.ref h, .ref q1, .int (bI x2)] [(h, .inr (3, [.ref h_log, .ref h_past, .int (bI st.2.2.1), .int st.2.2.2.1, .int st.2.2.2.2.1, .int st.2.2.2.2.2.1, .int st.2.2.2.2.2.2.1, .int st.2.2.2.2.2.2.2])), (h_log, .inr (0, [.ref h_log_row, .int st.1.2])), (h_log_row, .inl (cI, 5000, .inl st.1.1)), (h_past, .inr (1, [.ref h_past_typed, .int st.2.1.2.1, .int st.2.1.2.2])), (h_past_typed, .inl (cI, 300, .inl st.2.1.1)), (q1, .inr (2, [.ref q1_kinds, .ref q1_differences, .ref q1_partsA, .ref q1_partsB, .int e1.2.2.2.2])), (q1_kinds, .inl (cI, 300, .inl e1.1)), (q1_differences, .inl (cL, 300, .inr (.inl e1.2.1))), (q1_partsA, .inl (cL, 300, .inr (.inl e1.2.2.1))), (q1_partsB, .inl (cI, 300, .inl e1.2.2.2.1))] (none) [(h, .inr (3, [.ref h_log, .ref h_past, .int (bI res.2.2.1), .int res.2.2.2.1, .int res.2.2.2.2.1, .int res.2.2.2.2.2.1, .int res.2.2.2.2.2.2.1, .int res.2.2.2.2.2.2.2])), (h_log, .inr (0, [.ref h_log_row, .int res.1.2])), (h_log_row, .inl (cI, 5000, .inl res.1.1)), (h_past, .inr (1, [.ref h_past_typed, .int res.2.1.2.1, .int res.2.1.2.2])), (h_past_typed, .inl (cI, 300, .inl res.2.1.1)), (q1, .inr (2, [.ref q1_kinds, .ref q1_differences, .ref q1_partsA, .ref q1_partsB, .int e1.2.2.2.2])), (q1_kinds, .inl (cI, 300, .inl e1.1)), (q1_differences, .inl (cL, 300, .inr (.inl e1.2.1))), (q1_partsA, .inl (cL, 300, .inr (.inl e1.2.2.1))), (q1_partsB, .inl (cI, 300, .inl e1.2.2.2.1))] := by
  refine Fn.ofW (cc := b_Packer_run) (maxL := 5) (ret := none) (by decide) rfl (Nat.le_of_ble_eq_true rfl) ?_
  intro p e s m below meth c A ls C hH hinit hl
  have hl : lv_has ls 5 [(0, .ref h), (1, .ref q1), (2, .int (bI x2))] := hl
  obtain ⟨hx, hb, hr, hml, hown, hts, hlk, hK, hA⟩ := id C
  unfold f_Packer_run at hf
  refine lv_aload_n hx hb d_Packer_run_0 rfl (lv_at hl 0 rfl) ?_
  refine lv_iload_n hx hb d_Packer_run_1 rfl (lv_at hl 2 rfl) ?_
  obtain ⟨r2, hr2, hf⟩ := lb hf
  refine fnV (rest := []) (wr := [(q1, .inr (2, [.ref q1_kinds, .ref q1_differences, .ref q1_partsA, .ref q1_partsB, .int e1.2.2.2.2])), (q1_kinds, .inl (cI, 300, .inl e1.1)), (q1_differences, .inl (cL, 300, .inr (.inl e1.2.1))), (q1_partsA, .inl (cL, 300, .inr (.inl e1.2.2.1))), (q1_partsB, .inl (cI, 300, .inl e1.2.2.2.1))]) (w2 := [(h, .inr (3, [.ref h_log, .ref h_past, .int (bI r2.2.2.1), .int r2.2.2.2.1, .int r2.2.2.2.2.1, .int r2.2.2.2.2.2.1, .int r2.2.2.2.2.2.2.1, .int r2.2.2.2.2.2.2.2])), (h_log, .inr (0, [.ref h_log_row, .int r2.1.2])), (h_log_row, .inl (cI, 5000, .inl r2.1.1)), (h_past, .inr (1, [.ref h_past_typed, .int r2.2.1.2.1, .int r2.2.1.2.2])), (h_past_typed, .inl (cI, 300, .inl r2.2.1.1)), (q1, .inr (2, [.ref q1_kinds, .ref q1_differences, .ref q1_partsA, .ref q1_partsB, .int e1.2.2.2.2])), (q1_kinds, .inl (cI, 300, .inl e1.1)), (q1_differences, .inl (cL, 300, .inr (.inl e1.2.1))), (q1_partsA, .inl (cL, 300, .inr (.inl e1.2.2.1))), (q1_partsB, .inl (cI, 300, .inl e1.2.2.2.1))]) (st2 := []) C (c_Packer_begin l D cI cL h h_log h_log_row h_past h_past_typed st x2 r2 hr2) (cV hts kV_Packer_begin wd_155 ⟨Nat.le_of_ble_eq_true rfl, Nat.le_of_ble_eq_true rfl⟩) hH [0, 1, 2, 3, 4] [5, 6, 7, 8, 9] [5, 6, 7, 8, 9, 0, 1, 2, 3, 4] rfl rfl rfl rfl (by decide) rfl rfl 0 rfl rfl rfl hl.1 rfl (Nat.le_of_ble_eq_true rfl) d_Packer_run_2 ⟨Nat.le_of_ble_eq_true rfl, Nat.le_of_ble_eq_true rfl⟩ rfl (fun H locs hH => ?_)
  refine lv_aload_n hx hb d_Packer_run_5 rfl (lv_at hl 0 rfl) ?_
  refine lv_aload_n hx hb d_Packer_run_6 rfl (lv_at hl 1 rfl) ?_
  refine fnVR (rest := [.ref h]) (st2 := [.int (f_Events_number e1), .ref h]) C (c_Events_number l D cI cL q1 q1_kinds q1_differences q1_partsA q1_partsB e1 _ rfl) (cV hts kV_Events_number wd_167 ⟨Nat.le_of_ble_eq_true rfl, Nat.le_of_ble_eq_true rfl⟩) hH [5, 6, 7, 8, 9] rfl rfl 0 rfl rfl rfl hl.1 rfl (Nat.le_of_ble_eq_true rfl) d_Packer_run_7 ⟨Nat.le_of_ble_eq_true rfl, Nat.le_of_ble_eq_true rfl⟩ rfl (fun H locs hH => ?_)
  refine lv_i2l (v := (f_Events_number e1).toInt64) hx hb d_Packer_run_10 rfl ?_
  obtain ⟨r11, hr11, hf⟩ := ob hf
  refine fnV (rest := []) (wr := [(q1, .inr (2, [.ref q1_kinds, .ref q1_differences, .ref q1_partsA, .ref q1_partsB, .int e1.2.2.2.2])), (q1_kinds, .inl (cI, 300, .inl e1.1)), (q1_differences, .inl (cL, 300, .inr (.inl e1.2.1))), (q1_partsA, .inl (cL, 300, .inr (.inl e1.2.2.1))), (q1_partsB, .inl (cI, 300, .inl e1.2.2.2.1))]) (w2 := [(h, .inr (3, [.ref h_log, .ref h_past, .int (bI r11.2.2.1), .int r11.2.2.2.1, .int r11.2.2.2.2.1, .int r11.2.2.2.2.2.1, .int r11.2.2.2.2.2.2.1, .int r11.2.2.2.2.2.2.2])), (h_log, .inr (0, [.ref h_log_row, .int r11.1.2])), (h_log_row, .inl (cI, 5000, .inl r11.1.1)), (h_past, .inr (1, [.ref h_past_typed, .int r11.2.1.2.1, .int r11.2.1.2.2])), (h_past_typed, .inl (cI, 300, .inl r11.2.1.1)), (q1, .inr (2, [.ref q1_kinds, .ref q1_differences, .ref q1_partsA, .ref q1_partsB, .int e1.2.2.2.2])), (q1_kinds, .inl (cI, 300, .inl e1.1)), (q1_differences, .inl (cL, 300, .inr (.inl e1.2.1))), (q1_partsA, .inl (cL, 300, .inr (.inl e1.2.2.1))), (q1_partsB, .inl (cI, 300, .inl e1.2.2.2.1))]) (st2 := []) C (c_Packer_packVarint l D cI cL h h_log h_log_row h_past h_past_typed r2 ((f_Events_number e1).toInt64) r11 hr11) (cV hts kV_Packer_packVarint wd_171 ⟨Nat.le_of_ble_eq_true rfl, Nat.le_of_ble_eq_true rfl⟩) hH [0, 1, 2, 3, 4] [5, 6, 7, 8, 9] [5, 6, 7, 8, 9, 0, 1, 2, 3, 4] rfl rfl rfl rfl (by decide) rfl rfl 0 rfl rfl rfl hl.1 rfl (Nat.le_of_ble_eq_true rfl) d_Packer_run_11 ⟨Nat.le_of_ble_eq_true rfl, Nat.le_of_ble_eq_true rfl⟩ rfl (fun H locs hH => ?_)
  refine lv_iconst (v := 0) hx hb d_Packer_run_14 (by decide) ?_
  refine lv_istore_n (lv' := [(3, .int 0), (0, .ref h), (1, .ref q1), (2, .int (bI x2))]) hx hb d_Packer_run_15 rfl hl (by decide) rfl (fun ls hl => ?_)
  refine lv_iconst (v := 0) hx hb d_Packer_run_16 (by decide) ?_
  refine lv_istore (lv' := [(4, .int 0), (3, .int 0), (0, .ref h), (1, .ref q1), (2, .int (bI x2))]) hx hb d_Packer_run_17 hl (by decide) rfl (fun ls hl => ?_)
  exact w_Packer_run_b19 l D cI cL h h_log h_log_row h_past h_past_typed q1 q1_kinds q1_differences q1_partsA q1_partsB C 400 r11 e1 0 0 res hf _ _ _ hH (lv_sub hl [2, 3, 1, 0] rfl)
