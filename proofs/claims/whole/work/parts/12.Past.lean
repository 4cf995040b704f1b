def f_Past_forget (st : S_Past)  : S_Past :=
  (st.1, 0, (-1))
set_option maxRecDepth 100000 in
set_option maxHeartbeats 4000000 in
theorem c_Past_forget (l : Launch) (D : va_G) (cI cL : ClassId) (h h_typed : Nat) (st : S_Past)  (res : S_Past) (hf : f_Past_forget st = res) :
    Fn l D vwCl [(cI, .int), (cL, .long)] y_Past_forget ws_Past_forget { frames := 0, cells := 0, slots := 0, locals := 0 } [.ref h] [(h, .inr (1, [.ref h_typed, .int st.2.1, .int st.2.2])), (h_typed, .inl (cI, 300, .inl st.1))] (none) [(h, .inr (1, [.ref h_typed, .int res.2.1, .int res.2.2])), (h_typed, .inl (cI, 300, .inl res.1))] := by
  refine Fn.ofW (cc := b_Past_forget) (maxL := 1) (ret := none) (by decide) rfl (Nat.le_of_ble_eq_true rfl) ?_
  intro p e s m below meth c A ls C hH hinit hl
  have hl : lv_has ls 1 [(0, .ref h)] := hl
  obtain ⟨hx, hb, hr, hml, hown, hts, hlk, hK, hA⟩ := id C
  unfold f_Past_forget at hf
  refine lv_aload_n hx hb d_Past_forget_0 rfl (lv_at hl 0 rfl) ?_
  refine lv_iconst (v := 0) hx hb d_Past_forget_1 (by decide) ?_
  refine pt (ci := 1) (v := .int 0) C hH (iwT iw_Past) ty_Past tyok_Past nm_Past 0 rfl rfl 1 (by decide) (.tail _ wd_73) rfl rfl rfl (Nat.le_of_ble_eq_true rfl) d_Past_forget_2 [(h, .inr (1, [.ref h_typed, .int 0, .int st.2.2])), (h_typed, .inl (cI, 300, .inl st.1))] rfl (fun H locs hH => ?_)
  refine lv_aload_n hx hb d_Past_forget_5 rfl (lv_at hl 0 rfl) ?_
  refine lv_iconst (v := (-1)) hx hb d_Past_forget_6 (by decide) ?_
  refine pt (ci := 1) (v := .int ((-1))) C hH (iwT iw_Past) ty_Past tyok_Past nm_Past 0 rfl rfl 2 (by decide) (.tail _ wd_74) rfl rfl rfl (Nat.le_of_ble_eq_true rfl) d_Past_forget_7 [(h, .inr (1, [.ref h_typed, .int 0, .int ((-1))])), (h_typed, .inl (cI, 300, .inl st.1))] rfl (fun H locs hH => ?_)
  subst hf
  exact rV C hH d_Past_forget_10
def f_Past_note_b10 (st : S_Past) (x1 : Int32) (x2 : Int32) : S_Past :=
  if x1 = (1 : Int32) then (if st.2.1 < 0 then (st) else (if (300 : Int32) ≤ st.2.1 then (st) else ((upd st.1 st.2.1.toNatClampNeg x2, st.2.1 + 1, st.2.2)))) else (st)
set_option maxRecDepth 100000 in
set_option maxHeartbeats 4000000 in
theorem w_Past_note_b10 (l : Launch) (D : va_G) (cI cL : ClassId) (h h_typed : Nat) {p : Program} {e : Env} {s : State} {m : MethodId} {args : Array Value} {below : List Frame} {meth : Method} {c : Code} {A : Nat → Prop} (C : Cx p s m args meth c D vwCl [(cI, .int), (cL, .long)] A b_Past_note 3 none ws_Past_note y_Past_note.cls) : ∀ (st : S_Past) (x1 : Int32) (x2 : Int32) (res : S_Past), f_Past_note_b10 st x1 x2 = res → ∀ (H : Heap) (locs : List Loc) (ls : Array Slot), Hp D vwCl A A s.heap H locs [(h, .inr (1, [.ref h_typed, .int st.2.1, .int st.2.2])), (h_typed, .inl (cI, 300, .inl st.1))] → lv_has ls 3 [(0, .ref h), (1, .int x1), (2, .int x2)] → W p l e { frames := 0, cells := 0, slots := 0, locals := 0 } s m args below meth c H locs 0 0 (MQ below (Qw D vwCl [(cI, .int), (cL, .long)] (none) A [(h, .inr (1, [.ref h_typed, .int res.2.1, .int res.2.2])), (h_typed, .inl (cI, 300, .inl res.1))]) args s 0 0 A) (F0 m 10 ls []) := by
  obtain ⟨hx, hb, hr, hml, hown, hts, hlk, hK, hA⟩ := id C
  intro st x1 x2 res hf H locs ls hH hl
  unfold f_Past_note_b10 at hf
  refine lv_iload_n hx hb d_Past_note_10 rfl (lv_at hl 1 rfl) ?_
  refine lv_iconst (v := 1) hx hb d_Past_note_11 (by decide) ?_
  refine lv_icmp_ne (tgt := 52) hx hb d_Past_note_12 (by decide) (fun hc12 => ?_) (fun hc12 => ?_)
  · have hf := im hc12 hf
    subst hf
    exact rV C hH d_Past_note_52
  · have hf := ip hc12 hf
    refine lv_aload_n hx hb d_Past_note_15 rfl (lv_at hl 0 rfl) ?_
    refine gt (ci := 1) (v := .int st.2.1) C hH (iwT iw_Past) 0 rfl rfl 1 (by decide) (.tail _ wd_73) rfl d_Past_note_16 ?_
    refine lv_if_lt (tgt := 52) hx hb d_Past_note_19 (by decide) (fun hc19 => ?_) (fun hc19 => ?_)
    · have hf := ip hc19 hf
      subst hf
      exact rV C hH d_Past_note_52
    · have hf := im hc19 hf
      refine lv_aload_n hx hb d_Past_note_22 rfl (lv_at hl 0 rfl) ?_
      refine gt (ci := 1) (v := .int st.2.1) C hH (iwT iw_Past) 0 rfl rfl 1 (by decide) (.tail _ wd_73) rfl d_Past_note_23 ?_
      refine lv_sipush (v := 300) hx hb d_Past_note_26 (by decide) ?_
      refine lv_icmp_ge (tgt := 52) hx hb d_Past_note_29 (by decide) (fun hc29 => ?_) (fun hc29 => ?_)
      · have hf := ip hc29 hf
        subst hf
        exact rV C hH d_Past_note_52
      · have hf := im hc29 hf
        refine lv_aload_n hx hb d_Past_note_32 rfl (lv_at hl 0 rfl) ?_
        refine gt (ci := 1) (v := .ref h_typed) C hH (iwT iw_Past) 0 rfl rfl 0 (by decide) (.tail _ wd_72) rfl d_Past_note_33 ?_
        refine lv_aload_n hx hb d_Past_note_36 rfl (lv_at hl 0 rfl) ?_
        refine gt (ci := 1) (v := .int st.2.1) C hH (iwT iw_Past) 0 rfl rfl 1 (by decide) (.tail _ wd_73) rfl d_Past_note_37 ?_
        refine lv_iload_n hx hb d_Past_note_40 rfl (lv_at hl 2 rfl) ?_
        refine asi C hH 1 0 rfl rfl (vin300 hc19 hc29) d_Past_note_41 [(h, .inr (1, [.ref h_typed, .int st.2.1, .int st.2.2])), (h_typed, .inl (cI, 300, .inl (upd st.1 st.2.1.toNatClampNeg x2)))] rfl (fun H locs hH => ?_)
        refine lv_aload_n hx hb d_Past_note_42 rfl (lv_at hl 0 rfl) ?_
        refine lv_dup hx hb d_Past_note_43 rfl ?_
        refine gt (ci := 1) (v := .int st.2.1) C hH (iwT iw_Past) 0 rfl rfl 1 (by decide) (.tail _ wd_73) rfl d_Past_note_44 ?_
        refine lv_iconst (v := 1) hx hb d_Past_note_47 (by decide) ?_
        refine lv_iadd hx hb d_Past_note_48 ?_
        refine pt (ci := 1) (v := .int (st.2.1 + 1)) C hH (iwT iw_Past) ty_Past tyok_Past nm_Past 0 rfl rfl 1 (by decide) (.tail _ wd_73) rfl rfl rfl (Nat.le_of_ble_eq_true rfl) d_Past_note_49 [(h, .inr (1, [.ref h_typed, .int (st.2.1 + 1), .int st.2.2])), (h_typed, .inl (cI, 300, .inl (upd st.1 st.2.1.toNatClampNeg x2)))] rfl (fun H locs hH => ?_)
        subst hf
        exact rV C hH d_Past_note_52
def f_Past_note (st : S_Past) (x1 : Int32) (x2 : Int32) : S_Past :=
  if x1 = (3 : Int32) then (f_Past_note_b10 ((st.1, st.2.1, x2)) x1 x2) else (f_Past_note_b10 st x1 x2)
set_option maxRecDepth 100000 in
set_option maxHeartbeats 4000000 in
theorem c_Past_note (l : Launch) (D : va_G) (cI cL : ClassId) (h h_typed : Nat) (st : S_Past) (x1 : Int32) (x2 : Int32) (res : S_Past) (hf : f_Past_note st x1 x2 = res) :
    Fn l D vwCl [(cI, .int), (cL, .long)] y_Past_note ws_Past_note { frames := 0, cells := 0, slots := 0, locals := 0 } [.ref h, .int x1, .int x2] [(h, .inr (1, [.ref h_typed, .int st.2.1, .int st.2.2])), (h_typed, .inl (cI, 300, .inl st.1))] (none) [(h, .inr (1, [.ref h_typed, .int res.2.1, .int res.2.2])), (h_typed, .inl (cI, 300, .inl res.1))] := by
  refine Fn.ofW (cc := b_Past_note) (maxL := 3) (ret := none) (by decide) rfl (Nat.le_of_ble_eq_true rfl) ?_
  intro p e s m below meth c A ls C hH hinit hl
  have hl : lv_has ls 3 [(0, .ref h), (1, .int x1), (2, .int x2)] := hl
  obtain ⟨hx, hb, hr, hml, hown, hts, hlk, hK, hA⟩ := id C
  unfold f_Past_note at hf
  refine lv_iload_n hx hb d_Past_note_0 rfl (lv_at hl 1 rfl) ?_
  refine lv_iconst (v := 3) hx hb d_Past_note_1 (by decide) ?_
  refine lv_icmp_ne (tgt := 10) hx hb d_Past_note_2 (by decide) (fun hc2 => ?_) (fun hc2 => ?_)
  · have hf := im hc2 hf
    exact w_Past_note_b10 l D cI cL h h_typed C st x1 x2 res hf _ _ _ hH (lv_sub hl [0, 1, 2] rfl)
  · have hf := ip hc2 hf
    refine lv_aload_n hx hb d_Past_note_5 rfl (lv_at hl 0 rfl) ?_
    refine lv_iload_n hx hb d_Past_note_6 rfl (lv_at hl 2 rfl) ?_
    refine pt (ci := 1) (v := .int x2) C hH (iwT iw_Past) ty_Past tyok_Past nm_Past 0 rfl rfl 2 (by decide) (.tail _ wd_74) rfl rfl rfl (Nat.le_of_ble_eq_true rfl) d_Past_note_7 [(h, .inr (1, [.ref h_typed, .int st.2.1, .int x2])), (h_typed, .inl (cI, 300, .inl st.1))] rfl (fun H locs hH => ?_)
    exact w_Past_note_b10 l D cI cL h h_typed C ((st.1, st.2.1, x2)) x1 x2 res hf _ _ _ hH (lv_sub hl [0, 1, 2] rfl)
def f_Past_latestClock (st : S_Past)  : Int32 :=
  st.2.2
set_option maxRecDepth 100000 in
set_option maxHeartbeats 4000000 in
theorem c_Past_latestClock (l : Launch) (D : va_G) (cI cL : ClassId) (h h_typed : Nat) (st : S_Past)  (res : Int32) (hf : f_Past_latestClock st = res) :
    FnR l D vwCl [(cI, .int), (cL, .long)] y_Past_latestClock ws_Past_latestClock { frames := 0, cells := 0, slots := 0, locals := 0 } [.ref h] [(h, .inr (1, [.ref h_typed, .int st.2.1, .int st.2.2])), (h_typed, .inl (cI, 300, .inl st.1))] (some (.int res)) := by
  refine FnR.ofW (cc := b_Past_latestClock) (maxL := 1) (ret := (some .int)) (by decide) rfl (Nat.le_of_ble_eq_true rfl) ?_
  intro p e s m below meth c A ls C hH hl
  have hl : lv_has ls 1 [(0, .ref h)] := hl
  obtain ⟨hx, hb, hr, hml, hown, hts, hlk, hK, hA⟩ := id C
  unfold f_Past_latestClock at hf
  refine lv_aload_n hx hb d_Past_latestClock_0 rfl (lv_at hl 0 rfl) ?_
  refine gt (ci := 1) (v := .int st.2.2) C hH (iwT iw_Past) 0 rfl rfl 2 (by decide) (.tail _ wd_74) rfl d_Past_latestClock_1 ?_
  subst hf
  exact rIR (v := st.2.2) C hH d_Past_latestClock_4
def f_Past_typedBefore (st : S_Past) (x1 : Int64) : Int32 :=
  if (lg_cmp x1 1) < 0 then ((-1)) else (if 0 < (lg_cmp x1 st.2.1.toInt64) then ((-1)) else (if (lg_cmp x1 300) ≤ 0 then (if (300 : Int32) ≤ (st.2.1 - x1.toInt32) then ((-1)) else (st.1 (st.2.1 - x1.toInt32).toNatClampNeg)) else ((-1))))
set_option maxRecDepth 100000 in
set_option maxHeartbeats 4000000 in
theorem c_Past_typedBefore (l : Launch) (D : va_G) (cI cL : ClassId) (h h_typed : Nat) (st : S_Past) (x1 : Int64) (res : Int32) (hf : f_Past_typedBefore st x1 = res) :
    FnR l D vwCl [(cI, .int), (cL, .long)] y_Past_typedBefore ws_Past_typedBefore { frames := 0, cells := 0, slots := 0, locals := 0 } [.ref h, .long x1] [(h, .inr (1, [.ref h_typed, .int st.2.1, .int st.2.2])), (h_typed, .inl (cI, 300, .inl st.1))] (some (.int res)) := by
  refine FnR.ofW (cc := b_Past_typedBefore) (maxL := 4) (ret := (some .int)) (by decide) rfl (Nat.le_of_ble_eq_true rfl) ?_
  intro p e s m below meth c A ls C hH hl
  have hl : lv_has ls 4 [(0, .ref h), (1, .long x1)] := hl
  obtain ⟨hx, hb, hr, hml, hown, hts, hlk, hK, hA⟩ := id C
  unfold f_Past_typedBefore at hf
  refine lv_lload_n hx hb d_Past_typedBefore_0 rfl (lv_at hl 1 rfl) ?_
  refine lv_lconst (v := 1) hx hb d_Past_typedBefore_1 (by decide) ?_
  refine W.lcmp hx hb d_Past_typedBefore_2 ?_
  refine lv_if_lt (tgt := 24) hx hb d_Past_typedBefore_3 (by decide) (fun hc3 => ?_) (fun hc3 => ?_)
  · have hf := ip hc3 hf
    refine lv_iconst (v := (-1)) hx hb d_Past_typedBefore_24 (by decide) ?_
    subst hf
    exact rIR (v := (-1)) C hH d_Past_typedBefore_25
  · have hf := im hc3 hf
    refine lv_lload_n hx hb d_Past_typedBefore_6 rfl (lv_at hl 1 rfl) ?_
    refine lv_aload_n hx hb d_Past_typedBefore_7 rfl (lv_at hl 0 rfl) ?_
    refine gt (ci := 1) (v := .int st.2.1) C hH (iwT iw_Past) 0 rfl rfl 1 (by decide) (.tail _ wd_73) rfl d_Past_typedBefore_8 ?_
    refine lv_i2l (v := st.2.1.toInt64) hx hb d_Past_typedBefore_11 rfl ?_
    refine W.lcmp hx hb d_Past_typedBefore_12 ?_
    refine lv_if_gt (tgt := 24) hx hb d_Past_typedBefore_13 (by decide) (fun hc13 => ?_) (fun hc13 => ?_)
    · have hf := ip hc13 hf
      refine lv_iconst (v := (-1)) hx hb d_Past_typedBefore_24 (by decide) ?_
      subst hf
      exact rIR (v := (-1)) C hH d_Past_typedBefore_25
    · have hf := im hc13 hf
      refine lv_lload_n hx hb d_Past_typedBefore_16 rfl (lv_at hl 1 rfl) ?_
      refine lv_ldc2 (v := 300) hx hb hown (hts _ (.tail _ wd_229)) d_Past_typedBefore_17 ?_
      refine W.lcmp hx hb d_Past_typedBefore_20 ?_
      refine lv_if_le (tgt := 26) hx hb d_Past_typedBefore_21 (by decide) (fun hc21 => ?_) (fun hc21 => ?_)
      · have hf := ip hc21 hf
        refine lv_aload_n hx hb d_Past_typedBefore_26 rfl (lv_at hl 0 rfl) ?_
        refine gt (ci := 1) (v := .int st.2.1) C hH (iwT iw_Past) 0 rfl rfl 1 (by decide) (.tail _ wd_73) rfl d_Past_typedBefore_27 ?_
        refine lv_lload_n hx hb d_Past_typedBefore_30 rfl (lv_at hl 1 rfl) ?_
        refine lv_l2i (v := x1.toInt32) hx hb d_Past_typedBefore_31 rfl ?_
        refine lv_isub hx hb d_Past_typedBefore_32 ?_
        refine lv_istore_n (lv' := [(3, .int (st.2.1 - x1.toInt32)), (0, .ref h), (1, .long x1)]) hx hb d_Past_typedBefore_33 rfl hl (by decide) rfl (fun ls hl => ?_)
        refine lv_iload_n hx hb d_Past_typedBefore_34 rfl (lv_at hl 0 rfl) ?_
        refine lv_sipush (v := 300) hx hb d_Past_typedBefore_35 (by decide) ?_
        refine lv_icmp_ge (tgt := 50) hx hb d_Past_typedBefore_38 (by decide) (fun hc38 => ?_) (fun hc38 => ?_)
        · have hf := ip hc38 hf
          refine lv_iconst (v := (-1)) hx hb d_Past_typedBefore_50 (by decide) ?_
          subst hf
          exact rIR (v := (-1)) C hH d_Past_typedBefore_51
        · have hf := im hc38 hf
          refine lv_aload_n hx hb d_Past_typedBefore_41 rfl (lv_at hl 1 rfl) ?_
          refine gt (ci := 1) (v := .ref h_typed) C hH (iwT iw_Past) 0 rfl rfl 0 (by decide) (.tail _ wd_72) rfl d_Past_typedBefore_42 ?_
          refine lv_iload_n hx hb d_Past_typedBefore_45 rfl (lv_at hl 0 rfl) ?_
          refine ali C hH 1 0 rfl rfl (tb_in hc3 hc13 hc21 hc38) d_Past_typedBefore_46 ?_
          refine lv_goto (tgt := 51) hx hb d_Past_typedBefore_47 (by decide) ?_
          subst hf
          exact rIR (v := st.1 (st.2.1 - x1.toInt32).toNatClampNeg) C hH d_Past_typedBefore_51
      · have hf := im hc21 hf
        refine lv_iconst (v := (-1)) hx hb d_Past_typedBefore_24 (by decide) ?_
        subst hf
        exact rIR (v := (-1)) C hH d_Past_typedBefore_25
