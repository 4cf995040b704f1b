def f_Model_thrown (st : S_Model)  : Int32 :=
  st.1
set_option maxRecDepth 100000 in
set_option maxHeartbeats 4000000 in
theorem c_Model_thrown (l : Launch) (D : va_G) (cI cL : ClassId) (h h_kind h_b h_difference h_a h_newKind h_newB h_newDifference h_newA h_log h_packed : Nat) (st : S_Model)  (res : Int32) (hf : f_Model_thrown st = res) :
    FnR l D vwCl [(cI, .int), (cL, .long)] y_Model_thrown ws_Model_thrown { frames := 0, cells := 0, slots := 0, locals := 0 } [.ref h] [(h, .inr (6, [.int st.1, .int st.2.1.2.2.2.2, .ref h_kind, .ref h_b, .ref h_difference, .ref h_a, .int st.2.2.1.2.2.2.2, .ref h_newKind, .ref h_newB, .ref h_newDifference, .ref h_newA, .int st.2.2.2.1.2, .ref h_log, .ref h_packed, .int st.2.2.2.2.1.2, .int st.2.2.2.2.2.1.1, .int st.2.2.2.2.2.1.2.1, .int st.2.2.2.2.2.1.2.2.1, .int st.2.2.2.2.2.1.2.2.2, .int st.2.2.2.2.2.2.1, .int st.2.2.2.2.2.2.2])), (h_kind, .inl (cI, 300, .inl st.2.1.1)), (h_b, .inl (cI, 300, .inl st.2.1.2.2.2.1)), (h_difference, .inl (cL, 300, .inr (.inl st.2.1.2.1))), (h_a, .inl (cL, 300, .inr (.inl st.2.1.2.2.1))), (h_newKind, .inl (cI, 300, .inl st.2.2.1.1)), (h_newB, .inl (cI, 300, .inl st.2.2.1.2.2.2.1)), (h_newDifference, .inl (cL, 300, .inr (.inl st.2.2.1.2.1))), (h_newA, .inl (cL, 300, .inr (.inl st.2.2.1.2.2.1))), (h_log, .inl (cI, 5000, .inl st.2.2.2.1.1)), (h_packed, .inl (cI, 5000, .inl st.2.2.2.2.1.1))] (some (.int res)) := by
  refine FnR.ofW (cc := b_Model_thrown) (maxL := 1) (ret := (some .int)) (by decide) rfl (Nat.le_of_ble_eq_true rfl) ?_
  intro p e s m below meth c A ls C hH hl
  have hl : lv_has ls 1 [(0, .ref h)] := hl
  obtain ⟨hx, hb, hr, hml, hown, hts, hlk, hK, hA⟩ := id C
  unfold f_Model_thrown at hf
  refine lv_aload_n hx hb d_Model_thrown_0 rfl (lv_at hl 0 rfl) ?_
  refine gt (ci := 6) (v := .int st.1) C hH (iwT iw_Model) 0 rfl rfl 0 (by decide) (.tail _ wd_596) rfl d_Model_thrown_1 ?_
  subst hf
  exact rIR (v := st.1) C hH d_Model_thrown_4
def f_Model_fails_b26 (st : S_Model) (z0 : Int32) : Bool × S_Model :=
  if z0 ≤ 0 then ((false, (z0, st.2.1, st.2.2.1, st.2.2.2.1, st.2.2.2.2.1, st.2.2.2.2.2.1, st.2.2.2.2.2.2.1, st.2.2.2.2.2.2.2))) else ((true, (z0, st.2.1, st.2.2.1, st.2.2.2.1, st.2.2.2.2.1, st.2.2.2.2.2.1, st.2.2.2.2.2.2.1, st.2.2.2.2.2.2.2)))
set_option maxRecDepth 100000 in
set_option maxHeartbeats 4000000 in
theorem w_Model_fails_b26 (l : Launch) (D : va_G) (cI cL : ClassId) (h h_kind h_b h_difference h_a h_newKind h_newB h_newDifference h_newA h_log h_packed : Nat) {p : Program} {e : Env} {s : State} {m : MethodId} {args : Array Value} {below : List Frame} {meth : Method} {c : Code} {A : Nat → Prop} (C : Cx p s m args meth c D vwCl [(cI, .int), (cL, .long)] A b_Model_fails 4 (some .boolean) ws_Model_fails y_Model_fails.cls) : ∀ (st : S_Model) (z0 : Int32) (res : Bool × S_Model), f_Model_fails_b26 st z0 = res → ∀ (H : Heap) (locs : List Loc) (ls : Array Slot), Hp D vwCl A A s.heap H locs [(h, .inr (6, [.int st.1, .int st.2.1.2.2.2.2, .ref h_kind, .ref h_b, .ref h_difference, .ref h_a, .int st.2.2.1.2.2.2.2, .ref h_newKind, .ref h_newB, .ref h_newDifference, .ref h_newA, .int st.2.2.2.1.2, .ref h_log, .ref h_packed, .int st.2.2.2.2.1.2, .int st.2.2.2.2.2.1.1, .int st.2.2.2.2.2.1.2.1, .int st.2.2.2.2.2.1.2.2.1, .int st.2.2.2.2.2.1.2.2.2, .int st.2.2.2.2.2.2.1, .int st.2.2.2.2.2.2.2])), (h_kind, .inl (cI, 300, .inl st.2.1.1)), (h_b, .inl (cI, 300, .inl st.2.1.2.2.2.1)), (h_difference, .inl (cL, 300, .inr (.inl st.2.1.2.1))), (h_a, .inl (cL, 300, .inr (.inl st.2.1.2.2.1))), (h_newKind, .inl (cI, 300, .inl st.2.2.1.1)), (h_newB, .inl (cI, 300, .inl st.2.2.1.2.2.2.1)), (h_newDifference, .inl (cL, 300, .inr (.inl st.2.2.1.2.1))), (h_newA, .inl (cL, 300, .inr (.inl st.2.2.1.2.2.1))), (h_log, .inl (cI, 5000, .inl st.2.2.2.1.1)), (h_packed, .inl (cI, 5000, .inl st.2.2.2.2.1.1))] → lv_has ls 4 [(0, .ref h)] → W p l e { frames := 0, cells := 0, slots := 0, locals := 0 } s m args below meth c H locs 0 0 (MQ below (Qw D vwCl [(cI, .int), (cL, .long)] (some (.int (bI res.1))) A [(h, .inr (6, [.int res.2.1, .int res.2.2.1.2.2.2.2, .ref h_kind, .ref h_b, .ref h_difference, .ref h_a, .int res.2.2.2.1.2.2.2.2, .ref h_newKind, .ref h_newB, .ref h_newDifference, .ref h_newA, .int res.2.2.2.2.1.2, .ref h_log, .ref h_packed, .int res.2.2.2.2.2.1.2, .int res.2.2.2.2.2.2.1.1, .int res.2.2.2.2.2.2.1.2.1, .int res.2.2.2.2.2.2.1.2.2.1, .int res.2.2.2.2.2.2.1.2.2.2, .int res.2.2.2.2.2.2.2.1, .int res.2.2.2.2.2.2.2.2])), (h_kind, .inl (cI, 300, .inl res.2.2.1.1)), (h_b, .inl (cI, 300, .inl res.2.2.1.2.2.2.1)), (h_difference, .inl (cL, 300, .inr (.inl res.2.2.1.2.1))), (h_a, .inl (cL, 300, .inr (.inl res.2.2.1.2.2.1))), (h_newKind, .inl (cI, 300, .inl res.2.2.2.1.1)), (h_newB, .inl (cI, 300, .inl res.2.2.2.1.2.2.2.1)), (h_newDifference, .inl (cL, 300, .inr (.inl res.2.2.2.1.2.1))), (h_newA, .inl (cL, 300, .inr (.inl res.2.2.2.1.2.2.1))), (h_log, .inl (cI, 5000, .inl res.2.2.2.2.1.1)), (h_packed, .inl (cI, 5000, .inl res.2.2.2.2.2.1.1))]) args s 0 0 A) (F0 m 26 ls [.int z0, .ref h]) := by
  obtain ⟨hx, hb, hr, hml, hown, hts, hlk, hK, hA⟩ := id C
  intro st z0 res hf H locs ls hH hl
  unfold f_Model_fails_b26 at hf
  refine pt (ci := 6) (v := .int z0) C hH (iwT iw_Model) ty_Model tyok_Model nm_Model 0 rfl rfl 0 (by decide) (.tail _ wd_596) rfl rfl rfl (Nat.le_of_ble_eq_true rfl) d_Model_fails_26 [(h, .inr (6, [.int z0, .int st.2.1.2.2.2.2, .ref h_kind, .ref h_b, .ref h_difference, .ref h_a, .int st.2.2.1.2.2.2.2, .ref h_newKind, .ref h_newB, .ref h_newDifference, .ref h_newA, .int st.2.2.2.1.2, .ref h_log, .ref h_packed, .int st.2.2.2.2.1.2, .int st.2.2.2.2.2.1.1, .int st.2.2.2.2.2.1.2.1, .int st.2.2.2.2.2.1.2.2.1, .int st.2.2.2.2.2.1.2.2.2, .int st.2.2.2.2.2.2.1, .int st.2.2.2.2.2.2.2])), (h_kind, .inl (cI, 300, .inl st.2.1.1)), (h_b, .inl (cI, 300, .inl st.2.1.2.2.2.1)), (h_difference, .inl (cL, 300, .inr (.inl st.2.1.2.1))), (h_a, .inl (cL, 300, .inr (.inl st.2.1.2.2.1))), (h_newKind, .inl (cI, 300, .inl st.2.2.1.1)), (h_newB, .inl (cI, 300, .inl st.2.2.1.2.2.2.1)), (h_newDifference, .inl (cL, 300, .inr (.inl st.2.2.1.2.1))), (h_newA, .inl (cL, 300, .inr (.inl st.2.2.1.2.2.1))), (h_log, .inl (cI, 5000, .inl st.2.2.2.1.1)), (h_packed, .inl (cI, 5000, .inl st.2.2.2.2.1.1))] rfl (fun H locs hH => ?_)
  refine lv_aload_n hx hb d_Model_fails_29 rfl (lv_at hl 0 rfl) ?_
  refine gt (ci := 6) (v := .int z0) C hH (iwT iw_Model) 0 rfl rfl 0 (by decide) (.tail _ wd_596) rfl d_Model_fails_30 ?_
  refine lv_if_le (tgt := 40) hx hb d_Model_fails_33 (by decide) (fun hc33 => ?_) (fun hc33 => ?_)
  · have hf := ip hc33 hf
    refine lv_iconst (v := 0) hx hb d_Model_fails_40 (by decide) ?_
    subst hf
    exact rZ (v := false) C hH d_Model_fails_41
  · have hf := im hc33 hf
    refine lv_iconst (v := 1) hx hb d_Model_fails_36 (by decide) ?_
    refine lv_goto (tgt := 41) hx hb d_Model_fails_37 (by decide) ?_
    subst hf
    exact rZ (v := true) C hH d_Model_fails_41
def f_Model_fails (st : S_Model) (x1 : Bool) (x2 : Bool) (x3 : Bool) : Bool × S_Model :=
  if (bI x1) = 0 then (if (bI x2) = 0 then (if (bI x3) = 0 then (f_Model_fails_b26 st 0) else (f_Model_fails_b26 st 3)) else (f_Model_fails_b26 st 2)) else (f_Model_fails_b26 st 1)
set_option maxRecDepth 100000 in
set_option maxHeartbeats 4000000 in
theorem c_Model_fails (l : Launch) (D : va_G) (cI cL : ClassId) (h h_kind h_b h_difference h_a h_newKind h_newB h_newDifference h_newA h_log h_packed : Nat) (st : S_Model) (x1 : Bool) (x2 : Bool) (x3 : Bool) (res : Bool × S_Model) (hf : f_Model_fails st x1 x2 x3 = res) :
    Fn l D vwCl [(cI, .int), (cL, .long)] y_Model_fails ws_Model_fails { frames := 0, cells := 0, slots := 0, locals := 0 } [.ref h, .int (bI x1), .int (bI x2), .int (bI x3)] [(h, .inr (6, [.int st.1, .int st.2.1.2.2.2.2, .ref h_kind, .ref h_b, .ref h_difference, .ref h_a, .int st.2.2.1.2.2.2.2, .ref h_newKind, .ref h_newB, .ref h_newDifference, .ref h_newA, .int st.2.2.2.1.2, .ref h_log, .ref h_packed, .int st.2.2.2.2.1.2, .int st.2.2.2.2.2.1.1, .int st.2.2.2.2.2.1.2.1, .int st.2.2.2.2.2.1.2.2.1, .int st.2.2.2.2.2.1.2.2.2, .int st.2.2.2.2.2.2.1, .int st.2.2.2.2.2.2.2])), (h_kind, .inl (cI, 300, .inl st.2.1.1)), (h_b, .inl (cI, 300, .inl st.2.1.2.2.2.1)), (h_difference, .inl (cL, 300, .inr (.inl st.2.1.2.1))), (h_a, .inl (cL, 300, .inr (.inl st.2.1.2.2.1))), (h_newKind, .inl (cI, 300, .inl st.2.2.1.1)), (h_newB, .inl (cI, 300, .inl st.2.2.1.2.2.2.1)), (h_newDifference, .inl (cL, 300, .inr (.inl st.2.2.1.2.1))), (h_newA, .inl (cL, 300, .inr (.inl st.2.2.1.2.2.1))), (h_log, .inl (cI, 5000, .inl st.2.2.2.1.1)), (h_packed, .inl (cI, 5000, .inl st.2.2.2.2.1.1))] (some (.int (bI res.1))) [(h, .inr (6, [.int res.2.1, .int res.2.2.1.2.2.2.2, .ref h_kind, .ref h_b, .ref h_difference, .ref h_a, .int res.2.2.2.1.2.2.2.2, .ref h_newKind, .ref h_newB, .ref h_newDifference, .ref h_newA, .int res.2.2.2.2.1.2, .ref h_log, .ref h_packed, .int res.2.2.2.2.2.1.2, .int res.2.2.2.2.2.2.1.1, .int res.2.2.2.2.2.2.1.2.1, .int res.2.2.2.2.2.2.1.2.2.1, .int res.2.2.2.2.2.2.1.2.2.2, .int res.2.2.2.2.2.2.2.1, .int res.2.2.2.2.2.2.2.2])), (h_kind, .inl (cI, 300, .inl res.2.2.1.1)), (h_b, .inl (cI, 300, .inl res.2.2.1.2.2.2.1)), (h_difference, .inl (cL, 300, .inr (.inl res.2.2.1.2.1))), (h_a, .inl (cL, 300, .inr (.inl res.2.2.1.2.2.1))), (h_newKind, .inl (cI, 300, .inl res.2.2.2.1.1)), (h_newB, .inl (cI, 300, .inl res.2.2.2.1.2.2.2.1)), (h_newDifference, .inl (cL, 300, .inr (.inl res.2.2.2.1.2.1))), (h_newA, .inl (cL, 300, .inr (.inl res.2.2.2.1.2.2.1))), (h_log, .inl (cI, 5000, .inl res.2.2.2.2.1.1)), (h_packed, .inl (cI, 5000, .inl res.2.2.2.2.2.1.1))] := by
  refine Fn.ofW (cc := b_Model_fails) (maxL := 4) (ret := (some .boolean)) (by decide) rfl (Nat.le_of_ble_eq_true rfl) ?_
  intro p e s m below meth c A ls C hH hinit hl
  have hl : lv_has ls 4 [(0, .ref h), (1, .int (bI x1)), (2, .int (bI x2)), (3, .int (bI x3))] := hl
  obtain ⟨hx, hb, hr, hml, hown, hts, hlk, hK, hA⟩ := id C
  unfold f_Model_fails at hf
  refine lv_aload_n hx hb d_Model_fails_0 rfl (lv_at hl 0 rfl) ?_
  refine lv_iload_n hx hb d_Model_fails_1 rfl (lv_at hl 1 rfl) ?_
  refine lv_if_eq (tgt := 9) hx hb d_Model_fails_2 (by decide) (fun hc2 => ?_) (fun hc2 => ?_)
  · have hf := ip hc2 hf
    refine lv_iload_n hx hb d_Model_fails_9 rfl (lv_at hl 2 rfl) ?_
    refine lv_if_eq (tgt := 17) hx hb d_Model_fails_10 (by decide) (fun hc10 => ?_) (fun hc10 => ?_)
    · have hf := ip hc10 hf
      refine lv_iload_n hx hb d_Model_fails_17 rfl (lv_at hl 3 rfl) ?_
      refine lv_if_eq (tgt := 25) hx hb d_Model_fails_18 (by decide) (fun hc18 => ?_) (fun hc18 => ?_)
      · have hf := ip hc18 hf
        refine lv_iconst (v := 0) hx hb d_Model_fails_25 (by decide) ?_
        exact w_Model_fails_b26 l D cI cL h h_kind h_b h_difference h_a h_newKind h_newB h_newDifference h_newA h_log h_packed C st 0 res hf _ _ _ hH (lv_sub hl [0] rfl)
      · have hf := im hc18 hf
        refine lv_iconst (v := 3) hx hb d_Model_fails_21 (by decide) ?_
        refine lv_goto (tgt := 26) hx hb d_Model_fails_22 (by decide) ?_
        exact w_Model_fails_b26 l D cI cL h h_kind h_b h_difference h_a h_newKind h_newB h_newDifference h_newA h_log h_packed C st 3 res hf _ _ _ hH (lv_sub hl [0] rfl)
    · have hf := im hc10 hf
      refine lv_iconst (v := 2) hx hb d_Model_fails_13 (by decide) ?_
      refine lv_goto (tgt := 26) hx hb d_Model_fails_14 (by decide) ?_
      exact w_Model_fails_b26 l D cI cL h h_kind h_b h_difference h_a h_newKind h_newB h_newDifference h_newA h_log h_packed C st 2 res hf _ _ _ hH (lv_sub hl [0] rfl)
  · have hf := im hc2 hf
    refine lv_iconst (v := 1) hx hb d_Model_fails_5 (by decide) ?_
    refine lv_goto (tgt := 26) hx hb d_Model_fails_6 (by decide) ?_
    exact w_Model_fails_b26 l D cI cL h h_kind h_b h_difference h_a h_newKind h_newB h_newDifference h_newA h_log h_packed C st 1 res hf _ _ _ hH (lv_sub hl [0] rfl)
def f_Model_in (x0 : Int64) (x2 : Int64) (x4 : Int64) : Bool :=
  if (lg_cmp x0 x2) < 0 then (false) else (if 0 < (lg_cmp x0 x4) then (false) else (true))
set_option maxRecDepth 100000 in
set_option maxHeartbeats 4000000 in
theorem c_Model_in (l : Launch) (D : va_G) (cI cL : ClassId) (x0 : Int64) (x2 : Int64) (x4 : Int64) (res : Bool) (hf : f_Model_in x0 x2 x4 = res) :
    FnR l D vwCl [(cI, .int), (cL, .long)] y_Model_in ws_Model_in { frames := 0, cells := 0, slots := 0, locals := 0 } [.long x0, .long x2, .long x4] [] (some (.int (bI res))) := by
  refine FnR.ofW (cc := b_Model_in) (maxL := 6) (ret := (some .boolean)) (by decide) rfl (Nat.le_of_ble_eq_true rfl) ?_
  intro p e s m below meth c A ls C hH hl
  have hl : lv_has ls 6 [(0, .long x0), (2, .long x2), (4, .long x4)] := hl
  obtain ⟨hx, hb, hr, hml, hown, hts, hlk, hK, hA⟩ := id C
  unfold f_Model_in at hf
  refine lv_lload_n hx hb d_Model_in_0 rfl (lv_at hl 0 rfl) ?_
  refine lv_lload_n hx hb d_Model_in_1 rfl (lv_at hl 1 rfl) ?_
  refine W.lcmp hx hb d_Model_in_2 ?_
  refine lv_if_lt (tgt := 17) hx hb d_Model_in_3 (by decide) (fun hc3 => ?_) (fun hc3 => ?_)
  · have hf := ip hc3 hf
    refine lv_iconst (v := 0) hx hb d_Model_in_17 (by decide) ?_
    subst hf
    exact rZR (v := false) C hH d_Model_in_18
  · have hf := im hc3 hf
    refine lv_lload_n hx hb d_Model_in_6 rfl (lv_at hl 0 rfl) ?_
    refine lv_lload hx hb d_Model_in_7 (lv_at hl 2 rfl) ?_
    refine W.lcmp hx hb d_Model_in_9 ?_
    refine lv_if_gt (tgt := 17) hx hb d_Model_in_10 (by decide) (fun hc10 => ?_) (fun hc10 => ?_)
    · have hf := ip hc10 hf
      refine lv_iconst (v := 0) hx hb d_Model_in_17 (by decide) ?_
      subst hf
      exact rZR (v := false) C hH d_Model_in_18
    · have hf := im hc10 hf
      refine lv_iconst (v := 1) hx hb d_Model_in_13 (by decide) ?_
      refine lv_goto (tgt := 18) hx hb d_Model_in_14 (by decide) ?_
      subst hf
      exact rZR (v := true) C hH d_Model_in_18
def f_Model_low (x0 : Int64) (x2 : Int32) : Int64 :=
  if x2 ≤ (7 : Int32) then (x0 &&& (((1 : Int64) <<< (((8 : Int32) * x2).toInt64 &&& 63)) - 1)) else (x0)
set_option maxRecDepth 100000 in
set_option maxHeartbeats 4000000 in
theorem c_Model_low (l : Launch) (D : va_G) (cI cL : ClassId) (x0 : Int64) (x2 : Int32) (res : Int64) (hf : f_Model_low x0 x2 = res) :
    FnR l D vwCl [(cI, .int), (cL, .long)] y_Model_low ws_Model_low { frames := 0, cells := 0, slots := 0, locals := 0 } [.long x0, .int x2] [] (some (.long res)) := by
  refine FnR.ofW (cc := b_Model_low) (maxL := 3) (ret := (some .long)) (by decide) rfl (Nat.le_of_ble_eq_true rfl) ?_
  intro p e s m below meth c A ls C hH hl
  have hl : lv_has ls 3 [(0, .long x0), (2, .int x2)] := hl
  obtain ⟨hx, hb, hr, hml, hown, hts, hlk, hK, hA⟩ := id C
  unfold f_Model_low at hf
  refine lv_iload_n hx hb d_Model_low_0 rfl (lv_at hl 1 rfl) ?_
  refine lv_bipush (v := 7) hx hb d_Model_low_1 (by decide) ?_
  refine lv_icmp_le (tgt := 10) hx hb d_Model_low_3 (by decide) (fun hc3 => ?_) (fun hc3 => ?_)
  · have hf := ip hc3 hf
    refine lv_lload_n hx hb d_Model_low_10 rfl (lv_at hl 0 rfl) ?_
    refine lv_lconst (v := 1) hx hb d_Model_low_11 (by decide) ?_
    refine lv_bipush (v := 8) hx hb d_Model_low_12 (by decide) ?_
    refine lv_iload_n hx hb d_Model_low_14 rfl (lv_at hl 1 rfl) ?_
    refine lv_imul hx hb d_Model_low_15 ?_
    refine lv_lshl (v := (1 : Int64) <<< (((8 : Int32) * x2).toInt64 &&& 63)) hx hb d_Model_low_16 rfl ?_
    refine lv_lconst (v := 1) hx hb d_Model_low_17 (by decide) ?_
    refine lv_lsub hx hb d_Model_low_18 ?_
    refine lv_land hx hb d_Model_low_19 ?_
    subst hf
    exact rJR (v := x0 &&& (((1 : Int64) <<< (((8 : Int32) * x2).toInt64 &&& 63)) - 1)) C hH d_Model_low_20
  · have hf := im hc3 hf
    refine lv_lload_n hx hb d_Model_low_6 rfl (lv_at hl 0 rfl) ?_
    refine lv_goto (tgt := 20) hx hb d_Model_low_7 (by decide) ?_
    subst hf
    exact rJR (v := x0) C hH d_Model_low_20
def f_Model_isSaid (x0 : Int32) (x1 : Int64) (x3 : Int64) (x5 : Int32) : Bool :=
  if (bI (f_Model_in x0.toInt64 0 4)) = 0 then (false) else (if (bI (f_Model_in x1 0 1099511627776)) = 0 then (false) else (if x0 = 0 then (f_Model_in x3 0 15) else (if x0 = (1 : Int32) then (f_Model_in x5.toInt64 1 8) else (if x0 = (2 : Int32) then (if (bI (f_Model_in x3 0 15)) = 0 then (false) else (if (bI (f_Model_in x5.toInt64 1 31)) = 0 then (false) else (true))) else (if x0 = (4 : Int32) then (true) else (if (bI (f_Model_in x3 0 1099511627776)) = 0 then (false) else (true)))))))
set_option maxRecDepth 100000 in
set_option maxHeartbeats 4000000 in
theorem c_Model_isSaid (l : Launch) (D : va_G) (cI cL : ClassId) (x0 : Int32) (x1 : Int64) (x3 : Int64) (x5 : Int32) (res : Bool) (hf : f_Model_isSaid x0 x1 x3 x5 = res) :
    FnR l D vwCl [(cI, .int), (cL, .long)] y_Model_isSaid ws_Model_isSaid { frames := 1, cells := 0, slots := 0, locals := 25 } [.int x0, .long x1, .long x3, .int x5] [] (some (.int (bI res))) := by
  refine FnR.ofW (cc := b_Model_isSaid) (maxL := 6) (ret := (some .boolean)) (by decide) rfl (Nat.le_of_ble_eq_true rfl) ?_
  intro p e s m below meth c A ls C hH hl
  have hl : lv_has ls 6 [(0, .int x0), (1, .long x1), (3, .long x3), (5, .int x5)] := hl
  obtain ⟨hx, hb, hr, hml, hown, hts, hlk, hK, hA⟩ := id C
  unfold f_Model_isSaid at hf
  refine lv_iload_n hx hb d_Model_isSaid_0 rfl (lv_at hl 0 rfl) ?_
  refine lv_i2l (v := x0.toInt64) hx hb d_Model_isSaid_1 rfl ?_
  refine lv_lconst (v := 0) hx hb d_Model_isSaid_2 (by decide) ?_
  refine lv_ldc2 (v := 4) hx hb hown (hts _ (.tail _ wd_671)) d_Model_isSaid_3 ?_
  refine fnSR (rest := []) (st2 := [.int (bI (f_Model_in x0.toInt64 0 4))]) C (c_Model_in l D cI cL  x0.toInt64 0 4 _ rfl) (cS hts kS_Model_in wd_672 ⟨Nat.le_of_ble_eq_true rfl, Nat.le_of_ble_eq_true rfl⟩) hH [] rfl rfl rfl hl.1 rfl (Nat.le_of_ble_eq_true rfl) d_Model_isSaid_6 ⟨Nat.le_of_ble_eq_true rfl, Nat.le_of_ble_eq_true rfl⟩ rfl (fun H locs hH => ?_)
  refine lv_if_eq (tgt := 23) hx hb d_Model_isSaid_9 (by decide) (fun hc9 => ?_) (fun hc9 => ?_)
  · have hf := ip hc9 hf
    refine lv_iconst (v := 0) hx hb d_Model_isSaid_23 (by decide) ?_
    subst hf
    exact rZR (v := false) C hH d_Model_isSaid_24
  · have hf := im hc9 hf
    refine lv_lload_n hx hb d_Model_isSaid_12 rfl (lv_at hl 1 rfl) ?_
    refine lv_lconst (v := 0) hx hb d_Model_isSaid_13 (by decide) ?_
    refine lv_ldc2 (v := 1099511627776) hx hb hown (hts _ (.tail _ wd_675)) d_Model_isSaid_14 ?_
    refine fnSR (rest := []) (st2 := [.int (bI (f_Model_in x1 0 1099511627776))]) C (c_Model_in l D cI cL  x1 0 1099511627776 _ rfl) (cS hts kS_Model_in wd_672 ⟨Nat.le_of_ble_eq_true rfl, Nat.le_of_ble_eq_true rfl⟩) hH [] rfl rfl rfl hl.1 rfl (Nat.le_of_ble_eq_true rfl) d_Model_isSaid_17 ⟨Nat.le_of_ble_eq_true rfl, Nat.le_of_ble_eq_true rfl⟩ rfl (fun H locs hH => ?_)
    refine lv_if_ne (tgt := 25) hx hb d_Model_isSaid_20 (by decide) (fun hc20 => ?_) (fun hc20 => ?_)
    · have hf := im hc20 hf
      refine lv_iload_n hx hb d_Model_isSaid_25 rfl (lv_at hl 0 rfl) ?_
      refine lv_if_ne (tgt := 40) hx hb d_Model_isSaid_26 (by decide) (fun hc26 => ?_) (fun hc26 => ?_)
      · have hf := im hc26 hf
        refine lv_iload_n hx hb d_Model_isSaid_40 rfl (lv_at hl 0 rfl) ?_
        refine lv_iconst (v := 1) hx hb d_Model_isSaid_41 (by decide) ?_
        refine lv_icmp_ne (tgt := 58) hx hb d_Model_isSaid_42 (by decide) (fun hc42 => ?_) (fun hc42 => ?_)
        · have hf := im hc42 hf
          refine lv_iload_n hx hb d_Model_isSaid_58 rfl (lv_at hl 0 rfl) ?_
          refine lv_iconst (v := 2) hx hb d_Model_isSaid_59 (by decide) ?_
          refine lv_icmp_ne (tgt := 95) hx hb d_Model_isSaid_60 (by decide) (fun hc60 => ?_) (fun hc60 => ?_)
          · have hf := im hc60 hf
            refine lv_iload_n hx hb d_Model_isSaid_95 rfl (lv_at hl 0 rfl) ?_
            refine lv_iconst (v := 4) hx hb d_Model_isSaid_96 (by decide) ?_
            refine lv_icmp_eq (tgt := 111) hx hb d_Model_isSaid_97 (by decide) (fun hc97 => ?_) (fun hc97 => ?_)
            · have hf := ip hc97 hf
              refine lv_iconst (v := 1) hx hb d_Model_isSaid_111 (by decide) ?_
              refine lv_goto (tgt := 116) hx hb d_Model_isSaid_112 (by decide) ?_
              subst hf
              exact rZR (v := true) C hH d_Model_isSaid_116
            · have hf := im hc97 hf
              refine lv_lload_n hx hb d_Model_isSaid_100 rfl (lv_at hl 2 rfl) ?_
              refine lv_lconst (v := 0) hx hb d_Model_isSaid_101 (by decide) ?_
              refine lv_ldc2 (v := 1099511627776) hx hb hown (hts _ (.tail _ wd_675)) d_Model_isSaid_102 ?_
              refine fnSR (rest := []) (st2 := [.int (bI (f_Model_in x3 0 1099511627776))]) C (c_Model_in l D cI cL  x3 0 1099511627776 _ rfl) (cS hts kS_Model_in wd_672 ⟨Nat.le_of_ble_eq_true rfl, Nat.le_of_ble_eq_true rfl⟩) hH [] rfl rfl rfl hl.1 rfl (Nat.le_of_ble_eq_true rfl) d_Model_isSaid_105 ⟨Nat.le_of_ble_eq_true rfl, Nat.le_of_ble_eq_true rfl⟩ rfl (fun H locs hH => ?_)
              refine lv_if_eq (tgt := 115) hx hb d_Model_isSaid_108 (by decide) (fun hc108 => ?_) (fun hc108 => ?_)
              · have hf := ip hc108 hf
                refine lv_iconst (v := 0) hx hb d_Model_isSaid_115 (by decide) ?_
                subst hf
                exact rZR (v := false) C hH d_Model_isSaid_116
              · have hf := im hc108 hf
                refine lv_iconst (v := 1) hx hb d_Model_isSaid_111 (by decide) ?_
                refine lv_goto (tgt := 116) hx hb d_Model_isSaid_112 (by decide) ?_
                subst hf
                exact rZR (v := true) C hH d_Model_isSaid_116
          · have hf := ip hc60 hf
            refine lv_lload_n hx hb d_Model_isSaid_63 rfl (lv_at hl 2 rfl) ?_
            refine lv_lconst (v := 0) hx hb d_Model_isSaid_64 (by decide) ?_
            refine lv_ldc2 (v := 15) hx hb hown (hts _ (.tail _ wd_676)) d_Model_isSaid_65 ?_
            refine fnSR (rest := []) (st2 := [.int (bI (f_Model_in x3 0 15))]) C (c_Model_in l D cI cL  x3 0 15 _ rfl) (cS hts kS_Model_in wd_672 ⟨Nat.le_of_ble_eq_true rfl, Nat.le_of_ble_eq_true rfl⟩) hH [] rfl rfl rfl hl.1 rfl (Nat.le_of_ble_eq_true rfl) d_Model_isSaid_68 ⟨Nat.le_of_ble_eq_true rfl, Nat.le_of_ble_eq_true rfl⟩ rfl (fun H locs hH => ?_)
            refine lv_if_eq (tgt := 91) hx hb d_Model_isSaid_71 (by decide) (fun hc71 => ?_) (fun hc71 => ?_)
            · have hf := ip hc71 hf
              refine lv_iconst (v := 0) hx hb d_Model_isSaid_91 (by decide) ?_
              refine lv_goto (tgt := 116) hx hb d_Model_isSaid_92 (by decide) ?_
              subst hf
              exact rZR (v := false) C hH d_Model_isSaid_116
            · have hf := im hc71 hf
              refine lv_iload hx hb d_Model_isSaid_74 (lv_at hl 3 rfl) ?_
              refine lv_i2l (v := x5.toInt64) hx hb d_Model_isSaid_76 rfl ?_
              refine lv_lconst (v := 1) hx hb d_Model_isSaid_77 (by decide) ?_
              refine lv_ldc2 (v := 31) hx hb hown (hts _ (.tail _ wd_678)) d_Model_isSaid_78 ?_
              refine fnSR (rest := []) (st2 := [.int (bI (f_Model_in x5.toInt64 1 31))]) C (c_Model_in l D cI cL  x5.toInt64 1 31 _ rfl) (cS hts kS_Model_in wd_672 ⟨Nat.le_of_ble_eq_true rfl, Nat.le_of_ble_eq_true rfl⟩) hH [] rfl rfl rfl hl.1 rfl (Nat.le_of_ble_eq_true rfl) d_Model_isSaid_81 ⟨Nat.le_of_ble_eq_true rfl, Nat.le_of_ble_eq_true rfl⟩ rfl (fun H locs hH => ?_)
              refine lv_if_eq (tgt := 91) hx hb d_Model_isSaid_84 (by decide) (fun hc84 => ?_) (fun hc84 => ?_)
              · have hf := ip hc84 hf
                refine lv_iconst (v := 0) hx hb d_Model_isSaid_91 (by decide) ?_
                refine lv_goto (tgt := 116) hx hb d_Model_isSaid_92 (by decide) ?_
                subst hf
                exact rZR (v := false) C hH d_Model_isSaid_116
              · have hf := im hc84 hf
                refine lv_iconst (v := 1) hx hb d_Model_isSaid_87 (by decide) ?_
                refine lv_goto (tgt := 116) hx hb d_Model_isSaid_88 (by decide) ?_
                subst hf
                exact rZR (v := true) C hH d_Model_isSaid_116
        · have hf := ip hc42 hf
          refine lv_iload hx hb d_Model_isSaid_45 (lv_at hl 3 rfl) ?_
          refine lv_i2l (v := x5.toInt64) hx hb d_Model_isSaid_47 rfl ?_
          refine lv_lconst (v := 1) hx hb d_Model_isSaid_48 (by decide) ?_
          refine lv_ldc2 (v := 8) hx hb hown (hts _ (.tail _ wd_677)) d_Model_isSaid_49 ?_
          refine fnSR (rest := []) (st2 := [.int (bI (f_Model_in x5.toInt64 1 8))]) C (c_Model_in l D cI cL  x5.toInt64 1 8 _ rfl) (cS hts kS_Model_in wd_672 ⟨Nat.le_of_ble_eq_true rfl, Nat.le_of_ble_eq_true rfl⟩) hH [] rfl rfl rfl hl.1 rfl (Nat.le_of_ble_eq_true rfl) d_Model_isSaid_52 ⟨Nat.le_of_ble_eq_true rfl, Nat.le_of_ble_eq_true rfl⟩ rfl (fun H locs hH => ?_)
          refine lv_goto (tgt := 116) hx hb d_Model_isSaid_55 (by decide) ?_
          subst hf
          exact rZR (v := f_Model_in x5.toInt64 1 8) C hH d_Model_isSaid_116
      · have hf := ip hc26 hf
        refine lv_lload_n hx hb d_Model_isSaid_29 rfl (lv_at hl 2 rfl) ?_
        refine lv_lconst (v := 0) hx hb d_Model_isSaid_30 (by decide) ?_
        refine lv_ldc2 (v := 15) hx hb hown (hts _ (.tail _ wd_676)) d_Model_isSaid_31 ?_
        refine fnSR (rest := []) (st2 := [.int (bI (f_Model_in x3 0 15))]) C (c_Model_in l D cI cL  x3 0 15 _ rfl) (cS hts kS_Model_in wd_672 ⟨Nat.le_of_ble_eq_true rfl, Nat.le_of_ble_eq_true rfl⟩) hH [] rfl rfl rfl hl.1 rfl (Nat.le_of_ble_eq_true rfl) d_Model_isSaid_34 ⟨Nat.le_of_ble_eq_true rfl, Nat.le_of_ble_eq_true rfl⟩ rfl (fun H locs hH => ?_)
        refine lv_goto (tgt := 116) hx hb d_Model_isSaid_37 (by decide) ?_
        subst hf
        exact rZR (v := f_Model_in x3 0 15) C hH d_Model_isSaid_116
    · have hf := ip hc20 hf
      refine lv_iconst (v := 0) hx hb d_Model_isSaid_23 (by decide) ?_
      subst hf
      exact rZR (v := false) C hH d_Model_isSaid_24
def f_Model_add_b135 (st : S_Model) (z0 : Int32) (z1 : Int32) : Option (Int32 × S_Model) :=
  if z1 < 0 ∨ 300 ≤ z1.toNatClampNeg then none else some ((st.2.1.2.2.2.2 + 1, (st.1, (st.2.1.1, st.2.1.2.1, st.2.1.2.2.1, upd st.2.1.2.2.2.1 z1.toNatClampNeg z0, st.2.1.2.2.2.2 + 1), st.2.2.1, st.2.2.2.1, st.2.2.2.2.1, st.2.2.2.2.2.1, st.2.2.2.2.2.2.1, st.2.2.2.2.2.2.2)))
set_option maxRecDepth 100000 in
set_option maxHeartbeats 4000000 in
theorem w_Model_add_b135 (l : Launch) (D : va_G) (cI cL : ClassId) (h h_kind h_b h_difference h_a h_newKind h_newB h_newDifference h_newA h_log h_packed : Nat) {p : Program} {e : Env} {s : State} {m : MethodId} {args : Array Value} {below : List Frame} {meth : Method} {c : Code} {A : Nat → Prop} (C : Cx p s m args meth c D vwCl [(cI, .int), (cL, .long)] A b_Model_add 8 (some .int) ws_Model_add y_Model_add.cls) : ∀ (st : S_Model) (z0 : Int32) (z1 : Int32) (res : Int32 × S_Model), f_Model_add_b135 st z0 z1 = some res → ∀ (H : Heap) (locs : List Loc) (ls : Array Slot), Hp D vwCl A A s.heap H locs [(h, .inr (6, [.int st.1, .int st.2.1.2.2.2.2, .ref h_kind, .ref h_b, .ref h_difference, .ref h_a, .int st.2.2.1.2.2.2.2, .ref h_newKind, .ref h_newB, .ref h_newDifference, .ref h_newA, .int st.2.2.2.1.2, .ref h_log, .ref h_packed, .int st.2.2.2.2.1.2, .int st.2.2.2.2.2.1.1, .int st.2.2.2.2.2.1.2.1, .int st.2.2.2.2.2.1.2.2.1, .int st.2.2.2.2.2.1.2.2.2, .int st.2.2.2.2.2.2.1, .int st.2.2.2.2.2.2.2])), (h_kind, .inl (cI, 300, .inl st.2.1.1)), (h_b, .inl (cI, 300, .inl st.2.1.2.2.2.1)), (h_difference, .inl (cL, 300, .inr (.inl st.2.1.2.1))), (h_a, .inl (cL, 300, .inr (.inl st.2.1.2.2.1))), (h_newKind, .inl (cI, 300, .inl st.2.2.1.1)), (h_newB, .inl (cI, 300, .inl st.2.2.1.2.2.2.1)), (h_newDifference, .inl (cL, 300, .inr (.inl st.2.2.1.2.1))), (h_newA, .inl (cL, 300, .inr (.inl st.2.2.1.2.2.1))), (h_log, .inl (cI, 5000, .inl st.2.2.2.1.1)), (h_packed, .inl (cI, 5000, .inl st.2.2.2.2.1.1))] → lv_has ls 8 [(0, .ref h)] → W p l e { frames := 2, cells := 0, slots := 0, locals := 50 } s m args below meth c H locs 0 0 (MQ below (Qw D vwCl [(cI, .int), (cL, .long)] (some (.int res.1)) A [(h, .inr (6, [.int res.2.1, .int res.2.2.1.2.2.2.2, .ref h_kind, .ref h_b, .ref h_difference, .ref h_a, .int res.2.2.2.1.2.2.2.2, .ref h_newKind, .ref h_newB, .ref h_newDifference, .ref h_newA, .int res.2.2.2.2.1.2, .ref h_log, .ref h_packed, .int res.2.2.2.2.2.1.2, .int res.2.2.2.2.2.2.1.1, .int res.2.2.2.2.2.2.1.2.1, .int res.2.2.2.2.2.2.1.2.2.1, .int res.2.2.2.2.2.2.1.2.2.2, .int res.2.2.2.2.2.2.2.1, .int res.2.2.2.2.2.2.2.2])), (h_kind, .inl (cI, 300, .inl res.2.2.1.1)), (h_b, .inl (cI, 300, .inl res.2.2.1.2.2.2.1)), (h_difference, .inl (cL, 300, .inr (.inl res.2.2.1.2.1))), (h_a, .inl (cL, 300, .inr (.inl res.2.2.1.2.2.1))), (h_newKind, .inl (cI, 300, .inl res.2.2.2.1.1)), (h_newB, .inl (cI, 300, .inl res.2.2.2.1.2.2.2.1)), (h_newDifference, .inl (cL, 300, .inr (.inl res.2.2.2.1.2.1))), (h_newA, .inl (cL, 300, .inr (.inl res.2.2.2.1.2.2.1))), (h_log, .inl (cI, 5000, .inl res.2.2.2.2.1.1)), (h_packed, .inl (cI, 5000, .inl res.2.2.2.2.2.1.1))]) args s 0 0 A) (F0 m 135 ls [.int z0, .int z1, .ref h_b]) := by
  obtain ⟨hx, hb, hr, hml, hown, hts, hlk, hK, hA⟩ := id C
  intro st z0 z1 res hf H locs ls hH hl
  unfold f_Model_add_b135 at hf
  obtain ⟨hin135, hf⟩ := oa hf
  refine asi C hH 2 0 rfl rfl (hin135) d_Model_add_135 [(h, .inr (6, [.int st.1, .int st.2.1.2.2.2.2, .ref h_kind, .ref h_b, .ref h_difference, .ref h_a, .int st.2.2.1.2.2.2.2, .ref h_newKind, .ref h_newB, .ref h_newDifference, .ref h_newA, .int st.2.2.2.1.2, .ref h_log, .ref h_packed, .int st.2.2.2.2.1.2, .int st.2.2.2.2.2.1.1, .int st.2.2.2.2.2.1.2.1, .int st.2.2.2.2.2.1.2.2.1, .int st.2.2.2.2.2.1.2.2.2, .int st.2.2.2.2.2.2.1, .int st.2.2.2.2.2.2.2])), (h_kind, .inl (cI, 300, .inl st.2.1.1)), (h_b, .inl (cI, 300, .inl (upd st.2.1.2.2.2.1 z1.toNatClampNeg z0))), (h_difference, .inl (cL, 300, .inr (.inl st.2.1.2.1))), (h_a, .inl (cL, 300, .inr (.inl st.2.1.2.2.1))), (h_newKind, .inl (cI, 300, .inl st.2.2.1.1)), (h_newB, .inl (cI, 300, .inl st.2.2.1.2.2.2.1)), (h_newDifference, .inl (cL, 300, .inr (.inl st.2.2.1.2.1))), (h_newA, .inl (cL, 300, .inr (.inl st.2.2.1.2.2.1))), (h_log, .inl (cI, 5000, .inl st.2.2.2.1.1)), (h_packed, .inl (cI, 5000, .inl st.2.2.2.2.1.1))] rfl (fun H locs hH => ?_)
  refine lv_aload_n hx hb d_Model_add_136 rfl (lv_at hl 0 rfl) ?_
  refine lv_dup hx hb d_Model_add_137 rfl ?_
  refine gt (ci := 6) (v := .int st.2.1.2.2.2.2) C hH (iwT iw_Model) 0 rfl rfl 1 (by decide) (.tail _ wd_597) rfl d_Model_add_138 ?_
  refine lv_iconst (v := 1) hx hb d_Model_add_141 (by decide) ?_
  refine lv_iadd hx hb d_Model_add_142 ?_
  refine pt (ci := 6) (v := .int (st.2.1.2.2.2.2 + 1)) C hH (iwT iw_Model) ty_Model tyok_Model nm_Model 0 rfl rfl 1 (by decide) (.tail _ wd_597) rfl rfl rfl (Nat.le_of_ble_eq_true rfl) d_Model_add_143 [(h, .inr (6, [.int st.1, .int (st.2.1.2.2.2.2 + 1), .ref h_kind, .ref h_b, .ref h_difference, .ref h_a, .int st.2.2.1.2.2.2.2, .ref h_newKind, .ref h_newB, .ref h_newDifference, .ref h_newA, .int st.2.2.2.1.2, .ref h_log, .ref h_packed, .int st.2.2.2.2.1.2, .int st.2.2.2.2.2.1.1, .int st.2.2.2.2.2.1.2.1, .int st.2.2.2.2.2.1.2.2.1, .int st.2.2.2.2.2.1.2.2.2, .int st.2.2.2.2.2.2.1, .int st.2.2.2.2.2.2.2])), (h_kind, .inl (cI, 300, .inl st.2.1.1)), (h_b, .inl (cI, 300, .inl (upd st.2.1.2.2.2.1 z1.toNatClampNeg z0))), (h_difference, .inl (cL, 300, .inr (.inl st.2.1.2.1))), (h_a, .inl (cL, 300, .inr (.inl st.2.1.2.2.1))), (h_newKind, .inl (cI, 300, .inl st.2.2.1.1)), (h_newB, .inl (cI, 300, .inl st.2.2.1.2.2.2.1)), (h_newDifference, .inl (cL, 300, .inr (.inl st.2.2.1.2.1))), (h_newA, .inl (cL, 300, .inr (.inl st.2.2.1.2.2.1))), (h_log, .inl (cI, 5000, .inl st.2.2.2.1.1)), (h_packed, .inl (cI, 5000, .inl st.2.2.2.2.1.1))] rfl (fun H locs hH => ?_)
  refine lv_aload_n hx hb d_Model_add_146 rfl (lv_at hl 0 rfl) ?_
  refine gt (ci := 6) (v := .int (st.2.1.2.2.2.2 + 1)) C hH (iwT iw_Model) 0 rfl rfl 1 (by decide) (.tail _ wd_597) rfl d_Model_add_147 ?_
  have hf := Option.some.inj hf
  subst hf
  exact rI (v := st.2.1.2.2.2.2 + 1) C hH d_Model_add_150
def f_Model_add_b129 (st : S_Model) (x6 : Int32) (z0 : Int32) : Option (Int32 × S_Model) :=
  f_Model_add_b135 st x6 z0
set_option maxRecDepth 100000 in
set_option maxHeartbeats 4000000 in
theorem w_Model_add_b129 (l : Launch) (D : va_G) (cI cL : ClassId) (h h_kind h_b h_difference h_a h_newKind h_newB h_newDifference h_newA h_log h_packed : Nat) {p : Program} {e : Env} {s : State} {m : MethodId} {args : Array Value} {below : List Frame} {meth : Method} {c : Code} {A : Nat → Prop} (C : Cx p s m args meth c D vwCl [(cI, .int), (cL, .long)] A b_Model_add 8 (some .int) ws_Model_add y_Model_add.cls) : ∀ (st : S_Model) (x6 : Int32) (z0 : Int32) (res : Int32 × S_Model), f_Model_add_b129 st x6 z0 = some res → ∀ (H : Heap) (locs : List Loc) (ls : Array Slot), Hp D vwCl A A s.heap H locs [(h, .inr (6, [.int st.1, .int st.2.1.2.2.2.2, .ref h_kind, .ref h_b, .ref h_difference, .ref h_a, .int st.2.2.1.2.2.2.2, .ref h_newKind, .ref h_newB, .ref h_newDifference, .ref h_newA, .int st.2.2.2.1.2, .ref h_log, .ref h_packed, .int st.2.2.2.2.1.2, .int st.2.2.2.2.2.1.1, .int st.2.2.2.2.2.1.2.1, .int st.2.2.2.2.2.1.2.2.1, .int st.2.2.2.2.2.1.2.2.2, .int st.2.2.2.2.2.2.1, .int st.2.2.2.2.2.2.2])), (h_kind, .inl (cI, 300, .inl st.2.1.1)), (h_b, .inl (cI, 300, .inl st.2.1.2.2.2.1)), (h_difference, .inl (cL, 300, .inr (.inl st.2.1.2.1))), (h_a, .inl (cL, 300, .inr (.inl st.2.1.2.2.1))), (h_newKind, .inl (cI, 300, .inl st.2.2.1.1)), (h_newB, .inl (cI, 300, .inl st.2.2.1.2.2.2.1)), (h_newDifference, .inl (cL, 300, .inr (.inl st.2.2.1.2.1))), (h_newA, .inl (cL, 300, .inr (.inl st.2.2.1.2.2.1))), (h_log, .inl (cI, 5000, .inl st.2.2.2.1.1)), (h_packed, .inl (cI, 5000, .inl st.2.2.2.2.1.1))] → lv_has ls 8 [(0, .ref h), (6, .int x6)] → W p l e { frames := 2, cells := 0, slots := 0, locals := 50 } s m args below meth c H locs 0 0 (MQ below (Qw D vwCl [(cI, .int), (cL, .long)] (some (.int res.1)) A [(h, .inr (6, [.int res.2.1, .int res.2.2.1.2.2.2.2, .ref h_kind, .ref h_b, .ref h_difference, .ref h_a, .int res.2.2.2.1.2.2.2.2, .ref h_newKind, .ref h_newB, .ref h_newDifference, .ref h_newA, .int res.2.2.2.2.1.2, .ref h_log, .ref h_packed, .int res.2.2.2.2.2.1.2, .int res.2.2.2.2.2.2.1.1, .int res.2.2.2.2.2.2.1.2.1, .int res.2.2.2.2.2.2.1.2.2.1, .int res.2.2.2.2.2.2.1.2.2.2, .int res.2.2.2.2.2.2.2.1, .int res.2.2.2.2.2.2.2.2])), (h_kind, .inl (cI, 300, .inl res.2.2.1.1)), (h_b, .inl (cI, 300, .inl res.2.2.1.2.2.2.1)), (h_difference, .inl (cL, 300, .inr (.inl res.2.2.1.2.1))), (h_a, .inl (cL, 300, .inr (.inl res.2.2.1.2.2.1))), (h_newKind, .inl (cI, 300, .inl res.2.2.2.1.1)), (h_newB, .inl (cI, 300, .inl res.2.2.2.1.2.2.2.1)), (h_newDifference, .inl (cL, 300, .inr (.inl res.2.2.2.1.2.1))), (h_newA, .inl (cL, 300, .inr (.inl res.2.2.2.1.2.2.1))), (h_log, .inl (cI, 5000, .inl res.2.2.2.2.1.1)), (h_packed, .inl (cI, 5000, .inl res.2.2.2.2.2.1.1))]) args s 0 0 A) (F0 m 129 ls [.int z0, .ref h_b]) := by
  obtain ⟨hx, hb, hr, hml, hown, hts, hlk, hK, hA⟩ := id C
  intro st x6 z0 res hf H locs ls hH hl
  unfold f_Model_add_b129 at hf
  refine lv_iload hx hb d_Model_add_129 (lv_at hl 1 rfl) ?_
  refine lv_goto (tgt := 135) hx hb d_Model_add_131 (by decide) ?_
  exact w_Model_add_b135 l D cI cL h h_kind h_b h_difference h_a h_newKind h_newB h_newDifference h_newA h_log h_packed C st x6 z0 res hf _ _ _ hH (lv_sub hl [0] rfl)
def f_Model_add_b110 (st : S_Model) (x1 : Int32) (x6 : Int32) (z0 : Int64) (z1 : Int32) : Option (Int32 × S_Model) :=
  if z1 < 0 ∨ 300 ≤ z1.toNatClampNeg then none else if x1 = (1 : Int32) then (f_Model_add_b129 ((st.1, (st.2.1.1, st.2.1.2.1, vp_updL st.2.1.2.2.1 z1.toNatClampNeg z0, st.2.1.2.2.2.1, st.2.1.2.2.2.2), st.2.2.1, st.2.2.2.1, st.2.2.2.2.1, st.2.2.2.2.2.1, st.2.2.2.2.2.2.1, st.2.2.2.2.2.2.2)) x6 st.2.1.2.2.2.2) else (if x1 = (2 : Int32) then (f_Model_add_b129 ((st.1, (st.2.1.1, st.2.1.2.1, vp_updL st.2.1.2.2.1 z1.toNatClampNeg z0, st.2.1.2.2.2.1, st.2.1.2.2.2.2), st.2.2.1, st.2.2.2.1, st.2.2.2.2.1, st.2.2.2.2.2.1, st.2.2.2.2.2.2.1, st.2.2.2.2.2.2.2)) x6 st.2.1.2.2.2.2) else (f_Model_add_b135 ((st.1, (st.2.1.1, st.2.1.2.1, vp_updL st.2.1.2.2.1 z1.toNatClampNeg z0, st.2.1.2.2.2.1, st.2.1.2.2.2.2), st.2.2.1, st.2.2.2.1, st.2.2.2.2.1, st.2.2.2.2.2.1, st.2.2.2.2.2.2.1, st.2.2.2.2.2.2.2)) 0 st.2.1.2.2.2.2))
set_option maxRecDepth 100000 in
set_option maxHeartbeats 4000000 in
theorem w_Model_add_b110 (l : Launch) (D : va_G) (cI cL : ClassId) (h h_kind h_b h_difference h_a h_newKind h_newB h_newDifference h_newA h_log h_packed : Nat) {p : Program} {e : Env} {s : State} {m : MethodId} {args : Array Value} {below : List Frame} {meth : Method} {c : Code} {A : Nat → Prop} (C : Cx p s m args meth c D vwCl [(cI, .int), (cL, .long)] A b_Model_add 8 (some .int) ws_Model_add y_Model_add.cls) : ∀ (st : S_Model) (x1 : Int32) (x6 : Int32) (z0 : Int64) (z1 : Int32) (res : Int32 × S_Model), f_Model_add_b110 st x1 x6 z0 z1 = some res → ∀ (H : Heap) (locs : List Loc) (ls : Array Slot), Hp D vwCl A A s.heap H locs [(h, .inr (6, [.int st.1, .int st.2.1.2.2.2.2, .ref h_kind, .ref h_b, .ref h_difference, .ref h_a, .int st.2.2.1.2.2.2.2, .ref h_newKind, .ref h_newB, .ref h_newDifference, .ref h_newA, .int st.2.2.2.1.2, .ref h_log, .ref h_packed, .int st.2.2.2.2.1.2, .int st.2.2.2.2.2.1.1, .int st.2.2.2.2.2.1.2.1, .int st.2.2.2.2.2.1.2.2.1, .int st.2.2.2.2.2.1.2.2.2, .int st.2.2.2.2.2.2.1, .int st.2.2.2.2.2.2.2])), (h_kind, .inl (cI, 300, .inl st.2.1.1)), (h_b, .inl (cI, 300, .inl st.2.1.2.2.2.1)), (h_difference, .inl (cL, 300, .inr (.inl st.2.1.2.1))), (h_a, .inl (cL, 300, .inr (.inl st.2.1.2.2.1))), (h_newKind, .inl (cI, 300, .inl st.2.2.1.1)), (h_newB, .inl (cI, 300, .inl st.2.2.1.2.2.2.1)), (h_newDifference, .inl (cL, 300, .inr (.inl st.2.2.1.2.1))), (h_newA, .inl (cL, 300, .inr (.inl st.2.2.1.2.2.1))), (h_log, .inl (cI, 5000, .inl st.2.2.2.1.1)), (h_packed, .inl (cI, 5000, .inl st.2.2.2.2.1.1))] → lv_has ls 8 [(0, .ref h), (1, .int x1), (6, .int x6)] → W p l e { frames := 2, cells := 0, slots := 0, locals := 50 } s m args below meth c H locs 0 0 (MQ below (Qw D vwCl [(cI, .int), (cL, .long)] (some (.int res.1)) A [(h, .inr (6, [.int res.2.1, .int res.2.2.1.2.2.2.2, .ref h_kind, .ref h_b, .ref h_difference, .ref h_a, .int res.2.2.2.1.2.2.2.2, .ref h_newKind, .ref h_newB, .ref h_newDifference, .ref h_newA, .int res.2.2.2.2.1.2, .ref h_log, .ref h_packed, .int res.2.2.2.2.2.1.2, .int res.2.2.2.2.2.2.1.1, .int res.2.2.2.2.2.2.1.2.1, .int res.2.2.2.2.2.2.1.2.2.1, .int res.2.2.2.2.2.2.1.2.2.2, .int res.2.2.2.2.2.2.2.1, .int res.2.2.2.2.2.2.2.2])), (h_kind, .inl (cI, 300, .inl res.2.2.1.1)), (h_b, .inl (cI, 300, .inl res.2.2.1.2.2.2.1)), (h_difference, .inl (cL, 300, .inr (.inl res.2.2.1.2.1))), (h_a, .inl (cL, 300, .inr (.inl res.2.2.1.2.2.1))), (h_newKind, .inl (cI, 300, .inl res.2.2.2.1.1)), (h_newB, .inl (cI, 300, .inl res.2.2.2.1.2.2.2.1)), (h_newDifference, .inl (cL, 300, .inr (.inl res.2.2.2.1.2.1))), (h_newA, .inl (cL, 300, .inr (.inl res.2.2.2.1.2.2.1))), (h_log, .inl (cI, 5000, .inl res.2.2.2.2.1.1)), (h_packed, .inl (cI, 5000, .inl res.2.2.2.2.2.1.1))]) args s 0 0 A) (F0 m 110 ls [.long z0, .int z1, .ref h_a]) := by
  obtain ⟨hx, hb, hr, hml, hown, hts, hlk, hK, hA⟩ := id C
  intro st x1 x6 z0 z1 res hf H locs ls hH hl
  unfold f_Model_add_b110 at hf
  obtain ⟨hin110, hf⟩ := oa hf
  refine asl C hH 4 1 rfl rfl (hin110) d_Model_add_110 [(h, .inr (6, [.int st.1, .int st.2.1.2.2.2.2, .ref h_kind, .ref h_b, .ref h_difference, .ref h_a, .int st.2.2.1.2.2.2.2, .ref h_newKind, .ref h_newB, .ref h_newDifference, .ref h_newA, .int st.2.2.2.1.2, .ref h_log, .ref h_packed, .int st.2.2.2.2.1.2, .int st.2.2.2.2.2.1.1, .int st.2.2.2.2.2.1.2.1, .int st.2.2.2.2.2.1.2.2.1, .int st.2.2.2.2.2.1.2.2.2, .int st.2.2.2.2.2.2.1, .int st.2.2.2.2.2.2.2])), (h_kind, .inl (cI, 300, .inl st.2.1.1)), (h_b, .inl (cI, 300, .inl st.2.1.2.2.2.1)), (h_difference, .inl (cL, 300, .inr (.inl st.2.1.2.1))), (h_a, .inl (cL, 300, .inr (.inl (vp_updL st.2.1.2.2.1 z1.toNatClampNeg z0)))), (h_newKind, .inl (cI, 300, .inl st.2.2.1.1)), (h_newB, .inl (cI, 300, .inl st.2.2.1.2.2.2.1)), (h_newDifference, .inl (cL, 300, .inr (.inl st.2.2.1.2.1))), (h_newA, .inl (cL, 300, .inr (.inl st.2.2.1.2.2.1))), (h_log, .inl (cI, 5000, .inl st.2.2.2.1.1)), (h_packed, .inl (cI, 5000, .inl st.2.2.2.2.1.1))] rfl (fun H locs hH => ?_)
  refine lv_aload_n hx hb d_Model_add_111 rfl (lv_at hl 0 rfl) ?_
  refine gt (ci := 6) (v := .ref h_b) C hH (iwT iw_Model) 0 rfl rfl 3 (by decide) (.tail _ wd_599) rfl d_Model_add_112 ?_
  refine lv_aload_n hx hb d_Model_add_115 rfl (lv_at hl 0 rfl) ?_
  refine gt (ci := 6) (v := .int st.2.1.2.2.2.2) C hH (iwT iw_Model) 0 rfl rfl 1 (by decide) (.tail _ wd_597) rfl d_Model_add_116 ?_
  refine lv_iload_n hx hb d_Model_add_119 rfl (lv_at hl 1 rfl) ?_
  refine lv_iconst (v := 1) hx hb d_Model_add_120 (by decide) ?_
  refine lv_icmp_eq (tgt := 129) hx hb d_Model_add_121 (by decide) (fun hc121 => ?_) (fun hc121 => ?_)
  · have hf := ip hc121 hf
    exact w_Model_add_b129 l D cI cL h h_kind h_b h_difference h_a h_newKind h_newB h_newDifference h_newA h_log h_packed C ((st.1, (st.2.1.1, st.2.1.2.1, vp_updL st.2.1.2.2.1 z1.toNatClampNeg z0, st.2.1.2.2.2.1, st.2.1.2.2.2.2), st.2.2.1, st.2.2.2.1, st.2.2.2.2.1, st.2.2.2.2.2.1, st.2.2.2.2.2.2.1, st.2.2.2.2.2.2.2)) x6 st.2.1.2.2.2.2 res hf _ _ _ hH (lv_sub hl [0, 2] rfl)
  · have hf := im hc121 hf
    refine lv_iload_n hx hb d_Model_add_124 rfl (lv_at hl 1 rfl) ?_
    refine lv_iconst (v := 2) hx hb d_Model_add_125 (by decide) ?_
    refine lv_icmp_ne (tgt := 134) hx hb d_Model_add_126 (by decide) (fun hc126 => ?_) (fun hc126 => ?_)
    · have hf := im hc126 hf
      refine lv_iconst (v := 0) hx hb d_Model_add_134 (by decide) ?_
      exact w_Model_add_b135 l D cI cL h h_kind h_b h_difference h_a h_newKind h_newB h_newDifference h_newA h_log h_packed C ((st.1, (st.2.1.1, st.2.1.2.1, vp_updL st.2.1.2.2.1 z1.toNatClampNeg z0, st.2.1.2.2.2.1, st.2.1.2.2.2.2), st.2.2.1, st.2.2.2.1, st.2.2.2.2.1, st.2.2.2.2.2.1, st.2.2.2.2.2.2.1, st.2.2.2.2.2.2.2)) 0 st.2.1.2.2.2.2 res hf _ _ _ hH (lv_sub hl [0] rfl)
    · have hf := ip hc126 hf
      exact w_Model_add_b129 l D cI cL h h_kind h_b h_difference h_a h_newKind h_newB h_newDifference h_newA h_log h_packed C ((st.1, (st.2.1.1, st.2.1.2.1, vp_updL st.2.1.2.2.1 z1.toNatClampNeg z0, st.2.1.2.2.2.1, st.2.1.2.2.2.2), st.2.2.1, st.2.2.2.1, st.2.2.2.2.1, st.2.2.2.2.2.1, st.2.2.2.2.2.2.1, st.2.2.2.2.2.2.2)) x6 st.2.1.2.2.2.2 res hf _ _ _ hH (lv_sub hl [0, 2] rfl)
def f_Model_add_b42 (st : S_Model) (x1 : Int32) (x2 : Int64) (x4 : Int64) (x6 : Int32) (z0 : Bool) (z1 : Bool) : Option (Int32 × S_Model) :=
  lt1 (f_Model_fails st z1 z0 false) (fun r43 => if (bI r43.1) = 0 then (if r43.2.2.1.2.2.2.2 < 0 ∨ 300 ≤ r43.2.2.1.2.2.2.2.toNatClampNeg then none else if r43.2.2.1.2.2.2.2 < 0 ∨ 300 ≤ r43.2.2.1.2.2.2.2.toNatClampNeg then none else if x1 = (1 : Int32) then (f_Model_add_b110 ((r43.2.1, (upd r43.2.2.1.1 r43.2.2.1.2.2.2.2.toNatClampNeg x1, vp_updL r43.2.2.1.2.1 r43.2.2.1.2.2.2.2.toNatClampNeg x2, r43.2.2.1.2.2.1, r43.2.2.1.2.2.2.1, r43.2.2.1.2.2.2.2), r43.2.2.2.1, r43.2.2.2.2.1, r43.2.2.2.2.2.1, r43.2.2.2.2.2.2.1, r43.2.2.2.2.2.2.2.1, r43.2.2.2.2.2.2.2.2)) x1 x6 (f_Model_low x4 x6) r43.2.2.1.2.2.2.2) else (if x1 = (4 : Int32) then (f_Model_add_b110 ((r43.2.1, (upd r43.2.2.1.1 r43.2.2.1.2.2.2.2.toNatClampNeg x1, vp_updL r43.2.2.1.2.1 r43.2.2.1.2.2.2.2.toNatClampNeg x2, r43.2.2.1.2.2.1, r43.2.2.1.2.2.2.1, r43.2.2.1.2.2.2.2), r43.2.2.2.1, r43.2.2.2.2.1, r43.2.2.2.2.2.1, r43.2.2.2.2.2.2.1, r43.2.2.2.2.2.2.2.1, r43.2.2.2.2.2.2.2.2)) x1 x6 (f_Model_low x4 4) r43.2.2.1.2.2.2.2) else (f_Model_add_b110 ((r43.2.1, (upd r43.2.2.1.1 r43.2.2.1.2.2.2.2.toNatClampNeg x1, vp_updL r43.2.2.1.2.1 r43.2.2.1.2.2.2.2.toNatClampNeg x2, r43.2.2.1.2.2.1, r43.2.2.1.2.2.2.1, r43.2.2.1.2.2.2.2), r43.2.2.2.1, r43.2.2.2.2.1, r43.2.2.2.2.2.1, r43.2.2.2.2.2.2.1, r43.2.2.2.2.2.2.2.1, r43.2.2.2.2.2.2.2.2)) x1 x6 x4 r43.2.2.1.2.2.2.2))) else (some ((0, r43.2))))
set_option maxRecDepth 100000 in
set_option maxHeartbeats 4000000 in
theorem w_Model_add_b42 (l : Launch) (D : va_G) (cI cL : ClassId) (h h_kind h_b h_difference h_a h_newKind h_newB h_newDifference h_newA h_log h_packed : Nat) {p : Program} {e : Env} {s : State} {m : MethodId} {args : Array Value} {below : List Frame} {meth : Method} {c : Code} {A : Nat → Prop} (C : Cx p s m args meth c D vwCl [(cI, .int), (cL, .long)] A b_Model_add 8 (some .int) ws_Model_add y_Model_add.cls) : ∀ (st : S_Model) (x1 : Int32) (x2 : Int64) (x4 : Int64) (x6 : Int32) (z0 : Bool) (z1 : Bool) (res : Int32 × S_Model), f_Model_add_b42 st x1 x2 x4 x6 z0 z1 = some res → ∀ (H : Heap) (locs : List Loc) (ls : Array Slot), Hp D vwCl A A s.heap H locs [(h, .inr (6, [.int st.1, .int st.2.1.2.2.2.2, .ref h_kind, .ref h_b, .ref h_difference, .ref h_a, .int st.2.2.1.2.2.2.2, .ref h_newKind, .ref h_newB, .ref h_newDifference, .ref h_newA, .int st.2.2.2.1.2, .ref h_log, .ref h_packed, .int st.2.2.2.2.1.2, .int st.2.2.2.2.2.1.1, .int st.2.2.2.2.2.1.2.1, .int st.2.2.2.2.2.1.2.2.1, .int st.2.2.2.2.2.1.2.2.2, .int st.2.2.2.2.2.2.1, .int st.2.2.2.2.2.2.2])), (h_kind, .inl (cI, 300, .inl st.2.1.1)), (h_b, .inl (cI, 300, .inl st.2.1.2.2.2.1)), (h_difference, .inl (cL, 300, .inr (.inl st.2.1.2.1))), (h_a, .inl (cL, 300, .inr (.inl st.2.1.2.2.1))), (h_newKind, .inl (cI, 300, .inl st.2.2.1.1)), (h_newB, .inl (cI, 300, .inl st.2.2.1.2.2.2.1)), (h_newDifference, .inl (cL, 300, .inr (.inl st.2.2.1.2.1))), (h_newA, .inl (cL, 300, .inr (.inl st.2.2.1.2.2.1))), (h_log, .inl (cI, 5000, .inl st.2.2.2.1.1)), (h_packed, .inl (cI, 5000, .inl st.2.2.2.2.1.1))] → lv_has ls 8 [(0, .ref h), (1, .int x1), (2, .long x2), (4, .long x4), (6, .int x6)] → W p l e { frames := 2, cells := 0, slots := 0, locals := 50 } s m args below meth c H locs 0 0 (MQ below (Qw D vwCl [(cI, .int), (cL, .long)] (some (.int res.1)) A [(h, .inr (6, [.int res.2.1, .int res.2.2.1.2.2.2.2, .ref h_kind, .ref h_b, .ref h_difference, .ref h_a, .int res.2.2.2.1.2.2.2.2, .ref h_newKind, .ref h_newB, .ref h_newDifference, .ref h_newA, .int res.2.2.2.2.1.2, .ref h_log, .ref h_packed, .int res.2.2.2.2.2.1.2, .int res.2.2.2.2.2.2.1.1, .int res.2.2.2.2.2.2.1.2.1, .int res.2.2.2.2.2.2.1.2.2.1, .int res.2.2.2.2.2.2.1.2.2.2, .int res.2.2.2.2.2.2.2.1, .int res.2.2.2.2.2.2.2.2])), (h_kind, .inl (cI, 300, .inl res.2.2.1.1)), (h_b, .inl (cI, 300, .inl res.2.2.1.2.2.2.1)), (h_difference, .inl (cL, 300, .inr (.inl res.2.2.1.2.1))), (h_a, .inl (cL, 300, .inr (.inl res.2.2.1.2.2.1))), (h_newKind, .inl (cI, 300, .inl res.2.2.2.1.1)), (h_newB, .inl (cI, 300, .inl res.2.2.2.1.2.2.2.1)), (h_newDifference, .inl (cL, 300, .inr (.inl res.2.2.2.1.2.1))), (h_newA, .inl (cL, 300, .inr (.inl res.2.2.2.1.2.2.1))), (h_log, .inl (cI, 5000, .inl res.2.2.2.2.1.1)), (h_packed, .inl (cI, 5000, .inl res.2.2.2.2.2.1.1))]) args s 0 0 A) (F0 m 42 ls [.int (bI z0), .int (bI z1), .ref h]) := by
  obtain ⟨hx, hb, hr, hml, hown, hts, hlk, hK, hA⟩ := id C
  intro st x1 x2 x4 x6 z0 z1 res hf H locs ls hH hl
  unfold f_Model_add_b42 at hf
  refine lv_iconst (v := 0) hx hb d_Model_add_42 (by decide) ?_
  obtain ⟨r43, hr43, hf⟩ := lb hf
  refine fnV (rest := []) (wr := []) (w2 := [(h, .inr (6, [.int r43.2.1, .int r43.2.2.1.2.2.2.2, .ref h_kind, .ref h_b, .ref h_difference, .ref h_a, .int r43.2.2.2.1.2.2.2.2, .ref h_newKind, .ref h_newB, .ref h_newDifference, .ref h_newA, .int r43.2.2.2.2.1.2, .ref h_log, .ref h_packed, .int r43.2.2.2.2.2.1.2, .int r43.2.2.2.2.2.2.1.1, .int r43.2.2.2.2.2.2.1.2.1, .int r43.2.2.2.2.2.2.1.2.2.1, .int r43.2.2.2.2.2.2.1.2.2.2, .int r43.2.2.2.2.2.2.2.1, .int r43.2.2.2.2.2.2.2.2])), (h_kind, .inl (cI, 300, .inl r43.2.2.1.1)), (h_b, .inl (cI, 300, .inl r43.2.2.1.2.2.2.1)), (h_difference, .inl (cL, 300, .inr (.inl r43.2.2.1.2.1))), (h_a, .inl (cL, 300, .inr (.inl r43.2.2.1.2.2.1))), (h_newKind, .inl (cI, 300, .inl r43.2.2.2.1.1)), (h_newB, .inl (cI, 300, .inl r43.2.2.2.1.2.2.2.1)), (h_newDifference, .inl (cL, 300, .inr (.inl r43.2.2.2.1.2.1))), (h_newA, .inl (cL, 300, .inr (.inl r43.2.2.2.1.2.2.1))), (h_log, .inl (cI, 5000, .inl r43.2.2.2.2.1.1)), (h_packed, .inl (cI, 5000, .inl r43.2.2.2.2.2.1.1))]) (st2 := [.int (bI r43.1)]) C (c_Model_fails l D cI cL h h_kind h_b h_difference h_a h_newKind h_newB h_newDifference h_newA h_log h_packed st z1 z0 false r43 hr43) (cV hts kV_Model_fails wd_679 ⟨Nat.le_of_ble_eq_true rfl, Nat.le_of_ble_eq_true rfl⟩) hH [0, 1, 2, 3, 4, 5, 6, 7, 8, 9, 10] [] [0, 1, 2, 3, 4, 5, 6, 7, 8, 9, 10] rfl rfl rfl rfl (by decide) rfl rfl 0 rfl rfl rfl hl.1 rfl (Nat.le_of_ble_eq_true rfl) d_Model_add_43 ⟨Nat.le_of_ble_eq_true rfl, Nat.le_of_ble_eq_true rfl⟩ rfl (fun H locs hH => ?_)
  refine lv_if_eq (tgt := 51) hx hb d_Model_add_46 (by decide) (fun hc46 => ?_) (fun hc46 => ?_)
  · have hf := ip hc46 hf
    refine lv_aload_n hx hb d_Model_add_51 rfl (lv_at hl 0 rfl) ?_
    refine gt (ci := 6) (v := .ref h_kind) C hH (iwT iw_Model) 0 rfl rfl 2 (by decide) (.tail _ wd_598) rfl d_Model_add_52 ?_
    refine lv_aload_n hx hb d_Model_add_55 rfl (lv_at hl 0 rfl) ?_
    refine gt (ci := 6) (v := .int r43.2.2.1.2.2.2.2) C hH (iwT iw_Model) 0 rfl rfl 1 (by decide) (.tail _ wd_597) rfl d_Model_add_56 ?_
    refine lv_iload_n hx hb d_Model_add_59 rfl (lv_at hl 1 rfl) ?_
    obtain ⟨hin60, hf⟩ := oa hf
    refine asi C hH 1 0 rfl rfl (hin60) d_Model_add_60 [(h, .inr (6, [.int r43.2.1, .int r43.2.2.1.2.2.2.2, .ref h_kind, .ref h_b, .ref h_difference, .ref h_a, .int r43.2.2.2.1.2.2.2.2, .ref h_newKind, .ref h_newB, .ref h_newDifference, .ref h_newA, .int r43.2.2.2.2.1.2, .ref h_log, .ref h_packed, .int r43.2.2.2.2.2.1.2, .int r43.2.2.2.2.2.2.1.1, .int r43.2.2.2.2.2.2.1.2.1, .int r43.2.2.2.2.2.2.1.2.2.1, .int r43.2.2.2.2.2.2.1.2.2.2, .int r43.2.2.2.2.2.2.2.1, .int r43.2.2.2.2.2.2.2.2])), (h_kind, .inl (cI, 300, .inl (upd r43.2.2.1.1 r43.2.2.1.2.2.2.2.toNatClampNeg x1))), (h_b, .inl (cI, 300, .inl r43.2.2.1.2.2.2.1)), (h_difference, .inl (cL, 300, .inr (.inl r43.2.2.1.2.1))), (h_a, .inl (cL, 300, .inr (.inl r43.2.2.1.2.2.1))), (h_newKind, .inl (cI, 300, .inl r43.2.2.2.1.1)), (h_newB, .inl (cI, 300, .inl r43.2.2.2.1.2.2.2.1)), (h_newDifference, .inl (cL, 300, .inr (.inl r43.2.2.2.1.2.1))), (h_newA, .inl (cL, 300, .inr (.inl r43.2.2.2.1.2.2.1))), (h_log, .inl (cI, 5000, .inl r43.2.2.2.2.1.1)), (h_packed, .inl (cI, 5000, .inl r43.2.2.2.2.2.1.1))] rfl (fun H locs hH => ?_)
    refine lv_aload_n hx hb d_Model_add_61 rfl (lv_at hl 0 rfl) ?_
    refine gt (ci := 6) (v := .ref h_difference) C hH (iwT iw_Model) 0 rfl rfl 4 (by decide) (.tail _ wd_600) rfl d_Model_add_62 ?_
    refine lv_aload_n hx hb d_Model_add_65 rfl (lv_at hl 0 rfl) ?_
    refine gt (ci := 6) (v := .int r43.2.2.1.2.2.2.2) C hH (iwT iw_Model) 0 rfl rfl 1 (by decide) (.tail _ wd_597) rfl d_Model_add_66 ?_
    refine lv_lload_n hx hb d_Model_add_69 rfl (lv_at hl 2 rfl) ?_
    obtain ⟨hin70, hf⟩ := oa hf
    refine asl C hH 3 1 rfl rfl (hin70) d_Model_add_70 [(h, .inr (6, [.int r43.2.1, .int r43.2.2.1.2.2.2.2, .ref h_kind, .ref h_b, .ref h_difference, .ref h_a, .int r43.2.2.2.1.2.2.2.2, .ref h_newKind, .ref h_newB, .ref h_newDifference, .ref h_newA, .int r43.2.2.2.2.1.2, .ref h_log, .ref h_packed, .int r43.2.2.2.2.2.1.2, .int r43.2.2.2.2.2.2.1.1, .int r43.2.2.2.2.2.2.1.2.1, .int r43.2.2.2.2.2.2.1.2.2.1, .int r43.2.2.2.2.2.2.1.2.2.2, .int r43.2.2.2.2.2.2.2.1, .int r43.2.2.2.2.2.2.2.2])), (h_kind, .inl (cI, 300, .inl (upd r43.2.2.1.1 r43.2.2.1.2.2.2.2.toNatClampNeg x1))), (h_b, .inl (cI, 300, .inl r43.2.2.1.2.2.2.1)), (h_difference, .inl (cL, 300, .inr (.inl (vp_updL r43.2.2.1.2.1 r43.2.2.1.2.2.2.2.toNatClampNeg x2)))), (h_a, .inl (cL, 300, .inr (.inl r43.2.2.1.2.2.1))), (h_newKind, .inl (cI, 300, .inl r43.2.2.2.1.1)), (h_newB, .inl (cI, 300, .inl r43.2.2.2.1.2.2.2.1)), (h_newDifference, .inl (cL, 300, .inr (.inl r43.2.2.2.1.2.1))), (h_newA, .inl (cL, 300, .inr (.inl r43.2.2.2.1.2.2.1))), (h_log, .inl (cI, 5000, .inl r43.2.2.2.2.1.1)), (h_packed, .inl (cI, 5000, .inl r43.2.2.2.2.2.1.1))] rfl (fun H locs hH => ?_)
    refine lv_aload_n hx hb d_Model_add_71 rfl (lv_at hl 0 rfl) ?_
    refine gt (ci := 6) (v := .ref h_a) C hH (iwT iw_Model) 0 rfl rfl 5 (by decide) (.tail _ wd_601) rfl d_Model_add_72 ?_
    refine lv_aload_n hx hb d_Model_add_75 rfl (lv_at hl 0 rfl) ?_
    refine gt (ci := 6) (v := .int r43.2.2.1.2.2.2.2) C hH (iwT iw_Model) 0 rfl rfl 1 (by decide) (.tail _ wd_597) rfl d_Model_add_76 ?_
    refine lv_iload_n hx hb d_Model_add_79 rfl (lv_at hl 1 rfl) ?_
    refine lv_iconst (v := 1) hx hb d_Model_add_80 (by decide) ?_
    refine lv_icmp_ne (tgt := 94) hx hb d_Model_add_81 (by decide) (fun hc81 => ?_) (fun hc81 => ?_)
    · have hf := im hc81 hf
      refine lv_iload_n hx hb d_Model_add_94 rfl (lv_at hl 1 rfl) ?_
      refine lv_iconst (v := 4) hx hb d_Model_add_95 (by decide) ?_
      refine lv_icmp_ne (tgt := 108) hx hb d_Model_add_96 (by decide) (fun hc96 => ?_) (fun hc96 => ?_)
      · have hf := im hc96 hf
        refine lv_lload hx hb d_Model_add_108 (lv_at hl 3 rfl) ?_
        exact w_Model_add_b110 l D cI cL h h_kind h_b h_difference h_a h_newKind h_newB h_newDifference h_newA h_log h_packed C ((r43.2.1, (upd r43.2.2.1.1 r43.2.2.1.2.2.2.2.toNatClampNeg x1, vp_updL r43.2.2.1.2.1 r43.2.2.1.2.2.2.2.toNatClampNeg x2, r43.2.2.1.2.2.1, r43.2.2.1.2.2.2.1, r43.2.2.1.2.2.2.2), r43.2.2.2.1, r43.2.2.2.2.1, r43.2.2.2.2.2.1, r43.2.2.2.2.2.2.1, r43.2.2.2.2.2.2.2.1, r43.2.2.2.2.2.2.2.2)) x1 x6 x4 r43.2.2.1.2.2.2.2 res hf _ _ _ hH (lv_sub hl [0, 1, 4] rfl)
      · have hf := ip hc96 hf
        refine lv_lload hx hb d_Model_add_99 (lv_at hl 3 rfl) ?_
        refine lv_iconst (v := 4) hx hb d_Model_add_101 (by decide) ?_
        refine fnSR (rest := [.int r43.2.2.1.2.2.2.2, .ref h_a]) (st2 := [.long (f_Model_low x4 4), .int r43.2.2.1.2.2.2.2, .ref h_a]) C (c_Model_low l D cI cL  x4 4 _ rfl) (cS hts kS_Model_low wd_683 ⟨Nat.le_of_ble_eq_true rfl, Nat.le_of_ble_eq_true rfl⟩) hH [] rfl rfl rfl hl.1 rfl (Nat.le_of_ble_eq_true rfl) d_Model_add_102 ⟨Nat.le_of_ble_eq_true rfl, Nat.le_of_ble_eq_true rfl⟩ rfl (fun H locs hH => ?_)
        refine lv_goto (tgt := 110) hx hb d_Model_add_105 (by decide) ?_
        exact w_Model_add_b110 l D cI cL h h_kind h_b h_difference h_a h_newKind h_newB h_newDifference h_newA h_log h_packed C ((r43.2.1, (upd r43.2.2.1.1 r43.2.2.1.2.2.2.2.toNatClampNeg x1, vp_updL r43.2.2.1.2.1 r43.2.2.1.2.2.2.2.toNatClampNeg x2, r43.2.2.1.2.2.1, r43.2.2.1.2.2.2.1, r43.2.2.1.2.2.2.2), r43.2.2.2.1, r43.2.2.2.2.1, r43.2.2.2.2.2.1, r43.2.2.2.2.2.2.1, r43.2.2.2.2.2.2.2.1, r43.2.2.2.2.2.2.2.2)) x1 x6 (f_Model_low x4 4) r43.2.2.1.2.2.2.2 res hf _ _ _ hH (lv_sub hl [0, 1, 4] rfl)
    · have hf := ip hc81 hf
      refine lv_lload hx hb d_Model_add_84 (lv_at hl 3 rfl) ?_
      refine lv_iload hx hb d_Model_add_86 (lv_at hl 4 rfl) ?_
      refine fnSR (rest := [.int r43.2.2.1.2.2.2.2, .ref h_a]) (st2 := [.long (f_Model_low x4 x6), .int r43.2.2.1.2.2.2.2, .ref h_a]) C (c_Model_low l D cI cL  x4 x6 _ rfl) (cS hts kS_Model_low wd_683 ⟨Nat.le_of_ble_eq_true rfl, Nat.le_of_ble_eq_true rfl⟩) hH [] rfl rfl rfl hl.1 rfl (Nat.le_of_ble_eq_true rfl) d_Model_add_88 ⟨Nat.le_of_ble_eq_true rfl, Nat.le_of_ble_eq_true rfl⟩ rfl (fun H locs hH => ?_)
      refine lv_goto (tgt := 110) hx hb d_Model_add_91 (by decide) ?_
      exact w_Model_add_b110 l D cI cL h h_kind h_b h_difference h_a h_newKind h_newB h_newDifference h_newA h_log h_packed C ((r43.2.1, (upd r43.2.2.1.1 r43.2.2.1.2.2.2.2.toNatClampNeg x1, vp_updL r43.2.2.1.2.1 r43.2.2.1.2.2.2.2.toNatClampNeg x2, r43.2.2.1.2.2.1, r43.2.2.1.2.2.2.1, r43.2.2.1.2.2.2.2), r43.2.2.2.1, r43.2.2.2.2.1, r43.2.2.2.2.2.1, r43.2.2.2.2.2.2.1, r43.2.2.2.2.2.2.2.1, r43.2.2.2.2.2.2.2.2)) x1 x6 (f_Model_low x4 x6) r43.2.2.1.2.2.2.2 res hf _ _ _ hH (lv_sub hl [0, 1, 4] rfl)
  · have hf := im hc46 hf
    refine lv_iconst (v := 0) hx hb d_Model_add_49 (by decide) ?_
    have hf := Option.some.inj hf
    subst hf
    exact rI (v := 0) C hH d_Model_add_50
def f_Model_add_b41 (st : S_Model) (x1 : Int32) (x2 : Int64) (x4 : Int64) (x6 : Int32) (z0 : Bool) : Option (Int32 × S_Model) :=
  f_Model_add_b42 st x1 x2 x4 x6 false z0
set_option maxRecDepth 100000 in
set_option maxHeartbeats 4000000 in
theorem w_Model_add_b41 (l : Launch) (D : va_G) (cI cL : ClassId) (h h_kind h_b h_difference h_a h_newKind h_newB h_newDifference h_newA h_log h_packed : Nat) {p : Program} {e : Env} {s : State} {m : MethodId} {args : Array Value} {below : List Frame} {meth : Method} {c : Code} {A : Nat → Prop} (C : Cx p s m args meth c D vwCl [(cI, .int), (cL, .long)] A b_Model_add 8 (some .int) ws_Model_add y_Model_add.cls) : ∀ (st : S_Model) (x1 : Int32) (x2 : Int64) (x4 : Int64) (x6 : Int32) (z0 : Bool) (res : Int32 × S_Model), f_Model_add_b41 st x1 x2 x4 x6 z0 = some res → ∀ (H : Heap) (locs : List Loc) (ls : Array Slot), Hp D vwCl A A s.heap H locs [(h, .inr (6, [.int st.1, .int st.2.1.2.2.2.2, .ref h_kind, .ref h_b, .ref h_difference, .ref h_a, .int st.2.2.1.2.2.2.2, .ref h_newKind, .ref h_newB, .ref h_newDifference, .ref h_newA, .int st.2.2.2.1.2, .ref h_log, .ref h_packed, .int st.2.2.2.2.1.2, .int st.2.2.2.2.2.1.1, .int st.2.2.2.2.2.1.2.1, .int st.2.2.2.2.2.1.2.2.1, .int st.2.2.2.2.2.1.2.2.2, .int st.2.2.2.2.2.2.1, .int st.2.2.2.2.2.2.2])), (h_kind, .inl (cI, 300, .inl st.2.1.1)), (h_b, .inl (cI, 300, .inl st.2.1.2.2.2.1)), (h_difference, .inl (cL, 300, .inr (.inl st.2.1.2.1))), (h_a, .inl (cL, 300, .inr (.inl st.2.1.2.2.1))), (h_newKind, .inl (cI, 300, .inl st.2.2.1.1)), (h_newB, .inl (cI, 300, .inl st.2.2.1.2.2.2.1)), (h_newDifference, .inl (cL, 300, .inr (.inl st.2.2.1.2.1))), (h_newA, .inl (cL, 300, .inr (.inl st.2.2.1.2.2.1))), (h_log, .inl (cI, 5000, .inl st.2.2.2.1.1)), (h_packed, .inl (cI, 5000, .inl st.2.2.2.2.1.1))] → lv_has ls 8 [(0, .ref h), (1, .int x1), (2, .long x2), (4, .long x4), (6, .int x6)] → W p l e { frames := 2, cells := 0, slots := 0, locals := 50 } s m args below meth c H locs 0 0 (MQ below (Qw D vwCl [(cI, .int), (cL, .long)] (some (.int res.1)) A [(h, .inr (6, [.int res.2.1, .int res.2.2.1.2.2.2.2, .ref h_kind, .ref h_b, .ref h_difference, .ref h_a, .int res.2.2.2.1.2.2.2.2, .ref h_newKind, .ref h_newB, .ref h_newDifference, .ref h_newA, .int res.2.2.2.2.1.2, .ref h_log, .ref h_packed, .int res.2.2.2.2.2.1.2, .int res.2.2.2.2.2.2.1.1, .int res.2.2.2.2.2.2.1.2.1, .int res.2.2.2.2.2.2.1.2.2.1, .int res.2.2.2.2.2.2.1.2.2.2, .int res.2.2.2.2.2.2.2.1, .int res.2.2.2.2.2.2.2.2])), (h_kind, .inl (cI, 300, .inl res.2.2.1.1)), (h_b, .inl (cI, 300, .inl res.2.2.1.2.2.2.1)), (h_difference, .inl (cL, 300, .inr (.inl res.2.2.1.2.1))), (h_a, .inl (cL, 300, .inr (.inl res.2.2.1.2.2.1))), (h_newKind, .inl (cI, 300, .inl res.2.2.2.1.1)), (h_newB, .inl (cI, 300, .inl res.2.2.2.1.2.2.2.1)), (h_newDifference, .inl (cL, 300, .inr (.inl res.2.2.2.1.2.1))), (h_newA, .inl (cL, 300, .inr (.inl res.2.2.2.1.2.2.1))), (h_log, .inl (cI, 5000, .inl res.2.2.2.2.1.1)), (h_packed, .inl (cI, 5000, .inl res.2.2.2.2.2.1.1))]) args s 0 0 A) (F0 m 41 ls [.int (bI z0), .ref h]) := by
  obtain ⟨hx, hb, hr, hml, hown, hts, hlk, hK, hA⟩ := id C
  intro st x1 x2 x4 x6 z0 res hf H locs ls hH hl
  unfold f_Model_add_b41 at hf
  refine lv_iconst (v := 0) hx hb d_Model_add_41 (by decide) ?_
  exact w_Model_add_b42 l D cI cL h h_kind h_b h_difference h_a h_newKind h_newB h_newDifference h_newA h_log h_packed C st x1 x2 x4 x6 false z0 res hf _ _ _ hH (lv_sub hl [0, 1, 2, 3, 4] rfl)
def f_Model_add_b22 (st : S_Model) (x1 : Int32) (x2 : Int64) (x4 : Int64) (x6 : Int32) (x7 : Bool) (z0 : Bool) : Option (Int32 × S_Model) :=
  if (bI x7) = 0 then (f_Model_add_b41 st x1 x2 x4 x6 z0) else (if st.2.1.2.2.2.2 = (300 : Int32) then (f_Model_add_b42 st x1 x2 x4 x6 true z0) else (f_Model_add_b41 st x1 x2 x4 x6 z0))
set_option maxRecDepth 100000 in
set_option maxHeartbeats 4000000 in
theorem w_Model_add_b22 (l : Launch) (D : va_G) (cI cL : ClassId) (h h_kind h_b h_difference h_a h_newKind h_newB h_newDifference h_newA h_log h_packed : Nat) {p : Program} {e : Env} {s : State} {m : MethodId} {args : Array Value} {below : List Frame} {meth : Method} {c : Code} {A : Nat → Prop} (C : Cx p s m args meth c D vwCl [(cI, .int), (cL, .long)] A b_Model_add 8 (some .int) ws_Model_add y_Model_add.cls) : ∀ (st : S_Model) (x1 : Int32) (x2 : Int64) (x4 : Int64) (x6 : Int32) (x7 : Bool) (z0 : Bool) (res : Int32 × S_Model), f_Model_add_b22 st x1 x2 x4 x6 x7 z0 = some res → ∀ (H : Heap) (locs : List Loc) (ls : Array Slot), Hp D vwCl A A s.heap H locs [(h, .inr (6, [.int st.1, .int st.2.1.2.2.2.2, .ref h_kind, .ref h_b, .ref h_difference, .ref h_a, .int st.2.2.1.2.2.2.2, .ref h_newKind, .ref h_newB, .ref h_newDifference, .ref h_newA, .int st.2.2.2.1.2, .ref h_log, .ref h_packed, .int st.2.2.2.2.1.2, .int st.2.2.2.2.2.1.1, .int st.2.2.2.2.2.1.2.1, .int st.2.2.2.2.2.1.2.2.1, .int st.2.2.2.2.2.1.2.2.2, .int st.2.2.2.2.2.2.1, .int st.2.2.2.2.2.2.2])), (h_kind, .inl (cI, 300, .inl st.2.1.1)), (h_b, .inl (cI, 300, .inl st.2.1.2.2.2.1)), (h_difference, .inl (cL, 300, .inr (.inl st.2.1.2.1))), (h_a, .inl (cL, 300, .inr (.inl st.2.1.2.2.1))), (h_newKind, .inl (cI, 300, .inl st.2.2.1.1)), (h_newB, .inl (cI, 300, .inl st.2.2.1.2.2.2.1)), (h_newDifference, .inl (cL, 300, .inr (.inl st.2.2.1.2.1))), (h_newA, .inl (cL, 300, .inr (.inl st.2.2.1.2.2.1))), (h_log, .inl (cI, 5000, .inl st.2.2.2.1.1)), (h_packed, .inl (cI, 5000, .inl st.2.2.2.2.1.1))] → lv_has ls 8 [(0, .ref h), (1, .int x1), (2, .long x2), (4, .long x4), (6, .int x6), (7, .int (bI x7))] → W p l e { frames := 2, cells := 0, slots := 0, locals := 50 } s m args below meth c H locs 0 0 (MQ below (Qw D vwCl [(cI, .int), (cL, .long)] (some (.int res.1)) A [(h, .inr (6, [.int res.2.1, .int res.2.2.1.2.2.2.2, .ref h_kind, .ref h_b, .ref h_difference, .ref h_a, .int res.2.2.2.1.2.2.2.2, .ref h_newKind, .ref h_newB, .ref h_newDifference, .ref h_newA, .int res.2.2.2.2.1.2, .ref h_log, .ref h_packed, .int res.2.2.2.2.2.1.2, .int res.2.2.2.2.2.2.1.1, .int res.2.2.2.2.2.2.1.2.1, .int res.2.2.2.2.2.2.1.2.2.1, .int res.2.2.2.2.2.2.1.2.2.2, .int res.2.2.2.2.2.2.2.1, .int res.2.2.2.2.2.2.2.2])), (h_kind, .inl (cI, 300, .inl res.2.2.1.1)), (h_b, .inl (cI, 300, .inl res.2.2.1.2.2.2.1)), (h_difference, .inl (cL, 300, .inr (.inl res.2.2.1.2.1))), (h_a, .inl (cL, 300, .inr (.inl res.2.2.1.2.2.1))), (h_newKind, .inl (cI, 300, .inl res.2.2.2.1.1)), (h_newB, .inl (cI, 300, .inl res.2.2.2.1.2.2.2.1)), (h_newDifference, .inl (cL, 300, .inr (.inl res.2.2.2.1.2.1))), (h_newA, .inl (cL, 300, .inr (.inl res.2.2.2.1.2.2.1))), (h_log, .inl (cI, 5000, .inl res.2.2.2.2.1.1)), (h_packed, .inl (cI, 5000, .inl res.2.2.2.2.2.1.1))]) args s 0 0 A) (F0 m 22 ls [.int (bI z0), .ref h]) := by
  obtain ⟨hx, hb, hr, hml, hown, hts, hlk, hK, hA⟩ := id C
  intro st x1 x2 x4 x6 x7 z0 res hf H locs ls hH hl
  unfold f_Model_add_b22 at hf
  refine lv_iload hx hb d_Model_add_22 (lv_at hl 5 rfl) ?_
  refine lv_if_eq (tgt := 41) hx hb d_Model_add_24 (by decide) (fun hc24 => ?_) (fun hc24 => ?_)
  · have hf := ip hc24 hf
    exact w_Model_add_b41 l D cI cL h h_kind h_b h_difference h_a h_newKind h_newB h_newDifference h_newA h_log h_packed C st x1 x2 x4 x6 z0 res hf _ _ _ hH (lv_sub hl [0, 1, 2, 3, 4] rfl)
  · have hf := im hc24 hf
    refine lv_aload_n hx hb d_Model_add_27 rfl (lv_at hl 0 rfl) ?_
    refine gt (ci := 6) (v := .int st.2.1.2.2.2.2) C hH (iwT iw_Model) 0 rfl rfl 1 (by decide) (.tail _ wd_597) rfl d_Model_add_28 ?_
    refine lv_sipush (v := 300) hx hb d_Model_add_31 (by decide) ?_
    refine lv_icmp_ne (tgt := 41) hx hb d_Model_add_34 (by decide) (fun hc34 => ?_) (fun hc34 => ?_)
    · have hf := im hc34 hf
      exact w_Model_add_b41 l D cI cL h h_kind h_b h_difference h_a h_newKind h_newB h_newDifference h_newA h_log h_packed C st x1 x2 x4 x6 z0 res hf _ _ _ hH (lv_sub hl [0, 1, 2, 3, 4] rfl)
    · have hf := ip hc34 hf
      refine lv_iconst (v := 1) hx hb d_Model_add_37 (by decide) ?_
      refine lv_goto (tgt := 42) hx hb d_Model_add_38 (by decide) ?_
      exact w_Model_add_b42 l D cI cL h h_kind h_b h_difference h_a h_newKind h_newB h_newDifference h_newA h_log h_packed C st x1 x2 x4 x6 true z0 res hf _ _ _ hH (lv_sub hl [0, 1, 2, 3, 4] rfl)
def f_Model_add (st : S_Model) (x1 : Int32) (x2 : Int64) (x4 : Int64) (x6 : Int32) : Option (Int32 × S_Model) :=
  if (bI (f_Model_isSaid x1 x2 x4 x6)) = 0 then (f_Model_add_b22 st x1 x2 x4 x6 (f_Model_isSaid x1 x2 x4 x6) true) else (f_Model_add_b22 st x1 x2 x4 x6 (f_Model_isSaid x1 x2 x4 x6) false)
set_option maxRecDepth 100000 in
set_option maxHeartbeats 4000000 in
theorem c_Model_add (l : Launch) (D : va_G) (cI cL : ClassId) (h h_kind h_b h_difference h_a h_newKind h_newB h_newDifference h_newA h_log h_packed : Nat) (st : S_Model) (x1 : Int32) (x2 : Int64) (x4 : Int64) (x6 : Int32) (res : Int32 × S_Model) (hf : f_Model_add st x1 x2 x4 x6 = some res) :
    Fn l D vwCl [(cI, .int), (cL, .long)] y_Model_add ws_Model_add { frames := 2, cells := 0, slots := 0, locals := 50 } [.ref h, .int x1, .long x2, .long x4, .int x6] [(h, .inr (6, [.int st.1, .int st.2.1.2.2.2.2, .ref h_kind, .ref h_b, .ref h_difference, .ref h_a, .int st.2.2.1.2.2.2.2, .ref h_newKind, .ref h_newB, .ref h_newDifference, .ref h_newA, .int st.2.2.2.1.2, .ref h_log, .ref h_packed, .int st.2.2.2.2.1.2, .int st.2.2.2.2.2.1.1, .int st.2.2.2.2.2.1.2.1, .int st.2.2.2.2.2.1.2.2.1, .int st.2.2.2.2.2.1.2.2.2, .int st.2.2.2.2.2.2.1, .int st.2.2.2.2.2.2.2])), (h_kind, .inl (cI, 300, .inl st.2.1.1)), (h_b, .inl (cI, 300, .inl st.2.1.2.2.2.1)), (h_difference, .inl (cL, 300, .inr (.inl st.2.1.2.1))), (h_a, .inl (cL, 300, .inr (.inl st.2.1.2.2.1))), (h_newKind, .inl (cI, 300, .inl st.2.2.1.1)), (h_newB, .inl (cI, 300, .inl st.2.2.1.2.2.2.1)), (h_newDifference, .inl (cL, 300, .inr (.inl st.2.2.1.2.1))), (h_newA, .inl (cL, 300, .inr (.inl st.2.2.1.2.2.1))), (h_log, .inl (cI, 5000, .inl st.2.2.2.1.1)), (h_packed, .inl (cI, 5000, .inl st.2.2.2.2.1.1))] (some (.int res.1)) [(h, .inr (6, [.int res.2.1, .int res.2.2.1.2.2.2.2, .ref h_kind, .ref h_b, .ref h_difference, .ref h_a, .int res.2.2.2.1.2.2.2.2, .ref h_newKind, .ref h_newB, .ref h_newDifference, .ref h_newA, .int res.2.2.2.2.1.2, .ref h_log, .ref h_packed, .int res.2.2.2.2.2.1.2, .int res.2.2.2.2.2.2.1.1, .int res.2.2.2.2.2.2.1.2.1, .int res.2.2.2.2.2.2.1.2.2.1, .int res.2.2.2.2.2.2.1.2.2.2, .int res.2.2.2.2.2.2.2.1, .int res.2.2.2.2.2.2.2.2])), (h_kind, .inl (cI, 300, .inl res.2.2.1.1)), (h_b, .inl (cI, 300, .inl res.2.2.1.2.2.2.1)), (h_difference, .inl (cL, 300, .inr (.inl res.2.2.1.2.1))), (h_a, .inl (cL, 300, .inr (.inl res.2.2.1.2.2.1))), (h_newKind, .inl (cI, 300, .inl res.2.2.2.1.1)), (h_newB, .inl (cI, 300, .inl res.2.2.2.1.2.2.2.1)), (h_newDifference, .inl (cL, 300, .inr (.inl res.2.2.2.1.2.1))), (h_newA, .inl (cL, 300, .inr (.inl res.2.2.2.1.2.2.1))), (h_log, .inl (cI, 5000, .inl res.2.2.2.2.1.1)), (h_packed, .inl (cI, 5000, .inl res.2.2.2.2.2.1.1))] := by
  refine Fn.ofW (cc := b_Model_add) (maxL := 8) (ret := (some .int)) (by decide) rfl (Nat.le_of_ble_eq_true rfl) ?_
  intro p e s m below meth c A ls C hH hinit hl
  have hl : lv_has ls 8 [(0, .ref h), (1, .int x1), (2, .long x2), (4, .long x4), (6, .int x6)] := hl
  obtain ⟨hx, hb, hr, hml, hown, hts, hlk, hK, hA⟩ := id C
  unfold f_Model_add at hf
  refine lv_iload_n hx hb d_Model_add_0 rfl (lv_at hl 1 rfl) ?_
  refine lv_lload_n hx hb d_Model_add_1 rfl (lv_at hl 2 rfl) ?_
  refine lv_lload hx hb d_Model_add_2 (lv_at hl 3 rfl) ?_
  refine lv_iload hx hb d_Model_add_4 (lv_at hl 4 rfl) ?_
  refine fnSR (rest := []) (st2 := [.int (bI (f_Model_isSaid x1 x2 x4 x6))]) C (c_Model_isSaid l D cI cL  x1 x2 x4 x6 _ rfl) (cS hts kS_Model_isSaid wd_668 ⟨Nat.le_of_ble_eq_true rfl, Nat.le_of_ble_eq_true rfl⟩) hH [] rfl rfl rfl hl.1 rfl (Nat.le_of_ble_eq_true rfl) d_Model_add_6 ⟨Nat.le_of_ble_eq_true rfl, Nat.le_of_ble_eq_true rfl⟩ rfl (fun H locs hH => ?_)
  refine lv_istore (lv' := [(7, .int (bI (f_Model_isSaid x1 x2 x4 x6))), (0, .ref h), (1, .int x1), (2, .long x2), (4, .long x4), (6, .int x6)]) hx hb d_Model_add_9 hl (by decide) rfl (fun ls hl => ?_)
  refine lv_aload_n hx hb d_Model_add_11 rfl (lv_at hl 1 rfl) ?_
  refine lv_iload hx hb d_Model_add_12 (lv_at hl 0 rfl) ?_
  refine lv_if_ne (tgt := 21) hx hb d_Model_add_14 (by decide) (fun hc14 => ?_) (fun hc14 => ?_)
  · have hf := im hc14 hf
    refine lv_iconst (v := 0) hx hb d_Model_add_21 (by decide) ?_
    exact w_Model_add_b22 l D cI cL h h_kind h_b h_difference h_a h_newKind h_newB h_newDifference h_newA h_log h_packed C st x1 x2 x4 x6 (f_Model_isSaid x1 x2 x4 x6) false res hf _ _ _ hH (lv_sub hl [1, 2, 3, 4, 5, 0] rfl)
  · have hf := ip hc14 hf
    refine lv_iconst (v := 1) hx hb d_Model_add_17 (by decide) ?_
    refine lv_goto (tgt := 22) hx hb d_Model_add_18 (by decide) ?_
    exact w_Model_add_b22 l D cI cL h h_kind h_b h_difference h_a h_newKind h_newB h_newDifference h_newA h_log h_packed C st x1 x2 x4 x6 (f_Model_isSaid x1 x2 x4 x6) true res hf _ _ _ hH (lv_sub hl [1, 2, 3, 4, 5, 0] rfl)
def f_Model_drop_b18 (st : S_Model) (x1 : Int32) (z0 : Bool) : Int32 × S_Model :=
  lt1 (f_Model_fails st z0 false false) (fun r20 => if (bI r20.1) = 0 then ((r20.2.2.1.2.2.2.2 - x1, (r20.2.1, (r20.2.2.1.1, r20.2.2.1.2.1, r20.2.2.1.2.2.1, r20.2.2.1.2.2.2.1, x1), r20.2.2.2.1, r20.2.2.2.2.1, r20.2.2.2.2.2.1, r20.2.2.2.2.2.2.1, r20.2.2.2.2.2.2.2.1, r20.2.2.2.2.2.2.2.2))) else ((0, r20.2)))
set_option maxRecDepth 100000 in
set_option maxHeartbeats 4000000 in
theorem w_Model_drop_b18 (l : Launch) (D : va_G) (cI cL : ClassId) (h h_kind h_b h_difference h_a h_newKind h_newB h_newDifference h_newA h_log h_packed : Nat) {p : Program} {e : Env} {s : State} {m : MethodId} {args : Array Value} {below : List Frame} {meth : Method} {c : Code} {A : Nat → Prop} (C : Cx p s m args meth c D vwCl [(cI, .int), (cL, .long)] A b_Model_drop 3 (some .int) ws_Model_drop y_Model_drop.cls) : ∀ (st : S_Model) (x1 : Int32) (z0 : Bool) (res : Int32 × S_Model), f_Model_drop_b18 st x1 z0 = res → ∀ (H : Heap) (locs : List Loc) (ls : Array Slot), Hp D vwCl A A s.heap H locs [(h, .inr (6, [.int st.1, .int st.2.1.2.2.2.2, .ref h_kind, .ref h_b, .ref h_difference, .ref h_a, .int st.2.2.1.2.2.2.2, .ref h_newKind, .ref h_newB, .ref h_newDifference, .ref h_newA, .int st.2.2.2.1.2, .ref h_log, .ref h_packed, .int st.2.2.2.2.1.2, .int st.2.2.2.2.2.1.1, .int st.2.2.2.2.2.1.2.1, .int st.2.2.2.2.2.1.2.2.1, .int st.2.2.2.2.2.1.2.2.2, .int st.2.2.2.2.2.2.1, .int st.2.2.2.2.2.2.2])), (h_kind, .inl (cI, 300, .inl st.2.1.1)), (h_b, .inl (cI, 300, .inl st.2.1.2.2.2.1)), (h_difference, .inl (cL, 300, .inr (.inl st.2.1.2.1))), (h_a, .inl (cL, 300, .inr (.inl st.2.1.2.2.1))), (h_newKind, .inl (cI, 300, .inl st.2.2.1.1)), (h_newB, .inl (cI, 300, .inl st.2.2.1.2.2.2.1)), (h_newDifference, .inl (cL, 300, .inr (.inl st.2.2.1.2.1))), (h_newA, .inl (cL, 300, .inr (.inl st.2.2.1.2.2.1))), (h_log, .inl (cI, 5000, .inl st.2.2.2.1.1)), (h_packed, .inl (cI, 5000, .inl st.2.2.2.2.1.1))] → lv_has ls 3 [(0, .ref h), (1, .int x1)] → W p l e { frames := 1, cells := 0, slots := 0, locals := 23 } s m args below meth c H locs 0 0 (MQ below (Qw D vwCl [(cI, .int), (cL, .long)] (some (.int res.1)) A [(h, .inr (6, [.int res.2.1, .int res.2.2.1.2.2.2.2, .ref h_kind, .ref h_b, .ref h_difference, .ref h_a, .int res.2.2.2.1.2.2.2.2, .ref h_newKind, .ref h_newB, .ref h_newDifference, .ref h_newA, .int res.2.2.2.2.1.2, .ref h_log, .ref h_packed, .int res.2.2.2.2.2.1.2, .int res.2.2.2.2.2.2.1.1, .int res.2.2.2.2.2.2.1.2.1, .int res.2.2.2.2.2.2.1.2.2.1, .int res.2.2.2.2.2.2.1.2.2.2, .int res.2.2.2.2.2.2.2.1, .int res.2.2.2.2.2.2.2.2])), (h_kind, .inl (cI, 300, .inl res.2.2.1.1)), (h_b, .inl (cI, 300, .inl res.2.2.1.2.2.2.1)), (h_difference, .inl (cL, 300, .inr (.inl res.2.2.1.2.1))), (h_a, .inl (cL, 300, .inr (.inl res.2.2.1.2.2.1))), (h_newKind, .inl (cI, 300, .inl res.2.2.2.1.1)), (h_newB, .inl (cI, 300, .inl res.2.2.2.1.2.2.2.1)), (h_newDifference, .inl (cL, 300, .inr (.inl res.2.2.2.1.2.1))), (h_newA, .inl (cL, 300, .inr (.inl res.2.2.2.1.2.2.1))), (h_log, .inl (cI, 5000, .inl res.2.2.2.2.1.1)), (h_packed, .inl (cI, 5000, .inl res.2.2.2.2.2.1.1))]) args s 0 0 A) (F0 m 18 ls [.int (bI z0), .ref h]) := by
  obtain ⟨hx, hb, hr, hml, hown, hts, hlk, hK, hA⟩ := id C
  intro st x1 z0 res hf H locs ls hH hl
  unfold f_Model_drop_b18 at hf
  refine lv_iconst (v := 0) hx hb d_Model_drop_18 (by decide) ?_
  refine lv_iconst (v := 0) hx hb d_Model_drop_19 (by decide) ?_
  obtain ⟨r20, hr20, hf⟩ := lb hf
  refine fnV (rest := []) (wr := []) (w2 := [(h, .inr (6, [.int r20.2.1, .int r20.2.2.1.2.2.2.2, .ref h_kind, .ref h_b, .ref h_difference, .ref h_a, .int r20.2.2.2.1.2.2.2.2, .ref h_newKind, .ref h_newB, .ref h_newDifference, .ref h_newA, .int r20.2.2.2.2.1.2, .ref h_log, .ref h_packed, .int r20.2.2.2.2.2.1.2, .int r20.2.2.2.2.2.2.1.1, .int r20.2.2.2.2.2.2.1.2.1, .int r20.2.2.2.2.2.2.1.2.2.1, .int r20.2.2.2.2.2.2.1.2.2.2, .int r20.2.2.2.2.2.2.2.1, .int r20.2.2.2.2.2.2.2.2])), (h_kind, .inl (cI, 300, .inl r20.2.2.1.1)), (h_b, .inl (cI, 300, .inl r20.2.2.1.2.2.2.1)), (h_difference, .inl (cL, 300, .inr (.inl r20.2.2.1.2.1))), (h_a, .inl (cL, 300, .inr (.inl r20.2.2.1.2.2.1))), (h_newKind, .inl (cI, 300, .inl r20.2.2.2.1.1)), (h_newB, .inl (cI, 300, .inl r20.2.2.2.1.2.2.2.1)), (h_newDifference, .inl (cL, 300, .inr (.inl r20.2.2.2.1.2.1))), (h_newA, .inl (cL, 300, .inr (.inl r20.2.2.2.1.2.2.1))), (h_log, .inl (cI, 5000, .inl r20.2.2.2.2.1.1)), (h_packed, .inl (cI, 5000, .inl r20.2.2.2.2.2.1.1))]) (st2 := [.int (bI r20.1)]) C (c_Model_fails l D cI cL h h_kind h_b h_difference h_a h_newKind h_newB h_newDifference h_newA h_log h_packed st z0 false false r20 hr20) (cV hts kV_Model_fails wd_679 ⟨Nat.le_of_ble_eq_true rfl, Nat.le_of_ble_eq_true rfl⟩) hH [0, 1, 2, 3, 4, 5, 6, 7, 8, 9, 10] [] [0, 1, 2, 3, 4, 5, 6, 7, 8, 9, 10] rfl rfl rfl rfl (by decide) rfl rfl 0 rfl rfl rfl hl.1 rfl (Nat.le_of_ble_eq_true rfl) d_Model_drop_20 ⟨Nat.le_of_ble_eq_true rfl, Nat.le_of_ble_eq_true rfl⟩ rfl (fun H locs hH => ?_)
  refine lv_if_eq (tgt := 28) hx hb d_Model_drop_23 (by decide) (fun hc23 => ?_) (fun hc23 => ?_)
  · have hf := ip hc23 hf
    refine lv_aload_n hx hb d_Model_drop_28 rfl (lv_at hl 0 rfl) ?_
    refine gt (ci := 6) (v := .int r20.2.2.1.2.2.2.2) C hH (iwT iw_Model) 0 rfl rfl 1 (by decide) (.tail _ wd_597) rfl d_Model_drop_29 ?_
    refine lv_iload_n hx hb d_Model_drop_32 rfl (lv_at hl 1 rfl) ?_
    refine lv_isub hx hb d_Model_drop_33 ?_
    refine lv_istore_n (lv' := [(2, .int (r20.2.2.1.2.2.2.2 - x1)), (0, .ref h), (1, .int x1)]) hx hb d_Model_drop_34 rfl hl (by decide) rfl (fun ls hl => ?_)
    refine lv_aload_n hx hb d_Model_drop_35 rfl (lv_at hl 1 rfl) ?_
    refine lv_iload_n hx hb d_Model_drop_36 rfl (lv_at hl 2 rfl) ?_
    refine pt (ci := 6) (v := .int x1) C hH (iwT iw_Model) ty_Model tyok_Model nm_Model 0 rfl rfl 1 (by decide) (.tail _ wd_597) rfl rfl rfl (Nat.le_of_ble_eq_true rfl) d_Model_drop_37 [(h, .inr (6, [.int r20.2.1, .int x1, .ref h_kind, .ref h_b, .ref h_difference, .ref h_a, .int r20.2.2.2.1.2.2.2.2, .ref h_newKind, .ref h_newB, .ref h_newDifference, .ref h_newA, .int r20.2.2.2.2.1.2, .ref h_log, .ref h_packed, .int r20.2.2.2.2.2.1.2, .int r20.2.2.2.2.2.2.1.1, .int r20.2.2.2.2.2.2.1.2.1, .int r20.2.2.2.2.2.2.1.2.2.1, .int r20.2.2.2.2.2.2.1.2.2.2, .int r20.2.2.2.2.2.2.2.1, .int r20.2.2.2.2.2.2.2.2])), (h_kind, .inl (cI, 300, .inl r20.2.2.1.1)), (h_b, .inl (cI, 300, .inl r20.2.2.1.2.2.2.1)), (h_difference, .inl (cL, 300, .inr (.inl r20.2.2.1.2.1))), (h_a, .inl (cL, 300, .inr (.inl r20.2.2.1.2.2.1))), (h_newKind, .inl (cI, 300, .inl r20.2.2.2.1.1)), (h_newB, .inl (cI, 300, .inl r20.2.2.2.1.2.2.2.1)), (h_newDifference, .inl (cL, 300, .inr (.inl r20.2.2.2.1.2.1))), (h_newA, .inl (cL, 300, .inr (.inl r20.2.2.2.1.2.2.1))), (h_log, .inl (cI, 5000, .inl r20.2.2.2.2.1.1)), (h_packed, .inl (cI, 5000, .inl r20.2.2.2.2.2.1.1))] rfl (fun H locs hH => ?_)
    refine lv_iload_n hx hb d_Model_drop_40 rfl (lv_at hl 0 rfl) ?_
    subst hf
    exact rI (v := r20.2.2.1.2.2.2.2 - x1) C hH d_Model_drop_41
  · have hf := im hc23 hf
    refine lv_iconst (v := 0) hx hb d_Model_drop_26 (by decide) ?_
    subst hf
    exact rI (v := 0) C hH d_Model_drop_27
def f_Model_drop_b13 (st : S_Model) (x1 : Int32) : Int32 × S_Model :=
  f_Model_drop_b18 st x1 true
set_option maxRecDepth 100000 in
set_option maxHeartbeats 4000000 in
theorem w_Model_drop_b13 (l : Launch) (D : va_G) (cI cL : ClassId) (h h_kind h_b h_difference h_a h_newKind h_newB h_newDifference h_newA h_log h_packed : Nat) {p : Program} {e : Env} {s : State} {m : MethodId} {args : Array Value} {below : List Frame} {meth : Method} {c : Code} {A : Nat → Prop} (C : Cx p s m args meth c D vwCl [(cI, .int), (cL, .long)] A b_Model_drop 3 (some .int) ws_Model_drop y_Model_drop.cls) : ∀ (st : S_Model) (x1 : Int32) (res : Int32 × S_Model), f_Model_drop_b13 st x1 = res → ∀ (H : Heap) (locs : List Loc) (ls : Array Slot), Hp D vwCl A A s.heap H locs [(h, .inr (6, [.int st.1, .int st.2.1.2.2.2.2, .ref h_kind, .ref h_b, .ref h_difference, .ref h_a, .int st.2.2.1.2.2.2.2, .ref h_newKind, .ref h_newB, .ref h_newDifference, .ref h_newA, .int st.2.2.2.1.2, .ref h_log, .ref h_packed, .int st.2.2.2.2.1.2, .int st.2.2.2.2.2.1.1, .int st.2.2.2.2.2.1.2.1, .int st.2.2.2.2.2.1.2.2.1, .int st.2.2.2.2.2.1.2.2.2, .int st.2.2.2.2.2.2.1, .int st.2.2.2.2.2.2.2])), (h_kind, .inl (cI, 300, .inl st.2.1.1)), (h_b, .inl (cI, 300, .inl st.2.1.2.2.2.1)), (h_difference, .inl (cL, 300, .inr (.inl st.2.1.2.1))), (h_a, .inl (cL, 300, .inr (.inl st.2.1.2.2.1))), (h_newKind, .inl (cI, 300, .inl st.2.2.1.1)), (h_newB, .inl (cI, 300, .inl st.2.2.1.2.2.2.1)), (h_newDifference, .inl (cL, 300, .inr (.inl st.2.2.1.2.1))), (h_newA, .inl (cL, 300, .inr (.inl st.2.2.1.2.2.1))), (h_log, .inl (cI, 5000, .inl st.2.2.2.1.1)), (h_packed, .inl (cI, 5000, .inl st.2.2.2.2.1.1))] → lv_has ls 3 [(0, .ref h), (1, .int x1)] → W p l e { frames := 1, cells := 0, slots := 0, locals := 23 } s m args below meth c H locs 0 0 (MQ below (Qw D vwCl [(cI, .int), (cL, .long)] (some (.int res.1)) A [(h, .inr (6, [.int res.2.1, .int res.2.2.1.2.2.2.2, .ref h_kind, .ref h_b, .ref h_difference, .ref h_a, .int res.2.2.2.1.2.2.2.2, .ref h_newKind, .ref h_newB, .ref h_newDifference, .ref h_newA, .int res.2.2.2.2.1.2, .ref h_log, .ref h_packed, .int res.2.2.2.2.2.1.2, .int res.2.2.2.2.2.2.1.1, .int res.2.2.2.2.2.2.1.2.1, .int res.2.2.2.2.2.2.1.2.2.1, .int res.2.2.2.2.2.2.1.2.2.2, .int res.2.2.2.2.2.2.2.1, .int res.2.2.2.2.2.2.2.2])), (h_kind, .inl (cI, 300, .inl res.2.2.1.1)), (h_b, .inl (cI, 300, .inl res.2.2.1.2.2.2.1)), (h_difference, .inl (cL, 300, .inr (.inl res.2.2.1.2.1))), (h_a, .inl (cL, 300, .inr (.inl res.2.2.1.2.2.1))), (h_newKind, .inl (cI, 300, .inl res.2.2.2.1.1)), (h_newB, .inl (cI, 300, .inl res.2.2.2.1.2.2.2.1)), (h_newDifference, .inl (cL, 300, .inr (.inl res.2.2.2.1.2.1))), (h_newA, .inl (cL, 300, .inr (.inl res.2.2.2.1.2.2.1))), (h_log, .inl (cI, 5000, .inl res.2.2.2.2.1.1)), (h_packed, .inl (cI, 5000, .inl res.2.2.2.2.2.1.1))]) args s 0 0 A) (F0 m 13 ls [.ref h]) := by
  obtain ⟨hx, hb, hr, hml, hown, hts, hlk, hK, hA⟩ := id C
  intro st x1 res hf H locs ls hH hl
  unfold f_Model_drop_b13 at hf
  refine lv_iconst (v := 1) hx hb d_Model_drop_13 (by decide) ?_
  refine lv_goto (tgt := 18) hx hb d_Model_drop_14 (by decide) ?_
  exact w_Model_drop_b18 l D cI cL h h_kind h_b h_difference h_a h_newKind h_newB h_newDifference h_newA h_log h_packed C st x1 true res hf _ _ _ hH (lv_sub hl [0, 1] rfl)
def f_Model_drop (st : S_Model) (x1 : Int32) : Int32 × S_Model :=
  if x1 < 0 then (f_Model_drop_b13 st x1) else (if x1 ≤ st.2.1.2.2.2.2 then (f_Model_drop_b18 st x1 false) else (f_Model_drop_b13 st x1))
set_option maxRecDepth 100000 in
set_option maxHeartbeats 4000000 in
theorem c_Model_drop (l : Launch) (D : va_G) (cI cL : ClassId) (h h_kind h_b h_difference h_a h_newKind h_newB h_newDifference h_newA h_log h_packed : Nat) (st : S_Model) (x1 : Int32) (res : Int32 × S_Model) (hf : f_Model_drop st x1 = res) :
    Fn l D vwCl [(cI, .int), (cL, .long)] y_Model_drop ws_Model_drop { frames := 1, cells := 0, slots := 0, locals := 23 } [.ref h, .int x1] [(h, .inr (6, [.int st.1, .int st.2.1.2.2.2.2, .ref h_kind, .ref h_b, .ref h_difference, .ref h_a, .int st.2.2.1.2.2.2.2, .ref h_newKind, .ref h_newB, .ref h_newDifference, .ref h_newA, .int st.2.2.2.1.2, .ref h_log, .ref h_packed, .int st.2.2.2.2.1.2, .int st.2.2.2.2.2.1.1, .int st.2.2.2.2.2.1.2.1, .int st.2.2.2.2.2.1.2.2.1, .int st.2.2.2.2.2.1.2.2.2, .int st.2.2.2.2.2.2.1, .int st.2.2.2.2.2.2.2])), (h_kind, .inl (cI, 300, .inl st.2.1.1)), (h_b, .inl (cI, 300, .inl st.2.1.2.2.2.1)), (h_difference, .inl (cL, 300, .inr (.inl st.2.1.2.1))), (h_a, .inl (cL, 300, .inr (.inl st.2.1.2.2.1))), (h_newKind, .inl (cI, 300, .inl st.2.2.1.1)), (h_newB, .inl (cI, 300, .inl st.2.2.1.2.2.2.1)), (h_newDifference, .inl (cL, 300, .inr (.inl st.2.2.1.2.1))), (h_newA, .inl (cL, 300, .inr (.inl st.2.2.1.2.2.1))), (h_log, .inl (cI, 5000, .inl st.2.2.2.1.1)), (h_packed, .inl (cI, 5000, .inl st.2.2.2.2.1.1))] (some (.int res.1)) [(h, .inr (6, [.int res.2.1, .int res.2.2.1.2.2.2.2, .ref h_kind, .ref h_b, .ref h_difference, .ref h_a, .int res.2.2.2.1.2.2.2.2, .ref h_newKind, .ref h_newB, .ref h_newDifference, .ref h_newA, .int res.2.2.2.2.1.2, .ref h_log, .ref h_packed, .int res.2.2.2.2.2.1.2, .int res.2.2.2.2.2.2.1.1, .int res.2.2.2.2.2.2.1.2.1, .int res.2.2.2.2.2.2.1.2.2.1, .int res.2.2.2.2.2.2.1.2.2.2, .int res.2.2.2.2.2.2.2.1, .int res.2.2.2.2.2.2.2.2])), (h_kind, .inl (cI, 300, .inl res.2.2.1.1)), (h_b, .inl (cI, 300, .inl res.2.2.1.2.2.2.1)), (h_difference, .inl (cL, 300, .inr (.inl res.2.2.1.2.1))), (h_a, .inl (cL, 300, .inr (.inl res.2.2.1.2.2.1))), (h_newKind, .inl (cI, 300, .inl res.2.2.2.1.1)), (h_newB, .inl (cI, 300, .inl res.2.2.2.1.2.2.2.1)), (h_newDifference, .inl (cL, 300, .inr (.inl res.2.2.2.1.2.1))), (h_newA, .inl (cL, 300, .inr (.inl res.2.2.2.1.2.2.1))), (h_log, .inl (cI, 5000, .inl res.2.2.2.2.1.1)), (h_packed, .inl (cI, 5000, .inl res.2.2.2.2.2.1.1))] := by
  refine Fn.ofW (cc := b_Model_drop) (maxL := 3) (ret := (some .int)) (by decide) rfl (Nat.le_of_ble_eq_true rfl) ?_
  intro p e s m below meth c A ls C hH hinit hl
  have hl : lv_has ls 3 [(0, .ref h), (1, .int x1)] := hl
  obtain ⟨hx, hb, hr, hml, hown, hts, hlk, hK, hA⟩ := id C
  unfold f_Model_drop at hf
  refine lv_aload_n hx hb d_Model_drop_0 rfl (lv_at hl 0 rfl) ?_
  refine lv_iload_n hx hb d_Model_drop_1 rfl (lv_at hl 1 rfl) ?_
  refine lv_if_lt (tgt := 13) hx hb d_Model_drop_2 (by decide) (fun hc2 => ?_) (fun hc2 => ?_)
  · have hf := ip hc2 hf
    exact w_Model_drop_b13 l D cI cL h h_kind h_b h_difference h_a h_newKind h_newB h_newDifference h_newA h_log h_packed C st x1 res hf _ _ _ hH (lv_sub hl [0, 1] rfl)
  · have hf := im hc2 hf
    refine lv_iload_n hx hb d_Model_drop_5 rfl (lv_at hl 1 rfl) ?_
    refine lv_aload_n hx hb d_Model_drop_6 rfl (lv_at hl 0 rfl) ?_
    refine gt (ci := 6) (v := .int st.2.1.2.2.2.2) C hH (iwT iw_Model) 0 rfl rfl 1 (by decide) (.tail _ wd_597) rfl d_Model_drop_7 ?_
    refine lv_icmp_le (tgt := 17) hx hb d_Model_drop_10 (by decide) (fun hc10 => ?_) (fun hc10 => ?_)
    · have hf := ip hc10 hf
      refine lv_iconst (v := 0) hx hb d_Model_drop_17 (by decide) ?_
      exact w_Model_drop_b18 l D cI cL h h_kind h_b h_difference h_a h_newKind h_newB h_newDifference h_newA h_log h_packed C st x1 false res hf _ _ _ hH (lv_sub hl [0, 1] rfl)
    · have hf := im hc10 hf
      exact w_Model_drop_b13 l D cI cL h h_kind h_b h_difference h_a h_newKind h_newB h_newDifference h_newA h_log h_packed C st x1 res hf _ _ _ hH (lv_sub hl [0, 1] rfl)
def f_Model_put (st : S_Model) (x1 : Int32) : Option (S_Model) :=
  if st.2.2.2.2.1.2 < 0 ∨ 5000 ≤ st.2.2.2.2.1.2.toNatClampNeg then none else some ((st.1, st.2.1, st.2.2.1, st.2.2.2.1, (upd st.2.2.2.2.1.1 st.2.2.2.2.1.2.toNatClampNeg (x1 &&& 255), st.2.2.2.2.1.2 + 1), st.2.2.2.2.2.1, st.2.2.2.2.2.2.1, st.2.2.2.2.2.2.2))
set_option maxRecDepth 100000 in
set_option maxHeartbeats 4000000 in
theorem c_Model_put (l : Launch) (D : va_G) (cI cL : ClassId) (h h_kind h_b h_difference h_a h_newKind h_newB h_newDifference h_newA h_log h_packed : Nat) (st : S_Model) (x1 : Int32) (res : S_Model) (hf : f_Model_put st x1 = some res) :
    Fn l D vwCl [(cI, .int), (cL, .long)] y_Model_put ws_Model_put { frames := 0, cells := 0, slots := 0, locals := 0 } [.ref h, .int x1] [(h, .inr (6, [.int st.1, .int st.2.1.2.2.2.2, .ref h_kind, .ref h_b, .ref h_difference, .ref h_a, .int st.2.2.1.2.2.2.2, .ref h_newKind, .ref h_newB, .ref h_newDifference, .ref h_newA, .int st.2.2.2.1.2, .ref h_log, .ref h_packed, .int st.2.2.2.2.1.2, .int st.2.2.2.2.2.1.1, .int st.2.2.2.2.2.1.2.1, .int st.2.2.2.2.2.1.2.2.1, .int st.2.2.2.2.2.1.2.2.2, .int st.2.2.2.2.2.2.1, .int st.2.2.2.2.2.2.2])), (h_kind, .inl (cI, 300, .inl st.2.1.1)), (h_b, .inl (cI, 300, .inl st.2.1.2.2.2.1)), (h_difference, .inl (cL, 300, .inr (.inl st.2.1.2.1))), (h_a, .inl (cL, 300, .inr (.inl st.2.1.2.2.1))), (h_newKind, .inl (cI, 300, .inl st.2.2.1.1)), (h_newB, .inl (cI, 300, .inl st.2.2.1.2.2.2.1)), (h_newDifference, .inl (cL, 300, .inr (.inl st.2.2.1.2.1))), (h_newA, .inl (cL, 300, .inr (.inl st.2.2.1.2.2.1))), (h_log, .inl (cI, 5000, .inl st.2.2.2.1.1)), (h_packed, .inl (cI, 5000, .inl st.2.2.2.2.1.1))] (none) [(h, .inr (6, [.int res.1, .int res.2.1.2.2.2.2, .ref h_kind, .ref h_b, .ref h_difference, .ref h_a, .int res.2.2.1.2.2.2.2, .ref h_newKind, .ref h_newB, .ref h_newDifference, .ref h_newA, .int res.2.2.2.1.2, .ref h_log, .ref h_packed, .int res.2.2.2.2.1.2, .int res.2.2.2.2.2.1.1, .int res.2.2.2.2.2.1.2.1, .int res.2.2.2.2.2.1.2.2.1, .int res.2.2.2.2.2.1.2.2.2, .int res.2.2.2.2.2.2.1, .int res.2.2.2.2.2.2.2])), (h_kind, .inl (cI, 300, .inl res.2.1.1)), (h_b, .inl (cI, 300, .inl res.2.1.2.2.2.1)), (h_difference, .inl (cL, 300, .inr (.inl res.2.1.2.1))), (h_a, .inl (cL, 300, .inr (.inl res.2.1.2.2.1))), (h_newKind, .inl (cI, 300, .inl res.2.2.1.1)), (h_newB, .inl (cI, 300, .inl res.2.2.1.2.2.2.1)), (h_newDifference, .inl (cL, 300, .inr (.inl res.2.2.1.2.1))), (h_newA, .inl (cL, 300, .inr (.inl res.2.2.1.2.2.1))), (h_log, .inl (cI, 5000, .inl res.2.2.2.1.1)), (h_packed, .inl (cI, 5000, .inl res.2.2.2.2.1.1))] := by
  refine Fn.ofW (cc := b_Model_put) (maxL := 2) (ret := none) (by decide) rfl (Nat.le_of_ble_eq_true rfl) ?_
  intro p e s m below meth c A ls C hH hinit hl
  have hl : lv_has ls 2 [(0, .ref h), (1, .int x1)] := hl
  obtain ⟨hx, hb, hr, hml, hown, hts, hlk, hK, hA⟩ := id C
  unfold f_Model_put at hf
  refine lv_aload_n hx hb d_Model_put_0 rfl (lv_at hl 0 rfl) ?_
  refine gt (ci := 6) (v := .ref h_packed) C hH (iwT iw_Model) 0 rfl rfl 13 (by decide) (.tail _ wd_609) rfl d_Model_put_1 ?_
  refine lv_aload_n hx hb d_Model_put_4 rfl (lv_at hl 0 rfl) ?_
  refine gt (ci := 6) (v := .int st.2.2.2.2.1.2) C hH (iwT iw_Model) 0 rfl rfl 14 (by decide) (.tail _ wd_610) rfl d_Model_put_5 ?_
  refine lv_iload_n hx hb d_Model_put_8 rfl (lv_at hl 1 rfl) ?_
  refine lv_sipush (v := 255) hx hb d_Model_put_9 (by decide) ?_
  refine lv_iand hx hb d_Model_put_12 ?_
  obtain ⟨hin13, hf⟩ := oa hf
  refine asi C hH 10 0 rfl rfl (hin13) d_Model_put_13 [(h, .inr (6, [.int st.1, .int st.2.1.2.2.2.2, .ref h_kind, .ref h_b, .ref h_difference, .ref h_a, .int st.2.2.1.2.2.2.2, .ref h_newKind, .ref h_newB, .ref h_newDifference, .ref h_newA, .int st.2.2.2.1.2, .ref h_log, .ref h_packed, .int st.2.2.2.2.1.2, .int st.2.2.2.2.2.1.1, .int st.2.2.2.2.2.1.2.1, .int st.2.2.2.2.2.1.2.2.1, .int st.2.2.2.2.2.1.2.2.2, .int st.2.2.2.2.2.2.1, .int st.2.2.2.2.2.2.2])), (h_kind, .inl (cI, 300, .inl st.2.1.1)), (h_b, .inl (cI, 300, .inl st.2.1.2.2.2.1)), (h_difference, .inl (cL, 300, .inr (.inl st.2.1.2.1))), (h_a, .inl (cL, 300, .inr (.inl st.2.1.2.2.1))), (h_newKind, .inl (cI, 300, .inl st.2.2.1.1)), (h_newB, .inl (cI, 300, .inl st.2.2.1.2.2.2.1)), (h_newDifference, .inl (cL, 300, .inr (.inl st.2.2.1.2.1))), (h_newA, .inl (cL, 300, .inr (.inl st.2.2.1.2.2.1))), (h_log, .inl (cI, 5000, .inl st.2.2.2.1.1)), (h_packed, .inl (cI, 5000, .inl (upd st.2.2.2.2.1.1 st.2.2.2.2.1.2.toNatClampNeg (x1 &&& 255))))] rfl (fun H locs hH => ?_)
  refine lv_aload_n hx hb d_Model_put_14 rfl (lv_at hl 0 rfl) ?_
  refine lv_dup hx hb d_Model_put_15 rfl ?_
  refine gt (ci := 6) (v := .int st.2.2.2.2.1.2) C hH (iwT iw_Model) 0 rfl rfl 14 (by decide) (.tail _ wd_610) rfl d_Model_put_16 ?_
  refine lv_iconst (v := 1) hx hb d_Model_put_19 (by decide) ?_
  refine lv_iadd hx hb d_Model_put_20 ?_
  refine pt (ci := 6) (v := .int (st.2.2.2.2.1.2 + 1)) C hH (iwT iw_Model) ty_Model tyok_Model nm_Model 0 rfl rfl 14 (by decide) (.tail _ wd_610) rfl rfl rfl (Nat.le_of_ble_eq_true rfl) d_Model_put_21 [(h, .inr (6, [.int st.1, .int st.2.1.2.2.2.2, .ref h_kind, .ref h_b, .ref h_difference, .ref h_a, .int st.2.2.1.2.2.2.2, .ref h_newKind, .ref h_newB, .ref h_newDifference, .ref h_newA, .int st.2.2.2.1.2, .ref h_log, .ref h_packed, .int (st.2.2.2.2.1.2 + 1), .int st.2.2.2.2.2.1.1, .int st.2.2.2.2.2.1.2.1, .int st.2.2.2.2.2.1.2.2.1, .int st.2.2.2.2.2.1.2.2.2, .int st.2.2.2.2.2.2.1, .int st.2.2.2.2.2.2.2])), (h_kind, .inl (cI, 300, .inl st.2.1.1)), (h_b, .inl (cI, 300, .inl st.2.1.2.2.2.1)), (h_difference, .inl (cL, 300, .inr (.inl st.2.1.2.1))), (h_a, .inl (cL, 300, .inr (.inl st.2.1.2.2.1))), (h_newKind, .inl (cI, 300, .inl st.2.2.1.1)), (h_newB, .inl (cI, 300, .inl st.2.2.1.2.2.2.1)), (h_newDifference, .inl (cL, 300, .inr (.inl st.2.2.1.2.1))), (h_newA, .inl (cL, 300, .inr (.inl st.2.2.1.2.2.1))), (h_log, .inl (cI, 5000, .inl st.2.2.2.1.1)), (h_packed, .inl (cI, 5000, .inl (upd st.2.2.2.2.1.1 st.2.2.2.2.1.2.toNatClampNeg (x1 &&& 255))))] rfl (fun H locs hH => ?_)
  have hf := Option.some.inj hf
  subst hf
  exact rV C hH d_Model_put_24
def f_Model_varint_b2 : Nat → S_Model → Int64 → Option (S_Model)
  | 0, _, _ => none
  | n + 1, st, x3 =>
  if (lg_cmp x3 127) ≤ 0 then ((f_Model_put st x3.toInt32).bind (fun r35 => some r35)) else ((f_Model_put st (((x3 &&& 127).toInt32) ||| 128)).bind (fun r21 => f_Model_varint_b2 n r21 (x3 >>> ((7 : Int32).toInt64 &&& 63))))
set_option maxRecDepth 100000 in
set_option maxHeartbeats 4000000 in
theorem w_Model_varint_b2 (l : Launch) (D : va_G) (cI cL : ClassId) (h h_kind h_b h_difference h_a h_newKind h_newB h_newDifference h_newA h_log h_packed : Nat) {p : Program} {e : Env} {s : State} {m : MethodId} {args : Array Value} {below : List Frame} {meth : Method} {c : Code} {A : Nat → Prop} (C : Cx p s m args meth c D vwCl [(cI, .int), (cL, .long)] A b_Model_varint 5 none ws_Model_varint y_Model_varint.cls) : ∀ (n : Nat) (st : S_Model) (x3 : Int64) (res : S_Model), f_Model_varint_b2 n st x3 = some res → ∀ (H : Heap) (locs : List Loc) (ls : Array Slot), Hp D vwCl A A s.heap H locs [(h, .inr (6, [.int st.1, .int st.2.1.2.2.2.2, .ref h_kind, .ref h_b, .ref h_difference, .ref h_a, .int st.2.2.1.2.2.2.2, .ref h_newKind, .ref h_newB, .ref h_newDifference, .ref h_newA, .int st.2.2.2.1.2, .ref h_log, .ref h_packed, .int st.2.2.2.2.1.2, .int st.2.2.2.2.2.1.1, .int st.2.2.2.2.2.1.2.1, .int st.2.2.2.2.2.1.2.2.1, .int st.2.2.2.2.2.1.2.2.2, .int st.2.2.2.2.2.2.1, .int st.2.2.2.2.2.2.2])), (h_kind, .inl (cI, 300, .inl st.2.1.1)), (h_b, .inl (cI, 300, .inl st.2.1.2.2.2.1)), (h_difference, .inl (cL, 300, .inr (.inl st.2.1.2.1))), (h_a, .inl (cL, 300, .inr (.inl st.2.1.2.2.1))), (h_newKind, .inl (cI, 300, .inl st.2.2.1.1)), (h_newB, .inl (cI, 300, .inl st.2.2.1.2.2.2.1)), (h_newDifference, .inl (cL, 300, .inr (.inl st.2.2.1.2.1))), (h_newA, .inl (cL, 300, .inr (.inl st.2.2.1.2.2.1))), (h_log, .inl (cI, 5000, .inl st.2.2.2.1.1)), (h_packed, .inl (cI, 5000, .inl st.2.2.2.2.1.1))] → lv_has ls 5 [(0, .ref h), (3, .long x3)] → W p l e { frames := 1, cells := 0, slots := 0, locals := 21 } s m args below meth c H locs 0 0 (MQ below (Qw D vwCl [(cI, .int), (cL, .long)] (none) A [(h, .inr (6, [.int res.1, .int res.2.1.2.2.2.2, .ref h_kind, .ref h_b, .ref h_difference, .ref h_a, .int res.2.2.1.2.2.2.2, .ref h_newKind, .ref h_newB, .ref h_newDifference, .ref h_newA, .int res.2.2.2.1.2, .ref h_log, .ref h_packed, .int res.2.2.2.2.1.2, .int res.2.2.2.2.2.1.1, .int res.2.2.2.2.2.1.2.1, .int res.2.2.2.2.2.1.2.2.1, .int res.2.2.2.2.2.1.2.2.2, .int res.2.2.2.2.2.2.1, .int res.2.2.2.2.2.2.2])), (h_kind, .inl (cI, 300, .inl res.2.1.1)), (h_b, .inl (cI, 300, .inl res.2.1.2.2.2.1)), (h_difference, .inl (cL, 300, .inr (.inl res.2.1.2.1))), (h_a, .inl (cL, 300, .inr (.inl res.2.1.2.2.1))), (h_newKind, .inl (cI, 300, .inl res.2.2.1.1)), (h_newB, .inl (cI, 300, .inl res.2.2.1.2.2.2.1)), (h_newDifference, .inl (cL, 300, .inr (.inl res.2.2.1.2.1))), (h_newA, .inl (cL, 300, .inr (.inl res.2.2.1.2.2.1))), (h_log, .inl (cI, 5000, .inl res.2.2.2.1.1)), (h_packed, .inl (cI, 5000, .inl res.2.2.2.2.1.1))]) args s 0 0 A) (F0 m 2 ls []) := by
  obtain ⟨hx, hb, hr, hml, hown, hts, hlk, hK, hA⟩ := id C
  intro n
  induction n with
  | zero => intro st x3 res hf; cases hf
  | succ n ih =>
    intro st x3 res hf H locs ls hH hl
    rw [f_Model_varint_b2] at hf
    refine lv_lload_n hx hb d_Model_varint_2 rfl (lv_at hl 1 rfl) ?_
    refine lv_ldc2 (v := 127) hx hb hown (hts _ (.tail _ wd_702)) d_Model_varint_3 ?_
    refine W.lcmp hx hb d_Model_varint_6 ?_
    refine lv_if_le (tgt := 32) hx hb d_Model_varint_7 (by decide) (fun hc7 => ?_) (fun hc7 => ?_)
    · have hf := ip hc7 hf
      refine lv_aload_n hx hb d_Model_varint_32 rfl (lv_at hl 0 rfl) ?_
      refine lv_lload_n hx hb d_Model_varint_33 rfl (lv_at hl 1 rfl) ?_
      refine lv_l2i (v := x3.toInt32) hx hb d_Model_varint_34 rfl ?_
      obtain ⟨r35, hr35, hf⟩ := ob hf
      refine fnV (rest := []) (wr := []) (w2 := [(h, .inr (6, [.int r35.1, .int r35.2.1.2.2.2.2, .ref h_kind, .ref h_b, .ref h_difference, .ref h_a, .int r35.2.2.1.2.2.2.2, .ref h_newKind, .ref h_newB, .ref h_newDifference, .ref h_newA, .int r35.2.2.2.1.2, .ref h_log, .ref h_packed, .int r35.2.2.2.2.1.2, .int r35.2.2.2.2.2.1.1, .int r35.2.2.2.2.2.1.2.1, .int r35.2.2.2.2.2.1.2.2.1, .int r35.2.2.2.2.2.1.2.2.2, .int r35.2.2.2.2.2.2.1, .int r35.2.2.2.2.2.2.2])), (h_kind, .inl (cI, 300, .inl r35.2.1.1)), (h_b, .inl (cI, 300, .inl r35.2.1.2.2.2.1)), (h_difference, .inl (cL, 300, .inr (.inl r35.2.1.2.1))), (h_a, .inl (cL, 300, .inr (.inl r35.2.1.2.2.1))), (h_newKind, .inl (cI, 300, .inl r35.2.2.1.1)), (h_newB, .inl (cI, 300, .inl r35.2.2.1.2.2.2.1)), (h_newDifference, .inl (cL, 300, .inr (.inl r35.2.2.1.2.1))), (h_newA, .inl (cL, 300, .inr (.inl r35.2.2.1.2.2.1))), (h_log, .inl (cI, 5000, .inl r35.2.2.2.1.1)), (h_packed, .inl (cI, 5000, .inl r35.2.2.2.2.1.1))]) (st2 := []) C (c_Model_put l D cI cL h h_kind h_b h_difference h_a h_newKind h_newB h_newDifference h_newA h_log h_packed st x3.toInt32 r35 hr35) (cV hts kV_Model_put wd_703 ⟨Nat.le_of_ble_eq_true rfl, Nat.le_of_ble_eq_true rfl⟩) hH [0, 1, 2, 3, 4, 5, 6, 7, 8, 9, 10] [] [0, 1, 2, 3, 4, 5, 6, 7, 8, 9, 10] rfl rfl rfl rfl (by decide) rfl rfl 0 rfl rfl rfl hl.1 rfl (Nat.le_of_ble_eq_true rfl) d_Model_varint_35 ⟨Nat.le_of_ble_eq_true rfl, Nat.le_of_ble_eq_true rfl⟩ rfl (fun H locs hH => ?_)
      have hf := Option.some.inj hf
      subst hf
      exact rV C hH d_Model_varint_38
    · have hf := im hc7 hf
      refine lv_aload_n hx hb d_Model_varint_10 rfl (lv_at hl 0 rfl) ?_
      refine lv_lload_n hx hb d_Model_varint_11 rfl (lv_at hl 1 rfl) ?_
      refine lv_ldc2 (v := 127) hx hb hown (hts _ (.tail _ wd_702)) d_Model_varint_12 ?_
      refine lv_land hx hb d_Model_varint_15 ?_
      refine lv_l2i (v := (x3 &&& 127).toInt32) hx hb d_Model_varint_16 rfl ?_
      refine lv_sipush (v := 128) hx hb d_Model_varint_17 (by decide) ?_
      refine lv_ior hx hb d_Model_varint_20 ?_
      obtain ⟨r21, hr21, hf⟩ := ob hf
      refine fnV (rest := []) (wr := []) (w2 := [(h, .inr (6, [.int r21.1, .int r21.2.1.2.2.2.2, .ref h_kind, .ref h_b, .ref h_difference, .ref h_a, .int r21.2.2.1.2.2.2.2, .ref h_newKind, .ref h_newB, .ref h_newDifference, .ref h_newA, .int r21.2.2.2.1.2, .ref h_log, .ref h_packed, .int r21.2.2.2.2.1.2, .int r21.2.2.2.2.2.1.1, .int r21.2.2.2.2.2.1.2.1, .int r21.2.2.2.2.2.1.2.2.1, .int r21.2.2.2.2.2.1.2.2.2, .int r21.2.2.2.2.2.2.1, .int r21.2.2.2.2.2.2.2])), (h_kind, .inl (cI, 300, .inl r21.2.1.1)), (h_b, .inl (cI, 300, .inl r21.2.1.2.2.2.1)), (h_difference, .inl (cL, 300, .inr (.inl r21.2.1.2.1))), (h_a, .inl (cL, 300, .inr (.inl r21.2.1.2.2.1))), (h_newKind, .inl (cI, 300, .inl r21.2.2.1.1)), (h_newB, .inl (cI, 300, .inl r21.2.2.1.2.2.2.1)), (h_newDifference, .inl (cL, 300, .inr (.inl r21.2.2.1.2.1))), (h_newA, .inl (cL, 300, .inr (.inl r21.2.2.1.2.2.1))), (h_log, .inl (cI, 5000, .inl r21.2.2.2.1.1)), (h_packed, .inl (cI, 5000, .inl r21.2.2.2.2.1.1))]) (st2 := []) C (c_Model_put l D cI cL h h_kind h_b h_difference h_a h_newKind h_newB h_newDifference h_newA h_log h_packed st (((x3 &&& 127).toInt32) ||| 128) r21 hr21) (cV hts kV_Model_put wd_703 ⟨Nat.le_of_ble_eq_true rfl, Nat.le_of_ble_eq_true rfl⟩) hH [0, 1, 2, 3, 4, 5, 6, 7, 8, 9, 10] [] [0, 1, 2, 3, 4, 5, 6, 7, 8, 9, 10] rfl rfl rfl rfl (by decide) rfl rfl 0 rfl rfl rfl hl.1 rfl (Nat.le_of_ble_eq_true rfl) d_Model_varint_21 ⟨Nat.le_of_ble_eq_true rfl, Nat.le_of_ble_eq_true rfl⟩ rfl (fun H locs hH => ?_)
      refine lv_lload_n hx hb d_Model_varint_24 rfl (lv_at hl 1 rfl) ?_
      refine lv_bipush (v := 7) hx hb d_Model_varint_25 (by decide) ?_
      refine lv_lshr (v := x3 >>> ((7 : Int32).toInt64 &&& 63)) hx hb d_Model_varint_27 rfl ?_
      refine lv_lstore_n (lv' := [(3, .long (x3 >>> ((7 : Int32).toInt64 &&& 63))), (0, .ref h)]) hx hb d_Model_varint_28 rfl hl (by decide) rfl (fun ls hl => ?_)
      refine lv_goto (tgt := 2) hx hb d_Model_varint_29 (by decide) ?_
      exact ih r21 (x3 >>> ((7 : Int32).toInt64 &&& 63)) res hf _ _ _ hH (lv_sub hl [1, 0] rfl)
def f_Model_varint (st : S_Model) (x1 : Int64) : Option (S_Model) :=
  f_Model_varint_b2 400 st x1
set_option maxRecDepth 100000 in
set_option maxHeartbeats 4000000 in
theorem c_Model_varint (l : Launch) (D : va_G) (cI cL : ClassId) (h h_kind h_b h_difference h_a h_newKind h_newB h_newDifference h_newA h_log h_packed : Nat) (st : S_Model) (x1 : Int64) (res : S_Model) (hf : f_Model_varint st x1 = some res) :
    Fn l D vwCl [(cI, .int), (cL, .long)] y_Model_varint ws_Model_varint { frames := 1, cells := 0, slots := 0, locals := 21 } [.ref h, .long x1] [(h, .inr (6, [.int st.1, .int st.2.1.2.2.2.2, .ref h_kind, .ref h_b, .ref h_difference, .ref h_a, .int st.2.2.1.2.2.2.2, .ref h_newKind, .ref h_newB, .ref h_newDifference, .ref h_newA, .int st.2.2.2.1.2, .ref h_log, .ref h_packed, .int st.2.2.2.2.1.2, .int st.2.2.2.2.2.1.1, .int st.2.2.2.2.2.1.2.1, .int st.2.2.2.2.2.1.2.2.1, .int st.2.2.2.2.2.1.2.2.2, .int st.2.2.2.2.2.2.1, .int st.2.2.2.2.2.2.2])), (h_kind, .inl (cI, 300, .inl st.2.1.1)), (h_b, .inl (cI, 300, .inl st.2.1.2.2.2.1)), (h_difference, .inl (cL, 300, .inr (.inl st.2.1.2.1))), (h_a, .inl (cL, 300, .inr (.inl st.2.1.2.2.1))), (h_newKind, .inl (cI, 300, .inl st.2.2.1.1)), (h_newB, .inl (cI, 300, .inl st.2.2.1.2.2.2.1)), (h_newDifference, .inl (cL, 300, .inr (.inl st.2.2.1.2.1))), (h_newA, .inl (cL, 300, .inr (.inl st.2.2.1.2.2.1))), (h_log, .inl (cI, 5000, .inl st.2.2.2.1.1)), (h_packed, .inl (cI, 5000, .inl st.2.2.2.2.1.1))] (none) [(h, .inr (6, [.int res.1, .int res.2.1.2.2.2.2, .ref h_kind, .ref h_b, .ref h_difference, .ref h_a, .int res.2.2.1.2.2.2.2, .ref h_newKind, .ref h_newB, .ref h_newDifference, .ref h_newA, .int res.2.2.2.1.2, .ref h_log, .ref h_packed, .int res.2.2.2.2.1.2, .int res.2.2.2.2.2.1.1, .int res.2.2.2.2.2.1.2.1, .int res.2.2.2.2.2.1.2.2.1, .int res.2.2.2.2.2.1.2.2.2, .int res.2.2.2.2.2.2.1, .int res.2.2.2.2.2.2.2])), (h_kind, .inl (cI, 300, .inl res.2.1.1)), (h_b, .inl (cI, 300, .inl res.2.1.2.2.2.1)), (h_difference, .inl (cL, 300, .inr (.inl res.2.1.2.1))), (h_a, .inl (cL, 300, .inr (.inl res.2.1.2.2.1))), (h_newKind, .inl (cI, 300, .inl res.2.2.1.1)), (h_newB, .inl (cI, 300, .inl res.2.2.1.2.2.2.1)), (h_newDifference, .inl (cL, 300, .inr (.inl res.2.2.1.2.1))), (h_newA, .inl (cL, 300, .inr (.inl res.2.2.1.2.2.1))), (h_log, .inl (cI, 5000, .inl res.2.2.2.1.1)), (h_packed, .inl (cI, 5000, .inl res.2.2.2.2.1.1))] := by
  refine Fn.ofW (cc := b_Model_varint) (maxL := 5) (ret := none) (by decide) rfl (Nat.le_of_ble_eq_true rfl) ?_
  intro p e s m below meth c A ls C hH hinit hl
  have hl : lv_has ls 5 [(0, .ref h), (1, .long x1)] := hl
  obtain ⟨hx, hb, hr, hml, hown, hts, hlk, hK, hA⟩ := id C
  unfold f_Model_varint at hf
  refine lv_lload_n hx hb d_Model_varint_0 rfl (lv_at hl 1 rfl) ?_
  refine lv_lstore_n (lv' := [(3, .long x1), (0, .ref h), (1, .long x1)]) hx hb d_Model_varint_1 rfl hl (by decide) rfl (fun ls hl => ?_)
  exact w_Model_varint_b2 l D cI cL h h_kind h_b h_difference h_a h_newKind h_newB h_newDifference h_newA h_log h_packed C 400 st x1 res hf _ _ _ hH (lv_sub hl [1, 0] rfl)
def f_Model_bringsSame (st : S_Model) (x1 : Int32) (x2 : Int32) : Option (Bool) :=
  if x1 < 0 ∨ 300 ≤ x1.toNatClampNeg then none else if x2 < 0 ∨ 300 ≤ x2.toNatClampNeg then none else if (st.2.1.1 x1.toNatClampNeg) = (st.2.1.1 x2.toNatClampNeg) then (if x1 < 0 ∨ 300 ≤ x1.toNatClampNeg then none else if x2 < 0 ∨ 300 ≤ x2.toNatClampNeg then none else if (lg_cmp (st.2.1.2.2.1 x1.toNatClampNeg) (st.2.1.2.2.1 x2.toNatClampNeg)) = 0 then (if x1 < 0 ∨ 300 ≤ x1.toNatClampNeg then none else if x2 < 0 ∨ 300 ≤ x2.toNatClampNeg then none else if (st.2.1.2.2.2.1 x1.toNatClampNeg) = (st.2.1.2.2.2.1 x2.toNatClampNeg) then (some true) else (some false)) else (some false)) else (some false)
set_option maxRecDepth 100000 in
set_option maxHeartbeats 4000000 in
theorem c_Model_bringsSame (l : Launch) (D : va_G) (cI cL : ClassId) (h h_kind h_b h_difference h_a h_newKind h_newB h_newDifference h_newA h_log h_packed : Nat) (st : S_Model) (x1 : Int32) (x2 : Int32) (res : Bool) (hf : f_Model_bringsSame st x1 x2 = some res) :
    FnR l D vwCl [(cI, .int), (cL, .long)] y_Model_bringsSame ws_Model_bringsSame { frames := 0, cells := 0, slots := 0, locals := 0 } [.ref h, .int x1, .int x2] [(h, .inr (6, [.int st.1, .int st.2.1.2.2.2.2, .ref h_kind, .ref h_b, .ref h_difference, .ref h_a, .int st.2.2.1.2.2.2.2, .ref h_newKind, .ref h_newB, .ref h_newDifference, .ref h_newA, .int st.2.2.2.1.2, .ref h_log, .ref h_packed, .int st.2.2.2.2.1.2, .int st.2.2.2.2.2.1.1, .int st.2.2.2.2.2.1.2.1, .int st.2.2.2.2.2.1.2.2.1, .int st.2.2.2.2.2.1.2.2.2, .int st.2.2.2.2.2.2.1, .int st.2.2.2.2.2.2.2])), (h_kind, .inl (cI, 300, .inl st.2.1.1)), (h_b, .inl (cI, 300, .inl st.2.1.2.2.2.1)), (h_difference, .inl (cL, 300, .inr (.inl st.2.1.2.1))), (h_a, .inl (cL, 300, .inr (.inl st.2.1.2.2.1))), (h_newKind, .inl (cI, 300, .inl st.2.2.1.1)), (h_newB, .inl (cI, 300, .inl st.2.2.1.2.2.2.1)), (h_newDifference, .inl (cL, 300, .inr (.inl st.2.2.1.2.1))), (h_newA, .inl (cL, 300, .inr (.inl st.2.2.1.2.2.1))), (h_log, .inl (cI, 5000, .inl st.2.2.2.1.1)), (h_packed, .inl (cI, 5000, .inl st.2.2.2.2.1.1))] (some (.int (bI res))) := by
  refine FnR.ofW (cc := b_Model_bringsSame) (maxL := 3) (ret := (some .boolean)) (by decide) rfl (Nat.le_of_ble_eq_true rfl) ?_
  intro p e s m below meth c A ls C hH hl
  have hl : lv_has ls 3 [(0, .ref h), (1, .int x1), (2, .int x2)] := hl
  obtain ⟨hx, hb, hr, hml, hown, hts, hlk, hK, hA⟩ := id C
  unfold f_Model_bringsSame at hf
  refine lv_aload_n hx hb d_Model_bringsSame_0 rfl (lv_at hl 0 rfl) ?_
  refine gt (ci := 6) (v := .ref h_kind) C hH (iwT iw_Model) 0 rfl rfl 2 (by decide) (.tail _ wd_598) rfl d_Model_bringsSame_1 ?_
  refine lv_iload_n hx hb d_Model_bringsSame_4 rfl (lv_at hl 1 rfl) ?_
  obtain ⟨hin5, hf⟩ := oa hf
  refine ali C hH 1 0 rfl rfl (hin5) d_Model_bringsSame_5 ?_
  refine lv_aload_n hx hb d_Model_bringsSame_6 rfl (lv_at hl 0 rfl) ?_
  refine gt (ci := 6) (v := .ref h_kind) C hH (iwT iw_Model) 0 rfl rfl 2 (by decide) (.tail _ wd_598) rfl d_Model_bringsSame_7 ?_
  refine lv_iload_n hx hb d_Model_bringsSame_10 rfl (lv_at hl 2 rfl) ?_
  obtain ⟨hin11, hf⟩ := oa hf
  refine ali C hH 1 0 rfl rfl (hin11) d_Model_bringsSame_11 ?_
  refine lv_icmp_ne (tgt := 50) hx hb d_Model_bringsSame_12 (by decide) (fun hc12 => ?_) (fun hc12 => ?_)
  · have hf := im hc12 hf
    refine lv_iconst (v := 0) hx hb d_Model_bringsSame_50 (by decide) ?_
    have hf := Option.some.inj hf
    subst hf
    exact rZR (v := false) C hH d_Model_bringsSame_51
  · have hf := ip hc12 hf
    refine lv_aload_n hx hb d_Model_bringsSame_15 rfl (lv_at hl 0 rfl) ?_
    refine gt (ci := 6) (v := .ref h_a) C hH (iwT iw_Model) 0 rfl rfl 5 (by decide) (.tail _ wd_601) rfl d_Model_bringsSame_16 ?_
    refine lv_iload_n hx hb d_Model_bringsSame_19 rfl (lv_at hl 1 rfl) ?_
    obtain ⟨hin20, hf⟩ := oa hf
    refine all_ C hH 4 1 rfl rfl (hin20) d_Model_bringsSame_20 ?_
    refine lv_aload_n hx hb d_Model_bringsSame_21 rfl (lv_at hl 0 rfl) ?_
    refine gt (ci := 6) (v := .ref h_a) C hH (iwT iw_Model) 0 rfl rfl 5 (by decide) (.tail _ wd_601) rfl d_Model_bringsSame_22 ?_
    refine lv_iload_n hx hb d_Model_bringsSame_25 rfl (lv_at hl 2 rfl) ?_
    obtain ⟨hin26, hf⟩ := oa hf
    refine all_ C hH 4 1 rfl rfl (hin26) d_Model_bringsSame_26 ?_
    refine W.lcmp hx hb d_Model_bringsSame_27 ?_
    refine lv_if_ne (tgt := 50) hx hb d_Model_bringsSame_28 (by decide) (fun hc28 => ?_) (fun hc28 => ?_)
    · have hf := im hc28 hf
      refine lv_iconst (v := 0) hx hb d_Model_bringsSame_50 (by decide) ?_
      have hf := Option.some.inj hf
      subst hf
      exact rZR (v := false) C hH d_Model_bringsSame_51
    · have hf := ip hc28 hf
      refine lv_aload_n hx hb d_Model_bringsSame_31 rfl (lv_at hl 0 rfl) ?_
      refine gt (ci := 6) (v := .ref h_b) C hH (iwT iw_Model) 0 rfl rfl 3 (by decide) (.tail _ wd_599) rfl d_Model_bringsSame_32 ?_
      refine lv_iload_n hx hb d_Model_bringsSame_35 rfl (lv_at hl 1 rfl) ?_
      obtain ⟨hin36, hf⟩ := oa hf
      refine ali C hH 2 0 rfl rfl (hin36) d_Model_bringsSame_36 ?_
      refine lv_aload_n hx hb d_Model_bringsSame_37 rfl (lv_at hl 0 rfl) ?_
      refine gt (ci := 6) (v := .ref h_b) C hH (iwT iw_Model) 0 rfl rfl 3 (by decide) (.tail _ wd_599) rfl d_Model_bringsSame_38 ?_
      refine lv_iload_n hx hb d_Model_bringsSame_41 rfl (lv_at hl 2 rfl) ?_
      obtain ⟨hin42, hf⟩ := oa hf
      refine ali C hH 2 0 rfl rfl (hin42) d_Model_bringsSame_42 ?_
      refine lv_icmp_ne (tgt := 50) hx hb d_Model_bringsSame_43 (by decide) (fun hc43 => ?_) (fun hc43 => ?_)
      · have hf := im hc43 hf
        refine lv_iconst (v := 0) hx hb d_Model_bringsSame_50 (by decide) ?_
        have hf := Option.some.inj hf
        subst hf
        exact rZR (v := false) C hH d_Model_bringsSame_51
      · have hf := ip hc43 hf
        refine lv_iconst (v := 1) hx hb d_Model_bringsSame_46 (by decide) ?_
        refine lv_goto (tgt := 51) hx hb d_Model_bringsSame_47 (by decide) ?_
        have hf := Option.some.inj hf
        subst hf
        exact rZR (v := true) C hH d_Model_bringsSame_51
def f_Model_isAlike (st : S_Model) (x1 : Int32) : Option (Bool) :=
  if x1 ≤ 0 then (some false) else (if x1 < 0 ∨ 300 ≤ x1.toNatClampNeg then none else if (x1 - 1) < 0 ∨ 300 ≤ (x1 - 1).toNatClampNeg then none else if (lg_cmp (st.2.1.2.1 x1.toNatClampNeg) (st.2.1.2.1 (x1 - 1).toNatClampNeg)) = 0 then ((f_Model_bringsSame st x1 (x1 - 1)).bind (fun r27 => if (bI r27) = 0 then (some false) else (some true))) else (some false))
set_option maxRecDepth 100000 in
set_option maxHeartbeats 4000000 in
theorem c_Model_isAlike (l : Launch) (D : va_G) (cI cL : ClassId) (h h_kind h_b h_difference h_a h_newKind h_newB h_newDifference h_newA h_log h_packed : Nat) (st : S_Model) (x1 : Int32) (res : Bool) (hf : f_Model_isAlike st x1 = some res) :
    FnR l D vwCl [(cI, .int), (cL, .long)] y_Model_isAlike ws_Model_isAlike { frames := 1, cells := 0, slots := 0, locals := 22 } [.ref h, .int x1] [(h, .inr (6, [.int st.1, .int st.2.1.2.2.2.2, .ref h_kind, .ref h_b, .ref h_difference, .ref h_a, .int st.2.2.1.2.2.2.2, .ref h_newKind, .ref h_newB, .ref h_newDifference, .ref h_newA, .int st.2.2.2.1.2, .ref h_log, .ref h_packed, .int st.2.2.2.2.1.2, .int st.2.2.2.2.2.1.1, .int st.2.2.2.2.2.1.2.1, .int st.2.2.2.2.2.1.2.2.1, .int st.2.2.2.2.2.1.2.2.2, .int st.2.2.2.2.2.2.1, .int st.2.2.2.2.2.2.2])), (h_kind, .inl (cI, 300, .inl st.2.1.1)), (h_b, .inl (cI, 300, .inl st.2.1.2.2.2.1)), (h_difference, .inl (cL, 300, .inr (.inl st.2.1.2.1))), (h_a, .inl (cL, 300, .inr (.inl st.2.1.2.2.1))), (h_newKind, .inl (cI, 300, .inl st.2.2.1.1)), (h_newB, .inl (cI, 300, .inl st.2.2.1.2.2.2.1)), (h_newDifference, .inl (cL, 300, .inr (.inl st.2.2.1.2.1))), (h_newA, .inl (cL, 300, .inr (.inl st.2.2.1.2.2.1))), (h_log, .inl (cI, 5000, .inl st.2.2.2.1.1)), (h_packed, .inl (cI, 5000, .inl st.2.2.2.2.1.1))] (some (.int (bI res))) := by
  refine FnR.ofW (cc := b_Model_isAlike) (maxL := 2) (ret := (some .boolean)) (by decide) rfl (Nat.le_of_ble_eq_true rfl) ?_
  intro p e s m below meth c A ls C hH hl
  have hl : lv_has ls 2 [(0, .ref h), (1, .int x1)] := hl
  obtain ⟨hx, hb, hr, hml, hown, hts, hlk, hK, hA⟩ := id C
  unfold f_Model_isAlike at hf
  refine lv_iload_n hx hb d_Model_isAlike_0 rfl (lv_at hl 1 rfl) ?_
  refine lv_if_le (tgt := 37) hx hb d_Model_isAlike_1 (by decide) (fun hc1 => ?_) (fun hc1 => ?_)
  · have hf := ip hc1 hf
    refine lv_iconst (v := 0) hx hb d_Model_isAlike_37 (by decide) ?_
    have hf := Option.some.inj hf
    subst hf
    exact rZR (v := false) C hH d_Model_isAlike_38
  · have hf := im hc1 hf
    refine lv_aload_n hx hb d_Model_isAlike_4 rfl (lv_at hl 0 rfl) ?_
    refine gt (ci := 6) (v := .ref h_difference) C hH (iwT iw_Model) 0 rfl rfl 4 (by decide) (.tail _ wd_600) rfl d_Model_isAlike_5 ?_
    refine lv_iload_n hx hb d_Model_isAlike_8 rfl (lv_at hl 1 rfl) ?_
    obtain ⟨hin9, hf⟩ := oa hf
    refine all_ C hH 3 1 rfl rfl (hin9) d_Model_isAlike_9 ?_
    refine lv_aload_n hx hb d_Model_isAlike_10 rfl (lv_at hl 0 rfl) ?_
    refine gt (ci := 6) (v := .ref h_difference) C hH (iwT iw_Model) 0 rfl rfl 4 (by decide) (.tail _ wd_600) rfl d_Model_isAlike_11 ?_
    refine lv_iload_n hx hb d_Model_isAlike_14 rfl (lv_at hl 1 rfl) ?_
    refine lv_iconst (v := 1) hx hb d_Model_isAlike_15 (by decide) ?_
    refine lv_isub hx hb d_Model_isAlike_16 ?_
    obtain ⟨hin17, hf⟩ := oa hf
    refine all_ C hH 3 1 rfl rfl (hin17) d_Model_isAlike_17 ?_
    refine W.lcmp hx hb d_Model_isAlike_18 ?_
    refine lv_if_ne (tgt := 37) hx hb d_Model_isAlike_19 (by decide) (fun hc19 => ?_) (fun hc19 => ?_)
    · have hf := im hc19 hf
      refine lv_iconst (v := 0) hx hb d_Model_isAlike_37 (by decide) ?_
      have hf := Option.some.inj hf
      subst hf
      exact rZR (v := false) C hH d_Model_isAlike_38
    · have hf := ip hc19 hf
      refine lv_aload_n hx hb d_Model_isAlike_22 rfl (lv_at hl 0 rfl) ?_
      refine lv_iload_n hx hb d_Model_isAlike_23 rfl (lv_at hl 1 rfl) ?_
      refine lv_iload_n hx hb d_Model_isAlike_24 rfl (lv_at hl 1 rfl) ?_
      refine lv_iconst (v := 1) hx hb d_Model_isAlike_25 (by decide) ?_
      refine lv_isub hx hb d_Model_isAlike_26 ?_
      obtain ⟨r27, hr27, hf⟩ := ob hf
      refine fnVR (rest := []) (st2 := [.int (bI r27)]) C (c_Model_bringsSame l D cI cL h h_kind h_b h_difference h_a h_newKind h_newB h_newDifference h_newA h_log h_packed st x1 (x1 - 1) r27 hr27) (cV hts kV_Model_bringsSame wd_711 ⟨Nat.le_of_ble_eq_true rfl, Nat.le_of_ble_eq_true rfl⟩) hH [0, 1, 2, 3, 4, 5, 6, 7, 8, 9, 10] rfl rfl 0 rfl rfl rfl hl.1 rfl (Nat.le_of_ble_eq_true rfl) d_Model_isAlike_27 ⟨Nat.le_of_ble_eq_true rfl, Nat.le_of_ble_eq_true rfl⟩ rfl (fun H locs hH => ?_)
      refine lv_if_eq (tgt := 37) hx hb d_Model_isAlike_30 (by decide) (fun hc30 => ?_) (fun hc30 => ?_)
      · have hf := ip hc30 hf
        refine lv_iconst (v := 0) hx hb d_Model_isAlike_37 (by decide) ?_
        have hf := Option.some.inj hf
        subst hf
        exact rZR (v := false) C hH d_Model_isAlike_38
      · have hf := im hc30 hf
        refine lv_iconst (v := 1) hx hb d_Model_isAlike_33 (by decide) ?_
        refine lv_goto (tgt := 38) hx hb d_Model_isAlike_34 (by decide) ?_
        have hf := Option.some.inj hf
        subst hf
        exact rZR (v := true) C hH d_Model_isAlike_38
def f_Model_copyOf_b6 : Nat → S_Model → Int32 → Int32 → Int32 → Option (Int32)
  | 0, _, _, _, _ => none
  | n + 1, st, x1, x2, x3 =>
  if x3 < 0 then (some 0) else (if (20 : Int32) ≤ x2 then (some 0) else (if x1 < 0 ∨ 300 ≤ x1.toNatClampNeg then none else if (st.2.1.2.2.2.1 x1.toNatClampNeg) ≤ (1 : Int32) then (some 0) else (if x3 < 0 ∨ 300 ≤ x3.toNatClampNeg then none else if (st.2.1.1 x3.toNatClampNeg) = (1 : Int32) then ((f_Model_bringsSame st x1 x3).bind (fun r45 => if (bI r45) = 0 then (f_Model_copyOf_b6 n st x1 (x2 + 1) (x3 + (-1))) else (some (x2 + 1)))) else (f_Model_copyOf_b6 n st x1 x2 (x3 + (-1))))))
set_option maxRecDepth 100000 in
set_option maxHeartbeats 4000000 in
theorem w_Model_copyOf_b6 (l : Launch) (D : va_G) (cI cL : ClassId) (h h_kind h_b h_difference h_a h_newKind h_newB h_newDifference h_newA h_log h_packed : Nat) {p : Program} {e : Env} {s : State} {m : MethodId} {args : Array Value} {below : List Frame} {meth : Method} {c : Code} {A : Nat → Prop} (C : Cx p s m args meth c D vwCl [(cI, .int), (cL, .long)] A b_Model_copyOf 4 (some .int) ws_Model_copyOf y_Model_copyOf.cls) : ∀ (n : Nat) (st : S_Model) (x1 : Int32) (x2 : Int32) (x3 : Int32) (res : Int32), f_Model_copyOf_b6 n st x1 x2 x3 = some res → ∀ (H : Heap) (locs : List Loc) (ls : Array Slot), Hp D vwCl (fun _ => True) A s.heap H locs [(h, .inr (6, [.int st.1, .int st.2.1.2.2.2.2, .ref h_kind, .ref h_b, .ref h_difference, .ref h_a, .int st.2.2.1.2.2.2.2, .ref h_newKind, .ref h_newB, .ref h_newDifference, .ref h_newA, .int st.2.2.2.1.2, .ref h_log, .ref h_packed, .int st.2.2.2.2.1.2, .int st.2.2.2.2.2.1.1, .int st.2.2.2.2.2.1.2.1, .int st.2.2.2.2.2.1.2.2.1, .int st.2.2.2.2.2.1.2.2.2, .int st.2.2.2.2.2.2.1, .int st.2.2.2.2.2.2.2])), (h_kind, .inl (cI, 300, .inl st.2.1.1)), (h_b, .inl (cI, 300, .inl st.2.1.2.2.2.1)), (h_difference, .inl (cL, 300, .inr (.inl st.2.1.2.1))), (h_a, .inl (cL, 300, .inr (.inl st.2.1.2.2.1))), (h_newKind, .inl (cI, 300, .inl st.2.2.1.1)), (h_newB, .inl (cI, 300, .inl st.2.2.1.2.2.2.1)), (h_newDifference, .inl (cL, 300, .inr (.inl st.2.2.1.2.1))), (h_newA, .inl (cL, 300, .inr (.inl st.2.2.1.2.2.1))), (h_log, .inl (cI, 5000, .inl st.2.2.2.1.1)), (h_packed, .inl (cI, 5000, .inl st.2.2.2.2.1.1))] → lv_has ls 4 [(0, .ref h), (1, .int x1), (2, .int x2), (3, .int x3)] → W p l e { frames := 1, cells := 0, slots := 0, locals := 22 } s m args below meth c H locs 0 0 (MQ below (QR (some (.int res)) A) args s 0 0 A) (F0 m 6 ls []) := by
  obtain ⟨hx, hb, hr, hml, hown, hts, hlk, hK, hA⟩ := id C
  intro n
  induction n with
  | zero => intro st x1 x2 x3 res hf; cases hf
  | succ n ih =>
    intro st x1 x2 x3 res hf H locs ls hH hl
    rw [f_Model_copyOf_b6] at hf
    refine lv_iload_n hx hb d_Model_copyOf_6 rfl (lv_at hl 3 rfl) ?_
    refine lv_if_lt (tgt := 59) hx hb d_Model_copyOf_7 (by decide) (fun hc7 => ?_) (fun hc7 => ?_)
    · have hf := ip hc7 hf
      refine lv_iconst (v := 0) hx hb d_Model_copyOf_59 (by decide) ?_
      have hf := Option.some.inj hf
      subst hf
      exact rIR (v := 0) C hH d_Model_copyOf_60
    · have hf := im hc7 hf
      refine lv_iload_n hx hb d_Model_copyOf_10 rfl (lv_at hl 2 rfl) ?_
      refine lv_bipush (v := 20) hx hb d_Model_copyOf_11 (by decide) ?_
      refine lv_icmp_ge (tgt := 59) hx hb d_Model_copyOf_13 (by decide) (fun hc13 => ?_) (fun hc13 => ?_)
      · have hf := ip hc13 hf
        refine lv_iconst (v := 0) hx hb d_Model_copyOf_59 (by decide) ?_
        have hf := Option.some.inj hf
        subst hf
        exact rIR (v := 0) C hH d_Model_copyOf_60
      · have hf := im hc13 hf
        refine lv_aload_n hx hb d_Model_copyOf_16 rfl (lv_at hl 0 rfl) ?_
        refine gt (ci := 6) (v := .ref h_b) C hH (iwT iw_Model) 0 rfl rfl 3 (by decide) (.tail _ wd_599) rfl d_Model_copyOf_17 ?_
        refine lv_iload_n hx hb d_Model_copyOf_20 rfl (lv_at hl 1 rfl) ?_
        obtain ⟨hin21, hf⟩ := oa hf
        refine ali C hH 2 0 rfl rfl (hin21) d_Model_copyOf_21 ?_
        refine lv_iconst (v := 1) hx hb d_Model_copyOf_22 (by decide) ?_
        refine lv_icmp_le (tgt := 59) hx hb d_Model_copyOf_23 (by decide) (fun hc23 => ?_) (fun hc23 => ?_)
        · have hf := ip hc23 hf
          refine lv_iconst (v := 0) hx hb d_Model_copyOf_59 (by decide) ?_
          have hf := Option.some.inj hf
          subst hf
          exact rIR (v := 0) C hH d_Model_copyOf_60
        · have hf := im hc23 hf
          refine lv_aload_n hx hb d_Model_copyOf_26 rfl (lv_at hl 0 rfl) ?_
          refine gt (ci := 6) (v := .ref h_kind) C hH (iwT iw_Model) 0 rfl rfl 2 (by decide) (.tail _ wd_598) rfl d_Model_copyOf_27 ?_
          refine lv_iload_n hx hb d_Model_copyOf_30 rfl (lv_at hl 3 rfl) ?_
          obtain ⟨hin31, hf⟩ := oa hf
          refine ali C hH 1 0 rfl rfl (hin31) d_Model_copyOf_31 ?_
          refine lv_iconst (v := 1) hx hb d_Model_copyOf_32 (by decide) ?_
          refine lv_icmp_eq (tgt := 39) hx hb d_Model_copyOf_33 (by decide) (fun hc33 => ?_) (fun hc33 => ?_)
          · have hf := ip hc33 hf
            refine lv_iinc (v := x2 + 1) (lv' := [(2, .int (x2 + 1)), (0, .ref h), (1, .int x1), (3, .int x3)]) hx hb d_Model_copyOf_39 hl (k := 2) rfl rfl (by decide) rfl (fun ls hl => ?_)
            refine lv_aload_n hx hb d_Model_copyOf_42 rfl (lv_at hl 1 rfl) ?_
            refine lv_iload_n hx hb d_Model_copyOf_43 rfl (lv_at hl 2 rfl) ?_
            refine lv_iload_n hx hb d_Model_copyOf_44 rfl (lv_at hl 3 rfl) ?_
            obtain ⟨r45, hr45, hf⟩ := ob hf
            refine fnVR (rest := []) (st2 := [.int (bI r45)]) C (c_Model_bringsSame l D cI cL h h_kind h_b h_difference h_a h_newKind h_newB h_newDifference h_newA h_log h_packed st x1 x3 r45 hr45) (cV hts kV_Model_bringsSame wd_711 ⟨Nat.le_of_ble_eq_true rfl, Nat.le_of_ble_eq_true rfl⟩) hH [0, 1, 2, 3, 4, 5, 6, 7, 8, 9, 10] rfl rfl 0 rfl rfl rfl hl.1 rfl (Nat.le_of_ble_eq_true rfl) d_Model_copyOf_45 ⟨Nat.le_of_ble_eq_true rfl, Nat.le_of_ble_eq_true rfl⟩ rfl (fun H locs hH => ?_)
            refine lv_if_eq (tgt := 53) hx hb d_Model_copyOf_48 (by decide) (fun hc48 => ?_) (fun hc48 => ?_)
            · have hf := ip hc48 hf
              refine lv_iinc (v := x3 + (-1)) (lv' := [(3, .int (x3 + (-1))), (2, .int (x2 + 1)), (0, .ref h), (1, .int x1)]) hx hb d_Model_copyOf_53 hl (k := 3) rfl rfl (by decide) rfl (fun ls hl => ?_)
              refine lv_goto (tgt := 6) hx hb d_Model_copyOf_56 (by decide) ?_
              exact ih st x1 (x2 + 1) (x3 + (-1)) res hf _ _ _ hH (lv_sub hl [2, 3, 1, 0] rfl)
            · have hf := im hc48 hf
              refine lv_iload_n hx hb d_Model_copyOf_51 rfl (lv_at hl 0 rfl) ?_
              have hf := Option.some.inj hf
              subst hf
              exact rIR (v := x2 + 1) C hH d_Model_copyOf_52
          · have hf := im hc33 hf
            refine lv_goto (tgt := 53) hx hb d_Model_copyOf_36 (by decide) ?_
            refine lv_iinc (v := x3 + (-1)) (lv' := [(3, .int (x3 + (-1))), (0, .ref h), (1, .int x1), (2, .int x2)]) hx hb d_Model_copyOf_53 hl (k := 3) rfl rfl (by decide) rfl (fun ls hl => ?_)
            refine lv_goto (tgt := 6) hx hb d_Model_copyOf_56 (by decide) ?_
            exact ih st x1 x2 (x3 + (-1)) res hf _ _ _ hH (lv_sub hl [1, 2, 3, 0] rfl)
def f_Model_copyOf (st : S_Model) (x1 : Int32) : Option (Int32) :=
  f_Model_copyOf_b6 400 st x1 0 (x1 - 1)
set_option maxRecDepth 100000 in
set_option maxHeartbeats 4000000 in
theorem c_Model_copyOf (l : Launch) (D : va_G) (cI cL : ClassId) (h h_kind h_b h_difference h_a h_newKind h_newB h_newDifference h_newA h_log h_packed : Nat) (st : S_Model) (x1 : Int32) (res : Int32) (hf : f_Model_copyOf st x1 = some res) :
    FnR l D vwCl [(cI, .int), (cL, .long)] y_Model_copyOf ws_Model_copyOf { frames := 1, cells := 0, slots := 0, locals := 22 } [.ref h, .int x1] [(h, .inr (6, [.int st.1, .int st.2.1.2.2.2.2, .ref h_kind, .ref h_b, .ref h_difference, .ref h_a, .int st.2.2.1.2.2.2.2, .ref h_newKind, .ref h_newB, .ref h_newDifference, .ref h_newA, .int st.2.2.2.1.2, .ref h_log, .ref h_packed, .int st.2.2.2.2.1.2, .int st.2.2.2.2.2.1.1, .int st.2.2.2.2.2.1.2.1, .int st.2.2.2.2.2.1.2.2.1, .int st.2.2.2.2.2.1.2.2.2, .int st.2.2.2.2.2.2.1, .int st.2.2.2.2.2.2.2])), (h_kind, .inl (cI, 300, .inl st.2.1.1)), (h_b, .inl (cI, 300, .inl st.2.1.2.2.2.1)), (h_difference, .inl (cL, 300, .inr (.inl st.2.1.2.1))), (h_a, .inl (cL, 300, .inr (.inl st.2.1.2.2.1))), (h_newKind, .inl (cI, 300, .inl st.2.2.1.1)), (h_newB, .inl (cI, 300, .inl st.2.2.1.2.2.2.1)), (h_newDifference, .inl (cL, 300, .inr (.inl st.2.2.1.2.1))), (h_newA, .inl (cL, 300, .inr (.inl st.2.2.1.2.2.1))), (h_log, .inl (cI, 5000, .inl st.2.2.2.1.1)), (h_packed, .inl (cI, 5000, .inl st.2.2.2.2.1.1))] (some (.int res)) := by
  refine FnR.ofW (cc := b_Model_copyOf) (maxL := 4) (ret := (some .int)) (by decide) rfl (Nat.le_of_ble_eq_true rfl) ?_
  intro p e s m below meth c A ls C hH hl
  have hl : lv_has ls 4 [(0, .ref h), (1, .int x1)] := hl
  obtain ⟨hx, hb, hr, hml, hown, hts, hlk, hK, hA⟩ := id C
  unfold f_Model_copyOf at hf
  refine lv_iconst (v := 0) hx hb d_Model_copyOf_0 (by decide) ?_
  refine lv_istore_n (lv' := [(2, .int 0), (0, .ref h), (1, .int x1)]) hx hb d_Model_copyOf_1 rfl hl (by decide) rfl (fun ls hl => ?_)
  refine lv_iload_n hx hb d_Model_copyOf_2 rfl (lv_at hl 2 rfl) ?_
  refine lv_iconst (v := 1) hx hb d_Model_copyOf_3 (by decide) ?_
  refine lv_isub hx hb d_Model_copyOf_4 ?_
  refine lv_istore_n (lv' := [(3, .int (x1 - 1)), (2, .int 0), (0, .ref h), (1, .int x1)]) hx hb d_Model_copyOf_5 rfl hl (by decide) rfl (fun ls hl => ?_)
  exact w_Model_copyOf_b6 l D cI cL h h_kind h_b h_difference h_a h_newKind h_newB h_newDifference h_newA h_log h_packed C 400 st x1 0 (x1 - 1) res hf _ _ _ hH (lv_sub hl [2, 3, 1, 0] rfl)
def f_Model_isAsFar_b24 (st : S_Model) (x1 : Int32) (x2 : Int32) : Option (Bool) :=
  if x2 < 0 then (some false) else (if x2 < 0 ∨ 300 ≤ x2.toNatClampNeg then none else if x1 < 0 ∨ 300 ≤ x1.toNatClampNeg then none else if (lg_cmp (st.2.1.2.2.1 x2.toNatClampNeg) (st.2.1.2.2.1 x1.toNatClampNeg)) = 0 then (some true) else (some false))
set_option maxRecDepth 100000 in
set_option maxHeartbeats 4000000 in
theorem w_Model_isAsFar_b24 (l : Launch) (D : va_G) (cI cL : ClassId) (h h_kind h_b h_difference h_a h_newKind h_newB h_newDifference h_newA h_log h_packed : Nat) {p : Program} {e : Env} {s : State} {m : MethodId} {args : Array Value} {below : List Frame} {meth : Method} {c : Code} {A : Nat → Prop} (C : Cx p s m args meth c D vwCl [(cI, .int), (cL, .long)] A b_Model_isAsFar 3 (some .boolean) ws_Model_isAsFar y_Model_isAsFar.cls) : ∀ (st : S_Model) (x1 : Int32) (x2 : Int32) (res : Bool), f_Model_isAsFar_b24 st x1 x2 = some res → ∀ (H : Heap) (locs : List Loc) (ls : Array Slot), Hp D vwCl (fun _ => True) A s.heap H locs [(h, .inr (6, [.int st.1, .int st.2.1.2.2.2.2, .ref h_kind, .ref h_b, .ref h_difference, .ref h_a, .int st.2.2.1.2.2.2.2, .ref h_newKind, .ref h_newB, .ref h_newDifference, .ref h_newA, .int st.2.2.2.1.2, .ref h_log, .ref h_packed, .int st.2.2.2.2.1.2, .int st.2.2.2.2.2.1.1, .int st.2.2.2.2.2.1.2.1, .int st.2.2.2.2.2.1.2.2.1, .int st.2.2.2.2.2.1.2.2.2, .int st.2.2.2.2.2.2.1, .int st.2.2.2.2.2.2.2])), (h_kind, .inl (cI, 300, .inl st.2.1.1)), (h_b, .inl (cI, 300, .inl st.2.1.2.2.2.1)), (h_difference, .inl (cL, 300, .inr (.inl st.2.1.2.1))), (h_a, .inl (cL, 300, .inr (.inl st.2.1.2.2.1))), (h_newKind, .inl (cI, 300, .inl st.2.2.1.1)), (h_newB, .inl (cI, 300, .inl st.2.2.1.2.2.2.1)), (h_newDifference, .inl (cL, 300, .inr (.inl st.2.2.1.2.1))), (h_newA, .inl (cL, 300, .inr (.inl st.2.2.1.2.2.1))), (h_log, .inl (cI, 5000, .inl st.2.2.2.1.1)), (h_packed, .inl (cI, 5000, .inl st.2.2.2.2.1.1))] → lv_has ls 3 [(0, .ref h), (1, .int x1), (2, .int x2)] → W p l e { frames := 0, cells := 0, slots := 0, locals := 0 } s m args below meth c H locs 0 0 (MQ below (QR (some (.int (bI res))) A) args s 0 0 A) (F0 m 24 ls []) := by
  obtain ⟨hx, hb, hr, hml, hown, hts, hlk, hK, hA⟩ := id C
  intro st x1 x2 res hf H locs ls hH hl
  unfold f_Model_isAsFar_b24 at hf
  refine lv_iload_n hx hb d_Model_isAsFar_24 rfl (lv_at hl 2 rfl) ?_
  refine lv_if_lt (tgt := 48) hx hb d_Model_isAsFar_25 (by decide) (fun hc25 => ?_) (fun hc25 => ?_)
  · have hf := ip hc25 hf
    refine lv_iconst (v := 0) hx hb d_Model_isAsFar_48 (by decide) ?_
    have hf := Option.some.inj hf
    subst hf
    exact rZR (v := false) C hH d_Model_isAsFar_49
  · have hf := im hc25 hf
    refine lv_aload_n hx hb d_Model_isAsFar_28 rfl (lv_at hl 0 rfl) ?_
    refine gt (ci := 6) (v := .ref h_a) C hH (iwT iw_Model) 0 rfl rfl 5 (by decide) (.tail _ wd_601) rfl d_Model_isAsFar_29 ?_
    refine lv_iload_n hx hb d_Model_isAsFar_32 rfl (lv_at hl 2 rfl) ?_
    obtain ⟨hin33, hf⟩ := oa hf
    refine all_ C hH 4 1 rfl rfl (hin33) d_Model_isAsFar_33 ?_
    refine lv_aload_n hx hb d_Model_isAsFar_34 rfl (lv_at hl 0 rfl) ?_
    refine gt (ci := 6) (v := .ref h_a) C hH (iwT iw_Model) 0 rfl rfl 5 (by decide) (.tail _ wd_601) rfl d_Model_isAsFar_35 ?_
    refine lv_iload_n hx hb d_Model_isAsFar_38 rfl (lv_at hl 1 rfl) ?_
    obtain ⟨hin39, hf⟩ := oa hf
    refine all_ C hH 4 1 rfl rfl (hin39) d_Model_isAsFar_39 ?_
    refine W.lcmp hx hb d_Model_isAsFar_40 ?_
    refine lv_if_ne (tgt := 48) hx hb d_Model_isAsFar_41 (by decide) (fun hc41 => ?_) (fun hc41 => ?_)
    · have hf := im hc41 hf
      refine lv_iconst (v := 0) hx hb d_Model_isAsFar_48 (by decide) ?_
      have hf := Option.some.inj hf
      subst hf
      exact rZR (v := false) C hH d_Model_isAsFar_49
    · have hf := ip hc41 hf
      refine lv_iconst (v := 1) hx hb d_Model_isAsFar_44 (by decide) ?_
      refine lv_goto (tgt := 49) hx hb d_Model_isAsFar_45 (by decide) ?_
      have hf := Option.some.inj hf
      subst hf
      exact rZR (v := true) C hH d_Model_isAsFar_49
def f_Model_isAsFar_b4 : Nat → S_Model → Int32 → Int32 → Option (Bool)
  | 0, _, _, _ => none
  | n + 1, st, x1, x2 =>
  if x2 < 0 then (f_Model_isAsFar_b24 st x1 x2) else (if x2 < 0 ∨ 300 ≤ x2.toNatClampNeg then none else if (st.2.1.1 x2.toNatClampNeg) = (3 : Int32) then (f_Model_isAsFar_b24 st x1 x2) else (f_Model_isAsFar_b4 n st x1 (x2 + (-1))))
set_option maxRecDepth 100000 in
set_option maxHeartbeats 4000000 in
theorem w_Model_isAsFar_b4 (l : Launch) (D : va_G) (cI cL : ClassId) (h h_kind h_b h_difference h_a h_newKind h_newB h_newDifference h_newA h_log h_packed : Nat) {p : Program} {e : Env} {s : State} {m : MethodId} {args : Array Value} {below : List Frame} {meth : Method} {c : Code} {A : Nat → Prop} (C : Cx p s m args meth c D vwCl [(cI, .int), (cL, .long)] A b_Model_isAsFar 3 (some .boolean) ws_Model_isAsFar y_Model_isAsFar.cls) : ∀ (n : Nat) (st : S_Model) (x1 : Int32) (x2 : Int32) (res : Bool), f_Model_isAsFar_b4 n st x1 x2 = some res → ∀ (H : Heap) (locs : List Loc) (ls : Array Slot), Hp D vwCl (fun _ => True) A s.heap H locs [(h, .inr (6, [.int st.1, .int st.2.1.2.2.2.2, .ref h_kind, .ref h_b, .ref h_difference, .ref h_a, .int st.2.2.1.2.2.2.2, .ref h_newKind, .ref h_newB, .ref h_newDifference, .ref h_newA, .int st.2.2.2.1.2, .ref h_log, .ref h_packed, .int st.2.2.2.2.1.2, .int st.2.2.2.2.2.1.1, .int st.2.2.2.2.2.1.2.1, .int st.2.2.2.2.2.1.2.2.1, .int st.2.2.2.2.2.1.2.2.2, .int st.2.2.2.2.2.2.1, .int st.2.2.2.2.2.2.2])), (h_kind, .inl (cI, 300, .inl st.2.1.1)), (h_b, .inl (cI, 300, .inl st.2.1.2.2.2.1)), (h_difference, .inl (cL, 300, .inr (.inl st.2.1.2.1))), (h_a, .inl (cL, 300, .inr (.inl st.2.1.2.2.1))), (h_newKind, .inl (cI, 300, .inl st.2.2.1.1)), (h_newB, .inl (cI, 300, .inl st.2.2.1.2.2.2.1)), (h_newDifference, .inl (cL, 300, .inr (.inl st.2.2.1.2.1))), (h_newA, .inl (cL, 300, .inr (.inl st.2.2.1.2.2.1))), (h_log, .inl (cI, 5000, .inl st.2.2.2.1.1)), (h_packed, .inl (cI, 5000, .inl st.2.2.2.2.1.1))] → lv_has ls 3 [(0, .ref h), (1, .int x1), (2, .int x2)] → W p l e { frames := 0, cells := 0, slots := 0, locals := 0 } s m args below meth c H locs 0 0 (MQ below (QR (some (.int (bI res))) A) args s 0 0 A) (F0 m 4 ls []) := by
  obtain ⟨hx, hb, hr, hml, hown, hts, hlk, hK, hA⟩ := id C
  intro n
  induction n with
  | zero => intro st x1 x2 res hf; cases hf
  | succ n ih =>
    intro st x1 x2 res hf H locs ls hH hl
    rw [f_Model_isAsFar_b4] at hf
    refine lv_iload_n hx hb d_Model_isAsFar_4 rfl (lv_at hl 2 rfl) ?_
    refine lv_if_lt (tgt := 24) hx hb d_Model_isAsFar_5 (by decide) (fun hc5 => ?_) (fun hc5 => ?_)
    · have hf := ip hc5 hf
      exact w_Model_isAsFar_b24 l D cI cL h h_kind h_b h_difference h_a h_newKind h_newB h_newDifference h_newA h_log h_packed C st x1 x2 res hf _ _ _ hH (lv_sub hl [0, 1, 2] rfl)
    · have hf := im hc5 hf
      refine lv_aload_n hx hb d_Model_isAsFar_8 rfl (lv_at hl 0 rfl) ?_
      refine gt (ci := 6) (v := .ref h_kind) C hH (iwT iw_Model) 0 rfl rfl 2 (by decide) (.tail _ wd_598) rfl d_Model_isAsFar_9 ?_
      refine lv_iload_n hx hb d_Model_isAsFar_12 rfl (lv_at hl 2 rfl) ?_
      obtain ⟨hin13, hf⟩ := oa hf
      refine ali C hH 1 0 rfl rfl (hin13) d_Model_isAsFar_13 ?_
      refine lv_iconst (v := 3) hx hb d_Model_isAsFar_14 (by decide) ?_
      refine lv_icmp_eq (tgt := 24) hx hb d_Model_isAsFar_15 (by decide) (fun hc15 => ?_) (fun hc15 => ?_)
      · have hf := ip hc15 hf
        exact w_Model_isAsFar_b24 l D cI cL h h_kind h_b h_difference h_a h_newKind h_newB h_newDifference h_newA h_log h_packed C st x1 x2 res hf _ _ _ hH (lv_sub hl [0, 1, 2] rfl)
      · have hf := im hc15 hf
        refine lv_iinc (v := x2 + (-1)) (lv' := [(2, .int (x2 + (-1))), (0, .ref h), (1, .int x1)]) hx hb d_Model_isAsFar_18 hl (k := 2) rfl rfl (by decide) rfl (fun ls hl => ?_)
        refine lv_goto (tgt := 4) hx hb d_Model_isAsFar_21 (by decide) ?_
        exact ih st x1 (x2 + (-1)) res hf _ _ _ hH (lv_sub hl [1, 2, 0] rfl)
def f_Model_isAsFar (st : S_Model) (x1 : Int32) : Option (Bool) :=
  f_Model_isAsFar_b4 400 st x1 (x1 - 1)
set_option maxRecDepth 100000 in
set_option maxHeartbeats 4000000 in
theorem c_Model_isAsFar (l : Launch) (D : va_G) (cI cL : ClassId) (h h_kind h_b h_difference h_a h_newKind h_newB h_newDifference h_newA h_log h_packed : Nat) (st : S_Model) (x1 : Int32) (res : Bool) (hf : f_Model_isAsFar st x1 = some res) :
    FnR l D vwCl [(cI, .int), (cL, .long)] y_Model_isAsFar ws_Model_isAsFar { frames := 0, cells := 0, slots := 0, locals := 0 } [.ref h, .int x1] [(h, .inr (6, [.int st.1, .int st.2.1.2.2.2.2, .ref h_kind, .ref h_b, .ref h_difference, .ref h_a, .int st.2.2.1.2.2.2.2, .ref h_newKind, .ref h_newB, .ref h_newDifference, .ref h_newA, .int st.2.2.2.1.2, .ref h_log, .ref h_packed, .int st.2.2.2.2.1.2, .int st.2.2.2.2.2.1.1, .int st.2.2.2.2.2.1.2.1, .int st.2.2.2.2.2.1.2.2.1, .int st.2.2.2.2.2.1.2.2.2, .int st.2.2.2.2.2.2.1, .int st.2.2.2.2.2.2.2])), (h_kind, .inl (cI, 300, .inl st.2.1.1)), (h_b, .inl (cI, 300, .inl st.2.1.2.2.2.1)), (h_difference, .inl (cL, 300, .inr (.inl st.2.1.2.1))), (h_a, .inl (cL, 300, .inr (.inl st.2.1.2.2.1))), (h_newKind, .inl (cI, 300, .inl st.2.2.1.1)), (h_newB, .inl (cI, 300, .inl st.2.2.1.2.2.2.1)), (h_newDifference, .inl (cL, 300, .inr (.inl st.2.2.1.2.1))), (h_newA, .inl (cL, 300, .inr (.inl st.2.2.1.2.2.1))), (h_log, .inl (cI, 5000, .inl st.2.2.2.1.1)), (h_packed, .inl (cI, 5000, .inl st.2.2.2.2.1.1))] (some (.int (bI res))) := by
  refine FnR.ofW (cc := b_Model_isAsFar) (maxL := 3) (ret := (some .boolean)) (by decide) rfl (Nat.le_of_ble_eq_true rfl) ?_
  intro p e s m below meth c A ls C hH hl
  have hl : lv_has ls 3 [(0, .ref h), (1, .int x1)] := hl
  obtain ⟨hx, hb, hr, hml, hown, hts, hlk, hK, hA⟩ := id C
  unfold f_Model_isAsFar at hf
  refine lv_iload_n hx hb d_Model_isAsFar_0 rfl (lv_at hl 1 rfl) ?_
  refine lv_iconst (v := 1) hx hb d_Model_isAsFar_1 (by decide) ?_
  refine lv_isub hx hb d_Model_isAsFar_2 ?_
  refine lv_istore_n (lv' := [(2, .int (x1 - 1)), (0, .ref h), (1, .int x1)]) hx hb d_Model_isAsFar_3 rfl hl (by decide) rfl (fun ls hl => ?_)
  exact w_Model_isAsFar_b4 l D cI cL h h_kind h_b h_difference h_a h_newKind h_newB h_newDifference h_newA h_log h_packed C 400 st x1 (x1 - 1) res hf _ _ _ hH (lv_sub hl [1, 2, 0] rfl)
def f_Model_run_b23 (st : S_Model) (x1 : Int32) (z0 : Int32) (z1 : Int32) : Option (S_Model) :=
  (f_Model_put st (z1 ||| (z0 <<< (4 &&& 31)))).bind (fun r26 => if x1 ≤ (15 : Int32) then (some r26) else ((f_Model_varint r26 x1.toInt64).bind (fun r38 => some r38)))
set_option maxRecDepth 100000 in
set_option maxHeartbeats 4000000 in
theorem w_Model_run_b23 (l : Launch) (D : va_G) (cI cL : ClassId) (h h_kind h_b h_difference h_a h_newKind h_newB h_newDifference h_newA h_log h_packed : Nat) {p : Program} {e : Env} {s : State} {m : MethodId} {args : Array Value} {below : List Frame} {meth : Method} {c : Code} {A : Nat → Prop} (C : Cx p s m args meth c D vwCl [(cI, .int), (cL, .long)] A b_Model_run 2 none ws_Model_run y_Model_run.cls) : ∀ (st : S_Model) (x1 : Int32) (z0 : Int32) (z1 : Int32) (res : S_Model), f_Model_run_b23 st x1 z0 z1 = some res → ∀ (H : Heap) (locs : List Loc) (ls : Array Slot), Hp D vwCl A A s.heap H locs [(h, .inr (6, [.int st.1, .int st.2.1.2.2.2.2, .ref h_kind, .ref h_b, .ref h_difference, .ref h_a, .int st.2.2.1.2.2.2.2, .ref h_newKind, .ref h_newB, .ref h_newDifference, .ref h_newA, .int st.2.2.2.1.2, .ref h_log, .ref h_packed, .int st.2.2.2.2.1.2, .int st.2.2.2.2.2.1.1, .int st.2.2.2.2.2.1.2.1, .int st.2.2.2.2.2.1.2.2.1, .int st.2.2.2.2.2.1.2.2.2, .int st.2.2.2.2.2.2.1, .int st.2.2.2.2.2.2.2])), (h_kind, .inl (cI, 300, .inl st.2.1.1)), (h_b, .inl (cI, 300, .inl st.2.1.2.2.2.1)), (h_difference, .inl (cL, 300, .inr (.inl st.2.1.2.1))), (h_a, .inl (cL, 300, .inr (.inl st.2.1.2.2.1))), (h_newKind, .inl (cI, 300, .inl st.2.2.1.1)), (h_newB, .inl (cI, 300, .inl st.2.2.1.2.2.2.1)), (h_newDifference, .inl (cL, 300, .inr (.inl st.2.2.1.2.1))), (h_newA, .inl (cL, 300, .inr (.inl st.2.2.1.2.2.1))), (h_log, .inl (cI, 5000, .inl st.2.2.2.1.1)), (h_packed, .inl (cI, 5000, .inl st.2.2.2.2.1.1))] → lv_has ls 2 [(0, .ref h), (1, .int x1)] → W p l e { frames := 2, cells := 0, slots := 0, locals := 45 } s m args below meth c H locs 0 0 (MQ below (Qw D vwCl [(cI, .int), (cL, .long)] (none) A [(h, .inr (6, [.int res.1, .int res.2.1.2.2.2.2, .ref h_kind, .ref h_b, .ref h_difference, .ref h_a, .int res.2.2.1.2.2.2.2, .ref h_newKind, .ref h_newB, .ref h_newDifference, .ref h_newA, .int res.2.2.2.1.2, .ref h_log, .ref h_packed, .int res.2.2.2.2.1.2, .int res.2.2.2.2.2.1.1, .int res.2.2.2.2.2.1.2.1, .int res.2.2.2.2.2.1.2.2.1, .int res.2.2.2.2.2.1.2.2.2, .int res.2.2.2.2.2.2.1, .int res.2.2.2.2.2.2.2])), (h_kind, .inl (cI, 300, .inl res.2.1.1)), (h_b, .inl (cI, 300, .inl res.2.1.2.2.2.1)), (h_difference, .inl (cL, 300, .inr (.inl res.2.1.2.1))), (h_a, .inl (cL, 300, .inr (.inl res.2.1.2.2.1))), (h_newKind, .inl (cI, 300, .inl res.2.2.1.1)), (h_newB, .inl (cI, 300, .inl res.2.2.1.2.2.2.1)), (h_newDifference, .inl (cL, 300, .inr (.inl res.2.2.1.2.1))), (h_newA, .inl (cL, 300, .inr (.inl res.2.2.1.2.2.1))), (h_log, .inl (cI, 5000, .inl res.2.2.2.1.1)), (h_packed, .inl (cI, 5000, .inl res.2.2.2.2.1.1))]) args s 0 0 A) (F0 m 23 ls [.int z0, .int z1, .ref h]) := by
  obtain ⟨hx, hb, hr, hml, hown, hts, hlk, hK, hA⟩ := id C
  intro st x1 z0 z1 res hf H locs ls hH hl
  unfold f_Model_run_b23 at hf
  refine lv_iconst (v := 4) hx hb d_Model_run_23 (by decide) ?_
  refine lv_ishl hx hb d_Model_run_24 ?_
  refine lv_ior hx hb d_Model_run_25 ?_
  obtain ⟨r26, hr26, hf⟩ := ob hf
  refine fnV (rest := []) (wr := []) (w2 := [(h, .inr (6, [.int r26.1, .int r26.2.1.2.2.2.2, .ref h_kind, .ref h_b, .ref h_difference, .ref h_a, .int r26.2.2.1.2.2.2.2, .ref h_newKind, .ref h_newB, .ref h_newDifference, .ref h_newA, .int r26.2.2.2.1.2, .ref h_log, .ref h_packed, .int r26.2.2.2.2.1.2, .int r26.2.2.2.2.2.1.1, .int r26.2.2.2.2.2.1.2.1, .int r26.2.2.2.2.2.1.2.2.1, .int r26.2.2.2.2.2.1.2.2.2, .int r26.2.2.2.2.2.2.1, .int r26.2.2.2.2.2.2.2])), (h_kind, .inl (cI, 300, .inl r26.2.1.1)), (h_b, .inl (cI, 300, .inl r26.2.1.2.2.2.1)), (h_difference, .inl (cL, 300, .inr (.inl r26.2.1.2.1))), (h_a, .inl (cL, 300, .inr (.inl r26.2.1.2.2.1))), (h_newKind, .inl (cI, 300, .inl r26.2.2.1.1)), (h_newB, .inl (cI, 300, .inl r26.2.2.1.2.2.2.1)), (h_newDifference, .inl (cL, 300, .inr (.inl r26.2.2.1.2.1))), (h_newA, .inl (cL, 300, .inr (.inl r26.2.2.1.2.2.1))), (h_log, .inl (cI, 5000, .inl r26.2.2.2.1.1)), (h_packed, .inl (cI, 5000, .inl r26.2.2.2.2.1.1))]) (st2 := []) C (c_Model_put l D cI cL h h_kind h_b h_difference h_a h_newKind h_newB h_newDifference h_newA h_log h_packed st (z1 ||| (z0 <<< (4 &&& 31))) r26 hr26) (cV hts kV_Model_put wd_703 ⟨Nat.le_of_ble_eq_true rfl, Nat.le_of_ble_eq_true rfl⟩) hH [0, 1, 2, 3, 4, 5, 6, 7, 8, 9, 10] [] [0, 1, 2, 3, 4, 5, 6, 7, 8, 9, 10] rfl rfl rfl rfl (by decide) rfl rfl 0 rfl rfl rfl hl.1 rfl (Nat.le_of_ble_eq_true rfl) d_Model_run_26 ⟨Nat.le_of_ble_eq_true rfl, Nat.le_of_ble_eq_true rfl⟩ rfl (fun H locs hH => ?_)
  refine lv_iload_n hx hb d_Model_run_29 rfl (lv_at hl 1 rfl) ?_
  refine lv_bipush (v := 15) hx hb d_Model_run_30 (by decide) ?_
  refine lv_icmp_le (tgt := 41) hx hb d_Model_run_32 (by decide) (fun hc32 => ?_) (fun hc32 => ?_)
  · have hf := ip hc32 hf
    have hf := Option.some.inj hf
    subst hf
    exact rV C hH d_Model_run_41
  · have hf := im hc32 hf
    refine lv_aload_n hx hb d_Model_run_35 rfl (lv_at hl 0 rfl) ?_
    refine lv_iload_n hx hb d_Model_run_36 rfl (lv_at hl 1 rfl) ?_
    refine lv_i2l (v := x1.toInt64) hx hb d_Model_run_37 rfl ?_
    obtain ⟨r38, hr38, hf⟩ := ob hf
    refine fnV (rest := []) (wr := []) (w2 := [(h, .inr (6, [.int r38.1, .int r38.2.1.2.2.2.2, .ref h_kind, .ref h_b, .ref h_difference, .ref h_a, .int r38.2.2.1.2.2.2.2, .ref h_newKind, .ref h_newB, .ref h_newDifference, .ref h_newA, .int r38.2.2.2.1.2, .ref h_log, .ref h_packed, .int r38.2.2.2.2.1.2, .int r38.2.2.2.2.2.1.1, .int r38.2.2.2.2.2.1.2.1, .int r38.2.2.2.2.2.1.2.2.1, .int r38.2.2.2.2.2.1.2.2.2, .int r38.2.2.2.2.2.2.1, .int r38.2.2.2.2.2.2.2])), (h_kind, .inl (cI, 300, .inl r38.2.1.1)), (h_b, .inl (cI, 300, .inl r38.2.1.2.2.2.1)), (h_difference, .inl (cL, 300, .inr (.inl r38.2.1.2.1))), (h_a, .inl (cL, 300, .inr (.inl r38.2.1.2.2.1))), (h_newKind, .inl (cI, 300, .inl r38.2.2.1.1)), (h_newB, .inl (cI, 300, .inl r38.2.2.1.2.2.2.1)), (h_newDifference, .inl (cL, 300, .inr (.inl r38.2.2.1.2.1))), (h_newA, .inl (cL, 300, .inr (.inl r38.2.2.1.2.2.1))), (h_log, .inl (cI, 5000, .inl r38.2.2.2.1.1)), (h_packed, .inl (cI, 5000, .inl r38.2.2.2.2.1.1))]) (st2 := []) C (c_Model_varint l D cI cL h h_kind h_b h_difference h_a h_newKind h_newB h_newDifference h_newA h_log h_packed r26 x1.toInt64 r38 hr38) (cV hts kV_Model_varint wd_698 ⟨Nat.le_of_ble_eq_true rfl, Nat.le_of_ble_eq_true rfl⟩) hH [0, 1, 2, 3, 4, 5, 6, 7, 8, 9, 10] [] [0, 1, 2, 3, 4, 5, 6, 7, 8, 9, 10] rfl rfl rfl rfl (by decide) rfl rfl 0 rfl rfl rfl hl.1 rfl (Nat.le_of_ble_eq_true rfl) d_Model_run_38 ⟨Nat.le_of_ble_eq_true rfl, Nat.le_of_ble_eq_true rfl⟩ rfl (fun H locs hH => ?_)
    have hf := Option.some.inj hf
    subst hf
    exact rV C hH d_Model_run_41
def f_Model_run (st : S_Model) (x1 : Int32) : Option (S_Model) :=
  if (16 : Int32) ≤ x1 then (f_Model_run_b23 ((st.1, st.2.1, st.2.2.1, st.2.2.2.1, st.2.2.2.2.1, (st.2.2.2.2.2.1.1, st.2.2.2.2.2.1.2.1 + 1, st.2.2.2.2.2.1.2.2.1, st.2.2.2.2.2.1.2.2.2), st.2.2.2.2.2.2.1, st.2.2.2.2.2.2.2)) x1 0 5) else (f_Model_run_b23 ((st.1, st.2.1, st.2.2.1, st.2.2.2.1, st.2.2.2.2.1, (st.2.2.2.2.2.1.1, st.2.2.2.2.2.1.2.1 + 1, st.2.2.2.2.2.1.2.2.1, st.2.2.2.2.2.1.2.2.2), st.2.2.2.2.2.2.1, st.2.2.2.2.2.2.2)) x1 x1 5)
set_option maxRecDepth 100000 in
set_option maxHeartbeats 4000000 in
theorem c_Model_run (l : Launch) (D : va_G) (cI cL : ClassId) (h h_kind h_b h_difference h_a h_newKind h_newB h_newDifference h_newA h_log h_packed : Nat) (st : S_Model) (x1 : Int32) (res : S_Model) (hf : f_Model_run st x1 = some res) :
    Fn l D vwCl [(cI, .int), (cL, .long)] y_Model_run ws_Model_run { frames := 2, cells := 0, slots := 0, locals := 45 } [.ref h, .int x1] [(h, .inr (6, [.int st.1, .int st.2.1.2.2.2.2, .ref h_kind, .ref h_b, .ref h_difference, .ref h_a, .int st.2.2.1.2.2.2.2, .ref h_newKind, .ref h_newB, .ref h_newDifference, .ref h_newA, .int st.2.2.2.1.2, .ref h_log, .ref h_packed, .int st.2.2.2.2.1.2, .int st.2.2.2.2.2.1.1, .int st.2.2.2.2.2.1.2.1, .int st.2.2.2.2.2.1.2.2.1, .int st.2.2.2.2.2.1.2.2.2, .int st.2.2.2.2.2.2.1, .int st.2.2.2.2.2.2.2])), (h_kind, .inl (cI, 300, .inl st.2.1.1)), (h_b, .inl (cI, 300, .inl st.2.1.2.2.2.1)), (h_difference, .inl (cL, 300, .inr (.inl st.2.1.2.1))), (h_a, .inl (cL, 300, .inr (.inl st.2.1.2.2.1))), (h_newKind, .inl (cI, 300, .inl st.2.2.1.1)), (h_newB, .inl (cI, 300, .inl st.2.2.1.2.2.2.1)), (h_newDifference, .inl (cL, 300, .inr (.inl st.2.2.1.2.1))), (h_newA, .inl (cL, 300, .inr (.inl st.2.2.1.2.2.1))), (h_log, .inl (cI, 5000, .inl st.2.2.2.1.1)), (h_packed, .inl (cI, 5000, .inl st.2.2.2.2.1.1))] (none) [(h, .inr (6, [.int res.1, .int res.2.1.2.2.2.2, .ref h_kind, .ref h_b, .ref h_difference, .ref h_a, .int res.2.2.1.2.2.2.2, .ref h_newKind, .ref h_newB, .ref h_newDifference, .ref h_newA, .int res.2.2.2.1.2, .ref h_log, .ref h_packed, .int res.2.2.2.2.1.2, .int res.2.2.2.2.2.1.1, .int res.2.2.2.2.2.1.2.1, .int res.2.2.2.2.2.1.2.2.1, .int res.2.2.2.2.2.1.2.2.2, .int res.2.2.2.2.2.2.1, .int res.2.2.2.2.2.2.2])), (h_kind, .inl (cI, 300, .inl res.2.1.1)), (h_b, .inl (cI, 300, .inl res.2.1.2.2.2.1)), (h_difference, .inl (cL, 300, .inr (.inl res.2.1.2.1))), (h_a, .inl (cL, 300, .inr (.inl res.2.1.2.2.1))), (h_newKind, .inl (cI, 300, .inl res.2.2.1.1)), (h_newB, .inl (cI, 300, .inl res.2.2.1.2.2.2.1)), (h_newDifference, .inl (cL, 300, .inr (.inl res.2.2.1.2.1))), (h_newA, .inl (cL, 300, .inr (.inl res.2.2.1.2.2.1))), (h_log, .inl (cI, 5000, .inl res.2.2.2.1.1)), (h_packed, .inl (cI, 5000, .inl res.2.2.2.2.1.1))] := by
  refine Fn.ofW (cc := b_Model_run) (maxL := 2) (ret := none) (by decide) rfl (Nat.le_of_ble_eq_true rfl) ?_
  intro p e s m below meth c A ls C hH hinit hl
  have hl : lv_has ls 2 [(0, .ref h), (1, .int x1)] := hl
  obtain ⟨hx, hb, hr, hml, hown, hts, hlk, hK, hA⟩ := id C
  unfold f_Model_run at hf
  refine lv_aload_n hx hb d_Model_run_0 rfl (lv_at hl 0 rfl) ?_
  refine lv_dup hx hb d_Model_run_1 rfl ?_
  refine gt (ci := 6) (v := .int st.2.2.2.2.2.1.2.1) C hH (iwT iw_Model) 0 rfl rfl 16 (by decide) (.tail _ wd_612) rfl d_Model_run_2 ?_
  refine lv_iconst (v := 1) hx hb d_Model_run_5 (by decide) ?_
  refine lv_iadd hx hb d_Model_run_6 ?_
  refine pt (ci := 6) (v := .int (st.2.2.2.2.2.1.2.1 + 1)) C hH (iwT iw_Model) ty_Model tyok_Model nm_Model 0 rfl rfl 16 (by decide) (.tail _ wd_612) rfl rfl rfl (Nat.le_of_ble_eq_true rfl) d_Model_run_7 [(h, .inr (6, [.int st.1, .int st.2.1.2.2.2.2, .ref h_kind, .ref h_b, .ref h_difference, .ref h_a, .int st.2.2.1.2.2.2.2, .ref h_newKind, .ref h_newB, .ref h_newDifference, .ref h_newA, .int st.2.2.2.1.2, .ref h_log, .ref h_packed, .int st.2.2.2.2.1.2, .int st.2.2.2.2.2.1.1, .int (st.2.2.2.2.2.1.2.1 + 1), .int st.2.2.2.2.2.1.2.2.1, .int st.2.2.2.2.2.1.2.2.2, .int st.2.2.2.2.2.2.1, .int st.2.2.2.2.2.2.2])), (h_kind, .inl (cI, 300, .inl st.2.1.1)), (h_b, .inl (cI, 300, .inl st.2.1.2.2.2.1)), (h_difference, .inl (cL, 300, .inr (.inl st.2.1.2.1))), (h_a, .inl (cL, 300, .inr (.inl st.2.1.2.2.1))), (h_newKind, .inl (cI, 300, .inl st.2.2.1.1)), (h_newB, .inl (cI, 300, .inl st.2.2.1.2.2.2.1)), (h_newDifference, .inl (cL, 300, .inr (.inl st.2.2.1.2.1))), (h_newA, .inl (cL, 300, .inr (.inl st.2.2.1.2.2.1))), (h_log, .inl (cI, 5000, .inl st.2.2.2.1.1)), (h_packed, .inl (cI, 5000, .inl st.2.2.2.2.1.1))] rfl (fun H locs hH => ?_)
  refine lv_aload_n hx hb d_Model_run_10 rfl (lv_at hl 0 rfl) ?_
  refine lv_iconst (v := 5) hx hb d_Model_run_11 (by decide) ?_
  refine lv_iload_n hx hb d_Model_run_12 rfl (lv_at hl 1 rfl) ?_
  refine lv_bipush (v := 16) hx hb d_Model_run_13 (by decide) ?_
  refine lv_icmp_ge (tgt := 22) hx hb d_Model_run_15 (by decide) (fun hc15 => ?_) (fun hc15 => ?_)
  · have hf := ip hc15 hf
    refine lv_iconst (v := 0) hx hb d_Model_run_22 (by decide) ?_
    exact w_Model_run_b23 l D cI cL h h_kind h_b h_difference h_a h_newKind h_newB h_newDifference h_newA h_log h_packed C ((st.1, st.2.1, st.2.2.1, st.2.2.2.1, st.2.2.2.2.1, (st.2.2.2.2.2.1.1, st.2.2.2.2.2.1.2.1 + 1, st.2.2.2.2.2.1.2.2.1, st.2.2.2.2.2.1.2.2.2), st.2.2.2.2.2.2.1, st.2.2.2.2.2.2.2)) x1 0 5 res hf _ _ _ hH (lv_sub hl [0, 1] rfl)
  · have hf := im hc15 hf
    refine lv_iload_n hx hb d_Model_run_18 rfl (lv_at hl 1 rfl) ?_
    refine lv_goto (tgt := 23) hx hb d_Model_run_19 (by decide) ?_
    exact w_Model_run_b23 l D cI cL h h_kind h_b h_difference h_a h_newKind h_newB h_newDifference h_newA h_log h_packed C ((st.1, st.2.1, st.2.2.1, st.2.2.2.1, st.2.2.2.2.1, (st.2.2.2.2.2.1.1, st.2.2.2.2.2.1.2.1 + 1, st.2.2.2.2.2.1.2.2.1, st.2.2.2.2.2.1.2.2.2), st.2.2.2.2.2.2.1, st.2.2.2.2.2.2.2)) x1 x1 5 res hf _ _ _ hH (lv_sub hl [0, 1] rfl)
def f_Model_entry_b327 : Nat → S_Model → Int32 → Int32 → Option (S_Model)
  | 0, _, _, _ => none
  | n + 1, st, x1, x7 =>
  if x7 < 0 then (some st) else (if x1 < 0 ∨ 300 ≤ x1.toNatClampNeg then none else (f_Model_put st (((st.2.1.2.2.1 x1.toNatClampNeg) >>> (((8 : Int32) * x7).toInt64 &&& 63)).toInt32)).bind (fun r346 => f_Model_entry_b327 n r346 x1 (x7 + (-1))))
set_option maxRecDepth 100000 in
set_option maxHeartbeats 4000000 in
theorem w_Model_entry_b327 (l : Launch) (D : va_G) (cI cL : ClassId) (h h_kind h_b h_difference h_a h_newKind h_newB h_newDifference h_newA h_log h_packed : Nat) {p : Program} {e : Env} {s : State} {m : MethodId} {args : Array Value} {below : List Frame} {meth : Method} {c : Code} {A : Nat → Prop} (C : Cx p s m args meth c D vwCl [(cI, .int), (cL, .long)] A b_Model_entry 8 none ws_Model_entry y_Model_entry.cls) : ∀ (n : Nat) (st : S_Model) (x1 : Int32) (x7 : Int32) (res : S_Model), f_Model_entry_b327 n st x1 x7 = some res → ∀ (H : Heap) (locs : List Loc) (ls : Array Slot), Hp D vwCl A A s.heap H locs [(h, .inr (6, [.int st.1, .int st.2.1.2.2.2.2, .ref h_kind, .ref h_b, .ref h_difference, .ref h_a, .int st.2.2.1.2.2.2.2, .ref h_newKind, .ref h_newB, .ref h_newDifference, .ref h_newA, .int st.2.2.2.1.2, .ref h_log, .ref h_packed, .int st.2.2.2.2.1.2, .int st.2.2.2.2.2.1.1, .int st.2.2.2.2.2.1.2.1, .int st.2.2.2.2.2.1.2.2.1, .int st.2.2.2.2.2.1.2.2.2, .int st.2.2.2.2.2.2.1, .int st.2.2.2.2.2.2.2])), (h_kind, .inl (cI, 300, .inl st.2.1.1)), (h_b, .inl (cI, 300, .inl st.2.1.2.2.2.1)), (h_difference, .inl (cL, 300, .inr (.inl st.2.1.2.1))), (h_a, .inl (cL, 300, .inr (.inl st.2.1.2.2.1))), (h_newKind, .inl (cI, 300, .inl st.2.2.1.1)), (h_newB, .inl (cI, 300, .inl st.2.2.1.2.2.2.1)), (h_newDifference, .inl (cL, 300, .inr (.inl st.2.2.1.2.1))), (h_newA, .inl (cL, 300, .inr (.inl st.2.2.1.2.2.1))), (h_log, .inl (cI, 5000, .inl st.2.2.2.1.1)), (h_packed, .inl (cI, 5000, .inl st.2.2.2.2.1.1))] → lv_has ls 8 [(0, .ref h), (1, .int x1), (7, .int x7)] → W p l e { frames := 2, cells := 0, slots := 0, locals := 45 } s m args below meth c H locs 0 0 (MQ below (Qw D vwCl [(cI, .int), (cL, .long)] (none) A [(h, .inr (6, [.int res.1, .int res.2.1.2.2.2.2, .ref h_kind, .ref h_b, .ref h_difference, .ref h_a, .int res.2.2.1.2.2.2.2, .ref h_newKind, .ref h_newB, .ref h_newDifference, .ref h_newA, .int res.2.2.2.1.2, .ref h_log, .ref h_packed, .int res.2.2.2.2.1.2, .int res.2.2.2.2.2.1.1, .int res.2.2.2.2.2.1.2.1, .int res.2.2.2.2.2.1.2.2.1, .int res.2.2.2.2.2.1.2.2.2, .int res.2.2.2.2.2.2.1, .int res.2.2.2.2.2.2.2])), (h_kind, .inl (cI, 300, .inl res.2.1.1)), (h_b, .inl (cI, 300, .inl res.2.1.2.2.2.1)), (h_difference, .inl (cL, 300, .inr (.inl res.2.1.2.1))), (h_a, .inl (cL, 300, .inr (.inl res.2.1.2.2.1))), (h_newKind, .inl (cI, 300, .inl res.2.2.1.1)), (h_newB, .inl (cI, 300, .inl res.2.2.1.2.2.2.1)), (h_newDifference, .inl (cL, 300, .inr (.inl res.2.2.1.2.1))), (h_newA, .inl (cL, 300, .inr (.inl res.2.2.1.2.2.1))), (h_log, .inl (cI, 5000, .inl res.2.2.2.1.1)), (h_packed, .inl (cI, 5000, .inl res.2.2.2.2.1.1))]) args s 0 0 A) (F0 m 327 ls []) := by
  obtain ⟨hx, hb, hr, hml, hown, hts, hlk, hK, hA⟩ := id C
  intro n
  induction n with
  | zero => intro st x1 x7 res hf; cases hf
  | succ n ih =>
    intro st x1 x7 res hf H locs ls hH hl
    rw [f_Model_entry_b327] at hf
    refine lv_iload hx hb d_Model_entry_327 (lv_at hl 2 rfl) ?_
    refine lv_if_lt (tgt := 355) hx hb d_Model_entry_329 (by decide) (fun hc329 => ?_) (fun hc329 => ?_)
    · have hf := ip hc329 hf
      have hf := Option.some.inj hf
      subst hf
      exact rV C hH d_Model_entry_355
    · have hf := im hc329 hf
      refine lv_aload_n hx hb d_Model_entry_332 rfl (lv_at hl 0 rfl) ?_
      refine lv_aload_n hx hb d_Model_entry_333 rfl (lv_at hl 0 rfl) ?_
      refine gt (ci := 6) (v := .ref h_a) C hH (iwT iw_Model) 0 rfl rfl 5 (by decide) (.tail _ wd_601) rfl d_Model_entry_334 ?_
      refine lv_iload_n hx hb d_Model_entry_337 rfl (lv_at hl 1 rfl) ?_
      obtain ⟨hin338, hf⟩ := oa hf
      refine all_ C hH 4 1 rfl rfl (hin338) d_Model_entry_338 ?_
      refine lv_bipush (v := 8) hx hb d_Model_entry_339 (by decide) ?_
      refine lv_iload hx hb d_Model_entry_341 (lv_at hl 2 rfl) ?_
      refine lv_imul hx hb d_Model_entry_343 ?_
      refine lv_lshr (v := (st.2.1.2.2.1 x1.toNatClampNeg) >>> (((8 : Int32) * x7).toInt64 &&& 63)) hx hb d_Model_entry_344 rfl ?_
      refine lv_l2i (v := ((st.2.1.2.2.1 x1.toNatClampNeg) >>> (((8 : Int32) * x7).toInt64 &&& 63)).toInt32) hx hb d_Model_entry_345 rfl ?_
      obtain ⟨r346, hr346, hf⟩ := ob hf
      refine fnV (rest := []) (wr := []) (w2 := [(h, .inr (6, [.int r346.1, .int r346.2.1.2.2.2.2, .ref h_kind, .ref h_b, .ref h_difference, .ref h_a, .int r346.2.2.1.2.2.2.2, .ref h_newKind, .ref h_newB, .ref h_newDifference, .ref h_newA, .int r346.2.2.2.1.2, .ref h_log, .ref h_packed, .int r346.2.2.2.2.1.2, .int r346.2.2.2.2.2.1.1, .int r346.2.2.2.2.2.1.2.1, .int r346.2.2.2.2.2.1.2.2.1, .int r346.2.2.2.2.2.1.2.2.2, .int r346.2.2.2.2.2.2.1, .int r346.2.2.2.2.2.2.2])), (h_kind, .inl (cI, 300, .inl r346.2.1.1)), (h_b, .inl (cI, 300, .inl r346.2.1.2.2.2.1)), (h_difference, .inl (cL, 300, .inr (.inl r346.2.1.2.1))), (h_a, .inl (cL, 300, .inr (.inl r346.2.1.2.2.1))), (h_newKind, .inl (cI, 300, .inl r346.2.2.1.1)), (h_newB, .inl (cI, 300, .inl r346.2.2.1.2.2.2.1)), (h_newDifference, .inl (cL, 300, .inr (.inl r346.2.2.1.2.1))), (h_newA, .inl (cL, 300, .inr (.inl r346.2.2.1.2.2.1))), (h_log, .inl (cI, 5000, .inl r346.2.2.2.1.1)), (h_packed, .inl (cI, 5000, .inl r346.2.2.2.2.1.1))]) (st2 := []) C (c_Model_put l D cI cL h h_kind h_b h_difference h_a h_newKind h_newB h_newDifference h_newA h_log h_packed st (((st.2.1.2.2.1 x1.toNatClampNeg) >>> (((8 : Int32) * x7).toInt64 &&& 63)).toInt32) r346 hr346) (cV hts kV_Model_put wd_703 ⟨Nat.le_of_ble_eq_true rfl, Nat.le_of_ble_eq_true rfl⟩) hH [0, 1, 2, 3, 4, 5, 6, 7, 8, 9, 10] [] [0, 1, 2, 3, 4, 5, 6, 7, 8, 9, 10] rfl rfl rfl rfl (by decide) rfl rfl 0 rfl rfl rfl hl.1 rfl (Nat.le_of_ble_eq_true rfl) d_Model_entry_346 ⟨Nat.le_of_ble_eq_true rfl, Nat.le_of_ble_eq_true rfl⟩ rfl (fun H locs hH => ?_)
      refine lv_iinc (v := x7 + (-1)) (lv' := [(7, .int (x7 + (-1))), (0, .ref h), (1, .int x1)]) hx hb d_Model_entry_349 hl (k := 2) rfl rfl (by decide) rfl (fun ls hl => ?_)
      refine lv_goto (tgt := 327) hx hb d_Model_entry_352 (by decide) ?_
      exact ih r346 x1 (x7 + (-1)) res hf _ _ _ hH (lv_sub hl [1, 2, 0] rfl)
def f_Model_entry_b281 (st : S_Model) (x1 : Int32) (x3 : Int32) : Option (S_Model) :=
  if x1 < 0 ∨ 300 ≤ x1.toNatClampNeg then none else if (st.2.1.1 x1.toNatClampNeg) = (4 : Int32) then (f_Model_entry_b327 400 st x1 ((4 : Int32) - 1)) else (if x1 < 0 ∨ 300 ≤ x1.toNatClampNeg then none else if (st.2.1.1 x1.toNatClampNeg) = (1 : Int32) then (if x3 = 0 then (if x1 < 0 ∨ 300 ≤ x1.toNatClampNeg then none else f_Model_entry_b327 400 st x1 ((st.2.1.2.2.2.1 x1.toNatClampNeg) - 1)) else (f_Model_entry_b327 400 st x1 ((0 : Int32) - 1))) else (f_Model_entry_b327 400 st x1 ((0 : Int32) - 1)))
set_option maxRecDepth 100000 in
set_option maxHeartbeats 4000000 in
theorem w_Model_entry_b281 (l : Launch) (D : va_G) (cI cL : ClassId) (h h_kind h_b h_difference h_a h_newKind h_newB h_newDifference h_newA h_log h_packed : Nat) {p : Program} {e : Env} {s : State} {m : MethodId} {args : Array Value} {below : List Frame} {meth : Method} {c : Code} {A : Nat → Prop} (C : Cx p s m args meth c D vwCl [(cI, .int), (cL, .long)] A b_Model_entry 8 none ws_Model_entry y_Model_entry.cls) : ∀ (st : S_Model) (x1 : Int32) (x3 : Int32) (res : S_Model), f_Model_entry_b281 st x1 x3 = some res → ∀ (H : Heap) (locs : List Loc) (ls : Array Slot), Hp D vwCl A A s.heap H locs [(h, .inr (6, [.int st.1, .int st.2.1.2.2.2.2, .ref h_kind, .ref h_b, .ref h_difference, .ref h_a, .int st.2.2.1.2.2.2.2, .ref h_newKind, .ref h_newB, .ref h_newDifference, .ref h_newA, .int st.2.2.2.1.2, .ref h_log, .ref h_packed, .int st.2.2.2.2.1.2, .int st.2.2.2.2.2.1.1, .int st.2.2.2.2.2.1.2.1, .int st.2.2.2.2.2.1.2.2.1, .int st.2.2.2.2.2.1.2.2.2, .int st.2.2.2.2.2.2.1, .int st.2.2.2.2.2.2.2])), (h_kind, .inl (cI, 300, .inl st.2.1.1)), (h_b, .inl (cI, 300, .inl st.2.1.2.2.2.1)), (h_difference, .inl (cL, 300, .inr (.inl st.2.1.2.1))), (h_a, .inl (cL, 300, .inr (.inl st.2.1.2.2.1))), (h_newKind, .inl (cI, 300, .inl st.2.2.1.1)), (h_newB, .inl (cI, 300, .inl st.2.2.1.2.2.2.1)), (h_newDifference, .inl (cL, 300, .inr (.inl st.2.2.1.2.1))), (h_newA, .inl (cL, 300, .inr (.inl st.2.2.1.2.2.1))), (h_log, .inl (cI, 5000, .inl st.2.2.2.1.1)), (h_packed, .inl (cI, 5000, .inl st.2.2.2.2.1.1))] → lv_has ls 8 [(0, .ref h), (1, .int x1), (3, .int x3)] → W p l e { frames := 2, cells := 0, slots := 0, locals := 45 } s m args below meth c H locs 0 0 (MQ below (Qw D vwCl [(cI, .int), (cL, .long)] (none) A [(h, .inr (6, [.int res.1, .int res.2.1.2.2.2.2, .ref h_kind, .ref h_b, .ref h_difference, .ref h_a, .int res.2.2.1.2.2.2.2, .ref h_newKind, .ref h_newB, .ref h_newDifference, .ref h_newA, .int res.2.2.2.1.2, .ref h_log, .ref h_packed, .int res.2.2.2.2.1.2, .int res.2.2.2.2.2.1.1, .int res.2.2.2.2.2.1.2.1, .int res.2.2.2.2.2.1.2.2.1, .int res.2.2.2.2.2.1.2.2.2, .int res.2.2.2.2.2.2.1, .int res.2.2.2.2.2.2.2])), (h_kind, .inl (cI, 300, .inl res.2.1.1)), (h_b, .inl (cI, 300, .inl res.2.1.2.2.2.1)), (h_difference, .inl (cL, 300, .inr (.inl res.2.1.2.1))), (h_a, .inl (cL, 300, .inr (.inl res.2.1.2.2.1))), (h_newKind, .inl (cI, 300, .inl res.2.2.1.1)), (h_newB, .inl (cI, 300, .inl res.2.2.1.2.2.2.1)), (h_newDifference, .inl (cL, 300, .inr (.inl res.2.2.1.2.1))), (h_newA, .inl (cL, 300, .inr (.inl res.2.2.1.2.2.1))), (h_log, .inl (cI, 5000, .inl res.2.2.2.1.1)), (h_packed, .inl (cI, 5000, .inl res.2.2.2.2.1.1))]) args s 0 0 A) (F0 m 281 ls []) := by
  obtain ⟨hx, hb, hr, hml, hown, hts, hlk, hK, hA⟩ := id C
  intro st x1 x3 res hf H locs ls hH hl
  unfold f_Model_entry_b281 at hf
  refine lv_aload_n hx hb d_Model_entry_281 rfl (lv_at hl 0 rfl) ?_
  refine gt (ci := 6) (v := .ref h_kind) C hH (iwT iw_Model) 0 rfl rfl 2 (by decide) (.tail _ wd_598) rfl d_Model_entry_282 ?_
  refine lv_iload_n hx hb d_Model_entry_285 rfl (lv_at hl 1 rfl) ?_
  obtain ⟨hin286, hf⟩ := oa hf
  refine ali C hH 1 0 rfl rfl (hin286) d_Model_entry_286 ?_
  refine lv_iconst (v := 4) hx hb d_Model_entry_287 (by decide) ?_
  refine lv_icmp_ne (tgt := 295) hx hb d_Model_entry_288 (by decide) (fun hc288 => ?_) (fun hc288 => ?_)
  · have hf := im hc288 hf
    refine lv_aload_n hx hb d_Model_entry_295 rfl (lv_at hl 0 rfl) ?_
    refine gt (ci := 6) (v := .ref h_kind) C hH (iwT iw_Model) 0 rfl rfl 2 (by decide) (.tail _ wd_598) rfl d_Model_entry_296 ?_
    refine lv_iload_n hx hb d_Model_entry_299 rfl (lv_at hl 1 rfl) ?_
    obtain ⟨hin300, hf⟩ := oa hf
    refine ali C hH 1 0 rfl rfl (hin300) d_Model_entry_300 ?_
    refine lv_iconst (v := 1) hx hb d_Model_entry_301 (by decide) ?_
    refine lv_icmp_ne (tgt := 318) hx hb d_Model_entry_302 (by decide) (fun hc302 => ?_) (fun hc302 => ?_)
    · have hf := im hc302 hf
      refine lv_iconst (v := 0) hx hb d_Model_entry_318 (by decide) ?_
      refine lv_istore (lv' := [(6, .int 0), (0, .ref h), (1, .int x1), (3, .int x3)]) hx hb d_Model_entry_319 hl (by decide) rfl (fun ls hl => ?_)
      refine lv_iload hx hb d_Model_entry_321 (lv_at hl 0 rfl) ?_
      refine lv_iconst (v := 1) hx hb d_Model_entry_323 (by decide) ?_
      refine lv_isub hx hb d_Model_entry_324 ?_
      refine lv_istore (lv' := [(7, .int ((0 : Int32) - 1)), (6, .int 0), (0, .ref h), (1, .int x1), (3, .int x3)]) hx hb d_Model_entry_325 hl (by decide) rfl (fun ls hl => ?_)
      exact w_Model_entry_b327 l D cI cL h h_kind h_b h_difference h_a h_newKind h_newB h_newDifference h_newA h_log h_packed C 400 st x1 ((0 : Int32) - 1) res hf _ _ _ hH (lv_sub hl [2, 3, 0] rfl)
    · have hf := ip hc302 hf
      refine lv_iload_n hx hb d_Model_entry_305 rfl (lv_at hl 2 rfl) ?_
      refine lv_if_ne (tgt := 318) hx hb d_Model_entry_306 (by decide) (fun hc306 => ?_) (fun hc306 => ?_)
      · have hf := im hc306 hf
        refine lv_iconst (v := 0) hx hb d_Model_entry_318 (by decide) ?_
        refine lv_istore (lv' := [(6, .int 0), (0, .ref h), (1, .int x1), (3, .int x3)]) hx hb d_Model_entry_319 hl (by decide) rfl (fun ls hl => ?_)
        refine lv_iload hx hb d_Model_entry_321 (lv_at hl 0 rfl) ?_
        refine lv_iconst (v := 1) hx hb d_Model_entry_323 (by decide) ?_
        refine lv_isub hx hb d_Model_entry_324 ?_
        refine lv_istore (lv' := [(7, .int ((0 : Int32) - 1)), (6, .int 0), (0, .ref h), (1, .int x1), (3, .int x3)]) hx hb d_Model_entry_325 hl (by decide) rfl (fun ls hl => ?_)
        exact w_Model_entry_b327 l D cI cL h h_kind h_b h_difference h_a h_newKind h_newB h_newDifference h_newA h_log h_packed C 400 st x1 ((0 : Int32) - 1) res hf _ _ _ hH (lv_sub hl [2, 3, 0] rfl)
      · have hf := ip hc306 hf
        refine lv_aload_n hx hb d_Model_entry_309 rfl (lv_at hl 0 rfl) ?_
        refine gt (ci := 6) (v := .ref h_b) C hH (iwT iw_Model) 0 rfl rfl 3 (by decide) (.tail _ wd_599) rfl d_Model_entry_310 ?_
        refine lv_iload_n hx hb d_Model_entry_313 rfl (lv_at hl 1 rfl) ?_
        obtain ⟨hin314, hf⟩ := oa hf
        refine ali C hH 2 0 rfl rfl (hin314) d_Model_entry_314 ?_
        refine lv_goto (tgt := 319) hx hb d_Model_entry_315 (by decide) ?_
        refine lv_istore (lv' := [(6, .int (st.2.1.2.2.2.1 x1.toNatClampNeg)), (0, .ref h), (1, .int x1), (3, .int x3)]) hx hb d_Model_entry_319 hl (by decide) rfl (fun ls hl => ?_)
        refine lv_iload hx hb d_Model_entry_321 (lv_at hl 0 rfl) ?_
        refine lv_iconst (v := 1) hx hb d_Model_entry_323 (by decide) ?_
        refine lv_isub hx hb d_Model_entry_324 ?_
        refine lv_istore (lv' := [(7, .int ((st.2.1.2.2.2.1 x1.toNatClampNeg) - 1)), (6, .int (st.2.1.2.2.2.1 x1.toNatClampNeg)), (0, .ref h), (1, .int x1), (3, .int x3)]) hx hb d_Model_entry_325 hl (by decide) rfl (fun ls hl => ?_)
        exact w_Model_entry_b327 l D cI cL h h_kind h_b h_difference h_a h_newKind h_newB h_newDifference h_newA h_log h_packed C 400 st x1 ((st.2.1.2.2.2.1 x1.toNatClampNeg) - 1) res hf _ _ _ hH (lv_sub hl [2, 3, 0] rfl)
  · have hf := ip hc288 hf
    refine lv_iconst (v := 4) hx hb d_Model_entry_291 (by decide) ?_
    refine lv_goto (tgt := 319) hx hb d_Model_entry_292 (by decide) ?_
    refine lv_istore (lv' := [(6, .int 4), (0, .ref h), (1, .int x1), (3, .int x3)]) hx hb d_Model_entry_319 hl (by decide) rfl (fun ls hl => ?_)
    refine lv_iload hx hb d_Model_entry_321 (lv_at hl 0 rfl) ?_
    refine lv_iconst (v := 1) hx hb d_Model_entry_323 (by decide) ?_
    refine lv_isub hx hb d_Model_entry_324 ?_
    refine lv_istore (lv' := [(7, .int ((4 : Int32) - 1)), (6, .int 4), (0, .ref h), (1, .int x1), (3, .int x3)]) hx hb d_Model_entry_325 hl (by decide) rfl (fun ls hl => ?_)
    exact w_Model_entry_b327 l D cI cL h h_kind h_b h_difference h_a h_newKind h_newB h_newDifference h_newA h_log h_packed C 400 st x1 ((4 : Int32) - 1) res hf _ _ _ hH (lv_sub hl [2, 3, 0] rfl)
def f_Model_entry_b256 (st : S_Model) (x1 : Int32) (x3 : Int32) (x4 : Bool) : Option (S_Model) :=
  if x1 < 0 ∨ 300 ≤ x1.toNatClampNeg then none else if (st.2.1.1 x1.toNatClampNeg) = (3 : Int32) then (if (bI x4) = 0 then (if x1 < 0 ∨ 300 ≤ x1.toNatClampNeg then none else (f_Model_varint st (st.2.1.2.2.1 x1.toNatClampNeg)).bind (fun r278 => f_Model_entry_b281 r278 x1 x3)) else (f_Model_entry_b281 st x1 x3)) else (f_Model_entry_b281 st x1 x3)
set_option maxRecDepth 100000 in
set_option maxHeartbeats 4000000 in
theorem w_Model_entry_b256 (l : Launch) (D : va_G) (cI cL : ClassId) (h h_kind h_b h_difference h_a h_newKind h_newB h_newDifference h_newA h_log h_packed : Nat) {p : Program} {e : Env} {s : State} {m : MethodId} {args : Array Value} {below : List Frame} {meth : Method} {c : Code} {A : Nat → Prop} (C : Cx p s m args meth c D vwCl [(cI, .int), (cL, .long)] A b_Model_entry 8 none ws_Model_entry y_Model_entry.cls) : ∀ (st : S_Model) (x1 : Int32) (x3 : Int32) (x4 : Bool) (res : S_Model), f_Model_entry_b256 st x1 x3 x4 = some res → ∀ (H : Heap) (locs : List Loc) (ls : Array Slot), Hp D vwCl A A s.heap H locs [(h, .inr (6, [.int st.1, .int st.2.1.2.2.2.2, .ref h_kind, .ref h_b, .ref h_difference, .ref h_a, .int st.2.2.1.2.2.2.2, .ref h_newKind, .ref h_newB, .ref h_newDifference, .ref h_newA, .int st.2.2.2.1.2, .ref h_log, .ref h_packed, .int st.2.2.2.2.1.2, .int st.2.2.2.2.2.1.1, .int st.2.2.2.2.2.1.2.1, .int st.2.2.2.2.2.1.2.2.1, .int st.2.2.2.2.2.1.2.2.2, .int st.2.2.2.2.2.2.1, .int st.2.2.2.2.2.2.2])), (h_kind, .inl (cI, 300, .inl st.2.1.1)), (h_b, .inl (cI, 300, .inl st.2.1.2.2.2.1)), (h_difference, .inl (cL, 300, .inr (.inl st.2.1.2.1))), (h_a, .inl (cL, 300, .inr (.inl st.2.1.2.2.1))), (h_newKind, .inl (cI, 300, .inl st.2.2.1.1)), (h_newB, .inl (cI, 300, .inl st.2.2.1.2.2.2.1)), (h_newDifference, .inl (cL, 300, .inr (.inl st.2.2.1.2.1))), (h_newA, .inl (cL, 300, .inr (.inl st.2.2.1.2.2.1))), (h_log, .inl (cI, 5000, .inl st.2.2.2.1.1)), (h_packed, .inl (cI, 5000, .inl st.2.2.2.2.1.1))] → lv_has ls 8 [(0, .ref h), (1, .int x1), (3, .int x3), (4, .int (bI x4))] → W p l e { frames := 2, cells := 0, slots := 0, locals := 45 } s m args below meth c H locs 0 0 (MQ below (Qw D vwCl [(cI, .int), (cL, .long)] (none) A [(h, .inr (6, [.int res.1, .int res.2.1.2.2.2.2, .ref h_kind, .ref h_b, .ref h_difference, .ref h_a, .int res.2.2.1.2.2.2.2, .ref h_newKind, .ref h_newB, .ref h_newDifference, .ref h_newA, .int res.2.2.2.1.2, .ref h_log, .ref h_packed, .int res.2.2.2.2.1.2, .int res.2.2.2.2.2.1.1, .int res.2.2.2.2.2.1.2.1, .int res.2.2.2.2.2.1.2.2.1, .int res.2.2.2.2.2.1.2.2.2, .int res.2.2.2.2.2.2.1, .int res.2.2.2.2.2.2.2])), (h_kind, .inl (cI, 300, .inl res.2.1.1)), (h_b, .inl (cI, 300, .inl res.2.1.2.2.2.1)), (h_difference, .inl (cL, 300, .inr (.inl res.2.1.2.1))), (h_a, .inl (cL, 300, .inr (.inl res.2.1.2.2.1))), (h_newKind, .inl (cI, 300, .inl res.2.2.1.1)), (h_newB, .inl (cI, 300, .inl res.2.2.1.2.2.2.1)), (h_newDifference, .inl (cL, 300, .inr (.inl res.2.2.1.2.1))), (h_newA, .inl (cL, 300, .inr (.inl res.2.2.1.2.2.1))), (h_log, .inl (cI, 5000, .inl res.2.2.2.1.1)), (h_packed, .inl (cI, 5000, .inl res.2.2.2.2.1.1))]) args s 0 0 A) (F0 m 256 ls []) := by
  obtain ⟨hx, hb, hr, hml, hown, hts, hlk, hK, hA⟩ := id C
  intro st x1 x3 x4 res hf H locs ls hH hl
  unfold f_Model_entry_b256 at hf
  refine lv_aload_n hx hb d_Model_entry_256 rfl (lv_at hl 0 rfl) ?_
  refine gt (ci := 6) (v := .ref h_kind) C hH (iwT iw_Model) 0 rfl rfl 2 (by decide) (.tail _ wd_598) rfl d_Model_entry_257 ?_
  refine lv_iload_n hx hb d_Model_entry_260 rfl (lv_at hl 1 rfl) ?_
  obtain ⟨hin261, hf⟩ := oa hf
  refine ali C hH 1 0 rfl rfl (hin261) d_Model_entry_261 ?_
  refine lv_iconst (v := 3) hx hb d_Model_entry_262 (by decide) ?_
  refine lv_icmp_ne (tgt := 281) hx hb d_Model_entry_263 (by decide) (fun hc263 => ?_) (fun hc263 => ?_)
  · have hf := im hc263 hf
    exact w_Model_entry_b281 l D cI cL h h_kind h_b h_difference h_a h_newKind h_newB h_newDifference h_newA h_log h_packed C st x1 x3 res hf _ _ _ hH (lv_sub hl [0, 1, 2] rfl)
  · have hf := ip hc263 hf
    refine lv_iload hx hb d_Model_entry_266 (lv_at hl 3 rfl) ?_
    refine lv_if_ne (tgt := 281) hx hb d_Model_entry_268 (by decide) (fun hc268 => ?_) (fun hc268 => ?_)
    · have hf := im hc268 hf
      exact w_Model_entry_b281 l D cI cL h h_kind h_b h_difference h_a h_newKind h_newB h_newDifference h_newA h_log h_packed C st x1 x3 res hf _ _ _ hH (lv_sub hl [0, 1, 2] rfl)
    · have hf := ip hc268 hf
      refine lv_aload_n hx hb d_Model_entry_271 rfl (lv_at hl 0 rfl) ?_
      refine lv_aload_n hx hb d_Model_entry_272 rfl (lv_at hl 0 rfl) ?_
      refine gt (ci := 6) (v := .ref h_a) C hH (iwT iw_Model) 0 rfl rfl 5 (by decide) (.tail _ wd_601) rfl d_Model_entry_273 ?_
      refine lv_iload_n hx hb d_Model_entry_276 rfl (lv_at hl 1 rfl) ?_
      obtain ⟨hin277, hf⟩ := oa hf
      refine all_ C hH 4 1 rfl rfl (hin277) d_Model_entry_277 ?_
      obtain ⟨r278, hr278, hf⟩ := ob hf
      refine fnV (rest := []) (wr := []) (w2 := [(h, .inr (6, [.int r278.1, .int r278.2.1.2.2.2.2, .ref h_kind, .ref h_b, .ref h_difference, .ref h_a, .int r278.2.2.1.2.2.2.2, .ref h_newKind, .ref h_newB, .ref h_newDifference, .ref h_newA, .int r278.2.2.2.1.2, .ref h_log, .ref h_packed, .int r278.2.2.2.2.1.2, .int r278.2.2.2.2.2.1.1, .int r278.2.2.2.2.2.1.2.1, .int r278.2.2.2.2.2.1.2.2.1, .int r278.2.2.2.2.2.1.2.2.2, .int r278.2.2.2.2.2.2.1, .int r278.2.2.2.2.2.2.2])), (h_kind, .inl (cI, 300, .inl r278.2.1.1)), (h_b, .inl (cI, 300, .inl r278.2.1.2.2.2.1)), (h_difference, .inl (cL, 300, .inr (.inl r278.2.1.2.1))), (h_a, .inl (cL, 300, .inr (.inl r278.2.1.2.2.1))), (h_newKind, .inl (cI, 300, .inl r278.2.2.1.1)), (h_newB, .inl (cI, 300, .inl r278.2.2.1.2.2.2.1)), (h_newDifference, .inl (cL, 300, .inr (.inl r278.2.2.1.2.1))), (h_newA, .inl (cL, 300, .inr (.inl r278.2.2.1.2.2.1))), (h_log, .inl (cI, 5000, .inl r278.2.2.2.1.1)), (h_packed, .inl (cI, 5000, .inl r278.2.2.2.2.1.1))]) (st2 := []) C (c_Model_varint l D cI cL h h_kind h_b h_difference h_a h_newKind h_newB h_newDifference h_newA h_log h_packed st (st.2.1.2.2.1 x1.toNatClampNeg) r278 hr278) (cV hts kV_Model_varint wd_698 ⟨Nat.le_of_ble_eq_true rfl, Nat.le_of_ble_eq_true rfl⟩) hH [0, 1, 2, 3, 4, 5, 6, 7, 8, 9, 10] [] [0, 1, 2, 3, 4, 5, 6, 7, 8, 9, 10] rfl rfl rfl rfl (by decide) rfl rfl 0 rfl rfl rfl hl.1 rfl (Nat.le_of_ble_eq_true rfl) d_Model_entry_278 ⟨Nat.le_of_ble_eq_true rfl, Nat.le_of_ble_eq_true rfl⟩ rfl (fun H locs hH => ?_)
      exact w_Model_entry_b281 l D cI cL h h_kind h_b h_difference h_a h_newKind h_newB h_newDifference h_newA h_log h_packed C r278 x1 x3 res hf _ _ _ hH (lv_sub hl [0, 1, 2] rfl)
def f_Model_entry_b236 (st : S_Model) (x1 : Int32) (x3 : Int32) (x4 : Bool) : Option (S_Model) :=
  if x1 < 0 ∨ 300 ≤ x1.toNatClampNeg then none else if (st.2.1.1 x1.toNatClampNeg) = (2 : Int32) then (if x1 < 0 ∨ 300 ≤ x1.toNatClampNeg then none else (f_Model_put st (st.2.1.2.2.2.1 x1.toNatClampNeg)).bind (fun r253 => f_Model_entry_b256 r253 x1 x3 x4)) else (f_Model_entry_b256 st x1 x3 x4)
set_option maxRecDepth 100000 in
set_option maxHeartbeats 4000000 in
theorem w_Model_entry_b236 (l : Launch) (D : va_G) (cI cL : ClassId) (h h_kind h_b h_difference h_a h_newKind h_newB h_newDifference h_newA h_log h_packed : Nat) {p : Program} {e : Env} {s : State} {m : MethodId} {args : Array Value} {below : List Frame} {meth : Method} {c : Code} {A : Nat → Prop} (C : Cx p s m args meth c D vwCl [(cI, .int), (cL, .long)] A b_Model_entry 8 none ws_Model_entry y_Model_entry.cls) : ∀ (st : S_Model) (x1 : Int32) (x3 : Int32) (x4 : Bool) (res : S_Model), f_Model_entry_b236 st x1 x3 x4 = some res → ∀ (H : Heap) (locs : List Loc) (ls : Array Slot), Hp D vwCl A A s.heap H locs [(h, .inr (6, [.int st.1, .int st.2.1.2.2.2.2, .ref h_kind, .ref h_b, .ref h_difference, .ref h_a, .int st.2.2.1.2.2.2.2, .ref h_newKind, .ref h_newB, .ref h_newDifference, .ref h_newA, .int st.2.2.2.1.2, .ref h_log, .ref h_packed, .int st.2.2.2.2.1.2, .int st.2.2.2.2.2.1.1, .int st.2.2.2.2.2.1.2.1, .int st.2.2.2.2.2.1.2.2.1, .int st.2.2.2.2.2.1.2.2.2, .int st.2.2.2.2.2.2.1, .int st.2.2.2.2.2.2.2])), (h_kind, .inl (cI, 300, .inl st.2.1.1)), (h_b, .inl (cI, 300, .inl st.2.1.2.2.2.1)), (h_difference, .inl (cL, 300, .inr (.inl st.2.1.2.1))), (h_a, .inl (cL, 300, .inr (.inl st.2.1.2.2.1))), (h_newKind, .inl (cI, 300, .inl st.2.2.1.1)), (h_newB, .inl (cI, 300, .inl st.2.2.1.2.2.2.1)), (h_newDifference, .inl (cL, 300, .inr (.inl st.2.2.1.2.1))), (h_newA, .inl (cL, 300, .inr (.inl st.2.2.1.2.2.1))), (h_log, .inl (cI, 5000, .inl st.2.2.2.1.1)), (h_packed, .inl (cI, 5000, .inl st.2.2.2.2.1.1))] → lv_has ls 8 [(0, .ref h), (1, .int x1), (3, .int x3), (4, .int (bI x4))] → W p l e { frames := 2, cells := 0, slots := 0, locals := 45 } s m args below meth c H locs 0 0 (MQ below (Qw D vwCl [(cI, .int), (cL, .long)] (none) A [(h, .inr (6, [.int res.1, .int res.2.1.2.2.2.2, .ref h_kind, .ref h_b, .ref h_difference, .ref h_a, .int res.2.2.1.2.2.2.2, .ref h_newKind, .ref h_newB, .ref h_newDifference, .ref h_newA, .int res.2.2.2.1.2, .ref h_log, .ref h_packed, .int res.2.2.2.2.1.2, .int res.2.2.2.2.2.1.1, .int res.2.2.2.2.2.1.2.1, .int res.2.2.2.2.2.1.2.2.1, .int res.2.2.2.2.2.1.2.2.2, .int res.2.2.2.2.2.2.1, .int res.2.2.2.2.2.2.2])), (h_kind, .inl (cI, 300, .inl res.2.1.1)), (h_b, .inl (cI, 300, .inl res.2.1.2.2.2.1)), (h_difference, .inl (cL, 300, .inr (.inl res.2.1.2.1))), (h_a, .inl (cL, 300, .inr (.inl res.2.1.2.2.1))), (h_newKind, .inl (cI, 300, .inl res.2.2.1.1)), (h_newB, .inl (cI, 300, .inl res.2.2.1.2.2.2.1)), (h_newDifference, .inl (cL, 300, .inr (.inl res.2.2.1.2.1))), (h_newA, .inl (cL, 300, .inr (.inl res.2.2.1.2.2.1))), (h_log, .inl (cI, 5000, .inl res.2.2.2.1.1)), (h_packed, .inl (cI, 5000, .inl res.2.2.2.2.1.1))]) args s 0 0 A) (F0 m 236 ls []) := by
  obtain ⟨hx, hb, hr, hml, hown, hts, hlk, hK, hA⟩ := id C
  intro st x1 x3 x4 res hf H locs ls hH hl
  unfold f_Model_entry_b236 at hf
  refine lv_aload_n hx hb d_Model_entry_236 rfl (lv_at hl 0 rfl) ?_
  refine gt (ci := 6) (v := .ref h_kind) C hH (iwT iw_Model) 0 rfl rfl 2 (by decide) (.tail _ wd_598) rfl d_Model_entry_237 ?_
  refine lv_iload_n hx hb d_Model_entry_240 rfl (lv_at hl 1 rfl) ?_
  obtain ⟨hin241, hf⟩ := oa hf
  refine ali C hH 1 0 rfl rfl (hin241) d_Model_entry_241 ?_
  refine lv_iconst (v := 2) hx hb d_Model_entry_242 (by decide) ?_
  refine lv_icmp_ne (tgt := 256) hx hb d_Model_entry_243 (by decide) (fun hc243 => ?_) (fun hc243 => ?_)
  · have hf := im hc243 hf
    exact w_Model_entry_b256 l D cI cL h h_kind h_b h_difference h_a h_newKind h_newB h_newDifference h_newA h_log h_packed C st x1 x3 x4 res hf _ _ _ hH (lv_sub hl [0, 1, 2, 3] rfl)
  · have hf := ip hc243 hf
    refine lv_aload_n hx hb d_Model_entry_246 rfl (lv_at hl 0 rfl) ?_
    refine lv_aload_n hx hb d_Model_entry_247 rfl (lv_at hl 0 rfl) ?_
    refine gt (ci := 6) (v := .ref h_b) C hH (iwT iw_Model) 0 rfl rfl 3 (by decide) (.tail _ wd_599) rfl d_Model_entry_248 ?_
    refine lv_iload_n hx hb d_Model_entry_251 rfl (lv_at hl 1 rfl) ?_
    obtain ⟨hin252, hf⟩ := oa hf
    refine ali C hH 2 0 rfl rfl (hin252) d_Model_entry_252 ?_
    obtain ⟨r253, hr253, hf⟩ := ob hf
    refine fnV (rest := []) (wr := []) (w2 := [(h, .inr (6, [.int r253.1, .int r253.2.1.2.2.2.2, .ref h_kind, .ref h_b, .ref h_difference, .ref h_a, .int r253.2.2.1.2.2.2.2, .ref h_newKind, .ref h_newB, .ref h_newDifference, .ref h_newA, .int r253.2.2.2.1.2, .ref h_log, .ref h_packed, .int r253.2.2.2.2.1.2, .int r253.2.2.2.2.2.1.1, .int r253.2.2.2.2.2.1.2.1, .int r253.2.2.2.2.2.1.2.2.1, .int r253.2.2.2.2.2.1.2.2.2, .int r253.2.2.2.2.2.2.1, .int r253.2.2.2.2.2.2.2])), (h_kind, .inl (cI, 300, .inl r253.2.1.1)), (h_b, .inl (cI, 300, .inl r253.2.1.2.2.2.1)), (h_difference, .inl (cL, 300, .inr (.inl r253.2.1.2.1))), (h_a, .inl (cL, 300, .inr (.inl r253.2.1.2.2.1))), (h_newKind, .inl (cI, 300, .inl r253.2.2.1.1)), (h_newB, .inl (cI, 300, .inl r253.2.2.1.2.2.2.1)), (h_newDifference, .inl (cL, 300, .inr (.inl r253.2.2.1.2.1))), (h_newA, .inl (cL, 300, .inr (.inl r253.2.2.1.2.2.1))), (h_log, .inl (cI, 5000, .inl r253.2.2.2.1.1)), (h_packed, .inl (cI, 5000, .inl r253.2.2.2.2.1.1))]) (st2 := []) C (c_Model_put l D cI cL h h_kind h_b h_difference h_a h_newKind h_newB h_newDifference h_newA h_log h_packed st (st.2.1.2.2.2.1 x1.toNatClampNeg) r253 hr253) (cV hts kV_Model_put wd_703 ⟨Nat.le_of_ble_eq_true rfl, Nat.le_of_ble_eq_true rfl⟩) hH [0, 1, 2, 3, 4, 5, 6, 7, 8, 9, 10] [] [0, 1, 2, 3, 4, 5, 6, 7, 8, 9, 10] rfl rfl rfl rfl (by decide) rfl rfl 0 rfl rfl rfl hl.1 rfl (Nat.le_of_ble_eq_true rfl) d_Model_entry_253 ⟨Nat.le_of_ble_eq_true rfl, Nat.le_of_ble_eq_true rfl⟩ rfl (fun H locs hH => ?_)
    exact w_Model_entry_b256 l D cI cL h h_kind h_b h_difference h_a h_newKind h_newB h_newDifference h_newA h_log h_packed C r253 x1 x3 x4 res hf _ _ _ hH (lv_sub hl [0, 1, 2, 3] rfl)
def f_Model_entry_b222 (st : S_Model) (x1 : Int32) (x3 : Int32) (x4 : Bool) (z0 : Bool) (z1 : Int32) : Option (S_Model) :=
  if x3 ≤ 0 then (f_Model_entry_b236 ((st.1, st.2.1, st.2.2.1, st.2.2.2.1, st.2.2.2.2.1, (st.2.2.2.2.2.1.1, st.2.2.2.2.2.1.2.1, st.2.2.2.2.2.1.2.2.1, z1 + (bI z0)), st.2.2.2.2.2.2.1, st.2.2.2.2.2.2.2)) x1 x3 x4) else ((f_Model_varint ((st.1, st.2.1, st.2.2.1, st.2.2.2.1, st.2.2.2.2.1, (st.2.2.2.2.2.1.1, st.2.2.2.2.2.1.2.1, st.2.2.2.2.2.1.2.2.1, z1 + (bI z0)), st.2.2.2.2.2.2.1, st.2.2.2.2.2.2.2)) x3.toInt64).bind (fun r233 => f_Model_entry_b236 r233 x1 x3 x4))
set_option maxRecDepth 100000 in
set_option maxHeartbeats 4000000 in
theorem w_Model_entry_b222 (l : Launch) (D : va_G) (cI cL : ClassId) (h h_kind h_b h_difference h_a h_newKind h_newB h_newDifference h_newA h_log h_packed : Nat) {p : Program} {e : Env} {s : State} {m : MethodId} {args : Array Value} {below : List Frame} {meth : Method} {c : Code} {A : Nat → Prop} (C : Cx p s m args meth c D vwCl [(cI, .int), (cL, .long)] A b_Model_entry 8 none ws_Model_entry y_Model_entry.cls) : ∀ (st : S_Model) (x1 : Int32) (x3 : Int32) (x4 : Bool) (z0 : Bool) (z1 : Int32) (res : S_Model), f_Model_entry_b222 st x1 x3 x4 z0 z1 = some res → ∀ (H : Heap) (locs : List Loc) (ls : Array Slot), Hp D vwCl A A s.heap H locs [(h, .inr (6, [.int st.1, .int st.2.1.2.2.2.2, .ref h_kind, .ref h_b, .ref h_difference, .ref h_a, .int st.2.2.1.2.2.2.2, .ref h_newKind, .ref h_newB, .ref h_newDifference, .ref h_newA, .int st.2.2.2.1.2, .ref h_log, .ref h_packed, .int st.2.2.2.2.1.2, .int st.2.2.2.2.2.1.1, .int st.2.2.2.2.2.1.2.1, .int st.2.2.2.2.2.1.2.2.1, .int st.2.2.2.2.2.1.2.2.2, .int st.2.2.2.2.2.2.1, .int st.2.2.2.2.2.2.2])), (h_kind, .inl (cI, 300, .inl st.2.1.1)), (h_b, .inl (cI, 300, .inl st.2.1.2.2.2.1)), (h_difference, .inl (cL, 300, .inr (.inl st.2.1.2.1))), (h_a, .inl (cL, 300, .inr (.inl st.2.1.2.2.1))), (h_newKind, .inl (cI, 300, .inl st.2.2.1.1)), (h_newB, .inl (cI, 300, .inl st.2.2.1.2.2.2.1)), (h_newDifference, .inl (cL, 300, .inr (.inl st.2.2.1.2.1))), (h_newA, .inl (cL, 300, .inr (.inl st.2.2.1.2.2.1))), (h_log, .inl (cI, 5000, .inl st.2.2.2.1.1)), (h_packed, .inl (cI, 5000, .inl st.2.2.2.2.1.1))] → lv_has ls 8 [(0, .ref h), (1, .int x1), (3, .int x3), (4, .int (bI x4))] → W p l e { frames := 2, cells := 0, slots := 0, locals := 45 } s m args below meth c H locs 0 0 (MQ below (Qw D vwCl [(cI, .int), (cL, .long)] (none) A [(h, .inr (6, [.int res.1, .int res.2.1.2.2.2.2, .ref h_kind, .ref h_b, .ref h_difference, .ref h_a, .int res.2.2.1.2.2.2.2, .ref h_newKind, .ref h_newB, .ref h_newDifference, .ref h_newA, .int res.2.2.2.1.2, .ref h_log, .ref h_packed, .int res.2.2.2.2.1.2, .int res.2.2.2.2.2.1.1, .int res.2.2.2.2.2.1.2.1, .int res.2.2.2.2.2.1.2.2.1, .int res.2.2.2.2.2.1.2.2.2, .int res.2.2.2.2.2.2.1, .int res.2.2.2.2.2.2.2])), (h_kind, .inl (cI, 300, .inl res.2.1.1)), (h_b, .inl (cI, 300, .inl res.2.1.2.2.2.1)), (h_difference, .inl (cL, 300, .inr (.inl res.2.1.2.1))), (h_a, .inl (cL, 300, .inr (.inl res.2.1.2.2.1))), (h_newKind, .inl (cI, 300, .inl res.2.2.1.1)), (h_newB, .inl (cI, 300, .inl res.2.2.1.2.2.2.1)), (h_newDifference, .inl (cL, 300, .inr (.inl res.2.2.1.2.1))), (h_newA, .inl (cL, 300, .inr (.inl res.2.2.1.2.2.1))), (h_log, .inl (cI, 5000, .inl res.2.2.2.1.1)), (h_packed, .inl (cI, 5000, .inl res.2.2.2.2.1.1))]) args s 0 0 A) (F0 m 222 ls [.int (bI z0), .int z1, .ref h]) := by
  obtain ⟨hx, hb, hr, hml, hown, hts, hlk, hK, hA⟩ := id C
  intro st x1 x3 x4 z0 z1 res hf H locs ls hH hl
  unfold f_Model_entry_b222 at hf
  refine lv_iadd hx hb d_Model_entry_222 ?_
  refine pt (ci := 6) (v := .int (z1 + (bI z0))) C hH (iwT iw_Model) ty_Model tyok_Model nm_Model 0 rfl rfl 18 (by decide) (.tail _ wd_614) rfl rfl rfl (Nat.le_of_ble_eq_true rfl) d_Model_entry_223 [(h, .inr (6, [.int st.1, .int st.2.1.2.2.2.2, .ref h_kind, .ref h_b, .ref h_difference, .ref h_a, .int st.2.2.1.2.2.2.2, .ref h_newKind, .ref h_newB, .ref h_newDifference, .ref h_newA, .int st.2.2.2.1.2, .ref h_log, .ref h_packed, .int st.2.2.2.2.1.2, .int st.2.2.2.2.2.1.1, .int st.2.2.2.2.2.1.2.1, .int st.2.2.2.2.2.1.2.2.1, .int (z1 + (bI z0)), .int st.2.2.2.2.2.2.1, .int st.2.2.2.2.2.2.2])), (h_kind, .inl (cI, 300, .inl st.2.1.1)), (h_b, .inl (cI, 300, .inl st.2.1.2.2.2.1)), (h_difference, .inl (cL, 300, .inr (.inl st.2.1.2.1))), (h_a, .inl (cL, 300, .inr (.inl st.2.1.2.2.1))), (h_newKind, .inl (cI, 300, .inl st.2.2.1.1)), (h_newB, .inl (cI, 300, .inl st.2.2.1.2.2.2.1)), (h_newDifference, .inl (cL, 300, .inr (.inl st.2.2.1.2.1))), (h_newA, .inl (cL, 300, .inr (.inl st.2.2.1.2.2.1))), (h_log, .inl (cI, 5000, .inl st.2.2.2.1.1)), (h_packed, .inl (cI, 5000, .inl st.2.2.2.2.1.1))] rfl (fun H locs hH => ?_)
  refine lv_iload_n hx hb d_Model_entry_226 rfl (lv_at hl 2 rfl) ?_
  refine lv_if_le (tgt := 236) hx hb d_Model_entry_227 (by decide) (fun hc227 => ?_) (fun hc227 => ?_)
  · have hf := ip hc227 hf
    exact w_Model_entry_b236 l D cI cL h h_kind h_b h_difference h_a h_newKind h_newB h_newDifference h_newA h_log h_packed C ((st.1, st.2.1, st.2.2.1, st.2.2.2.1, st.2.2.2.2.1, (st.2.2.2.2.2.1.1, st.2.2.2.2.2.1.2.1, st.2.2.2.2.2.1.2.2.1, z1 + (bI z0)), st.2.2.2.2.2.2.1, st.2.2.2.2.2.2.2)) x1 x3 x4 res hf _ _ _ hH (lv_sub hl [0, 1, 2, 3] rfl)
  · have hf := im hc227 hf
    refine lv_aload_n hx hb d_Model_entry_230 rfl (lv_at hl 0 rfl) ?_
    refine lv_iload_n hx hb d_Model_entry_231 rfl (lv_at hl 2 rfl) ?_
    refine lv_i2l (v := x3.toInt64) hx hb d_Model_entry_232 rfl ?_
    obtain ⟨r233, hr233, hf⟩ := ob hf
    refine fnV (rest := []) (wr := []) (w2 := [(h, .inr (6, [.int r233.1, .int r233.2.1.2.2.2.2, .ref h_kind, .ref h_b, .ref h_difference, .ref h_a, .int r233.2.2.1.2.2.2.2, .ref h_newKind, .ref h_newB, .ref h_newDifference, .ref h_newA, .int r233.2.2.2.1.2, .ref h_log, .ref h_packed, .int r233.2.2.2.2.1.2, .int r233.2.2.2.2.2.1.1, .int r233.2.2.2.2.2.1.2.1, .int r233.2.2.2.2.2.1.2.2.1, .int r233.2.2.2.2.2.1.2.2.2, .int r233.2.2.2.2.2.2.1, .int r233.2.2.2.2.2.2.2])), (h_kind, .inl (cI, 300, .inl r233.2.1.1)), (h_b, .inl (cI, 300, .inl r233.2.1.2.2.2.1)), (h_difference, .inl (cL, 300, .inr (.inl r233.2.1.2.1))), (h_a, .inl (cL, 300, .inr (.inl r233.2.1.2.2.1))), (h_newKind, .inl (cI, 300, .inl r233.2.2.1.1)), (h_newB, .inl (cI, 300, .inl r233.2.2.1.2.2.2.1)), (h_newDifference, .inl (cL, 300, .inr (.inl r233.2.2.1.2.1))), (h_newA, .inl (cL, 300, .inr (.inl r233.2.2.1.2.2.1))), (h_log, .inl (cI, 5000, .inl r233.2.2.2.1.1)), (h_packed, .inl (cI, 5000, .inl r233.2.2.2.2.1.1))]) (st2 := []) C (c_Model_varint l D cI cL h h_kind h_b h_difference h_a h_newKind h_newB h_newDifference h_newA h_log h_packed ((st.1, st.2.1, st.2.2.1, st.2.2.2.1, st.2.2.2.2.1, (st.2.2.2.2.2.1.1, st.2.2.2.2.2.1.2.1, st.2.2.2.2.2.1.2.2.1, z1 + (bI z0)), st.2.2.2.2.2.2.1, st.2.2.2.2.2.2.2)) x3.toInt64 r233 hr233) (cV hts kV_Model_varint wd_698 ⟨Nat.le_of_ble_eq_true rfl, Nat.le_of_ble_eq_true rfl⟩) hH [0, 1, 2, 3, 4, 5, 6, 7, 8, 9, 10] [] [0, 1, 2, 3, 4, 5, 6, 7, 8, 9, 10] rfl rfl rfl rfl (by decide) rfl rfl 0 rfl rfl rfl hl.1 rfl (Nat.le_of_ble_eq_true rfl) d_Model_entry_233 ⟨Nat.le_of_ble_eq_true rfl, Nat.le_of_ble_eq_true rfl⟩ rfl (fun H locs hH => ?_)
    exact w_Model_entry_b236 l D cI cL h h_kind h_b h_difference h_a h_newKind h_newB h_newDifference h_newA h_log h_packed C r233 x1 x3 x4 res hf _ _ _ hH (lv_sub hl [0, 1, 2, 3] rfl)
def f_Model_entry_b204 (st : S_Model) (x1 : Int32) (x3 : Int32) (x4 : Bool) (z0 : Bool) (z1 : Int32) : Option (S_Model) :=
  if x3 ≤ 0 then (f_Model_entry_b222 ((st.1, st.2.1, st.2.2.1, st.2.2.2.1, st.2.2.2.2.1, (st.2.2.2.2.2.1.1, st.2.2.2.2.2.1.2.1, z1 + (bI z0), st.2.2.2.2.2.1.2.2.2), st.2.2.2.2.2.2.1, st.2.2.2.2.2.2.2)) x1 x3 x4 false st.2.2.2.2.2.1.2.2.2) else (f_Model_entry_b222 ((st.1, st.2.1, st.2.2.1, st.2.2.2.1, st.2.2.2.2.1, (st.2.2.2.2.2.1.1, st.2.2.2.2.2.1.2.1, z1 + (bI z0), st.2.2.2.2.2.1.2.2.2), st.2.2.2.2.2.2.1, st.2.2.2.2.2.2.2)) x1 x3 x4 true st.2.2.2.2.2.1.2.2.2)
set_option maxRecDepth 100000 in
set_option maxHeartbeats 4000000 in
theorem w_Model_entry_b204 (l : Launch) (D : va_G) (cI cL : ClassId) (h h_kind h_b h_difference h_a h_newKind h_newB h_newDifference h_newA h_log h_packed : Nat) {p : Program} {e : Env} {s : State} {m : MethodId} {args : Array Value} {below : List Frame} {meth : Method} {c : Code} {A : Nat → Prop} (C : Cx p s m args meth c D vwCl [(cI, .int), (cL, .long)] A b_Model_entry 8 none ws_Model_entry y_Model_entry.cls) : ∀ (st : S_Model) (x1 : Int32) (x3 : Int32) (x4 : Bool) (z0 : Bool) (z1 : Int32) (res : S_Model), f_Model_entry_b204 st x1 x3 x4 z0 z1 = some res → ∀ (H : Heap) (locs : List Loc) (ls : Array Slot), Hp D vwCl A A s.heap H locs [(h, .inr (6, [.int st.1, .int st.2.1.2.2.2.2, .ref h_kind, .ref h_b, .ref h_difference, .ref h_a, .int st.2.2.1.2.2.2.2, .ref h_newKind, .ref h_newB, .ref h_newDifference, .ref h_newA, .int st.2.2.2.1.2, .ref h_log, .ref h_packed, .int st.2.2.2.2.1.2, .int st.2.2.2.2.2.1.1, .int st.2.2.2.2.2.1.2.1, .int st.2.2.2.2.2.1.2.2.1, .int st.2.2.2.2.2.1.2.2.2, .int st.2.2.2.2.2.2.1, .int st.2.2.2.2.2.2.2])), (h_kind, .inl (cI, 300, .inl st.2.1.1)), (h_b, .inl (cI, 300, .inl st.2.1.2.2.2.1)), (h_difference, .inl (cL, 300, .inr (.inl st.2.1.2.1))), (h_a, .inl (cL, 300, .inr (.inl st.2.1.2.2.1))), (h_newKind, .inl (cI, 300, .inl st.2.2.1.1)), (h_newB, .inl (cI, 300, .inl st.2.2.1.2.2.2.1)), (h_newDifference, .inl (cL, 300, .inr (.inl st.2.2.1.2.1))), (h_newA, .inl (cL, 300, .inr (.inl st.2.2.1.2.2.1))), (h_log, .inl (cI, 5000, .inl st.2.2.2.1.1)), (h_packed, .inl (cI, 5000, .inl st.2.2.2.2.1.1))] → lv_has ls 8 [(0, .ref h), (1, .int x1), (3, .int x3), (4, .int (bI x4))] → W p l e { frames := 2, cells := 0, slots := 0, locals := 45 } s m args below meth c H locs 0 0 (MQ below (Qw D vwCl [(cI, .int), (cL, .long)] (none) A [(h, .inr (6, [.int res.1, .int res.2.1.2.2.2.2, .ref h_kind, .ref h_b, .ref h_difference, .ref h_a, .int res.2.2.1.2.2.2.2, .ref h_newKind, .ref h_newB, .ref h_newDifference, .ref h_newA, .int res.2.2.2.1.2, .ref h_log, .ref h_packed, .int res.2.2.2.2.1.2, .int res.2.2.2.2.2.1.1, .int res.2.2.2.2.2.1.2.1, .int res.2.2.2.2.2.1.2.2.1, .int res.2.2.2.2.2.1.2.2.2, .int res.2.2.2.2.2.2.1, .int res.2.2.2.2.2.2.2])), (h_kind, .inl (cI, 300, .inl res.2.1.1)), (h_b, .inl (cI, 300, .inl res.2.1.2.2.2.1)), (h_difference, .inl (cL, 300, .inr (.inl res.2.1.2.1))), (h_a, .inl (cL, 300, .inr (.inl res.2.1.2.2.1))), (h_newKind, .inl (cI, 300, .inl res.2.2.1.1)), (h_newB, .inl (cI, 300, .inl res.2.2.1.2.2.2.1)), (h_newDifference, .inl (cL, 300, .inr (.inl res.2.2.1.2.1))), (h_newA, .inl (cL, 300, .inr (.inl res.2.2.1.2.2.1))), (h_log, .inl (cI, 5000, .inl res.2.2.2.1.1)), (h_packed, .inl (cI, 5000, .inl res.2.2.2.2.1.1))]) args s 0 0 A) (F0 m 204 ls [.int (bI z0), .int z1, .ref h]) := by
  obtain ⟨hx, hb, hr, hml, hown, hts, hlk, hK, hA⟩ := id C
  intro st x1 x3 x4 z0 z1 res hf H locs ls hH hl
  unfold f_Model_entry_b204 at hf
  refine lv_iadd hx hb d_Model_entry_204 ?_
  refine pt (ci := 6) (v := .int (z1 + (bI z0))) C hH (iwT iw_Model) ty_Model tyok_Model nm_Model 0 rfl rfl 17 (by decide) (.tail _ wd_613) rfl rfl rfl (Nat.le_of_ble_eq_true rfl) d_Model_entry_205 [(h, .inr (6, [.int st.1, .int st.2.1.2.2.2.2, .ref h_kind, .ref h_b, .ref h_difference, .ref h_a, .int st.2.2.1.2.2.2.2, .ref h_newKind, .ref h_newB, .ref h_newDifference, .ref h_newA, .int st.2.2.2.1.2, .ref h_log, .ref h_packed, .int st.2.2.2.2.1.2, .int st.2.2.2.2.2.1.1, .int st.2.2.2.2.2.1.2.1, .int (z1 + (bI z0)), .int st.2.2.2.2.2.1.2.2.2, .int st.2.2.2.2.2.2.1, .int st.2.2.2.2.2.2.2])), (h_kind, .inl (cI, 300, .inl st.2.1.1)), (h_b, .inl (cI, 300, .inl st.2.1.2.2.2.1)), (h_difference, .inl (cL, 300, .inr (.inl st.2.1.2.1))), (h_a, .inl (cL, 300, .inr (.inl st.2.1.2.2.1))), (h_newKind, .inl (cI, 300, .inl st.2.2.1.1)), (h_newB, .inl (cI, 300, .inl st.2.2.1.2.2.2.1)), (h_newDifference, .inl (cL, 300, .inr (.inl st.2.2.1.2.1))), (h_newA, .inl (cL, 300, .inr (.inl st.2.2.1.2.2.1))), (h_log, .inl (cI, 5000, .inl st.2.2.2.1.1)), (h_packed, .inl (cI, 5000, .inl st.2.2.2.2.1.1))] rfl (fun H locs hH => ?_)
  refine lv_aload_n hx hb d_Model_entry_208 rfl (lv_at hl 0 rfl) ?_
  refine lv_dup hx hb d_Model_entry_209 rfl ?_
  refine gt (ci := 6) (v := .int st.2.2.2.2.2.1.2.2.2) C hH (iwT iw_Model) 0 rfl rfl 18 (by decide) (.tail _ wd_614) rfl d_Model_entry_210 ?_
  refine lv_iload_n hx hb d_Model_entry_213 rfl (lv_at hl 2 rfl) ?_
  refine lv_if_le (tgt := 221) hx hb d_Model_entry_214 (by decide) (fun hc214 => ?_) (fun hc214 => ?_)
  · have hf := ip hc214 hf
    refine lv_iconst (v := 0) hx hb d_Model_entry_221 (by decide) ?_
    exact w_Model_entry_b222 l D cI cL h h_kind h_b h_difference h_a h_newKind h_newB h_newDifference h_newA h_log h_packed C ((st.1, st.2.1, st.2.2.1, st.2.2.2.1, st.2.2.2.2.1, (st.2.2.2.2.2.1.1, st.2.2.2.2.2.1.2.1, z1 + (bI z0), st.2.2.2.2.2.1.2.2.2), st.2.2.2.2.2.2.1, st.2.2.2.2.2.2.2)) x1 x3 x4 false st.2.2.2.2.2.1.2.2.2 res hf _ _ _ hH (lv_sub hl [0, 1, 2, 3] rfl)
  · have hf := im hc214 hf
    refine lv_iconst (v := 1) hx hb d_Model_entry_217 (by decide) ?_
    refine lv_goto (tgt := 222) hx hb d_Model_entry_218 (by decide) ?_
    exact w_Model_entry_b222 l D cI cL h h_kind h_b h_difference h_a h_newKind h_newB h_newDifference h_newA h_log h_packed C ((st.1, st.2.1, st.2.2.1, st.2.2.2.1, st.2.2.2.2.1, (st.2.2.2.2.2.1.1, st.2.2.2.2.2.1.2.1, z1 + (bI z0), st.2.2.2.2.2.1.2.2.2), st.2.2.2.2.2.2.1, st.2.2.2.2.2.2.2)) x1 x3 x4 true st.2.2.2.2.2.1.2.2.2 res hf _ _ _ hH (lv_sub hl [0, 1, 2, 3] rfl)
def f_Model_entry_b190 (st : S_Model) (x1 : Int32) (x2 : Bool) (x3 : Int32) (x4 : Bool) : Option (S_Model) :=
  if (bI x2) = 0 then (f_Model_entry_b204 st x1 x3 x4 false st.2.2.2.2.2.1.2.2.1) else (f_Model_entry_b204 st x1 x3 x4 true st.2.2.2.2.2.1.2.2.1)
set_option maxRecDepth 100000 in
set_option maxHeartbeats 4000000 in
theorem w_Model_entry_b190 (l : Launch) (D : va_G) (cI cL : ClassId) (h h_kind h_b h_difference h_a h_newKind h_newB h_newDifference h_newA h_log h_packed : Nat) {p : Program} {e : Env} {s : State} {m : MethodId} {args : Array Value} {below : List Frame} {meth : Method} {c : Code} {A : Nat → Prop} (C : Cx p s m args meth c D vwCl [(cI, .int), (cL, .long)] A b_Model_entry 8 none ws_Model_entry y_Model_entry.cls) : ∀ (st : S_Model) (x1 : Int32) (x2 : Bool) (x3 : Int32) (x4 : Bool) (res : S_Model), f_Model_entry_b190 st x1 x2 x3 x4 = some res → ∀ (H : Heap) (locs : List Loc) (ls : Array Slot), Hp D vwCl A A s.heap H locs [(h, .inr (6, [.int st.1, .int st.2.1.2.2.2.2, .ref h_kind, .ref h_b, .ref h_difference, .ref h_a, .int st.2.2.1.2.2.2.2, .ref h_newKind, .ref h_newB, .ref h_newDifference, .ref h_newA, .int st.2.2.2.1.2, .ref h_log, .ref h_packed, .int st.2.2.2.2.1.2, .int st.2.2.2.2.2.1.1, .int st.2.2.2.2.2.1.2.1, .int st.2.2.2.2.2.1.2.2.1, .int st.2.2.2.2.2.1.2.2.2, .int st.2.2.2.2.2.2.1, .int st.2.2.2.2.2.2.2])), (h_kind, .inl (cI, 300, .inl st.2.1.1)), (h_b, .inl (cI, 300, .inl st.2.1.2.2.2.1)), (h_difference, .inl (cL, 300, .inr (.inl st.2.1.2.1))), (h_a, .inl (cL, 300, .inr (.inl st.2.1.2.2.1))), (h_newKind, .inl (cI, 300, .inl st.2.2.1.1)), (h_newB, .inl (cI, 300, .inl st.2.2.1.2.2.2.1)), (h_newDifference, .inl (cL, 300, .inr (.inl st.2.2.1.2.1))), (h_newA, .inl (cL, 300, .inr (.inl st.2.2.1.2.2.1))), (h_log, .inl (cI, 5000, .inl st.2.2.2.1.1)), (h_packed, .inl (cI, 5000, .inl st.2.2.2.2.1.1))] → lv_has ls 8 [(0, .ref h), (1, .int x1), (2, .int (bI x2)), (3, .int x3), (4, .int (bI x4))] → W p l e { frames := 2, cells := 0, slots := 0, locals := 45 } s m args below meth c H locs 0 0 (MQ below (Qw D vwCl [(cI, .int), (cL, .long)] (none) A [(h, .inr (6, [.int res.1, .int res.2.1.2.2.2.2, .ref h_kind, .ref h_b, .ref h_difference, .ref h_a, .int res.2.2.1.2.2.2.2, .ref h_newKind, .ref h_newB, .ref h_newDifference, .ref h_newA, .int res.2.2.2.1.2, .ref h_log, .ref h_packed, .int res.2.2.2.2.1.2, .int res.2.2.2.2.2.1.1, .int res.2.2.2.2.2.1.2.1, .int res.2.2.2.2.2.1.2.2.1, .int res.2.2.2.2.2.1.2.2.2, .int res.2.2.2.2.2.2.1, .int res.2.2.2.2.2.2.2])), (h_kind, .inl (cI, 300, .inl res.2.1.1)), (h_b, .inl (cI, 300, .inl res.2.1.2.2.2.1)), (h_difference, .inl (cL, 300, .inr (.inl res.2.1.2.1))), (h_a, .inl (cL, 300, .inr (.inl res.2.1.2.2.1))), (h_newKind, .inl (cI, 300, .inl res.2.2.1.1)), (h_newB, .inl (cI, 300, .inl res.2.2.1.2.2.2.1)), (h_newDifference, .inl (cL, 300, .inr (.inl res.2.2.1.2.1))), (h_newA, .inl (cL, 300, .inr (.inl res.2.2.1.2.2.1))), (h_log, .inl (cI, 5000, .inl res.2.2.2.1.1)), (h_packed, .inl (cI, 5000, .inl res.2.2.2.2.1.1))]) args s 0 0 A) (F0 m 190 ls []) := by
  obtain ⟨hx, hb, hr, hml, hown, hts, hlk, hK, hA⟩ := id C
  intro st x1 x2 x3 x4 res hf H locs ls hH hl
  unfold f_Model_entry_b190 at hf
  refine lv_aload_n hx hb d_Model_entry_190 rfl (lv_at hl 0 rfl) ?_
  refine lv_dup hx hb d_Model_entry_191 rfl ?_
  refine gt (ci := 6) (v := .int st.2.2.2.2.2.1.2.2.1) C hH (iwT iw_Model) 0 rfl rfl 17 (by decide) (.tail _ wd_613) rfl d_Model_entry_192 ?_
  refine lv_iload_n hx hb d_Model_entry_195 rfl (lv_at hl 2 rfl) ?_
  refine lv_if_eq (tgt := 203) hx hb d_Model_entry_196 (by decide) (fun hc196 => ?_) (fun hc196 => ?_)
  · have hf := ip hc196 hf
    refine lv_iconst (v := 0) hx hb d_Model_entry_203 (by decide) ?_
    exact w_Model_entry_b204 l D cI cL h h_kind h_b h_difference h_a h_newKind h_newB h_newDifference h_newA h_log h_packed C st x1 x3 x4 false st.2.2.2.2.2.1.2.2.1 res hf _ _ _ hH (lv_sub hl [0, 1, 3, 4] rfl)
  · have hf := im hc196 hf
    refine lv_iconst (v := 1) hx hb d_Model_entry_199 (by decide) ?_
    refine lv_goto (tgt := 204) hx hb d_Model_entry_200 (by decide) ?_
    exact w_Model_entry_b204 l D cI cL h h_kind h_b h_difference h_a h_newKind h_newB h_newDifference h_newA h_log h_packed C st x1 x3 x4 true st.2.2.2.2.2.1.2.2.1 res hf _ _ _ hH (lv_sub hl [0, 1, 3, 4] rfl)
def f_Model_entry_b167 (st : S_Model) (x1 : Int32) (x2 : Bool) (x3 : Int32) (x4 : Bool) (x5 : Int32) (z0 : Int32) (z1 : Int32) : Option (S_Model) :=
  (f_Model_put st ((z1 ||| z0) ||| (x5 <<< (4 &&& 31)))).bind (fun r173 => if (bI x2) = 0 then (if x1 < 0 ∨ 300 ≤ x1.toNatClampNeg then none else (f_Model_varint r173 (r173.2.1.2.1 x1.toNatClampNeg)).bind (fun r187 => f_Model_entry_b190 r187 x1 x2 x3 x4)) else (f_Model_entry_b190 r173 x1 x2 x3 x4))
set_option maxRecDepth 100000 in
set_option maxHeartbeats 4000000 in
theorem w_Model_entry_b167 (l : Launch) (D : va_G) (cI cL : ClassId) (h h_kind h_b h_difference h_a h_newKind h_newB h_newDifference h_newA h_log h_packed : Nat) {p : Program} {e : Env} {s : State} {m : MethodId} {args : Array Value} {below : List Frame} {meth : Method} {c : Code} {A : Nat → Prop} (C : Cx p s m args meth c D vwCl [(cI, .int), (cL, .long)] A b_Model_entry 8 none ws_Model_entry y_Model_entry.cls) : ∀ (st : S_Model) (x1 : Int32) (x2 : Bool) (x3 : Int32) (x4 : Bool) (x5 : Int32) (z0 : Int32) (z1 : Int32) (res : S_Model), f_Model_entry_b167 st x1 x2 x3 x4 x5 z0 z1 = some res → ∀ (H : Heap) (locs : List Loc) (ls : Array Slot), Hp D vwCl A A s.heap H locs [(h, .inr (6, [.int st.1, .int st.2.1.2.2.2.2, .ref h_kind, .ref h_b, .ref h_difference, .ref h_a, .int st.2.2.1.2.2.2.2, .ref h_newKind, .ref h_newB, .ref h_newDifference, .ref h_newA, .int st.2.2.2.1.2, .ref h_log, .ref h_packed, .int st.2.2.2.2.1.2, .int st.2.2.2.2.2.1.1, .int st.2.2.2.2.2.1.2.1, .int st.2.2.2.2.2.1.2.2.1, .int st.2.2.2.2.2.1.2.2.2, .int st.2.2.2.2.2.2.1, .int st.2.2.2.2.2.2.2])), (h_kind, .inl (cI, 300, .inl st.2.1.1)), (h_b, .inl (cI, 300, .inl st.2.1.2.2.2.1)), (h_difference, .inl (cL, 300, .inr (.inl st.2.1.2.1))), (h_a, .inl (cL, 300, .inr (.inl st.2.1.2.2.1))), (h_newKind, .inl (cI, 300, .inl st.2.2.1.1)), (h_newB, .inl (cI, 300, .inl st.2.2.1.2.2.2.1)), (h_newDifference, .inl (cL, 300, .inr (.inl st.2.2.1.2.1))), (h_newA, .inl (cL, 300, .inr (.inl st.2.2.1.2.2.1))), (h_log, .inl (cI, 5000, .inl st.2.2.2.1.1)), (h_packed, .inl (cI, 5000, .inl st.2.2.2.2.1.1))] → lv_has ls 8 [(0, .ref h), (1, .int x1), (2, .int (bI x2)), (3, .int x3), (4, .int (bI x4)), (5, .int x5)] → W p l e { frames := 2, cells := 0, slots := 0, locals := 45 } s m args below meth c H locs 0 0 (MQ below (Qw D vwCl [(cI, .int), (cL, .long)] (none) A [(h, .inr (6, [.int res.1, .int res.2.1.2.2.2.2, .ref h_kind, .ref h_b, .ref h_difference, .ref h_a, .int res.2.2.1.2.2.2.2, .ref h_newKind, .ref h_newB, .ref h_newDifference, .ref h_newA, .int res.2.2.2.1.2, .ref h_log, .ref h_packed, .int res.2.2.2.2.1.2, .int res.2.2.2.2.2.1.1, .int res.2.2.2.2.2.1.2.1, .int res.2.2.2.2.2.1.2.2.1, .int res.2.2.2.2.2.1.2.2.2, .int res.2.2.2.2.2.2.1, .int res.2.2.2.2.2.2.2])), (h_kind, .inl (cI, 300, .inl res.2.1.1)), (h_b, .inl (cI, 300, .inl res.2.1.2.2.2.1)), (h_difference, .inl (cL, 300, .inr (.inl res.2.1.2.1))), (h_a, .inl (cL, 300, .inr (.inl res.2.1.2.2.1))), (h_newKind, .inl (cI, 300, .inl res.2.2.1.1)), (h_newB, .inl (cI, 300, .inl res.2.2.1.2.2.2.1)), (h_newDifference, .inl (cL, 300, .inr (.inl res.2.2.1.2.1))), (h_newA, .inl (cL, 300, .inr (.inl res.2.2.1.2.2.1))), (h_log, .inl (cI, 5000, .inl res.2.2.2.1.1)), (h_packed, .inl (cI, 5000, .inl res.2.2.2.2.1.1))]) args s 0 0 A) (F0 m 167 ls [.int z0, .int z1, .ref h]) := by
  obtain ⟨hx, hb, hr, hml, hown, hts, hlk, hK, hA⟩ := id C
  intro st x1 x2 x3 x4 x5 z0 z1 res hf H locs ls hH hl
  unfold f_Model_entry_b167 at hf
  refine lv_ior hx hb d_Model_entry_167 ?_
  refine lv_iload hx hb d_Model_entry_168 (lv_at hl 5 rfl) ?_
  refine lv_iconst (v := 4) hx hb d_Model_entry_170 (by decide) ?_
  refine lv_ishl hx hb d_Model_entry_171 ?_
  refine lv_ior hx hb d_Model_entry_172 ?_
  obtain ⟨r173, hr173, hf⟩ := ob hf
  refine fnV (rest := []) (wr := []) (w2 := [(h, .inr (6, [.int r173.1, .int r173.2.1.2.2.2.2, .ref h_kind, .ref h_b, .ref h_difference, .ref h_a, .int r173.2.2.1.2.2.2.2, .ref h_newKind, .ref h_newB, .ref h_newDifference, .ref h_newA, .int r173.2.2.2.1.2, .ref h_log, .ref h_packed, .int r173.2.2.2.2.1.2, .int r173.2.2.2.2.2.1.1, .int r173.2.2.2.2.2.1.2.1, .int r173.2.2.2.2.2.1.2.2.1, .int r173.2.2.2.2.2.1.2.2.2, .int r173.2.2.2.2.2.2.1, .int r173.2.2.2.2.2.2.2])), (h_kind, .inl (cI, 300, .inl r173.2.1.1)), (h_b, .inl (cI, 300, .inl r173.2.1.2.2.2.1)), (h_difference, .inl (cL, 300, .inr (.inl r173.2.1.2.1))), (h_a, .inl (cL, 300, .inr (.inl r173.2.1.2.2.1))), (h_newKind, .inl (cI, 300, .inl r173.2.2.1.1)), (h_newB, .inl (cI, 300, .inl r173.2.2.1.2.2.2.1)), (h_newDifference, .inl (cL, 300, .inr (.inl r173.2.2.1.2.1))), (h_newA, .inl (cL, 300, .inr (.inl r173.2.2.1.2.2.1))), (h_log, .inl (cI, 5000, .inl r173.2.2.2.1.1)), (h_packed, .inl (cI, 5000, .inl r173.2.2.2.2.1.1))]) (st2 := []) C (c_Model_put l D cI cL h h_kind h_b h_difference h_a h_newKind h_newB h_newDifference h_newA h_log h_packed st ((z1 ||| z0) ||| (x5 <<< (4 &&& 31))) r173 hr173) (cV hts kV_Model_put wd_703 ⟨Nat.le_of_ble_eq_true rfl, Nat.le_of_ble_eq_true rfl⟩) hH [0, 1, 2, 3, 4, 5, 6, 7, 8, 9, 10] [] [0, 1, 2, 3, 4, 5, 6, 7, 8, 9, 10] rfl rfl rfl rfl (by decide) rfl rfl 0 rfl rfl rfl hl.1 rfl (Nat.le_of_ble_eq_true rfl) d_Model_entry_173 ⟨Nat.le_of_ble_eq_true rfl, Nat.le_of_ble_eq_true rfl⟩ rfl (fun H locs hH => ?_)
  refine lv_iload_n hx hb d_Model_entry_176 rfl (lv_at hl 2 rfl) ?_
  refine lv_if_ne (tgt := 190) hx hb d_Model_entry_177 (by decide) (fun hc177 => ?_) (fun hc177 => ?_)
  · have hf := im hc177 hf
    exact w_Model_entry_b190 l D cI cL h h_kind h_b h_difference h_a h_newKind h_newB h_newDifference h_newA h_log h_packed C r173 x1 x2 x3 x4 res hf _ _ _ hH (lv_sub hl [0, 1, 2, 3, 4] rfl)
  · have hf := ip hc177 hf
    refine lv_aload_n hx hb d_Model_entry_180 rfl (lv_at hl 0 rfl) ?_
    refine lv_aload_n hx hb d_Model_entry_181 rfl (lv_at hl 0 rfl) ?_
    refine gt (ci := 6) (v := .ref h_difference) C hH (iwT iw_Model) 0 rfl rfl 4 (by decide) (.tail _ wd_600) rfl d_Model_entry_182 ?_
    refine lv_iload_n hx hb d_Model_entry_185 rfl (lv_at hl 1 rfl) ?_
    obtain ⟨hin186, hf⟩ := oa hf
    refine all_ C hH 3 1 rfl rfl (hin186) d_Model_entry_186 ?_
    obtain ⟨r187, hr187, hf⟩ := ob hf
    refine fnV (rest := []) (wr := []) (w2 := [(h, .inr (6, [.int r187.1, .int r187.2.1.2.2.2.2, .ref h_kind, .ref h_b, .ref h_difference, .ref h_a, .int r187.2.2.1.2.2.2.2, .ref h_newKind, .ref h_newB, .ref h_newDifference, .ref h_newA, .int r187.2.2.2.1.2, .ref h_log, .ref h_packed, .int r187.2.2.2.2.1.2, .int r187.2.2.2.2.2.1.1, .int r187.2.2.2.2.2.1.2.1, .int r187.2.2.2.2.2.1.2.2.1, .int r187.2.2.2.2.2.1.2.2.2, .int r187.2.2.2.2.2.2.1, .int r187.2.2.2.2.2.2.2])), (h_kind, .inl (cI, 300, .inl r187.2.1.1)), (h_b, .inl (cI, 300, .inl r187.2.1.2.2.2.1)), (h_difference, .inl (cL, 300, .inr (.inl r187.2.1.2.1))), (h_a, .inl (cL, 300, .inr (.inl r187.2.1.2.2.1))), (h_newKind, .inl (cI, 300, .inl r187.2.2.1.1)), (h_newB, .inl (cI, 300, .inl r187.2.2.1.2.2.2.1)), (h_newDifference, .inl (cL, 300, .inr (.inl r187.2.2.1.2.1))), (h_newA, .inl (cL, 300, .inr (.inl r187.2.2.1.2.2.1))), (h_log, .inl (cI, 5000, .inl r187.2.2.2.1.1)), (h_packed, .inl (cI, 5000, .inl r187.2.2.2.2.1.1))]) (st2 := []) C (c_Model_varint l D cI cL h h_kind h_b h_difference h_a h_newKind h_newB h_newDifference h_newA h_log h_packed r173 (r173.2.1.2.1 x1.toNatClampNeg) r187 hr187) (cV hts kV_Model_varint wd_698 ⟨Nat.le_of_ble_eq_true rfl, Nat.le_of_ble_eq_true rfl⟩) hH [0, 1, 2, 3, 4, 5, 6, 7, 8, 9, 10] [] [0, 1, 2, 3, 4, 5, 6, 7, 8, 9, 10] rfl rfl rfl rfl (by decide) rfl rfl 0 rfl rfl rfl hl.1 rfl (Nat.le_of_ble_eq_true rfl) d_Model_entry_187 ⟨Nat.le_of_ble_eq_true rfl, Nat.le_of_ble_eq_true rfl⟩ rfl (fun H locs hH => ?_)
    exact w_Model_entry_b190 l D cI cL h h_kind h_b h_difference h_a h_newKind h_newB h_newDifference h_newA h_log h_packed C r187 x1 x2 x3 x4 res hf _ _ _ hH (lv_sub hl [0, 1, 2, 3, 4] rfl)
def f_Model_entry_b148 (st : S_Model) (x1 : Int32) (x2 : Bool) (x3 : Int32) (x4 : Bool) (z0 : Int32) : Option (S_Model) :=
  if x1 < 0 ∨ 300 ≤ x1.toNatClampNeg then none else if (bI x2) = 0 then (f_Model_entry_b167 st x1 x2 x3 x4 z0 0 (st.2.1.1 x1.toNatClampNeg)) else (f_Model_entry_b167 st x1 x2 x3 x4 z0 8 (st.2.1.1 x1.toNatClampNeg))
set_option maxRecDepth 100000 in
set_option maxHeartbeats 4000000 in
theorem w_Model_entry_b148 (l : Launch) (D : va_G) (cI cL : ClassId) (h h_kind h_b h_difference h_a h_newKind h_newB h_newDifference h_newA h_log h_packed : Nat) {p : Program} {e : Env} {s : State} {m : MethodId} {args : Array Value} {below : List Frame} {meth : Method} {c : Code} {A : Nat → Prop} (C : Cx p s m args meth c D vwCl [(cI, .int), (cL, .long)] A b_Model_entry 8 none ws_Model_entry y_Model_entry.cls) : ∀ (st : S_Model) (x1 : Int32) (x2 : Bool) (x3 : Int32) (x4 : Bool) (z0 : Int32) (res : S_Model), f_Model_entry_b148 st x1 x2 x3 x4 z0 = some res → ∀ (H : Heap) (locs : List Loc) (ls : Array Slot), Hp D vwCl A A s.heap H locs [(h, .inr (6, [.int st.1, .int st.2.1.2.2.2.2, .ref h_kind, .ref h_b, .ref h_difference, .ref h_a, .int st.2.2.1.2.2.2.2, .ref h_newKind, .ref h_newB, .ref h_newDifference, .ref h_newA, .int st.2.2.2.1.2, .ref h_log, .ref h_packed, .int st.2.2.2.2.1.2, .int st.2.2.2.2.2.1.1, .int st.2.2.2.2.2.1.2.1, .int st.2.2.2.2.2.1.2.2.1, .int st.2.2.2.2.2.1.2.2.2, .int st.2.2.2.2.2.2.1, .int st.2.2.2.2.2.2.2])), (h_kind, .inl (cI, 300, .inl st.2.1.1)), (h_b, .inl (cI, 300, .inl st.2.1.2.2.2.1)), (h_difference, .inl (cL, 300, .inr (.inl st.2.1.2.1))), (h_a, .inl (cL, 300, .inr (.inl st.2.1.2.2.1))), (h_newKind, .inl (cI, 300, .inl st.2.2.1.1)), (h_newB, .inl (cI, 300, .inl st.2.2.1.2.2.2.1)), (h_newDifference, .inl (cL, 300, .inr (.inl st.2.2.1.2.1))), (h_newA, .inl (cL, 300, .inr (.inl st.2.2.1.2.2.1))), (h_log, .inl (cI, 5000, .inl st.2.2.2.1.1)), (h_packed, .inl (cI, 5000, .inl st.2.2.2.2.1.1))] → lv_has ls 8 [(0, .ref h), (1, .int x1), (2, .int (bI x2)), (3, .int x3), (4, .int (bI x4))] → W p l e { frames := 2, cells := 0, slots := 0, locals := 45 } s m args below meth c H locs 0 0 (MQ below (Qw D vwCl [(cI, .int), (cL, .long)] (none) A [(h, .inr (6, [.int res.1, .int res.2.1.2.2.2.2, .ref h_kind, .ref h_b, .ref h_difference, .ref h_a, .int res.2.2.1.2.2.2.2, .ref h_newKind, .ref h_newB, .ref h_newDifference, .ref h_newA, .int res.2.2.2.1.2, .ref h_log, .ref h_packed, .int res.2.2.2.2.1.2, .int res.2.2.2.2.2.1.1, .int res.2.2.2.2.2.1.2.1, .int res.2.2.2.2.2.1.2.2.1, .int res.2.2.2.2.2.1.2.2.2, .int res.2.2.2.2.2.2.1, .int res.2.2.2.2.2.2.2])), (h_kind, .inl (cI, 300, .inl res.2.1.1)), (h_b, .inl (cI, 300, .inl res.2.1.2.2.2.1)), (h_difference, .inl (cL, 300, .inr (.inl res.2.1.2.1))), (h_a, .inl (cL, 300, .inr (.inl res.2.1.2.2.1))), (h_newKind, .inl (cI, 300, .inl res.2.2.1.1)), (h_newB, .inl (cI, 300, .inl res.2.2.1.2.2.2.1)), (h_newDifference, .inl (cL, 300, .inr (.inl res.2.2.1.2.1))), (h_newA, .inl (cL, 300, .inr (.inl res.2.2.1.2.2.1))), (h_log, .inl (cI, 5000, .inl res.2.2.2.1.1)), (h_packed, .inl (cI, 5000, .inl res.2.2.2.2.1.1))]) args s 0 0 A) (F0 m 148 ls [.int z0]) := by
  obtain ⟨hx, hb, hr, hml, hown, hts, hlk, hK, hA⟩ := id C
  intro st x1 x2 x3 x4 z0 res hf H locs ls hH hl
  unfold f_Model_entry_b148 at hf
  refine lv_istore (lv' := [(5, .int z0), (0, .ref h), (1, .int x1), (2, .int (bI x2)), (3, .int x3), (4, .int (bI x4))]) hx hb d_Model_entry_148 hl (by decide) rfl (fun ls hl => ?_)
  refine lv_aload_n hx hb d_Model_entry_150 rfl (lv_at hl 1 rfl) ?_
  refine lv_aload_n hx hb d_Model_entry_151 rfl (lv_at hl 1 rfl) ?_
  refine gt (ci := 6) (v := .ref h_kind) C hH (iwT iw_Model) 0 rfl rfl 2 (by decide) (.tail _ wd_598) rfl d_Model_entry_152 ?_
  refine lv_iload_n hx hb d_Model_entry_155 rfl (lv_at hl 2 rfl) ?_
  obtain ⟨hin156, hf⟩ := oa hf
  refine ali C hH 1 0 rfl rfl (hin156) d_Model_entry_156 ?_
  refine lv_iload_n hx hb d_Model_entry_157 rfl (lv_at hl 3 rfl) ?_
  refine lv_if_eq (tgt := 166) hx hb d_Model_entry_158 (by decide) (fun hc158 => ?_) (fun hc158 => ?_)
  · have hf := ip hc158 hf
    refine lv_iconst (v := 0) hx hb d_Model_entry_166 (by decide) ?_
    exact w_Model_entry_b167 l D cI cL h h_kind h_b h_difference h_a h_newKind h_newB h_newDifference h_newA h_log h_packed C st x1 x2 x3 x4 z0 0 (st.2.1.1 x1.toNatClampNeg) res hf _ _ _ hH (lv_sub hl [1, 2, 3, 4, 5, 0] rfl)
  · have hf := im hc158 hf
    refine lv_bipush (v := 8) hx hb d_Model_entry_161 (by decide) ?_
    refine lv_goto (tgt := 167) hx hb d_Model_entry_163 (by decide) ?_
    exact w_Model_entry_b167 l D cI cL h h_kind h_b h_difference h_a h_newKind h_newB h_newDifference h_newA h_log h_packed C st x1 x2 x3 x4 z0 8 (st.2.1.1 x1.toNatClampNeg) res hf _ _ _ hH (lv_sub hl [1, 2, 3, 4, 5, 0] rfl)
def f_Model_entry_b75 (st : S_Model) (x1 : Int32) (x2 : Bool) (x3 : Int32) (z0 : Bool) : Option (S_Model) :=
  if x1 < 0 ∨ 300 ≤ x1.toNatClampNeg then none else if (st.2.1.1 x1.toNatClampNeg) = (1 : Int32) then (if x3 ≤ 0 then (if x1 < 0 ∨ 300 ≤ x1.toNatClampNeg then none else f_Model_entry_b148 st x1 x2 x3 z0 (st.2.1.2.2.2.1 x1.toNatClampNeg)) else (f_Model_entry_b148 st x1 x2 x3 z0 0)) else (if x1 < 0 ∨ 300 ≤ x1.toNatClampNeg then none else if (st.2.1.1 x1.toNatClampNeg) = (3 : Int32) then (if (bI z0) = 0 then (f_Model_entry_b148 st x1 x2 x3 z0 0) else (f_Model_entry_b148 st x1 x2 x3 z0 1)) else (if x1 < 0 ∨ 300 ≤ x1.toNatClampNeg then none else if (st.2.1.1 x1.toNatClampNeg) = (4 : Int32) then (f_Model_entry_b148 st x1 x2 x3 z0 0) else (if x1 < 0 ∨ 300 ≤ x1.toNatClampNeg then none else f_Model_entry_b148 st x1 x2 x3 z0 ((st.2.1.2.2.1 x1.toNatClampNeg).toInt32))))
set_option maxRecDepth 100000 in
set_option maxHeartbeats 4000000 in
theorem w_Model_entry_b75 (l : Launch) (D : va_G) (cI cL : ClassId) (h h_kind h_b h_difference h_a h_newKind h_newB h_newDifference h_newA h_log h_packed : Nat) {p : Program} {e : Env} {s : State} {m : MethodId} {args : Array Value} {below : List Frame} {meth : Method} {c : Code} {A : Nat → Prop} (C : Cx p s m args meth c D vwCl [(cI, .int), (cL, .long)] A b_Model_entry 8 none ws_Model_entry y_Model_entry.cls) : ∀ (st : S_Model) (x1 : Int32) (x2 : Bool) (x3 : Int32) (z0 : Bool) (res : S_Model), f_Model_entry_b75 st x1 x2 x3 z0 = some res → ∀ (H : Heap) (locs : List Loc) (ls : Array Slot), Hp D vwCl A A s.heap H locs [(h, .inr (6, [.int st.1, .int st.2.1.2.2.2.2, .ref h_kind, .ref h_b, .ref h_difference, .ref h_a, .int st.2.2.1.2.2.2.2, .ref h_newKind, .ref h_newB, .ref h_newDifference, .ref h_newA, .int st.2.2.2.1.2, .ref h_log, .ref h_packed, .int st.2.2.2.2.1.2, .int st.2.2.2.2.2.1.1, .int st.2.2.2.2.2.1.2.1, .int st.2.2.2.2.2.1.2.2.1, .int st.2.2.2.2.2.1.2.2.2, .int st.2.2.2.2.2.2.1, .int st.2.2.2.2.2.2.2])), (h_kind, .inl (cI, 300, .inl st.2.1.1)), (h_b, .inl (cI, 300, .inl st.2.1.2.2.2.1)), (h_difference, .inl (cL, 300, .inr (.inl st.2.1.2.1))), (h_a, .inl (cL, 300, .inr (.inl st.2.1.2.2.1))), (h_newKind, .inl (cI, 300, .inl st.2.2.1.1)), (h_newB, .inl (cI, 300, .inl st.2.2.1.2.2.2.1)), (h_newDifference, .inl (cL, 300, .inr (.inl st.2.2.1.2.1))), (h_newA, .inl (cL, 300, .inr (.inl st.2.2.1.2.2.1))), (h_log, .inl (cI, 5000, .inl st.2.2.2.1.1)), (h_packed, .inl (cI, 5000, .inl st.2.2.2.2.1.1))] → lv_has ls 8 [(0, .ref h), (1, .int x1), (2, .int (bI x2)), (3, .int x3)] → W p l e { frames := 2, cells := 0, slots := 0, locals := 45 } s m args below meth c H locs 0 0 (MQ below (Qw D vwCl [(cI, .int), (cL, .long)] (none) A [(h, .inr (6, [.int res.1, .int res.2.1.2.2.2.2, .ref h_kind, .ref h_b, .ref h_difference, .ref h_a, .int res.2.2.1.2.2.2.2, .ref h_newKind, .ref h_newB, .ref h_newDifference, .ref h_newA, .int res.2.2.2.1.2, .ref h_log, .ref h_packed, .int res.2.2.2.2.1.2, .int res.2.2.2.2.2.1.1, .int res.2.2.2.2.2.1.2.1, .int res.2.2.2.2.2.1.2.2.1, .int res.2.2.2.2.2.1.2.2.2, .int res.2.2.2.2.2.2.1, .int res.2.2.2.2.2.2.2])), (h_kind, .inl (cI, 300, .inl res.2.1.1)), (h_b, .inl (cI, 300, .inl res.2.1.2.2.2.1)), (h_difference, .inl (cL, 300, .inr (.inl res.2.1.2.1))), (h_a, .inl (cL, 300, .inr (.inl res.2.1.2.2.1))), (h_newKind, .inl (cI, 300, .inl res.2.2.1.1)), (h_newB, .inl (cI, 300, .inl res.2.2.1.2.2.2.1)), (h_newDifference, .inl (cL, 300, .inr (.inl res.2.2.1.2.1))), (h_newA, .inl (cL, 300, .inr (.inl res.2.2.1.2.2.1))), (h_log, .inl (cI, 5000, .inl res.2.2.2.1.1)), (h_packed, .inl (cI, 5000, .inl res.2.2.2.2.1.1))]) args s 0 0 A) (F0 m 75 ls [.int (bI z0)]) := by
  obtain ⟨hx, hb, hr, hml, hown, hts, hlk, hK, hA⟩ := id C
  intro st x1 x2 x3 z0 res hf H locs ls hH hl
  unfold f_Model_entry_b75 at hf
  refine lv_istore (lv' := [(4, .int (bI z0)), (0, .ref h), (1, .int x1), (2, .int (bI x2)), (3, .int x3)]) hx hb d_Model_entry_75 hl (by decide) rfl (fun ls hl => ?_)
  refine lv_aload_n hx hb d_Model_entry_77 rfl (lv_at hl 1 rfl) ?_
  refine gt (ci := 6) (v := .ref h_kind) C hH (iwT iw_Model) 0 rfl rfl 2 (by decide) (.tail _ wd_598) rfl d_Model_entry_78 ?_
  refine lv_iload_n hx hb d_Model_entry_81 rfl (lv_at hl 2 rfl) ?_
  obtain ⟨hin82, hf⟩ := oa hf
  refine ali C hH 1 0 rfl rfl (hin82) d_Model_entry_82 ?_
  refine lv_iconst (v := 1) hx hb d_Model_entry_83 (by decide) ?_
  refine lv_icmp_ne (tgt := 104) hx hb d_Model_entry_84 (by decide) (fun hc84 => ?_) (fun hc84 => ?_)
  · have hf := im hc84 hf
    refine lv_aload_n hx hb d_Model_entry_104 rfl (lv_at hl 1 rfl) ?_
    refine gt (ci := 6) (v := .ref h_kind) C hH (iwT iw_Model) 0 rfl rfl 2 (by decide) (.tail _ wd_598) rfl d_Model_entry_105 ?_
    refine lv_iload_n hx hb d_Model_entry_108 rfl (lv_at hl 2 rfl) ?_
    obtain ⟨hin109, hf⟩ := oa hf
    refine ali C hH 1 0 rfl rfl (hin109) d_Model_entry_109 ?_
    refine lv_iconst (v := 3) hx hb d_Model_entry_110 (by decide) ?_
    refine lv_icmp_ne (tgt := 127) hx hb d_Model_entry_111 (by decide) (fun hc111 => ?_) (fun hc111 => ?_)
    · have hf := im hc111 hf
      refine lv_aload_n hx hb d_Model_entry_127 rfl (lv_at hl 1 rfl) ?_
      refine gt (ci := 6) (v := .ref h_kind) C hH (iwT iw_Model) 0 rfl rfl 2 (by decide) (.tail _ wd_598) rfl d_Model_entry_128 ?_
      refine lv_iload_n hx hb d_Model_entry_131 rfl (lv_at hl 2 rfl) ?_
      obtain ⟨hin132, hf⟩ := oa hf
      refine ali C hH 1 0 rfl rfl (hin132) d_Model_entry_132 ?_
      refine lv_iconst (v := 4) hx hb d_Model_entry_133 (by decide) ?_
      refine lv_icmp_ne (tgt := 141) hx hb d_Model_entry_134 (by decide) (fun hc134 => ?_) (fun hc134 => ?_)
      · have hf := im hc134 hf
        refine lv_aload_n hx hb d_Model_entry_141 rfl (lv_at hl 1 rfl) ?_
        refine gt (ci := 6) (v := .ref h_a) C hH (iwT iw_Model) 0 rfl rfl 5 (by decide) (.tail _ wd_601) rfl d_Model_entry_142 ?_
        refine lv_iload_n hx hb d_Model_entry_145 rfl (lv_at hl 2 rfl) ?_
        obtain ⟨hin146, hf⟩ := oa hf
        refine all_ C hH 4 1 rfl rfl (hin146) d_Model_entry_146 ?_
        refine lv_l2i (v := (st.2.1.2.2.1 x1.toNatClampNeg).toInt32) hx hb d_Model_entry_147 rfl ?_
        exact w_Model_entry_b148 l D cI cL h h_kind h_b h_difference h_a h_newKind h_newB h_newDifference h_newA h_log h_packed C st x1 x2 x3 z0 ((st.2.1.2.2.1 x1.toNatClampNeg).toInt32) res hf _ _ _ hH (lv_sub hl [1, 2, 3, 4, 0] rfl)
      · have hf := ip hc134 hf
        refine lv_iconst (v := 0) hx hb d_Model_entry_137 (by decide) ?_
        refine lv_goto (tgt := 148) hx hb d_Model_entry_138 (by decide) ?_
        exact w_Model_entry_b148 l D cI cL h h_kind h_b h_difference h_a h_newKind h_newB h_newDifference h_newA h_log h_packed C st x1 x2 x3 z0 0 res hf _ _ _ hH (lv_sub hl [1, 2, 3, 4, 0] rfl)
    · have hf := ip hc111 hf
      refine lv_iload hx hb d_Model_entry_114 (lv_at hl 0 rfl) ?_
      refine lv_if_eq (tgt := 123) hx hb d_Model_entry_116 (by decide) (fun hc116 => ?_) (fun hc116 => ?_)
      · have hf := ip hc116 hf
        refine lv_iconst (v := 0) hx hb d_Model_entry_123 (by decide) ?_
        refine lv_goto (tgt := 148) hx hb d_Model_entry_124 (by decide) ?_
        exact w_Model_entry_b148 l D cI cL h h_kind h_b h_difference h_a h_newKind h_newB h_newDifference h_newA h_log h_packed C st x1 x2 x3 z0 0 res hf _ _ _ hH (lv_sub hl [1, 2, 3, 4, 0] rfl)
      · have hf := im hc116 hf
        refine lv_iconst (v := 1) hx hb d_Model_entry_119 (by decide) ?_
        refine lv_goto (tgt := 148) hx hb d_Model_entry_120 (by decide) ?_
        exact w_Model_entry_b148 l D cI cL h h_kind h_b h_difference h_a h_newKind h_newB h_newDifference h_newA h_log h_packed C st x1 x2 x3 z0 1 res hf _ _ _ hH (lv_sub hl [1, 2, 3, 4, 0] rfl)
  · have hf := ip hc84 hf
    refine lv_iload_n hx hb d_Model_entry_87 rfl (lv_at hl 4 rfl) ?_
    refine lv_if_le (tgt := 95) hx hb d_Model_entry_88 (by decide) (fun hc88 => ?_) (fun hc88 => ?_)
    · have hf := ip hc88 hf
      refine lv_aload_n hx hb d_Model_entry_95 rfl (lv_at hl 1 rfl) ?_
      refine gt (ci := 6) (v := .ref h_b) C hH (iwT iw_Model) 0 rfl rfl 3 (by decide) (.tail _ wd_599) rfl d_Model_entry_96 ?_
      refine lv_iload_n hx hb d_Model_entry_99 rfl (lv_at hl 2 rfl) ?_
      obtain ⟨hin100, hf⟩ := oa hf
      refine ali C hH 2 0 rfl rfl (hin100) d_Model_entry_100 ?_
      refine lv_goto (tgt := 148) hx hb d_Model_entry_101 (by decide) ?_
      exact w_Model_entry_b148 l D cI cL h h_kind h_b h_difference h_a h_newKind h_newB h_newDifference h_newA h_log h_packed C st x1 x2 x3 z0 (st.2.1.2.2.2.1 x1.toNatClampNeg) res hf _ _ _ hH (lv_sub hl [1, 2, 3, 4, 0] rfl)
    · have hf := im hc88 hf
      refine lv_iconst (v := 0) hx hb d_Model_entry_91 (by decide) ?_
      refine lv_goto (tgt := 148) hx hb d_Model_entry_92 (by decide) ?_
      exact w_Model_entry_b148 l D cI cL h h_kind h_b h_difference h_a h_newKind h_newB h_newDifference h_newA h_log h_packed C st x1 x2 x3 z0 0 res hf _ _ _ hH (lv_sub hl [1, 2, 3, 4, 0] rfl)
def f_Model_entry_b74 (st : S_Model) (x1 : Int32) (x2 : Bool) (x3 : Int32) : Option (S_Model) :=
  f_Model_entry_b75 st x1 x2 x3 false
set_option maxRecDepth 100000 in
set_option maxHeartbeats 4000000 in
theorem w_Model_entry_b74 (l : Launch) (D : va_G) (cI cL : ClassId) (h h_kind h_b h_difference h_a h_newKind h_newB h_newDifference h_newA h_log h_packed : Nat) {p : Program} {e : Env} {s : State} {m : MethodId} {args : Array Value} {below : List Frame} {meth : Method} {c : Code} {A : Nat → Prop} (C : Cx p s m args meth c D vwCl [(cI, .int), (cL, .long)] A b_Model_entry 8 none ws_Model_entry y_Model_entry.cls) : ∀ (st : S_Model) (x1 : Int32) (x2 : Bool) (x3 : Int32) (res : S_Model), f_Model_entry_b74 st x1 x2 x3 = some res → ∀ (H : Heap) (locs : List Loc) (ls : Array Slot), Hp D vwCl A A s.heap H locs [(h, .inr (6, [.int st.1, .int st.2.1.2.2.2.2, .ref h_kind, .ref h_b, .ref h_difference, .ref h_a, .int st.2.2.1.2.2.2.2, .ref h_newKind, .ref h_newB, .ref h_newDifference, .ref h_newA, .int st.2.2.2.1.2, .ref h_log, .ref h_packed, .int st.2.2.2.2.1.2, .int st.2.2.2.2.2.1.1, .int st.2.2.2.2.2.1.2.1, .int st.2.2.2.2.2.1.2.2.1, .int st.2.2.2.2.2.1.2.2.2, .int st.2.2.2.2.2.2.1, .int st.2.2.2.2.2.2.2])), (h_kind, .inl (cI, 300, .inl st.2.1.1)), (h_b, .inl (cI, 300, .inl st.2.1.2.2.2.1)), (h_difference, .inl (cL, 300, .inr (.inl st.2.1.2.1))), (h_a, .inl (cL, 300, .inr (.inl st.2.1.2.2.1))), (h_newKind, .inl (cI, 300, .inl st.2.2.1.1)), (h_newB, .inl (cI, 300, .inl st.2.2.1.2.2.2.1)), (h_newDifference, .inl (cL, 300, .inr (.inl st.2.2.1.2.1))), (h_newA, .inl (cL, 300, .inr (.inl st.2.2.1.2.2.1))), (h_log, .inl (cI, 5000, .inl st.2.2.2.1.1)), (h_packed, .inl (cI, 5000, .inl st.2.2.2.2.1.1))] → lv_has ls 8 [(0, .ref h), (1, .int x1), (2, .int (bI x2)), (3, .int x3)] → W p l e { frames := 2, cells := 0, slots := 0, locals := 45 } s m args below meth c H locs 0 0 (MQ below (Qw D vwCl [(cI, .int), (cL, .long)] (none) A [(h, .inr (6, [.int res.1, .int res.2.1.2.2.2.2, .ref h_kind, .ref h_b, .ref h_difference, .ref h_a, .int res.2.2.1.2.2.2.2, .ref h_newKind, .ref h_newB, .ref h_newDifference, .ref h_newA, .int res.2.2.2.1.2, .ref h_log, .ref h_packed, .int res.2.2.2.2.1.2, .int res.2.2.2.2.2.1.1, .int res.2.2.2.2.2.1.2.1, .int res.2.2.2.2.2.1.2.2.1, .int res.2.2.2.2.2.1.2.2.2, .int res.2.2.2.2.2.2.1, .int res.2.2.2.2.2.2.2])), (h_kind, .inl (cI, 300, .inl res.2.1.1)), (h_b, .inl (cI, 300, .inl res.2.1.2.2.2.1)), (h_difference, .inl (cL, 300, .inr (.inl res.2.1.2.1))), (h_a, .inl (cL, 300, .inr (.inl res.2.1.2.2.1))), (h_newKind, .inl (cI, 300, .inl res.2.2.1.1)), (h_newB, .inl (cI, 300, .inl res.2.2.1.2.2.2.1)), (h_newDifference, .inl (cL, 300, .inr (.inl res.2.2.1.2.1))), (h_newA, .inl (cL, 300, .inr (.inl res.2.2.1.2.2.1))), (h_log, .inl (cI, 5000, .inl res.2.2.2.1.1)), (h_packed, .inl (cI, 5000, .inl res.2.2.2.2.1.1))]) args s 0 0 A) (F0 m 74 ls []) := by
  obtain ⟨hx, hb, hr, hml, hown, hts, hlk, hK, hA⟩ := id C
  intro st x1 x2 x3 res hf H locs ls hH hl
  unfold f_Model_entry_b74 at hf
  refine lv_iconst (v := 0) hx hb d_Model_entry_74 (by decide) ?_
  exact w_Model_entry_b75 l D cI cL h h_kind h_b h_difference h_a h_newKind h_newB h_newDifference h_newA h_log h_packed C st x1 x2 x3 false res hf _ _ _ hH (lv_sub hl [0, 1, 2, 3] rfl)
def f_Model_entry_b51 (st : S_Model) (x1 : Int32) (x2 : Bool) (z0 : Int32) : Option (S_Model) :=
  if x1 < 0 ∨ 300 ≤ x1.toNatClampNeg then none else if (st.2.1.1 x1.toNatClampNeg) = (3 : Int32) then ((f_Model_isAsFar st x1).bind (fun r64 => if (bI r64) = 0 then (f_Model_entry_b74 st x1 x2 z0) else (f_Model_entry_b75 st x1 x2 z0 true))) else (f_Model_entry_b74 st x1 x2 z0)
set_option maxRecDepth 100000 in
set_option maxHeartbeats 4000000 in
theorem w_Model_entry_b51 (l : Launch) (D : va_G) (cI cL : ClassId) (h h_kind h_b h_difference h_a h_newKind h_newB h_newDifference h_newA h_log h_packed : Nat) {p : Program} {e : Env} {s : State} {m : MethodId} {args : Array Value} {below : List Frame} {meth : Method} {c : Code} {A : Nat → Prop} (C : Cx p s m args meth c D vwCl [(cI, .int), (cL, .long)] A b_Model_entry 8 none ws_Model_entry y_Model_entry.cls) : ∀ (st : S_Model) (x1 : Int32) (x2 : Bool) (z0 : Int32) (res : S_Model), f_Model_entry_b51 st x1 x2 z0 = some res → ∀ (H : Heap) (locs : List Loc) (ls : Array Slot), Hp D vwCl A A s.heap H locs [(h, .inr (6, [.int st.1, .int st.2.1.2.2.2.2, .ref h_kind, .ref h_b, .ref h_difference, .ref h_a, .int st.2.2.1.2.2.2.2, .ref h_newKind, .ref h_newB, .ref h_newDifference, .ref h_newA, .int st.2.2.2.1.2, .ref h_log, .ref h_packed, .int st.2.2.2.2.1.2, .int st.2.2.2.2.2.1.1, .int st.2.2.2.2.2.1.2.1, .int st.2.2.2.2.2.1.2.2.1, .int st.2.2.2.2.2.1.2.2.2, .int st.2.2.2.2.2.2.1, .int st.2.2.2.2.2.2.2])), (h_kind, .inl (cI, 300, .inl st.2.1.1)), (h_b, .inl (cI, 300, .inl st.2.1.2.2.2.1)), (h_difference, .inl (cL, 300, .inr (.inl st.2.1.2.1))), (h_a, .inl (cL, 300, .inr (.inl st.2.1.2.2.1))), (h_newKind, .inl (cI, 300, .inl st.2.2.1.1)), (h_newB, .inl (cI, 300, .inl st.2.2.1.2.2.2.1)), (h_newDifference, .inl (cL, 300, .inr (.inl st.2.2.1.2.1))), (h_newA, .inl (cL, 300, .inr (.inl st.2.2.1.2.2.1))), (h_log, .inl (cI, 5000, .inl st.2.2.2.1.1)), (h_packed, .inl (cI, 5000, .inl st.2.2.2.2.1.1))] → lv_has ls 8 [(0, .ref h), (1, .int x1), (2, .int (bI x2))] → W p l e { frames := 2, cells := 0, slots := 0, locals := 45 } s m args below meth c H locs 0 0 (MQ below (Qw D vwCl [(cI, .int), (cL, .long)] (none) A [(h, .inr (6, [.int res.1, .int res.2.1.2.2.2.2, .ref h_kind, .ref h_b, .ref h_difference, .ref h_a, .int res.2.2.1.2.2.2.2, .ref h_newKind, .ref h_newB, .ref h_newDifference, .ref h_newA, .int res.2.2.2.1.2, .ref h_log, .ref h_packed, .int res.2.2.2.2.1.2, .int res.2.2.2.2.2.1.1, .int res.2.2.2.2.2.1.2.1, .int res.2.2.2.2.2.1.2.2.1, .int res.2.2.2.2.2.1.2.2.2, .int res.2.2.2.2.2.2.1, .int res.2.2.2.2.2.2.2])), (h_kind, .inl (cI, 300, .inl res.2.1.1)), (h_b, .inl (cI, 300, .inl res.2.1.2.2.2.1)), (h_difference, .inl (cL, 300, .inr (.inl res.2.1.2.1))), (h_a, .inl (cL, 300, .inr (.inl res.2.1.2.2.1))), (h_newKind, .inl (cI, 300, .inl res.2.2.1.1)), (h_newB, .inl (cI, 300, .inl res.2.2.1.2.2.2.1)), (h_newDifference, .inl (cL, 300, .inr (.inl res.2.2.1.2.1))), (h_newA, .inl (cL, 300, .inr (.inl res.2.2.1.2.2.1))), (h_log, .inl (cI, 5000, .inl res.2.2.2.1.1)), (h_packed, .inl (cI, 5000, .inl res.2.2.2.2.1.1))]) args s 0 0 A) (F0 m 51 ls [.int z0]) := by
  obtain ⟨hx, hb, hr, hml, hown, hts, hlk, hK, hA⟩ := id C
  intro st x1 x2 z0 res hf H locs ls hH hl
  unfold f_Model_entry_b51 at hf
  refine lv_istore_n (lv' := [(3, .int z0), (0, .ref h), (1, .int x1), (2, .int (bI x2))]) hx hb d_Model_entry_51 rfl hl (by decide) rfl (fun ls hl => ?_)
  refine lv_aload_n hx hb d_Model_entry_52 rfl (lv_at hl 1 rfl) ?_
  refine gt (ci := 6) (v := .ref h_kind) C hH (iwT iw_Model) 0 rfl rfl 2 (by decide) (.tail _ wd_598) rfl d_Model_entry_53 ?_
  refine lv_iload_n hx hb d_Model_entry_56 rfl (lv_at hl 2 rfl) ?_
  obtain ⟨hin57, hf⟩ := oa hf
  refine ali C hH 1 0 rfl rfl (hin57) d_Model_entry_57 ?_
  refine lv_iconst (v := 3) hx hb d_Model_entry_58 (by decide) ?_
  refine lv_icmp_ne (tgt := 74) hx hb d_Model_entry_59 (by decide) (fun hc59 => ?_) (fun hc59 => ?_)
  · have hf := im hc59 hf
    exact w_Model_entry_b74 l D cI cL h h_kind h_b h_difference h_a h_newKind h_newB h_newDifference h_newA h_log h_packed C st x1 x2 z0 res hf _ _ _ hH (lv_sub hl [1, 2, 3, 0] rfl)
  · have hf := ip hc59 hf
    refine lv_aload_n hx hb d_Model_entry_62 rfl (lv_at hl 1 rfl) ?_
    refine lv_iload_n hx hb d_Model_entry_63 rfl (lv_at hl 2 rfl) ?_
    obtain ⟨r64, hr64, hf⟩ := ob hf
    refine fnVR (rest := []) (st2 := [.int (bI r64)]) C (c_Model_isAsFar l D cI cL h h_kind h_b h_difference h_a h_newKind h_newB h_newDifference h_newA h_log h_packed st x1 r64 hr64) (cV hts kV_Model_isAsFar wd_727 ⟨Nat.le_of_ble_eq_true rfl, Nat.le_of_ble_eq_true rfl⟩) hH [0, 1, 2, 3, 4, 5, 6, 7, 8, 9, 10] rfl rfl 0 rfl rfl rfl hl.1 rfl (Nat.le_of_ble_eq_true rfl) d_Model_entry_64 ⟨Nat.le_of_ble_eq_true rfl, Nat.le_of_ble_eq_true rfl⟩ rfl (fun H locs hH => ?_)
    refine lv_if_eq (tgt := 74) hx hb d_Model_entry_67 (by decide) (fun hc67 => ?_) (fun hc67 => ?_)
    · have hf := ip hc67 hf
      exact w_Model_entry_b74 l D cI cL h h_kind h_b h_difference h_a h_newKind h_newB h_newDifference h_newA h_log h_packed C st x1 x2 z0 res hf _ _ _ hH (lv_sub hl [1, 2, 3, 0] rfl)
    · have hf := im hc67 hf
      refine lv_iconst (v := 1) hx hb d_Model_entry_70 (by decide) ?_
      refine lv_goto (tgt := 75) hx hb d_Model_entry_71 (by decide) ?_
      exact w_Model_entry_b75 l D cI cL h h_kind h_b h_difference h_a h_newKind h_newB h_newDifference h_newA h_log h_packed C st x1 x2 z0 true res hf _ _ _ hH (lv_sub hl [1, 2, 3, 0] rfl)
def f_Model_entry_b31 (st : S_Model) (x1 : Int32) (z0 : Bool) : Option (S_Model) :=
  if x1 < 0 ∨ 300 ≤ x1.toNatClampNeg then none else if (st.2.1.1 x1.toNatClampNeg) = (1 : Int32) then ((f_Model_copyOf st x1).bind (fun r44 => f_Model_entry_b51 st x1 z0 r44)) else (f_Model_entry_b51 st x1 z0 0)
set_option maxRecDepth 100000 in
set_option maxHeartbeats 4000000 in
theorem w_Model_entry_b31 (l : Launch) (D : va_G) (cI cL : ClassId) (h h_kind h_b h_difference h_a h_newKind h_newB h_newDifference h_newA h_log h_packed : Nat) {p : Program} {e : Env} {s : State} {m : MethodId} {args : Array Value} {below : List Frame} {meth : Method} {c : Code} {A : Nat → Prop} (C : Cx p s m args meth c D vwCl [(cI, .int), (cL, .long)] A b_Model_entry 8 none ws_Model_entry y_Model_entry.cls) : ∀ (st : S_Model) (x1 : Int32) (z0 : Bool) (res : S_Model), f_Model_entry_b31 st x1 z0 = some res → ∀ (H : Heap) (locs : List Loc) (ls : Array Slot), Hp D vwCl A A s.heap H locs [(h, .inr (6, [.int st.1, .int st.2.1.2.2.2.2, .ref h_kind, .ref h_b, .ref h_difference, .ref h_a, .int st.2.2.1.2.2.2.2, .ref h_newKind, .ref h_newB, .ref h_newDifference, .ref h_newA, .int st.2.2.2.1.2, .ref h_log, .ref h_packed, .int st.2.2.2.2.1.2, .int st.2.2.2.2.2.1.1, .int st.2.2.2.2.2.1.2.1, .int st.2.2.2.2.2.1.2.2.1, .int st.2.2.2.2.2.1.2.2.2, .int st.2.2.2.2.2.2.1, .int st.2.2.2.2.2.2.2])), (h_kind, .inl (cI, 300, .inl st.2.1.1)), (h_b, .inl (cI, 300, .inl st.2.1.2.2.2.1)), (h_difference, .inl (cL, 300, .inr (.inl st.2.1.2.1))), (h_a, .inl (cL, 300, .inr (.inl st.2.1.2.2.1))), (h_newKind, .inl (cI, 300, .inl st.2.2.1.1)), (h_newB, .inl (cI, 300, .inl st.2.2.1.2.2.2.1)), (h_newDifference, .inl (cL, 300, .inr (.inl st.2.2.1.2.1))), (h_newA, .inl (cL, 300, .inr (.inl st.2.2.1.2.2.1))), (h_log, .inl (cI, 5000, .inl st.2.2.2.1.1)), (h_packed, .inl (cI, 5000, .inl st.2.2.2.2.1.1))] → lv_has ls 8 [(0, .ref h), (1, .int x1)] → W p l e { frames := 2, cells := 0, slots := 0, locals := 45 } s m args below meth c H locs 0 0 (MQ below (Qw D vwCl [(cI, .int), (cL, .long)] (none) A [(h, .inr (6, [.int res.1, .int res.2.1.2.2.2.2, .ref h_kind, .ref h_b, .ref h_difference, .ref h_a, .int res.2.2.1.2.2.2.2, .ref h_newKind, .ref h_newB, .ref h_newDifference, .ref h_newA, .int res.2.2.2.1.2, .ref h_log, .ref h_packed, .int res.2.2.2.2.1.2, .int res.2.2.2.2.2.1.1, .int res.2.2.2.2.2.1.2.1, .int res.2.2.2.2.2.1.2.2.1, .int res.2.2.2.2.2.1.2.2.2, .int res.2.2.2.2.2.2.1, .int res.2.2.2.2.2.2.2])), (h_kind, .inl (cI, 300, .inl res.2.1.1)), (h_b, .inl (cI, 300, .inl res.2.1.2.2.2.1)), (h_difference, .inl (cL, 300, .inr (.inl res.2.1.2.1))), (h_a, .inl (cL, 300, .inr (.inl res.2.1.2.2.1))), (h_newKind, .inl (cI, 300, .inl res.2.2.1.1)), (h_newB, .inl (cI, 300, .inl res.2.2.1.2.2.2.1)), (h_newDifference, .inl (cL, 300, .inr (.inl res.2.2.1.2.1))), (h_newA, .inl (cL, 300, .inr (.inl res.2.2.1.2.2.1))), (h_log, .inl (cI, 5000, .inl res.2.2.2.1.1)), (h_packed, .inl (cI, 5000, .inl res.2.2.2.2.1.1))]) args s 0 0 A) (F0 m 31 ls [.int (bI z0)]) := by
  obtain ⟨hx, hb, hr, hml, hown, hts, hlk, hK, hA⟩ := id C
  intro st x1 z0 res hf H locs ls hH hl
  unfold f_Model_entry_b31 at hf
  refine lv_istore_n (lv' := [(2, .int (bI z0)), (0, .ref h), (1, .int x1)]) hx hb d_Model_entry_31 rfl hl (by decide) rfl (fun ls hl => ?_)
  refine lv_aload_n hx hb d_Model_entry_32 rfl (lv_at hl 1 rfl) ?_
  refine gt (ci := 6) (v := .ref h_kind) C hH (iwT iw_Model) 0 rfl rfl 2 (by decide) (.tail _ wd_598) rfl d_Model_entry_33 ?_
  refine lv_iload_n hx hb d_Model_entry_36 rfl (lv_at hl 2 rfl) ?_
  obtain ⟨hin37, hf⟩ := oa hf
  refine ali C hH 1 0 rfl rfl (hin37) d_Model_entry_37 ?_
  refine lv_iconst (v := 1) hx hb d_Model_entry_38 (by decide) ?_
  refine lv_icmp_ne (tgt := 50) hx hb d_Model_entry_39 (by decide) (fun hc39 => ?_) (fun hc39 => ?_)
  · have hf := im hc39 hf
    refine lv_iconst (v := 0) hx hb d_Model_entry_50 (by decide) ?_
    exact w_Model_entry_b51 l D cI cL h h_kind h_b h_difference h_a h_newKind h_newB h_newDifference h_newA h_log h_packed C st x1 z0 0 res hf _ _ _ hH (lv_sub hl [1, 2, 0] rfl)
  · have hf := ip hc39 hf
    refine lv_aload_n hx hb d_Model_entry_42 rfl (lv_at hl 1 rfl) ?_
    refine lv_iload_n hx hb d_Model_entry_43 rfl (lv_at hl 2 rfl) ?_
    obtain ⟨r44, hr44, hf⟩ := ob hf
    refine fnVR (rest := []) (st2 := [.int r44]) C (c_Model_copyOf l D cI cL h h_kind h_b h_difference h_a h_newKind h_newB h_newDifference h_newA h_log h_packed st x1 r44 hr44) (cV hts kV_Model_copyOf wd_723 ⟨Nat.le_of_ble_eq_true rfl, Nat.le_of_ble_eq_true rfl⟩) hH [0, 1, 2, 3, 4, 5, 6, 7, 8, 9, 10] rfl rfl 0 rfl rfl rfl hl.1 rfl (Nat.le_of_ble_eq_true rfl) d_Model_entry_44 ⟨Nat.le_of_ble_eq_true rfl, Nat.le_of_ble_eq_true rfl⟩ rfl (fun H locs hH => ?_)
    refine lv_goto (tgt := 51) hx hb d_Model_entry_47 (by decide) ?_
    exact w_Model_entry_b51 l D cI cL h h_kind h_b h_difference h_a h_newKind h_newB h_newDifference h_newA h_log h_packed C st x1 z0 r44 res hf _ _ _ hH (lv_sub hl [1, 2, 0] rfl)
def f_Model_entry_b22 (st : S_Model) (x1 : Int32) (z0 : Int64) (z1 : Int64) : Option (S_Model) :=
  if (lg_cmp z1 z0) = 0 then (f_Model_entry_b31 st x1 true) else (f_Model_entry_b31 st x1 false)
set_option maxRecDepth 100000 in
set_option maxHeartbeats 4000000 in
theorem w_Model_entry_b22 (l : Launch) (D : va_G) (cI cL : ClassId) (h h_kind h_b h_difference h_a h_newKind h_newB h_newDifference h_newA h_log h_packed : Nat) {p : Program} {e : Env} {s : State} {m : MethodId} {args : Array Value} {below : List Frame} {meth : Method} {c : Code} {A : Nat → Prop} (C : Cx p s m args meth c D vwCl [(cI, .int), (cL, .long)] A b_Model_entry 8 none ws_Model_entry y_Model_entry.cls) : ∀ (st : S_Model) (x1 : Int32) (z0 : Int64) (z1 : Int64) (res : S_Model), f_Model_entry_b22 st x1 z0 z1 = some res → ∀ (H : Heap) (locs : List Loc) (ls : Array Slot), Hp D vwCl A A s.heap H locs [(h, .inr (6, [.int st.1, .int st.2.1.2.2.2.2, .ref h_kind, .ref h_b, .ref h_difference, .ref h_a, .int st.2.2.1.2.2.2.2, .ref h_newKind, .ref h_newB, .ref h_newDifference, .ref h_newA, .int st.2.2.2.1.2, .ref h_log, .ref h_packed, .int st.2.2.2.2.1.2, .int st.2.2.2.2.2.1.1, .int st.2.2.2.2.2.1.2.1, .int st.2.2.2.2.2.1.2.2.1, .int st.2.2.2.2.2.1.2.2.2, .int st.2.2.2.2.2.2.1, .int st.2.2.2.2.2.2.2])), (h_kind, .inl (cI, 300, .inl st.2.1.1)), (h_b, .inl (cI, 300, .inl st.2.1.2.2.2.1)), (h_difference, .inl (cL, 300, .inr (.inl st.2.1.2.1))), (h_a, .inl (cL, 300, .inr (.inl st.2.1.2.2.1))), (h_newKind, .inl (cI, 300, .inl st.2.2.1.1)), (h_newB, .inl (cI, 300, .inl st.2.2.1.2.2.2.1)), (h_newDifference, .inl (cL, 300, .inr (.inl st.2.2.1.2.1))), (h_newA, .inl (cL, 300, .inr (.inl st.2.2.1.2.2.1))), (h_log, .inl (cI, 5000, .inl st.2.2.2.1.1)), (h_packed, .inl (cI, 5000, .inl st.2.2.2.2.1.1))] → lv_has ls 8 [(0, .ref h), (1, .int x1)] → W p l e { frames := 2, cells := 0, slots := 0, locals := 45 } s m args below meth c H locs 0 0 (MQ below (Qw D vwCl [(cI, .int), (cL, .long)] (none) A [(h, .inr (6, [.int res.1, .int res.2.1.2.2.2.2, .ref h_kind, .ref h_b, .ref h_difference, .ref h_a, .int res.2.2.1.2.2.2.2, .ref h_newKind, .ref h_newB, .ref h_newDifference, .ref h_newA, .int res.2.2.2.1.2, .ref h_log, .ref h_packed, .int res.2.2.2.2.1.2, .int res.2.2.2.2.2.1.1, .int res.2.2.2.2.2.1.2.1, .int res.2.2.2.2.2.1.2.2.1, .int res.2.2.2.2.2.1.2.2.2, .int res.2.2.2.2.2.2.1, .int res.2.2.2.2.2.2.2])), (h_kind, .inl (cI, 300, .inl res.2.1.1)), (h_b, .inl (cI, 300, .inl res.2.1.2.2.2.1)), (h_difference, .inl (cL, 300, .inr (.inl res.2.1.2.1))), (h_a, .inl (cL, 300, .inr (.inl res.2.1.2.2.1))), (h_newKind, .inl (cI, 300, .inl res.2.2.1.1)), (h_newB, .inl (cI, 300, .inl res.2.2.1.2.2.2.1)), (h_newDifference, .inl (cL, 300, .inr (.inl res.2.2.1.2.1))), (h_newA, .inl (cL, 300, .inr (.inl res.2.2.1.2.2.1))), (h_log, .inl (cI, 5000, .inl res.2.2.2.1.1)), (h_packed, .inl (cI, 5000, .inl res.2.2.2.2.1.1))]) args s 0 0 A) (F0 m 22 ls [.long z0, .long z1]) := by
  obtain ⟨hx, hb, hr, hml, hown, hts, hlk, hK, hA⟩ := id C
  intro st x1 z0 z1 res hf H locs ls hH hl
  unfold f_Model_entry_b22 at hf
  refine W.lcmp hx hb d_Model_entry_22 ?_
  refine lv_if_ne (tgt := 30) hx hb d_Model_entry_23 (by decide) (fun hc23 => ?_) (fun hc23 => ?_)
  · have hf := im hc23 hf
    refine lv_iconst (v := 0) hx hb d_Model_entry_30 (by decide) ?_
    exact w_Model_entry_b31 l D cI cL h h_kind h_b h_difference h_a h_newKind h_newB h_newDifference h_newA h_log h_packed C st x1 false res hf _ _ _ hH (lv_sub hl [0, 1] rfl)
  · have hf := ip hc23 hf
    refine lv_iconst (v := 1) hx hb d_Model_entry_26 (by decide) ?_
    refine lv_goto (tgt := 31) hx hb d_Model_entry_27 (by decide) ?_
    exact w_Model_entry_b31 l D cI cL h h_kind h_b h_difference h_a h_newKind h_newB h_newDifference h_newA h_log h_packed C st x1 true res hf _ _ _ hH (lv_sub hl [0, 1] rfl)
def f_Model_entry (st : S_Model) (x1 : Int32) : Option (S_Model) :=
  if x1 < 0 ∨ 300 ≤ x1.toNatClampNeg then none else if x1 = 0 then (f_Model_entry_b22 st x1 0 (st.2.1.2.1 x1.toNatClampNeg)) else (if (x1 - 1) < 0 ∨ 300 ≤ (x1 - 1).toNatClampNeg then none else f_Model_entry_b22 st x1 (st.2.1.2.1 (x1 - 1).toNatClampNeg) (st.2.1.2.1 x1.toNatClampNeg))
set_option maxRecDepth 100000 in
set_option maxHeartbeats 4000000 in
theorem c_Model_entry (l : Launch) (D : va_G) (cI cL : ClassId) (h h_kind h_b h_difference h_a h_newKind h_newB h_newDifference h_newA h_log h_packed : Nat) (st : S_Model) (x1 : Int32) (res : S_Model) (hf : f_Model_entry st x1 = some res) :
    Fn l D vwCl [(cI, .int), (cL, .long)] y_Model_entry ws_Model_entry { frames := 2, cells := 0, slots := 0, locals := 45 } [.ref h, .int x1] [(h, .inr (6, [.int st.1, .int st.2.1.2.2.2.2, .ref h_kind, .ref h_b, .ref h_difference, .ref h_a, .int st.2.2.1.2.2.2.2, .ref h_newKind, .ref h_newB, .ref h_newDifference, .ref h_newA, .int st.2.2.2.1.2, .ref h_log, .ref h_packed, .int st.2.2.2.2.1.2, .int st.2.2.2.2.2.1.1, .int st.2.2.2.2.2.1.2.1, .int st.2.2.2.2.2.1.2.2.1, .int st.2.2.2.2.2.1.2.2.2, .int st.2.2.2.2.2.2.1, .int st.2.2.2.2.2.2.2])), (h_kind, .inl (cI, 300, .inl st.2.1.1)), (h_b, .inl (cI, 300, .inl st.2.1.2.2.2.1)), (h_difference, .inl (cL, 300, .inr (.inl st.2.1.2.1))), (h_a, .inl (cL, 300, .inr (.inl st.2.1.2.2.1))), (h_newKind, .inl (cI, 300, .inl st.2.2.1.1)), (h_newB, .inl (cI, 300, .inl st.2.2.1.2.2.2.1)), (h_newDifference, .inl (cL, 300, .inr (.inl st.2.2.1.2.1))), (h_newA, .inl (cL, 300, .inr (.inl st.2.2.1.2.2.1))), (h_log, .inl (cI, 5000, .inl st.2.2.2.1.1)), (h_packed, .inl (cI, 5000, .inl st.2.2.2.2.1.1))] (none) [(h, .inr (6, [.int res.1, .int res.2.1.2.2.2.2, .ref h_kind, .ref h_b, .ref h_difference, .ref h_a, .int res.2.2.1.2.2.2.2, .ref h_newKind, .ref h_newB, .ref h_newDifference, .ref h_newA, .int res.2.2.2.1.2, .ref h_log, .ref h_packed, .int res.2.2.2.2.1.2, .int res.2.2.2.2.2.1.1, .int res.2.2.2.2.2.1.2.1, .int res.2.2.2.2.2.1.2.2.1, .int res.2.2.2.2.2.1.2.2.2, .int res.2.2.2.2.2.2.1, .int res.2.2.2.2.2.2.2])), (h_kind, .inl (cI, 300, .inl res.2.1.1)), (h_b, .inl (cI, 300, .inl res.2.1.2.2.2.1)), (h_difference, .inl (cL, 300, .inr (.inl res.2.1.2.1))), (h_a, .inl (cL, 300, .inr (.inl res.2.1.2.2.1))), (h_newKind, .inl (cI, 300, .inl res.2.2.1.1)), (h_newB, .inl (cI, 300, .inl res.2.2.1.2.2.2.1)), (h_newDifference, .inl (cL, 300, .inr (.inl res.2.2.1.2.1))), (h_newA, .inl (cL, 300, .inr (.inl res.2.2.1.2.2.1))), (h_log, .inl (cI, 5000, .inl res.2.2.2.1.1)), (h_packed, .inl (cI, 5000, .inl res.2.2.2.2.1.1))] := by
  refine Fn.ofW (cc := b_Model_entry) (maxL := 8) (ret := none) (by decide) rfl (Nat.le_of_ble_eq_true rfl) ?_
  intro p e s m below meth c A ls C hH hinit hl
  have hl : lv_has ls 8 [(0, .ref h), (1, .int x1)] := hl
  obtain ⟨hx, hb, hr, hml, hown, hts, hlk, hK, hA⟩ := id C
  unfold f_Model_entry at hf
  refine lv_aload_n hx hb d_Model_entry_0 rfl (lv_at hl 0 rfl) ?_
  refine gt (ci := 6) (v := .ref h_difference) C hH (iwT iw_Model) 0 rfl rfl 4 (by decide) (.tail _ wd_600) rfl d_Model_entry_1 ?_
  refine lv_iload_n hx hb d_Model_entry_4 rfl (lv_at hl 1 rfl) ?_
  obtain ⟨hin5, hf⟩ := oa hf
  refine all_ C hH 3 1 rfl rfl (hin5) d_Model_entry_5 ?_
  refine lv_iload_n hx hb d_Model_entry_6 rfl (lv_at hl 1 rfl) ?_
  refine lv_if_ne (tgt := 14) hx hb d_Model_entry_7 (by decide) (fun hc7 => ?_) (fun hc7 => ?_)
  · have hf := im hc7 hf
    refine lv_aload_n hx hb d_Model_entry_14 rfl (lv_at hl 0 rfl) ?_
    refine gt (ci := 6) (v := .ref h_difference) C hH (iwT iw_Model) 0 rfl rfl 4 (by decide) (.tail _ wd_600) rfl d_Model_entry_15 ?_
    refine lv_iload_n hx hb d_Model_entry_18 rfl (lv_at hl 1 rfl) ?_
    refine lv_iconst (v := 1) hx hb d_Model_entry_19 (by decide) ?_
    refine lv_isub hx hb d_Model_entry_20 ?_
    obtain ⟨hin21, hf⟩ := oa hf
    refine all_ C hH 3 1 rfl rfl (hin21) d_Model_entry_21 ?_
    exact w_Model_entry_b22 l D cI cL h h_kind h_b h_difference h_a h_newKind h_newB h_newDifference h_newA h_log h_packed C st x1 (st.2.1.2.1 (x1 - 1).toNatClampNeg) (st.2.1.2.1 x1.toNatClampNeg) res hf _ _ _ hH (lv_sub hl [0, 1] rfl)
  · have hf := ip hc7 hf
    refine lv_lconst (v := 0) hx hb d_Model_entry_10 (by decide) ?_
    refine lv_goto (tgt := 22) hx hb d_Model_entry_11 (by decide) ?_
    exact w_Model_entry_b22 l D cI cL h h_kind h_b h_difference h_a h_newKind h_newB h_newDifference h_newA h_log h_packed C st x1 0 (st.2.1.2.1 x1.toNatClampNeg) res hf _ _ _ hH (lv_sub hl [0, 1] rfl)
def f_Model_makeUp_b38 : Nat → S_Model → Int32 → Int32 → Option (S_Model)
  | 0, _, _, _ => none
  | n + 1, st, x1, x2 =>
  if st.2.1.2.2.2.2 ≤ x2 then (some st) else ((f_Model_isAlike st x2).bind (fun r48 => if (bI r48) = 0 then (if (x2 + 1) = st.2.1.2.2.2.2 then (if (0 : Int32) ≤ 0 then (if (0 : Int32) ≤ 0 then ((f_Model_entry ((st.1, st.2.1, st.2.2.1, st.2.2.2.1, st.2.2.2.2.1, (st.2.2.2.2.2.1.1 + 1, st.2.2.2.2.2.1.2.1, st.2.2.2.2.2.1.2.2.1, st.2.2.2.2.2.1.2.2.2), st.2.2.2.2.2.2.1, st.2.2.2.2.2.2.2)) x2).bind (fun r123 => f_Model_makeUp_b38 n r123 0 (x2 + 1))) else ((f_Model_run ((st.1, st.2.1, st.2.2.1, st.2.2.2.1, st.2.2.2.2.1, (st.2.2.2.2.2.1.1 + 1, st.2.2.2.2.2.1.2.1, st.2.2.2.2.2.1.2.2.1, st.2.2.2.2.2.1.2.2.2), st.2.2.2.2.2.2.1, st.2.2.2.2.2.2.2)) 0).bind (fun r115 => f_Model_makeUp_b38 n r115 0 (x2 + 1)))) else (if (1 : Int32) = 0 then (f_Model_makeUp_b38 n st 0 (x2 + 1)) else (if (0 : Int32) ≤ 0 then ((f_Model_entry ((st.1, st.2.1, st.2.2.1, st.2.2.2.1, st.2.2.2.2.1, (st.2.2.2.2.2.1.1 + 1, st.2.2.2.2.2.1.2.1, st.2.2.2.2.2.1.2.2.1, st.2.2.2.2.2.1.2.2.2), st.2.2.2.2.2.2.1, st.2.2.2.2.2.2.2)) x2).bind (fun r123 => f_Model_makeUp_b38 n r123 0 (x2 + 1))) else ((f_Model_run ((st.1, st.2.1, st.2.2.1, st.2.2.2.1, st.2.2.2.2.1, (st.2.2.2.2.2.1.1 + 1, st.2.2.2.2.2.1.2.1, st.2.2.2.2.2.1.2.2.1, st.2.2.2.2.2.1.2.2.2), st.2.2.2.2.2.2.1, st.2.2.2.2.2.2.2)) 0).bind (fun r115 => f_Model_makeUp_b38 n r115 0 (x2 + 1)))))) else ((f_Model_isAlike st (x2 + 1)).bind (fun r76 => if (bI r76) = 0 then (if (0 : Int32) ≤ 0 then (if (0 : Int32) ≤ 0 then ((f_Model_entry ((st.1, st.2.1, st.2.2.1, st.2.2.2.1, st.2.2.2.2.1, (st.2.2.2.2.2.1.1 + 1, st.2.2.2.2.2.1.2.1, st.2.2.2.2.2.1.2.2.1, st.2.2.2.2.2.1.2.2.2), st.2.2.2.2.2.2.1, st.2.2.2.2.2.2.2)) x2).bind (fun r123 => f_Model_makeUp_b38 n r123 0 (x2 + 1))) else ((f_Model_run ((st.1, st.2.1, st.2.2.1, st.2.2.2.1, st.2.2.2.2.1, (st.2.2.2.2.2.1.1 + 1, st.2.2.2.2.2.1.2.1, st.2.2.2.2.2.1.2.2.1, st.2.2.2.2.2.1.2.2.2), st.2.2.2.2.2.2.1, st.2.2.2.2.2.2.2)) 0).bind (fun r115 => f_Model_makeUp_b38 n r115 0 (x2 + 1)))) else (if (1 : Int32) = 0 then (f_Model_makeUp_b38 n st 0 (x2 + 1)) else (if (0 : Int32) ≤ 0 then ((f_Model_entry ((st.1, st.2.1, st.2.2.1, st.2.2.2.1, st.2.2.2.2.1, (st.2.2.2.2.2.1.1 + 1, st.2.2.2.2.2.1.2.1, st.2.2.2.2.2.1.2.2.1, st.2.2.2.2.2.1.2.2.2), st.2.2.2.2.2.2.1, st.2.2.2.2.2.2.2)) x2).bind (fun r123 => f_Model_makeUp_b38 n r123 0 (x2 + 1))) else ((f_Model_run ((st.1, st.2.1, st.2.2.1, st.2.2.2.1, st.2.2.2.2.1, (st.2.2.2.2.2.1.1 + 1, st.2.2.2.2.2.1.2.1, st.2.2.2.2.2.1.2.2.1, st.2.2.2.2.2.1.2.2.2), st.2.2.2.2.2.2.1, st.2.2.2.2.2.2.2)) 0).bind (fun r115 => f_Model_makeUp_b38 n r115 0 (x2 + 1)))))) else (if (0 : Int32) ≤ 0 then (if (0 : Int32) ≤ 0 then ((f_Model_entry ((st.1, st.2.1, st.2.2.1, st.2.2.2.1, st.2.2.2.2.1, (st.2.2.2.2.2.1.1 + 1, st.2.2.2.2.2.1.2.1, st.2.2.2.2.2.1.2.2.1, st.2.2.2.2.2.1.2.2.2), st.2.2.2.2.2.2.1, st.2.2.2.2.2.2.2)) x2).bind (fun r123 => f_Model_makeUp_b38 n r123 0 (x2 + 1))) else ((f_Model_run ((st.1, st.2.1, st.2.2.1, st.2.2.2.1, st.2.2.2.2.1, (st.2.2.2.2.2.1.1 + 1, st.2.2.2.2.2.1.2.1, st.2.2.2.2.2.1.2.2.1, st.2.2.2.2.2.1.2.2.2), st.2.2.2.2.2.2.1, st.2.2.2.2.2.2.2)) 0).bind (fun r115 => f_Model_makeUp_b38 n r115 0 (x2 + 1)))) else (if (0 : Int32) = 0 then (f_Model_makeUp_b38 n st 0 (x2 + 1)) else (if (0 : Int32) ≤ 0 then ((f_Model_entry ((st.1, st.2.1, st.2.2.1, st.2.2.2.1, st.2.2.2.2.1, (st.2.2.2.2.2.1.1 + 1, st.2.2.2.2.2.1.2.1, st.2.2.2.2.2.1.2.2.1, st.2.2.2.2.2.1.2.2.2), st.2.2.2.2.2.2.1, st.2.2.2.2.2.2.2)) x2).bind (fun r123 => f_Model_makeUp_b38 n r123 0 (x2 + 1))) else ((f_Model_run ((st.1, st.2.1, st.2.2.1, st.2.2.2.1, st.2.2.2.2.1, (st.2.2.2.2.2.1.1 + 1, st.2.2.2.2.2.1.2.1, st.2.2.2.2.2.1.2.2.1, st.2.2.2.2.2.1.2.2.2), st.2.2.2.2.2.2.1, st.2.2.2.2.2.2.2)) 0).bind (fun r115 => f_Model_makeUp_b38 n r115 0 (x2 + 1))))))))) else (if (x2 + 1) = st.2.1.2.2.2.2 then (if (x1 + 1) ≤ 0 then (if (x1 + 1) ≤ 0 then ((f_Model_entry ((st.1, st.2.1, st.2.2.1, st.2.2.2.1, st.2.2.2.2.1, (st.2.2.2.2.2.1.1 + 1, st.2.2.2.2.2.1.2.1, st.2.2.2.2.2.1.2.2.1, st.2.2.2.2.2.1.2.2.2), st.2.2.2.2.2.2.1, st.2.2.2.2.2.2.2)) x2).bind (fun r123 => f_Model_makeUp_b38 n r123 (x1 + 1) (x2 + 1))) else ((f_Model_run ((st.1, st.2.1, st.2.2.1, st.2.2.2.1, st.2.2.2.2.1, (st.2.2.2.2.2.1.1 + 1, st.2.2.2.2.2.1.2.1, st.2.2.2.2.2.1.2.2.1, st.2.2.2.2.2.1.2.2.2), st.2.2.2.2.2.2.1, st.2.2.2.2.2.2.2)) (x1 + 1)).bind (fun r115 => f_Model_makeUp_b38 n r115 (x1 + 1) (x2 + 1)))) else (if (1 : Int32) = 0 then (f_Model_makeUp_b38 n st (x1 + 1) (x2 + 1)) else (if (x1 + 1) ≤ 0 then ((f_Model_entry ((st.1, st.2.1, st.2.2.1, st.2.2.2.1, st.2.2.2.2.1, (st.2.2.2.2.2.1.1 + 1, st.2.2.2.2.2.1.2.1, st.2.2.2.2.2.1.2.2.1, st.2.2.2.2.2.1.2.2.2), st.2.2.2.2.2.2.1, st.2.2.2.2.2.2.2)) x2).bind (fun r123 => f_Model_makeUp_b38 n r123 (x1 + 1) (x2 + 1))) else ((f_Model_run ((st.1, st.2.1, st.2.2.1, st.2.2.2.1, st.2.2.2.2.1, (st.2.2.2.2.2.1.1 + 1, st.2.2.2.2.2.1.2.1, st.2.2.2.2.2.1.2.2.1, st.2.2.2.2.2.1.2.2.2), st.2.2.2.2.2.2.1, st.2.2.2.2.2.2.2)) (x1 + 1)).bind (fun r115 => f_Model_makeUp_b38 n r115 (x1 + 1) (x2 + 1)))))) else ((f_Model_isAlike st (x2 + 1)).bind (fun r76 => if (bI r76) = 0 then (if (x1 + 1) ≤ 0 then (if (x1 + 1) ≤ 0 then ((f_Model_entry ((st.1, st.2.1, st.2.2.1, st.2.2.2.1, st.2.2.2.2.1, (st.2.2.2.2.2.1.1 + 1, st.2.2.2.2.2.1.2.1, st.2.2.2.2.2.1.2.2.1, st.2.2.2.2.2.1.2.2.2), st.2.2.2.2.2.2.1, st.2.2.2.2.2.2.2)) x2).bind (fun r123 => f_Model_makeUp_b38 n r123 (x1 + 1) (x2 + 1))) else ((f_Model_run ((st.1, st.2.1, st.2.2.1, st.2.2.2.1, st.2.2.2.2.1, (st.2.2.2.2.2.1.1 + 1, st.2.2.2.2.2.1.2.1, st.2.2.2.2.2.1.2.2.1, st.2.2.2.2.2.1.2.2.2), st.2.2.2.2.2.2.1, st.2.2.2.2.2.2.2)) (x1 + 1)).bind (fun r115 => f_Model_makeUp_b38 n r115 (x1 + 1) (x2 + 1)))) else (if (1 : Int32) = 0 then (f_Model_makeUp_b38 n st (x1 + 1) (x2 + 1)) else (if (x1 + 1) ≤ 0 then ((f_Model_entry ((st.1, st.2.1, st.2.2.1, st.2.2.2.1, st.2.2.2.2.1, (st.2.2.2.2.2.1.1 + 1, st.2.2.2.2.2.1.2.1, st.2.2.2.2.2.1.2.2.1, st.2.2.2.2.2.1.2.2.2), st.2.2.2.2.2.2.1, st.2.2.2.2.2.2.2)) x2).bind (fun r123 => f_Model_makeUp_b38 n r123 (x1 + 1) (x2 + 1))) else ((f_Model_run ((st.1, st.2.1, st.2.2.1, st.2.2.2.1, st.2.2.2.2.1, (st.2.2.2.2.2.1.1 + 1, st.2.2.2.2.2.1.2.1, st.2.2.2.2.2.1.2.2.1, st.2.2.2.2.2.1.2.2.2), st.2.2.2.2.2.2.1, st.2.2.2.2.2.2.2)) (x1 + 1)).bind (fun r115 => f_Model_makeUp_b38 n r115 (x1 + 1) (x2 + 1)))))) else (if (x1 + 1) ≤ 0 then (if (x1 + 1) ≤ 0 then ((f_Model_entry ((st.1, st.2.1, st.2.2.1, st.2.2.2.1, st.2.2.2.2.1, (st.2.2.2.2.2.1.1 + 1, st.2.2.2.2.2.1.2.1, st.2.2.2.2.2.1.2.2.1, st.2.2.2.2.2.1.2.2.2), st.2.2.2.2.2.2.1, st.2.2.2.2.2.2.2)) x2).bind (fun r123 => f_Model_makeUp_b38 n r123 (x1 + 1) (x2 + 1))) else ((f_Model_run ((st.1, st.2.1, st.2.2.1, st.2.2.2.1, st.2.2.2.2.1, (st.2.2.2.2.2.1.1 + 1, st.2.2.2.2.2.1.2.1, st.2.2.2.2.2.1.2.2.1, st.2.2.2.2.2.1.2.2.2), st.2.2.2.2.2.2.1, st.2.2.2.2.2.2.2)) (x1 + 1)).bind (fun r115 => f_Model_makeUp_b38 n r115 (x1 + 1) (x2 + 1)))) else (if (0 : Int32) = 0 then (f_Model_makeUp_b38 n st (x1 + 1) (x2 + 1)) else (if (x1 + 1) ≤ 0 then ((f_Model_entry ((st.1, st.2.1, st.2.2.1, st.2.2.2.1, st.2.2.2.2.1, (st.2.2.2.2.2.1.1 + 1, st.2.2.2.2.2.1.2.1, st.2.2.2.2.2.1.2.2.1, st.2.2.2.2.2.1.2.2.2), st.2.2.2.2.2.2.1, st.2.2.2.2.2.2.2)) x2).bind (fun r123 => f_Model_makeUp_b38 n r123 (x1 + 1) (x2 + 1))) else ((f_Model_run ((st.1, st.2.1, st.2.2.1, st.2.2.2.1, st.2.2.2.2.1, (st.2.2.2.2.2.1.1 + 1, st.2.2.2.2.2.1.2.1, st.2.2.2.2.2.1.2.2.1, st.2.2.2.2.2.1.2.2.2), st.2.2.2.2.2.2.1, st.2.2.2.2.2.2.2)) (x1 + 1)).bind (fun r115 => f_Model_makeUp_b38 n r115 (x1 + 1) (x2 + 1)))))))))))
set_option maxRecDepth 100000 in
set_option maxHeartbeats 4000000 in
theorem w_Model_makeUp_b38 (l : Launch) (D : va_G) (cI cL : ClassId) (h h_kind h_b h_difference h_a h_newKind h_newB h_newDifference h_newA h_log h_packed : Nat) {p : Program} {e : Env} {s : State} {m : MethodId} {args : Array Value} {below : List Frame} {meth : Method} {c : Code} {A : Nat → Prop} (C : Cx p s m args meth c D vwCl [(cI, .int), (cL, .long)] A b_Model_makeUp 4 none ws_Model_makeUp y_Model_makeUp.cls) : ∀ (n : Nat) (st : S_Model) (x1 : Int32) (x2 : Int32) (res : S_Model), f_Model_makeUp_b38 n st x1 x2 = some res → ∀ (H : Heap) (locs : List Loc) (ls : Array Slot), Hp D vwCl A A s.heap H locs [(h, .inr (6, [.int st.1, .int st.2.1.2.2.2.2, .ref h_kind, .ref h_b, .ref h_difference, .ref h_a, .int st.2.2.1.2.2.2.2, .ref h_newKind, .ref h_newB, .ref h_newDifference, .ref h_newA, .int st.2.2.2.1.2, .ref h_log, .ref h_packed, .int st.2.2.2.2.1.2, .int st.2.2.2.2.2.1.1, .int st.2.2.2.2.2.1.2.1, .int st.2.2.2.2.2.1.2.2.1, .int st.2.2.2.2.2.1.2.2.2, .int st.2.2.2.2.2.2.1, .int st.2.2.2.2.2.2.2])), (h_kind, .inl (cI, 300, .inl st.2.1.1)), (h_b, .inl (cI, 300, .inl st.2.1.2.2.2.1)), (h_difference, .inl (cL, 300, .inr (.inl st.2.1.2.1))), (h_a, .inl (cL, 300, .inr (.inl st.2.1.2.2.1))), (h_newKind, .inl (cI, 300, .inl st.2.2.1.1)), (h_newB, .inl (cI, 300, .inl st.2.2.1.2.2.2.1)), (h_newDifference, .inl (cL, 300, .inr (.inl st.2.2.1.2.1))), (h_newA, .inl (cL, 300, .inr (.inl st.2.2.1.2.2.1))), (h_log, .inl (cI, 5000, .inl st.2.2.2.1.1)), (h_packed, .inl (cI, 5000, .inl st.2.2.2.2.1.1))] → lv_has ls 4 [(0, .ref h), (1, .int x1), (2, .int x2)] → W p l e { frames := 3, cells := 0, slots := 0, locals := 72 } s m args below meth c H locs 0 0 (MQ below (Qw D vwCl [(cI, .int), (cL, .long)] (none) A [(h, .inr (6, [.int res.1, .int res.2.1.2.2.2.2, .ref h_kind, .ref h_b, .ref h_difference, .ref h_a, .int res.2.2.1.2.2.2.2, .ref h_newKind, .ref h_newB, .ref h_newDifference, .ref h_newA, .int res.2.2.2.1.2, .ref h_log, .ref h_packed, .int res.2.2.2.2.1.2, .int res.2.2.2.2.2.1.1, .int res.2.2.2.2.2.1.2.1, .int res.2.2.2.2.2.1.2.2.1, .int res.2.2.2.2.2.1.2.2.2, .int res.2.2.2.2.2.2.1, .int res.2.2.2.2.2.2.2])), (h_kind, .inl (cI, 300, .inl res.2.1.1)), (h_b, .inl (cI, 300, .inl res.2.1.2.2.2.1)), (h_difference, .inl (cL, 300, .inr (.inl res.2.1.2.1))), (h_a, .inl (cL, 300, .inr (.inl res.2.1.2.2.1))), (h_newKind, .inl (cI, 300, .inl res.2.2.1.1)), (h_newB, .inl (cI, 300, .inl res.2.2.1.2.2.2.1)), (h_newDifference, .inl (cL, 300, .inr (.inl res.2.2.1.2.1))), (h_newA, .inl (cL, 300, .inr (.inl res.2.2.1.2.2.1))), (h_log, .inl (cI, 5000, .inl res.2.2.2.1.1)), (h_packed, .inl (cI, 5000, .inl res.2.2.2.2.1.1))]) args s 0 0 A) (F0 m 38 ls []) := by
  obtain ⟨hx, hb, hr, hml, hown, hts, hlk, hK, hA⟩ := id C
  intro n
  induction n with
  | zero => intro st x1 x2 res hf; cases hf
  | succ n ih =>
    intro st x1 x2 res hf H locs ls hH hl
    rw [f_Model_makeUp_b38] at hf
    refine lv_iload_n hx hb d_Model_makeUp_38 rfl (lv_at hl 2 rfl) ?_
    refine lv_aload_n hx hb d_Model_makeUp_39 rfl (lv_at hl 0 rfl) ?_
    refine gt (ci := 6) (v := .int st.2.1.2.2.2.2) C hH (iwT iw_Model) 0 rfl rfl 1 (by decide) (.tail _ wd_597) rfl d_Model_makeUp_40 ?_
    refine lv_icmp_ge (tgt := 132) hx hb d_Model_makeUp_43 (by decide) (fun hc43 => ?_) (fun hc43 => ?_)
    · have hf := ip hc43 hf
      have hf := Option.some.inj hf
      subst hf
      exact rV C hH d_Model_makeUp_132
    · have hf := im hc43 hf
      refine lv_aload_n hx hb d_Model_makeUp_46 rfl (lv_at hl 0 rfl) ?_
      refine lv_iload_n hx hb d_Model_makeUp_47 rfl (lv_at hl 2 rfl) ?_
      obtain ⟨r48, hr48, hf⟩ := ob hf
      refine fnVR (rest := []) (st2 := [.int (bI r48)]) C (c_Model_isAlike l D cI cL h h_kind h_b h_difference h_a h_newKind h_newB h_newDifference h_newA h_log h_packed st x2 r48 hr48) (cV hts kV_Model_isAlike wd_707 ⟨Nat.le_of_ble_eq_true rfl, Nat.le_of_ble_eq_true rfl⟩) hH [0, 1, 2, 3, 4, 5, 6, 7, 8, 9, 10] rfl rfl 0 rfl rfl rfl hl.1 rfl (Nat.le_of_ble_eq_true rfl) d_Model_makeUp_48 ⟨Nat.le_of_ble_eq_true rfl, Nat.le_of_ble_eq_true rfl⟩ rfl (fun H locs hH => ?_)
      refine lv_if_eq (tgt := 60) hx hb d_Model_makeUp_51 (by decide) (fun hc51 => ?_) (fun hc51 => ?_)
      · have hf := ip hc51 hf
        refine lv_iconst (v := 0) hx hb d_Model_makeUp_60 (by decide) ?_
        refine lv_istore_n (lv' := [(1, .int 0), (0, .ref h), (2, .int x2)]) hx hb d_Model_makeUp_61 rfl hl (by decide) rfl (fun ls hl => ?_)
        refine lv_iload_n hx hb d_Model_makeUp_62 rfl (lv_at hl 2 rfl) ?_
        refine lv_iconst (v := 1) hx hb d_Model_makeUp_63 (by decide) ?_
        refine lv_iadd hx hb d_Model_makeUp_64 ?_
        refine lv_aload_n hx hb d_Model_makeUp_65 rfl (lv_at hl 1 rfl) ?_
        refine gt (ci := 6) (v := .int st.2.1.2.2.2.2) C hH (iwT iw_Model) 0 rfl rfl 1 (by decide) (.tail _ wd_597) rfl d_Model_makeUp_66 ?_
        refine lv_icmp_eq (tgt := 82) hx hb d_Model_makeUp_69 (by decide) (fun hc69 => ?_) (fun hc69 => ?_)
        · have hf := ip hc69 hf
          refine lv_iconst (v := 1) hx hb d_Model_makeUp_82 (by decide) ?_
          refine lv_goto (tgt := 87) hx hb d_Model_makeUp_83 (by decide) ?_
          refine lv_istore_n (lv' := [(3, .int 1), (1, .int 0), (0, .ref h), (2, .int x2)]) hx hb d_Model_makeUp_87 rfl hl (by decide) rfl (fun ls hl => ?_)
          refine lv_iload_n hx hb d_Model_makeUp_88 rfl (lv_at hl 1 rfl) ?_
          refine lv_if_le (tgt := 99) hx hb d_Model_makeUp_89 (by decide) (fun hc89 => ?_) (fun hc89 => ?_)
          · have hf := ip hc89 hf
            refine lv_aload_n hx hb d_Model_makeUp_99 rfl (lv_at hl 2 rfl) ?_
            refine lv_dup hx hb d_Model_makeUp_100 rfl ?_
            refine gt (ci := 6) (v := .int st.2.2.2.2.2.1.1) C hH (iwT iw_Model) 0 rfl rfl 15 (by decide) (.tail _ wd_611) rfl d_Model_makeUp_101 ?_
            refine lv_iconst (v := 1) hx hb d_Model_makeUp_104 (by decide) ?_
            refine lv_iadd hx hb d_Model_makeUp_105 ?_
            refine pt (ci := 6) (v := .int (st.2.2.2.2.2.1.1 + 1)) C hH (iwT iw_Model) ty_Model tyok_Model nm_Model 0 rfl rfl 15 (by decide) (.tail _ wd_611) rfl rfl rfl (Nat.le_of_ble_eq_true rfl) d_Model_makeUp_106 [(h, .inr (6, [.int st.1, .int st.2.1.2.2.2.2, .ref h_kind, .ref h_b, .ref h_difference, .ref h_a, .int st.2.2.1.2.2.2.2, .ref h_newKind, .ref h_newB, .ref h_newDifference, .ref h_newA, .int st.2.2.2.1.2, .ref h_log, .ref h_packed, .int st.2.2.2.2.1.2, .int (st.2.2.2.2.2.1.1 + 1), .int st.2.2.2.2.2.1.2.1, .int st.2.2.2.2.2.1.2.2.1, .int st.2.2.2.2.2.1.2.2.2, .int st.2.2.2.2.2.2.1, .int st.2.2.2.2.2.2.2])), (h_kind, .inl (cI, 300, .inl st.2.1.1)), (h_b, .inl (cI, 300, .inl st.2.1.2.2.2.1)), (h_difference, .inl (cL, 300, .inr (.inl st.2.1.2.1))), (h_a, .inl (cL, 300, .inr (.inl st.2.1.2.2.1))), (h_newKind, .inl (cI, 300, .inl st.2.2.1.1)), (h_newB, .inl (cI, 300, .inl st.2.2.1.2.2.2.1)), (h_newDifference, .inl (cL, 300, .inr (.inl st.2.2.1.2.1))), (h_newA, .inl (cL, 300, .inr (.inl st.2.2.1.2.2.1))), (h_log, .inl (cI, 5000, .inl st.2.2.2.1.1)), (h_packed, .inl (cI, 5000, .inl st.2.2.2.2.1.1))] rfl (fun H locs hH => ?_)
            refine lv_iload_n hx hb d_Model_makeUp_109 rfl (lv_at hl 1 rfl) ?_
            refine lv_if_le (tgt := 121) hx hb d_Model_makeUp_110 (by decide) (fun hc110 => ?_) (fun hc110 => ?_)
            · have hf := ip hc110 hf
              refine lv_aload_n hx hb d_Model_makeUp_121 rfl (lv_at hl 2 rfl) ?_
              refine lv_iload_n hx hb d_Model_makeUp_122 rfl (lv_at hl 3 rfl) ?_
              obtain ⟨r123, hr123, hf⟩ := ob hf
              refine fnV (rest := []) (wr := []) (w2 := [(h, .inr (6, [.int r123.1, .int r123.2.1.2.2.2.2, .ref h_kind, .ref h_b, .ref h_difference, .ref h_a, .int r123.2.2.1.2.2.2.2, .ref h_newKind, .ref h_newB, .ref h_newDifference, .ref h_newA, .int r123.2.2.2.1.2, .ref h_log, .ref h_packed, .int r123.2.2.2.2.1.2, .int r123.2.2.2.2.2.1.1, .int r123.2.2.2.2.2.1.2.1, .int r123.2.2.2.2.2.1.2.2.1, .int r123.2.2.2.2.2.1.2.2.2, .int r123.2.2.2.2.2.2.1, .int r123.2.2.2.2.2.2.2])), (h_kind, .inl (cI, 300, .inl r123.2.1.1)), (h_b, .inl (cI, 300, .inl r123.2.1.2.2.2.1)), (h_difference, .inl (cL, 300, .inr (.inl r123.2.1.2.1))), (h_a, .inl (cL, 300, .inr (.inl r123.2.1.2.2.1))), (h_newKind, .inl (cI, 300, .inl r123.2.2.1.1)), (h_newB, .inl (cI, 300, .inl r123.2.2.1.2.2.2.1)), (h_newDifference, .inl (cL, 300, .inr (.inl r123.2.2.1.2.1))), (h_newA, .inl (cL, 300, .inr (.inl r123.2.2.1.2.2.1))), (h_log, .inl (cI, 5000, .inl r123.2.2.2.1.1)), (h_packed, .inl (cI, 5000, .inl r123.2.2.2.2.1.1))]) (st2 := []) C (c_Model_entry l D cI cL h h_kind h_b h_difference h_a h_newKind h_newB h_newDifference h_newA h_log h_packed ((st.1, st.2.1, st.2.2.1, st.2.2.2.1, st.2.2.2.2.1, (st.2.2.2.2.2.1.1 + 1, st.2.2.2.2.2.1.2.1, st.2.2.2.2.2.1.2.2.1, st.2.2.2.2.2.1.2.2.2), st.2.2.2.2.2.2.1, st.2.2.2.2.2.2.2)) x2 r123 hr123) (cV hts kV_Model_entry wd_719 ⟨Nat.le_of_ble_eq_true rfl, Nat.le_of_ble_eq_true rfl⟩) hH [0, 1, 2, 3, 4, 5, 6, 7, 8, 9, 10] [] [0, 1, 2, 3, 4, 5, 6, 7, 8, 9, 10] rfl rfl rfl rfl (by decide) rfl rfl 0 rfl rfl rfl hl.1 rfl (Nat.le_of_ble_eq_true rfl) d_Model_makeUp_123 ⟨Nat.le_of_ble_eq_true rfl, Nat.le_of_ble_eq_true rfl⟩ rfl (fun H locs hH => ?_)
              refine lv_iinc (v := x2 + 1) (lv' := [(2, .int (x2 + 1)), (3, .int 1), (1, .int 0), (0, .ref h)]) hx hb d_Model_makeUp_126 hl (k := 3) rfl rfl (by decide) rfl (fun ls hl => ?_)
              refine lv_goto (tgt := 38) hx hb d_Model_makeUp_129 (by decide) ?_
              exact ih r123 0 (x2 + 1) res hf _ _ _ hH (lv_sub hl [3, 2, 0] rfl)
            · have hf := im hc110 hf
              refine lv_aload_n hx hb d_Model_makeUp_113 rfl (lv_at hl 2 rfl) ?_
              refine lv_iload_n hx hb d_Model_makeUp_114 rfl (lv_at hl 1 rfl) ?_
              obtain ⟨r115, hr115, hf⟩ := ob hf
              refine fnV (rest := []) (wr := []) (w2 := [(h, .inr (6, [.int r115.1, .int r115.2.1.2.2.2.2, .ref h_kind, .ref h_b, .ref h_difference, .ref h_a, .int r115.2.2.1.2.2.2.2, .ref h_newKind, .ref h_newB, .ref h_newDifference, .ref h_newA, .int r115.2.2.2.1.2, .ref h_log, .ref h_packed, .int r115.2.2.2.2.1.2, .int r115.2.2.2.2.2.1.1, .int r115.2.2.2.2.2.1.2.1, .int r115.2.2.2.2.2.1.2.2.1, .int r115.2.2.2.2.2.1.2.2.2, .int r115.2.2.2.2.2.2.1, .int r115.2.2.2.2.2.2.2])), (h_kind, .inl (cI, 300, .inl r115.2.1.1)), (h_b, .inl (cI, 300, .inl r115.2.1.2.2.2.1)), (h_difference, .inl (cL, 300, .inr (.inl r115.2.1.2.1))), (h_a, .inl (cL, 300, .inr (.inl r115.2.1.2.2.1))), (h_newKind, .inl (cI, 300, .inl r115.2.2.1.1)), (h_newB, .inl (cI, 300, .inl r115.2.2.1.2.2.2.1)), (h_newDifference, .inl (cL, 300, .inr (.inl r115.2.2.1.2.1))), (h_newA, .inl (cL, 300, .inr (.inl r115.2.2.1.2.2.1))), (h_log, .inl (cI, 5000, .inl r115.2.2.2.1.1)), (h_packed, .inl (cI, 5000, .inl r115.2.2.2.2.1.1))]) (st2 := []) C (c_Model_run l D cI cL h h_kind h_b h_difference h_a h_newKind h_newB h_newDifference h_newA h_log h_packed ((st.1, st.2.1, st.2.2.1, st.2.2.2.1, st.2.2.2.2.1, (st.2.2.2.2.2.1.1 + 1, st.2.2.2.2.2.1.2.1, st.2.2.2.2.2.1.2.2.1, st.2.2.2.2.2.1.2.2.2), st.2.2.2.2.2.2.1, st.2.2.2.2.2.2.2)) 0 r115 hr115) (cV hts kV_Model_run wd_715 ⟨Nat.le_of_ble_eq_true rfl, Nat.le_of_ble_eq_true rfl⟩) hH [0, 1, 2, 3, 4, 5, 6, 7, 8, 9, 10] [] [0, 1, 2, 3, 4, 5, 6, 7, 8, 9, 10] rfl rfl rfl rfl (by decide) rfl rfl 0 rfl rfl rfl hl.1 rfl (Nat.le_of_ble_eq_true rfl) d_Model_makeUp_115 ⟨Nat.le_of_ble_eq_true rfl, Nat.le_of_ble_eq_true rfl⟩ rfl (fun H locs hH => ?_)
              refine lv_goto (tgt := 126) hx hb d_Model_makeUp_118 (by decide) ?_
              refine lv_iinc (v := x2 + 1) (lv' := [(2, .int (x2 + 1)), (3, .int 1), (1, .int 0), (0, .ref h)]) hx hb d_Model_makeUp_126 hl (k := 3) rfl rfl (by decide) rfl (fun ls hl => ?_)
              refine lv_goto (tgt := 38) hx hb d_Model_makeUp_129 (by decide) ?_
              exact ih r115 0 (x2 + 1) res hf _ _ _ hH (lv_sub hl [3, 2, 0] rfl)
          · have hf := im hc89 hf
            refine lv_iload_n hx hb d_Model_makeUp_92 rfl (lv_at hl 0 rfl) ?_
            refine lv_if_ne (tgt := 99) hx hb d_Model_makeUp_93 (by decide) (fun hc93 => ?_) (fun hc93 => ?_)
            · have hf := im hc93 hf
              refine lv_aload_n hx hb d_Model_makeUp_99 rfl (lv_at hl 2 rfl) ?_
              refine lv_dup hx hb d_Model_makeUp_100 rfl ?_
              refine gt (ci := 6) (v := .int st.2.2.2.2.2.1.1) C hH (iwT iw_Model) 0 rfl rfl 15 (by decide) (.tail _ wd_611) rfl d_Model_makeUp_101 ?_
              refine lv_iconst (v := 1) hx hb d_Model_makeUp_104 (by decide) ?_
              refine lv_iadd hx hb d_Model_makeUp_105 ?_
              refine pt (ci := 6) (v := .int (st.2.2.2.2.2.1.1 + 1)) C hH (iwT iw_Model) ty_Model tyok_Model nm_Model 0 rfl rfl 15 (by decide) (.tail _ wd_611) rfl rfl rfl (Nat.le_of_ble_eq_true rfl) d_Model_makeUp_106 [(h, .inr (6, [.int st.1, .int st.2.1.2.2.2.2, .ref h_kind, .ref h_b, .ref h_difference, .ref h_a, .int st.2.2.1.2.2.2.2, .ref h_newKind, .ref h_newB, .ref h_newDifference, .ref h_newA, .int st.2.2.2.1.2, .ref h_log, .ref h_packed, .int st.2.2.2.2.1.2, .int (st.2.2.2.2.2.1.1 + 1), .int st.2.2.2.2.2.1.2.1, .int st.2.2.2.2.2.1.2.2.1, .int st.2.2.2.2.2.1.2.2.2, .int st.2.2.2.2.2.2.1, .int st.2.2.2.2.2.2.2])), (h_kind, .inl (cI, 300, .inl st.2.1.1)), (h_b, .inl (cI, 300, .inl st.2.1.2.2.2.1)), (h_difference, .inl (cL, 300, .inr (.inl st.2.1.2.1))), (h_a, .inl (cL, 300, .inr (.inl st.2.1.2.2.1))), (h_newKind, .inl (cI, 300, .inl st.2.2.1.1)), (h_newB, .inl (cI, 300, .inl st.2.2.1.2.2.2.1)), (h_newDifference, .inl (cL, 300, .inr (.inl st.2.2.1.2.1))), (h_newA, .inl (cL, 300, .inr (.inl st.2.2.1.2.2.1))), (h_log, .inl (cI, 5000, .inl st.2.2.2.1.1)), (h_packed, .inl (cI, 5000, .inl st.2.2.2.2.1.1))] rfl (fun H locs hH => ?_)
              refine lv_iload_n hx hb d_Model_makeUp_109 rfl (lv_at hl 1 rfl) ?_
              refine lv_if_le (tgt := 121) hx hb d_Model_makeUp_110 (by decide) (fun hc110 => ?_) (fun hc110 => ?_)
              · have hf := ip hc110 hf
                refine lv_aload_n hx hb d_Model_makeUp_121 rfl (lv_at hl 2 rfl) ?_
                refine lv_iload_n hx hb d_Model_makeUp_122 rfl (lv_at hl 3 rfl) ?_
                obtain ⟨r123, hr123, hf⟩ := ob hf
                refine fnV (rest := []) (wr := []) (w2 := [(h, .inr (6, [.int r123.1, .int r123.2.1.2.2.2.2, .ref h_kind, .ref h_b, .ref h_difference, .ref h_a, .int r123.2.2.1.2.2.2.2, .ref h_newKind, .ref h_newB, .ref h_newDifference, .ref h_newA, .int r123.2.2.2.1.2, .ref h_log, .ref h_packed, .int r123.2.2.2.2.1.2, .int r123.2.2.2.2.2.1.1, .int r123.2.2.2.2.2.1.2.1, .int r123.2.2.2.2.2.1.2.2.1, .int r123.2.2.2.2.2.1.2.2.2, .int r123.2.2.2.2.2.2.1, .int r123.2.2.2.2.2.2.2])), (h_kind, .inl (cI, 300, .inl r123.2.1.1)), (h_b, .inl (cI, 300, .inl r123.2.1.2.2.2.1)), (h_difference, .inl (cL, 300, .inr (.inl r123.2.1.2.1))), (h_a, .inl (cL, 300, .inr (.inl r123.2.1.2.2.1))), (h_newKind, .inl (cI, 300, .inl r123.2.2.1.1)), (h_newB, .inl (cI, 300, .inl r123.2.2.1.2.2.2.1)), (h_newDifference, .inl (cL, 300, .inr (.inl r123.2.2.1.2.1))), (h_newA, .inl (cL, 300, .inr (.inl r123.2.2.1.2.2.1))), (h_log, .inl (cI, 5000, .inl r123.2.2.2.1.1)), (h_packed, .inl (cI, 5000, .inl r123.2.2.2.2.1.1))]) (st2 := []) C (c_Model_entry l D cI cL h h_kind h_b h_difference h_a h_newKind h_newB h_newDifference h_newA h_log h_packed ((st.1, st.2.1, st.2.2.1, st.2.2.2.1, st.2.2.2.2.1, (st.2.2.2.2.2.1.1 + 1, st.2.2.2.2.2.1.2.1, st.2.2.2.2.2.1.2.2.1, st.2.2.2.2.2.1.2.2.2), st.2.2.2.2.2.2.1, st.2.2.2.2.2.2.2)) x2 r123 hr123) (cV hts kV_Model_entry wd_719 ⟨Nat.le_of_ble_eq_true rfl, Nat.le_of_ble_eq_true rfl⟩) hH [0, 1, 2, 3, 4, 5, 6, 7, 8, 9, 10] [] [0, 1, 2, 3, 4, 5, 6, 7, 8, 9, 10] rfl rfl rfl rfl (by decide) rfl rfl 0 rfl rfl rfl hl.1 rfl (Nat.le_of_ble_eq_true rfl) d_Model_makeUp_123 ⟨Nat.le_of_ble_eq_true rfl, Nat.le_of_ble_eq_true rfl⟩ rfl (fun H locs hH => ?_)
                refine lv_iinc (v := x2 + 1) (lv' := [(2, .int (x2 + 1)), (3, .int 1), (1, .int 0), (0, .ref h)]) hx hb d_Model_makeUp_126 hl (k := 3) rfl rfl (by decide) rfl (fun ls hl => ?_)
                refine lv_goto (tgt := 38) hx hb d_Model_makeUp_129 (by decide) ?_
                exact ih r123 0 (x2 + 1) res hf _ _ _ hH (lv_sub hl [3, 2, 0] rfl)
              · have hf := im hc110 hf
                refine lv_aload_n hx hb d_Model_makeUp_113 rfl (lv_at hl 2 rfl) ?_
                refine lv_iload_n hx hb d_Model_makeUp_114 rfl (lv_at hl 1 rfl) ?_
                obtain ⟨r115, hr115, hf⟩ := ob hf
                refine fnV (rest := []) (wr := []) (w2 := [(h, .inr (6, [.int r115.1, .int r115.2.1.2.2.2.2, .ref h_kind, .ref h_b, .ref h_difference, .ref h_a, .int r115.2.2.1.2.2.2.2, .ref h_newKind, .ref h_newB, .ref h_newDifference, .ref h_newA, .int r115.2.2.2.1.2, .ref h_log, .ref h_packed, .int r115.2.2.2.2.1.2, .int r115.2.2.2.2.2.1.1, .int r115.2.2.2.2.2.1.2.1, .int r115.2.2.2.2.2.1.2.2.1, .int r115.2.2.2.2.2.1.2.2.2, .int r115.2.2.2.2.2.2.1, .int r115.2.2.2.2.2.2.2])), (h_kind, .inl (cI, 300, .inl r115.2.1.1)), (h_b, .inl (cI, 300, .inl r115.2.1.2.2.2.1)), (h_difference, .inl (cL, 300, .inr (.inl r115.2.1.2.1))), (h_a, .inl (cL, 300, .inr (.inl r115.2.1.2.2.1))), (h_newKind, .inl (cI, 300, .inl r115.2.2.1.1)), (h_newB, .inl (cI, 300, .inl r115.2.2.1.2.2.2.1)), (h_newDifference, .inl (cL, 300, .inr (.inl r115.2.2.1.2.1))), (h_newA, .inl (cL, 300, .inr (.inl r115.2.2.1.2.2.1))), (h_log, .inl (cI, 5000, .inl r115.2.2.2.1.1)), (h_packed, .inl (cI, 5000, .inl r115.2.2.2.2.1.1))]) (st2 := []) C (c_Model_run l D cI cL h h_kind h_b h_difference h_a h_newKind h_newB h_newDifference h_newA h_log h_packed ((st.1, st.2.1, st.2.2.1, st.2.2.2.1, st.2.2.2.2.1, (st.2.2.2.2.2.1.1 + 1, st.2.2.2.2.2.1.2.1, st.2.2.2.2.2.1.2.2.1, st.2.2.2.2.2.1.2.2.2), st.2.2.2.2.2.2.1, st.2.2.2.2.2.2.2)) 0 r115 hr115) (cV hts kV_Model_run wd_715 ⟨Nat.le_of_ble_eq_true rfl, Nat.le_of_ble_eq_true rfl⟩) hH [0, 1, 2, 3, 4, 5, 6, 7, 8, 9, 10] [] [0, 1, 2, 3, 4, 5, 6, 7, 8, 9, 10] rfl rfl rfl rfl (by decide) rfl rfl 0 rfl rfl rfl hl.1 rfl (Nat.le_of_ble_eq_true rfl) d_Model_makeUp_115 ⟨Nat.le_of_ble_eq_true rfl, Nat.le_of_ble_eq_true rfl⟩ rfl (fun H locs hH => ?_)
                refine lv_goto (tgt := 126) hx hb d_Model_makeUp_118 (by decide) ?_
                refine lv_iinc (v := x2 + 1) (lv' := [(2, .int (x2 + 1)), (3, .int 1), (1, .int 0), (0, .ref h)]) hx hb d_Model_makeUp_126 hl (k := 3) rfl rfl (by decide) rfl (fun ls hl => ?_)
                refine lv_goto (tgt := 38) hx hb d_Model_makeUp_129 (by decide) ?_
                exact ih r115 0 (x2 + 1) res hf _ _ _ hH (lv_sub hl [3, 2, 0] rfl)
            · have hf := ip hc93 hf
              refine lv_goto (tgt := 126) hx hb d_Model_makeUp_96 (by decide) ?_
              refine lv_iinc (v := x2 + 1) (lv' := [(2, .int (x2 + 1)), (3, .int 1), (1, .int 0), (0, .ref h)]) hx hb d_Model_makeUp_126 hl (k := 3) rfl rfl (by decide) rfl (fun ls hl => ?_)
              refine lv_goto (tgt := 38) hx hb d_Model_makeUp_129 (by decide) ?_
              exact ih st 0 (x2 + 1) res hf _ _ _ hH (lv_sub hl [3, 2, 0] rfl)
        · have hf := im hc69 hf
          refine lv_aload_n hx hb d_Model_makeUp_72 rfl (lv_at hl 1 rfl) ?_
          refine lv_iload_n hx hb d_Model_makeUp_73 rfl (lv_at hl 2 rfl) ?_
          refine lv_iconst (v := 1) hx hb d_Model_makeUp_74 (by decide) ?_
          refine lv_iadd hx hb d_Model_makeUp_75 ?_
          obtain ⟨r76, hr76, hf⟩ := ob hf
          refine fnVR (rest := []) (st2 := [.int (bI r76)]) C (c_Model_isAlike l D cI cL h h_kind h_b h_difference h_a h_newKind h_newB h_newDifference h_newA h_log h_packed st (x2 + 1) r76 hr76) (cV hts kV_Model_isAlike wd_707 ⟨Nat.le_of_ble_eq_true rfl, Nat.le_of_ble_eq_true rfl⟩) hH [0, 1, 2, 3, 4, 5, 6, 7, 8, 9, 10] rfl rfl 0 rfl rfl rfl hl.1 rfl (Nat.le_of_ble_eq_true rfl) d_Model_makeUp_76 ⟨Nat.le_of_ble_eq_true rfl, Nat.le_of_ble_eq_true rfl⟩ rfl (fun H locs hH => ?_)
          refine lv_if_ne (tgt := 86) hx hb d_Model_makeUp_79 (by decide) (fun hc79 => ?_) (fun hc79 => ?_)
          · have hf := im hc79 hf
            refine lv_iconst (v := 0) hx hb d_Model_makeUp_86 (by decide) ?_
            refine lv_istore_n (lv' := [(3, .int 0), (1, .int 0), (0, .ref h), (2, .int x2)]) hx hb d_Model_makeUp_87 rfl hl (by decide) rfl (fun ls hl => ?_)
            refine lv_iload_n hx hb d_Model_makeUp_88 rfl (lv_at hl 1 rfl) ?_
            refine lv_if_le (tgt := 99) hx hb d_Model_makeUp_89 (by decide) (fun hc89 => ?_) (fun hc89 => ?_)
            · have hf := ip hc89 hf
              refine lv_aload_n hx hb d_Model_makeUp_99 rfl (lv_at hl 2 rfl) ?_
              refine lv_dup hx hb d_Model_makeUp_100 rfl ?_
              refine gt (ci := 6) (v := .int st.2.2.2.2.2.1.1) C hH (iwT iw_Model) 0 rfl rfl 15 (by decide) (.tail _ wd_611) rfl d_Model_makeUp_101 ?_
              refine lv_iconst (v := 1) hx hb d_Model_makeUp_104 (by decide) ?_
              refine lv_iadd hx hb d_Model_makeUp_105 ?_
              refine pt (ci := 6) (v := .int (st.2.2.2.2.2.1.1 + 1)) C hH (iwT iw_Model) ty_Model tyok_Model nm_Model 0 rfl rfl 15 (by decide) (.tail _ wd_611) rfl rfl rfl (Nat.le_of_ble_eq_true rfl) d_Model_makeUp_106 [(h, .inr (6, [.int st.1, .int st.2.1.2.2.2.2, .ref h_kind, .ref h_b, .ref h_difference, .ref h_a, .int st.2.2.1.2.2.2.2, .ref h_newKind, .ref h_newB, .ref h_newDifference, .ref h_newA, .int st.2.2.2.1.2, .ref h_log, .ref h_packed, .int st.2.2.2.2.1.2, .int (st.2.2.2.2.2.1.1 + 1), .int st.2.2.2.2.2.1.2.1, .int st.2.2.2.2.2.1.2.2.1, .int st.2.2.2.2.2.1.2.2.2, .int st.2.2.2.2.2.2.1, .int st.2.2.2.2.2.2.2])), (h_kind, .inl (cI, 300, .inl st.2.1.1)), (h_b, .inl (cI, 300, .inl st.2.1.2.2.2.1)), (h_difference, .inl (cL, 300, .inr (.inl st.2.1.2.1))), (h_a, .inl (cL, 300, .inr (.inl st.2.1.2.2.1))), (h_newKind, .inl (cI, 300, .inl st.2.2.1.1)), (h_newB, .inl (cI, 300, .inl st.2.2.1.2.2.2.1)), (h_newDifference, .inl (cL, 300, .inr (.inl st.2.2.1.2.1))), (h_newA, .inl (cL, 300, .inr (.inl st.2.2.1.2.2.1))), (h_log, .inl (cI, 5000, .inl st.2.2.2.1.1)), (h_packed, .inl (cI, 5000, .inl st.2.2.2.2.1.1))] rfl (fun H locs hH => ?_)
              refine lv_iload_n hx hb d_Model_makeUp_109 rfl (lv_at hl 1 rfl) ?_
              refine lv_if_le (tgt := 121) hx hb d_Model_makeUp_110 (by decide) (fun hc110 => ?_) (fun hc110 => ?_)
              · have hf := ip hc110 hf
                refine lv_aload_n hx hb d_Model_makeUp_121 rfl (lv_at hl 2 rfl) ?_
                refine lv_iload_n hx hb d_Model_makeUp_122 rfl (lv_at hl 3 rfl) ?_
                obtain ⟨r123, hr123, hf⟩ := ob hf
                refine fnV (rest := []) (wr := []) (w2 := [(h, .inr (6, [.int r123.1, .int r123.2.1.2.2.2.2, .ref h_kind, .ref h_b, .ref h_difference, .ref h_a, .int r123.2.2.1.2.2.2.2, .ref h_newKind, .ref h_newB, .ref h_newDifference, .ref h_newA, .int r123.2.2.2.1.2, .ref h_log, .ref h_packed, .int r123.2.2.2.2.1.2, .int r123.2.2.2.2.2.1.1, .int r123.2.2.2.2.2.1.2.1, .int r123.2.2.2.2.2.1.2.2.1, .int r123.2.2.2.2.2.1.2.2.2, .int r123.2.2.2.2.2.2.1, .int r123.2.2.2.2.2.2.2])), (h_kind, .inl (cI, 300, .inl r123.2.1.1)), (h_b, .inl (cI, 300, .inl r123.2.1.2.2.2.1)), (h_difference, .inl (cL, 300, .inr (.inl r123.2.1.2.1))), (h_a, .inl (cL, 300, .inr (.inl r123.2.1.2.2.1))), (h_newKind, .inl (cI, 300, .inl r123.2.2.1.1)), (h_newB, .inl (cI, 300, .inl r123.2.2.1.2.2.2.1)), (h_newDifference, .inl (cL, 300, .inr (.inl r123.2.2.1.2.1))), (h_newA, .inl (cL, 300, .inr (.inl r123.2.2.1.2.2.1))), (h_log, .inl (cI, 5000, .inl r123.2.2.2.1.1)), (h_packed, .inl (cI, 5000, .inl r123.2.2.2.2.1.1))]) (st2 := []) C (c_Model_entry l D cI cL h h_kind h_b h_difference h_a h_newKind h_newB h_newDifference h_newA h_log h_packed ((st.1, st.2.1, st.2.2.1, st.2.2.2.1, st.2.2.2.2.1, (st.2.2.2.2.2.1.1 + 1, st.2.2.2.2.2.1.2.1, st.2.2.2.2.2.1.2.2.1, st.2.2.2.2.2.1.2.2.2), st.2.2.2.2.2.2.1, st.2.2.2.2.2.2.2)) x2 r123 hr123) (cV hts kV_Model_entry wd_719 ⟨Nat.le_of_ble_eq_true rfl, Nat.le_of_ble_eq_true rfl⟩) hH [0, 1, 2, 3, 4, 5, 6, 7, 8, 9, 10] [] [0, 1, 2, 3, 4, 5, 6, 7, 8, 9, 10] rfl rfl rfl rfl (by decide) rfl rfl 0 rfl rfl rfl hl.1 rfl (Nat.le_of_ble_eq_true rfl) d_Model_makeUp_123 ⟨Nat.le_of_ble_eq_true rfl, Nat.le_of_ble_eq_true rfl⟩ rfl (fun H locs hH => ?_)
                refine lv_iinc (v := x2 + 1) (lv' := [(2, .int (x2 + 1)), (3, .int 0), (1, .int 0), (0, .ref h)]) hx hb d_Model_makeUp_126 hl (k := 3) rfl rfl (by decide) rfl (fun ls hl => ?_)
                refine lv_goto (tgt := 38) hx hb d_Model_makeUp_129 (by decide) ?_
                exact ih r123 0 (x2 + 1) res hf _ _ _ hH (lv_sub hl [3, 2, 0] rfl)
              · have hf := im hc110 hf
                refine lv_aload_n hx hb d_Model_makeUp_113 rfl (lv_at hl 2 rfl) ?_
                refine lv_iload_n hx hb d_Model_makeUp_114 rfl (lv_at hl 1 rfl) ?_
                obtain ⟨r115, hr115, hf⟩ := ob hf
                refine fnV (rest := []) (wr := []) (w2 := [(h, .inr (6, [.int r115.1, .int r115.2.1.2.2.2.2, .ref h_kind, .ref h_b, .ref h_difference, .ref h_a, .int r115.2.2.1.2.2.2.2, .ref h_newKind, .ref h_newB, .ref h_newDifference, .ref h_newA, .int r115.2.2.2.1.2, .ref h_log, .ref h_packed, .int r115.2.2.2.2.1.2, .int r115.2.2.2.2.2.1.1, .int r115.2.2.2.2.2.1.2.1, .int r115.2.2.2.2.2.1.2.2.1, .int r115.2.2.2.2.2.1.2.2.2, .int r115.2.2.2.2.2.2.1, .int r115.2.2.2.2.2.2.2])), (h_kind, .inl (cI, 300, .inl r115.2.1.1)), (h_b, .inl (cI, 300, .inl r115.2.1.2.2.2.1)), (h_difference, .inl (cL, 300, .inr (.inl r115.2.1.2.1))), (h_a, .inl (cL, 300, .inr (.inl r115.2.1.2.2.1))), (h_newKind, .inl (cI, 300, .inl r115.2.2.1.1)), (h_newB, .inl (cI, 300, .inl r115.2.2.1.2.2.2.1)), (h_newDifference, .inl (cL, 300, .inr (.inl r115.2.2.1.2.1))), (h_newA, .inl (cL, 300, .inr (.inl r115.2.2.1.2.2.1))), (h_log, .inl (cI, 5000, .inl r115.2.2.2.1.1)), (h_packed, .inl (cI, 5000, .inl r115.2.2.2.2.1.1))]) (st2 := []) C (c_Model_run l D cI cL h h_kind h_b h_difference h_a h_newKind h_newB h_newDifference h_newA h_log h_packed ((st.1, st.2.1, st.2.2.1, st.2.2.2.1, st.2.2.2.2.1, (st.2.2.2.2.2.1.1 + 1, st.2.2.2.2.2.1.2.1, st.2.2.2.2.2.1.2.2.1, st.2.2.2.2.2.1.2.2.2), st.2.2.2.2.2.2.1, st.2.2.2.2.2.2.2)) 0 r115 hr115) (cV hts kV_Model_run wd_715 ⟨Nat.le_of_ble_eq_true rfl, Nat.le_of_ble_eq_true rfl⟩) hH [0, 1, 2, 3, 4, 5, 6, 7, 8, 9, 10] [] [0, 1, 2, 3, 4, 5, 6, 7, 8, 9, 10] rfl rfl rfl rfl (by decide) rfl rfl 0 rfl rfl rfl hl.1 rfl (Nat.le_of_ble_eq_true rfl) d_Model_makeUp_115 ⟨Nat.le_of_ble_eq_true rfl, Nat.le_of_ble_eq_true rfl⟩ rfl (fun H locs hH => ?_)
                refine lv_goto (tgt := 126) hx hb d_Model_makeUp_118 (by decide) ?_
                refine lv_iinc (v := x2 + 1) (lv' := [(2, .int (x2 + 1)), (3, .int 0), (1, .int 0), (0, .ref h)]) hx hb d_Model_makeUp_126 hl (k := 3) rfl rfl (by decide) rfl (fun ls hl => ?_)
                refine lv_goto (tgt := 38) hx hb d_Model_makeUp_129 (by decide) ?_
                exact ih r115 0 (x2 + 1) res hf _ _ _ hH (lv_sub hl [3, 2, 0] rfl)
            · have hf := im hc89 hf
              refine lv_iload_n hx hb d_Model_makeUp_92 rfl (lv_at hl 0 rfl) ?_
              refine lv_if_ne (tgt := 99) hx hb d_Model_makeUp_93 (by decide) (fun hc93 => ?_) (fun hc93 => ?_)
              · have hf := im hc93 hf
                refine lv_aload_n hx hb d_Model_makeUp_99 rfl (lv_at hl 2 rfl) ?_
                refine lv_dup hx hb d_Model_makeUp_100 rfl ?_
                refine gt (ci := 6) (v := .int st.2.2.2.2.2.1.1) C hH (iwT iw_Model) 0 rfl rfl 15 (by decide) (.tail _ wd_611) rfl d_Model_makeUp_101 ?_
                refine lv_iconst (v := 1) hx hb d_Model_makeUp_104 (by decide) ?_
                refine lv_iadd hx hb d_Model_makeUp_105 ?_
                refine pt (ci := 6) (v := .int (st.2.2.2.2.2.1.1 + 1)) C hH (iwT iw_Model) ty_Model tyok_Model nm_Model 0 rfl rfl 15 (by decide) (.tail _ wd_611) rfl rfl rfl (Nat.le_of_ble_eq_true rfl) d_Model_makeUp_106 [(h, .inr (6, [.int st.1, .int st.2.1.2.2.2.2, .ref h_kind, .ref h_b, .ref h_difference, .ref h_a, .int st.2.2.1.2.2.2.2, .ref h_newKind, .ref h_newB, .ref h_newDifference, .ref h_newA, .int st.2.2.2.1.2, .ref h_log, .ref h_packed, .int st.2.2.2.2.1.2, .int (st.2.2.2.2.2.1.1 + 1), .int st.2.2.2.2.2.1.2.1, .int st.2.2.2.2.2.1.2.2.1, .int st.2.2.2.2.2.1.2.2.2, .int st.2.2.2.2.2.2.1, .int st.2.2.2.2.2.2.2])), (h_kind, .inl (cI, 300, .inl st.2.1.1)), (h_b, .inl (cI, 300, .inl st.2.1.2.2.2.1)), (h_difference, .inl (cL, 300, .inr (.inl st.2.1.2.1))), (h_a, .inl (cL, 300, .inr (.inl st.2.1.2.2.1))), (h_newKind, .inl (cI, 300, .inl st.2.2.1.1)), (h_newB, .inl (cI, 300, .inl st.2.2.1.2.2.2.1)), (h_newDifference, .inl (cL, 300, .inr (.inl st.2.2.1.2.1))), (h_newA, .inl (cL, 300, .inr (.inl st.2.2.1.2.2.1))), (h_log, .inl (cI, 5000, .inl st.2.2.2.1.1)), (h_packed, .inl (cI, 5000, .inl st.2.2.2.2.1.1))] rfl (fun H locs hH => ?_)
                refine lv_iload_n hx hb d_Model_makeUp_109 rfl (lv_at hl 1 rfl) ?_
                refine lv_if_le (tgt := 121) hx hb d_Model_makeUp_110 (by decide) (fun hc110 => ?_) (fun hc110 => ?_)
                · have hf := ip hc110 hf
                  refine lv_aload_n hx hb d_Model_makeUp_121 rfl (lv_at hl 2 rfl) ?_
                  refine lv_iload_n hx hb d_Model_makeUp_122 rfl (lv_at hl 3 rfl) ?_
                  obtain ⟨r123, hr123, hf⟩ := ob hf
                  refine fnV (rest := []) (wr := []) (w2 := [(h, .inr (6, [.int r123.1, .int r123.2.1.2.2.2.2, .ref h_kind, .ref h_b, .ref h_difference, .ref h_a, .int r123.2.2.1.2.2.2.2, .ref h_newKind, .ref h_newB, .ref h_newDifference, .ref h_newA, .int r123.2.2.2.1.2, .ref h_log, .ref h_packed, .int r123.2.2.2.2.1.2, .int r123.2.2.2.2.2.1.1, .int r123.2.2.2.2.2.1.2.1, .int r123.2.2.2.2.2.1.2.2.1, .int r123.2.2.2.2.2.1.2.2.2, .int r123.2.2.2.2.2.2.1, .int r123.2.2.2.2.2.2.2])), (h_kind, .inl (cI, 300, .inl r123.2.1.1)), (h_b, .inl (cI, 300, .inl r123.2.1.2.2.2.1)), (h_difference, .inl (cL, 300, .inr (.inl r123.2.1.2.1))), (h_a, .inl (cL, 300, .inr (.inl r123.2.1.2.2.1))), (h_newKind, .inl (cI, 300, .inl r123.2.2.1.1)), (h_newB, .inl (cI, 300, .inl r123.2.2.1.2.2.2.1)), (h_newDifference, .inl (cL, 300, .inr (.inl r123.2.2.1.2.1))), (h_newA, .inl (cL, 300, .inr (.inl r123.2.2.1.2.2.1))), (h_log, .inl (cI, 5000, .inl r123.2.2.2.1.1)), (h_packed, .inl (cI, 5000, .inl r123.2.2.2.2.1.1))]) (st2 := []) C (c_Model_entry l D cI cL h h_kind h_b h_difference h_a h_newKind h_newB h_newDifference h_newA h_log h_packed ((st.1, st.2.1, st.2.2.1, st.2.2.2.1, st.2.2.2.2.1, (st.2.2.2.2.2.1.1 + 1, st.2.2.2.2.2.1.2.1, st.2.2.2.2.2.1.2.2.1, st.2.2.2.2.2.1.2.2.2), st.2.2.2.2.2.2.1, st.2.2.2.2.2.2.2)) x2 r123 hr123) (cV hts kV_Model_entry wd_719 ⟨Nat.le_of_ble_eq_true rfl, Nat.le_of_ble_eq_true rfl⟩) hH [0, 1, 2, 3, 4, 5, 6, 7, 8, 9, 10] [] [0, 1, 2, 3, 4, 5, 6, 7, 8, 9, 10] rfl rfl rfl rfl (by decide) rfl rfl 0 rfl rfl rfl hl.1 rfl (Nat.le_of_ble_eq_true rfl) d_Model_makeUp_123 ⟨Nat.le_of_ble_eq_true rfl, Nat.le_of_ble_eq_true rfl⟩ rfl (fun H locs hH => ?_)
                  refine lv_iinc (v := x2 + 1) (lv' := [(2, .int (x2 + 1)), (3, .int 0), (1, .int 0), (0, .ref h)]) hx hb d_Model_makeUp_126 hl (k := 3) rfl rfl (by decide) rfl (fun ls hl => ?_)
                  refine lv_goto (tgt := 38) hx hb d_Model_makeUp_129 (by decide) ?_
                  exact ih r123 0 (x2 + 1) res hf _ _ _ hH (lv_sub hl [3, 2, 0] rfl)
                · have hf := im hc110 hf
                  refine lv_aload_n hx hb d_Model_makeUp_113 rfl (lv_at hl 2 rfl) ?_
                  refine lv_iload_n hx hb d_Model_makeUp_114 rfl (lv_at hl 1 rfl) ?_
                  obtain ⟨r115, hr115, hf⟩ := ob hf
                  refine fnV (rest := []) (wr := []) (w2 := [(h, .inr (6, [.int r115.1, .int r115.2.1.2.2.2.2, .ref h_kind, .ref h_b, .ref h_difference, .ref h_a, .int r115.2.2.1.2.2.2.2, .ref h_newKind, .ref h_newB, .ref h_newDifference, .ref h_newA, .int r115.2.2.2.1.2, .ref h_log, .ref h_packed, .int r115.2.2.2.2.1.2, .int r115.2.2.2.2.2.1.1, .int r115.2.2.2.2.2.1.2.1, .int r115.2.2.2.2.2.1.2.2.1, .int r115.2.2.2.2.2.1.2.2.2, .int r115.2.2.2.2.2.2.1, .int r115.2.2.2.2.2.2.2])), (h_kind, .inl (cI, 300, .inl r115.2.1.1)), (h_b, .inl (cI, 300, .inl r115.2.1.2.2.2.1)), (h_difference, .inl (cL, 300, .inr (.inl r115.2.1.2.1))), (h_a, .inl (cL, 300, .inr (.inl r115.2.1.2.2.1))), (h_newKind, .inl (cI, 300, .inl r115.2.2.1.1)), (h_newB, .inl (cI, 300, .inl r115.2.2.1.2.2.2.1)), (h_newDifference, .inl (cL, 300, .inr (.inl r115.2.2.1.2.1))), (h_newA, .inl (cL, 300, .inr (.inl r115.2.2.1.2.2.1))), (h_log, .inl (cI, 5000, .inl r115.2.2.2.1.1)), (h_packed, .inl (cI, 5000, .inl r115.2.2.2.2.1.1))]) (st2 := []) C (c_Model_run l D cI cL h h_kind h_b h_difference h_a h_newKind h_newB h_newDifference h_newA h_log h_packed ((st.1, st.2.1, st.2.2.1, st.2.2.2.1, st.2.2.2.2.1, (st.2.2.2.2.2.1.1 + 1, st.2.2.2.2.2.1.2.1, st.2.2.2.2.2.1.2.2.1, st.2.2.2.2.2.1.2.2.2), st.2.2.2.2.2.2.1, st.2.2.2.2.2.2.2)) 0 r115 hr115) (cV hts kV_Model_run wd_715 ⟨Nat.le_of_ble_eq_true rfl, Nat.le_of_ble_eq_true rfl⟩) hH [0, 1, 2, 3, 4, 5, 6, 7, 8, 9, 10] [] [0, 1, 2, 3, 4, 5, 6, 7, 8, 9, 10] rfl rfl rfl rfl (by decide) rfl rfl 0 rfl rfl rfl hl.1 rfl (Nat.le_of_ble_eq_true rfl) d_Model_makeUp_115 ⟨Nat.le_of_ble_eq_true rfl, Nat.le_of_ble_eq_true rfl⟩ rfl (fun H locs hH => ?_)
                  refine lv_goto (tgt := 126) hx hb d_Model_makeUp_118 (by decide) ?_
                  refine lv_iinc (v := x2 + 1) (lv' := [(2, .int (x2 + 1)), (3, .int 0), (1, .int 0), (0, .ref h)]) hx hb d_Model_makeUp_126 hl (k := 3) rfl rfl (by decide) rfl (fun ls hl => ?_)
                  refine lv_goto (tgt := 38) hx hb d_Model_makeUp_129 (by decide) ?_
                  exact ih r115 0 (x2 + 1) res hf _ _ _ hH (lv_sub hl [3, 2, 0] rfl)
              · have hf := ip hc93 hf
                refine lv_goto (tgt := 126) hx hb d_Model_makeUp_96 (by decide) ?_
                refine lv_iinc (v := x2 + 1) (lv' := [(2, .int (x2 + 1)), (3, .int 0), (1, .int 0), (0, .ref h)]) hx hb d_Model_makeUp_126 hl (k := 3) rfl rfl (by decide) rfl (fun ls hl => ?_)
                refine lv_goto (tgt := 38) hx hb d_Model_makeUp_129 (by decide) ?_
                exact ih st 0 (x2 + 1) res hf _ _ _ hH (lv_sub hl [3, 2, 0] rfl)
          · have hf := ip hc79 hf
            refine lv_iconst (v := 1) hx hb d_Model_makeUp_82 (by decide) ?_
            refine lv_goto (tgt := 87) hx hb d_Model_makeUp_83 (by decide) ?_
            refine lv_istore_n (lv' := [(3, .int 1), (1, .int 0), (0, .ref h), (2, .int x2)]) hx hb d_Model_makeUp_87 rfl hl (by decide) rfl (fun ls hl => ?_)
            refine lv_iload_n hx hb d_Model_makeUp_88 rfl (lv_at hl 1 rfl) ?_
            refine lv_if_le (tgt := 99) hx hb d_Model_makeUp_89 (by decide) (fun hc89 => ?_) (fun hc89 => ?_)
            · have hf := ip hc89 hf
              refine lv_aload_n hx hb d_Model_makeUp_99 rfl (lv_at hl 2 rfl) ?_
              refine lv_dup hx hb d_Model_makeUp_100 rfl ?_
              refine gt (ci := 6) (v := .int st.2.2.2.2.2.1.1) C hH (iwT iw_Model) 0 rfl rfl 15 (by decide) (.tail _ wd_611) rfl d_Model_makeUp_101 ?_
              refine lv_iconst (v := 1) hx hb d_Model_makeUp_104 (by decide) ?_
              refine lv_iadd hx hb d_Model_makeUp_105 ?_
              refine pt (ci := 6) (v := .int (st.2.2.2.2.2.1.1 + 1)) C hH (iwT iw_Model) ty_Model tyok_Model nm_Model 0 rfl rfl 15 (by decide) (.tail _ wd_611) rfl rfl rfl (Nat.le_of_ble_eq_true rfl) d_Model_makeUp_106 [(h, .inr (6, [.int st.1, .int st.2.1.2.2.2.2, .ref h_kind, .ref h_b, .ref h_difference, .ref h_a, .int st.2.2.1.2.2.2.2, .ref h_newKind, .ref h_newB, .ref h_newDifference, .ref h_newA, .int st.2.2.2.1.2, .ref h_log, .ref h_packed, .int st.2.2.2.2.1.2, .int (st.2.2.2.2.2.1.1 + 1), .int st.2.2.2.2.2.1.2.1, .int st.2.2.2.2.2.1.2.2.1, .int st.2.2.2.2.2.1.2.2.2, .int st.2.2.2.2.2.2.1, .int st.2.2.2.2.2.2.2])), (h_kind, .inl (cI, 300, .inl st.2.1.1)), (h_b, .inl (cI, 300, .inl st.2.1.2.2.2.1)), (h_difference, .inl (cL, 300, .inr (.inl st.2.1.2.1))), (h_a, .inl (cL, 300, .inr (.inl st.2.1.2.2.1))), (h_newKind, .inl (cI, 300, .inl st.2.2.1.1)), (h_newB, .inl (cI, 300, .inl st.2.2.1.2.2.2.1)), (h_newDifference, .inl (cL, 300, .inr (.inl st.2.2.1.2.1))), (h_newA, .inl (cL, 300, .inr (.inl st.2.2.1.2.2.1))), (h_log, .inl (cI, 5000, .inl st.2.2.2.1.1)), (h_packed, .inl (cI, 5000, .inl st.2.2.2.2.1.1))] rfl (fun H locs hH => ?_)
              refine lv_iload_n hx hb d_Model_makeUp_109 rfl (lv_at hl 1 rfl) ?_
              refine lv_if_le (tgt := 121) hx hb d_Model_makeUp_110 (by decide) (fun hc110 => ?_) (fun hc110 => ?_)
              · have hf := ip hc110 hf
                refine lv_aload_n hx hb d_Model_makeUp_121 rfl (lv_at hl 2 rfl) ?_
                refine lv_iload_n hx hb d_Model_makeUp_122 rfl (lv_at hl 3 rfl) ?_
                obtain ⟨r123, hr123, hf⟩ := ob hf
                refine fnV (rest := []) (wr := []) (w2 := [(h, .inr (6, [.int r123.1, .int r123.2.1.2.2.2.2, .ref h_kind, .ref h_b, .ref h_difference, .ref h_a, .int r123.2.2.1.2.2.2.2, .ref h_newKind, .ref h_newB, .ref h_newDifference, .ref h_newA, .int r123.2.2.2.1.2, .ref h_log, .ref h_packed, .int r123.2.2.2.2.1.2, .int r123.2.2.2.2.2.1.1, .int r123.2.2.2.2.2.1.2.1, .int r123.2.2.2.2.2.1.2.2.1, .int r123.2.2.2.2.2.1.2.2.2, .int r123.2.2.2.2.2.2.1, .int r123.2.2.2.2.2.2.2])), (h_kind, .inl (cI, 300, .inl r123.2.1.1)), (h_b, .inl (cI, 300, .inl r123.2.1.2.2.2.1)), (h_difference, .inl (cL, 300, .inr (.inl r123.2.1.2.1))), (h_a, .inl (cL, 300, .inr (.inl r123.2.1.2.2.1))), (h_newKind, .inl (cI, 300, .inl r123.2.2.1.1)), (h_newB, .inl (cI, 300, .inl r123.2.2.1.2.2.2.1)), (h_newDifference, .inl (cL, 300, .inr (.inl r123.2.2.1.2.1))), (h_newA, .inl (cL, 300, .inr (.inl r123.2.2.1.2.2.1))), (h_log, .inl (cI, 5000, .inl r123.2.2.2.1.1)), (h_packed, .inl (cI, 5000, .inl r123.2.2.2.2.1.1))]) (st2 := []) C (c_Model_entry l D cI cL h h_kind h_b h_difference h_a h_newKind h_newB h_newDifference h_newA h_log h_packed ((st.1, st.2.1, st.2.2.1, st.2.2.2.1, st.2.2.2.2.1, (st.2.2.2.2.2.1.1 + 1, st.2.2.2.2.2.1.2.1, st.2.2.2.2.2.1.2.2.1, st.2.2.2.2.2.1.2.2.2), st.2.2.2.2.2.2.1, st.2.2.2.2.2.2.2)) x2 r123 hr123) (cV hts kV_Model_entry wd_719 ⟨Nat.le_of_ble_eq_true rfl, Nat.le_of_ble_eq_true rfl⟩) hH [0, 1, 2, 3, 4, 5, 6, 7, 8, 9, 10] [] [0, 1, 2, 3, 4, 5, 6, 7, 8, 9, 10] rfl rfl rfl rfl (by decide) rfl rfl 0 rfl rfl rfl hl.1 rfl (Nat.le_of_ble_eq_true rfl) d_Model_makeUp_123 ⟨Nat.le_of_ble_eq_true rfl, Nat.le_of_ble_eq_true rfl⟩ rfl (fun H locs hH => ?_)
                refine lv_iinc (v := x2 + 1) (lv' := [(2, .int (x2 + 1)), (3, .int 1), (1, .int 0), (0, .ref h)]) hx hb d_Model_makeUp_126 hl (k := 3) rfl rfl (by decide) rfl (fun ls hl => ?_)
                refine lv_goto (tgt := 38) hx hb d_Model_makeUp_129 (by decide) ?_
                exact ih r123 0 (x2 + 1) res hf _ _ _ hH (lv_sub hl [3, 2, 0] rfl)
              · have hf := im hc110 hf
                refine lv_aload_n hx hb d_Model_makeUp_113 rfl (lv_at hl 2 rfl) ?_
                refine lv_iload_n hx hb d_Model_makeUp_114 rfl (lv_at hl 1 rfl) ?_
                obtain ⟨r115, hr115, hf⟩ := ob hf
                refine fnV (rest := []) (wr := []) (w2 := [(h, .inr (6, [.int r115.1, .int r115.2.1.2.2.2.2, .ref h_kind, .ref h_b, .ref h_difference, .ref h_a, .int r115.2.2.1.2.2.2.2, .ref h_newKind, .ref h_newB, .ref h_newDifference, .ref h_newA, .int r115.2.2.2.1.2, .ref h_log, .ref h_packed, .int r115.2.2.2.2.1.2, .int r115.2.2.2.2.2.1.1, .int r115.2.2.2.2.2.1.2.1, .int r115.2.2.2.2.2.1.2.2.1, .int r115.2.2.2.2.2.1.2.2.2, .int r115.2.2.2.2.2.2.1, .int r115.2.2.2.2.2.2.2])), (h_kind, .inl (cI, 300, .inl r115.2.1.1)), (h_b, .inl (cI, 300, .inl r115.2.1.2.2.2.1)), (h_difference, .inl (cL, 300, .inr (.inl r115.2.1.2.1))), (h_a, .inl (cL, 300, .inr (.inl r115.2.1.2.2.1))), (h_newKind, .inl (cI, 300, .inl r115.2.2.1.1)), (h_newB, .inl (cI, 300, .inl r115.2.2.1.2.2.2.1)), (h_newDifference, .inl (cL, 300, .inr (.inl r115.2.2.1.2.1))), (h_newA, .inl (cL, 300, .inr (.inl r115.2.2.1.2.2.1))), (h_log, .inl (cI, 5000, .inl r115.2.2.2.1.1)), (h_packed, .inl (cI, 5000, .inl r115.2.2.2.2.1.1))]) (st2 := []) C (c_Model_run l D cI cL h h_kind h_b h_difference h_a h_newKind h_newB h_newDifference h_newA h_log h_packed ((st.1, st.2.1, st.2.2.1, st.2.2.2.1, st.2.2.2.2.1, (st.2.2.2.2.2.1.1 + 1, st.2.2.2.2.2.1.2.1, st.2.2.2.2.2.1.2.2.1, st.2.2.2.2.2.1.2.2.2), st.2.2.2.2.2.2.1, st.2.2.2.2.2.2.2)) 0 r115 hr115) (cV hts kV_Model_run wd_715 ⟨Nat.le_of_ble_eq_true rfl, Nat.le_of_ble_eq_true rfl⟩) hH [0, 1, 2, 3, 4, 5, 6, 7, 8, 9, 10] [] [0, 1, 2, 3, 4, 5, 6, 7, 8, 9, 10] rfl rfl rfl rfl (by decide) rfl rfl 0 rfl rfl rfl hl.1 rfl (Nat.le_of_ble_eq_true rfl) d_Model_makeUp_115 ⟨Nat.le_of_ble_eq_true rfl, Nat.le_of_ble_eq_true rfl⟩ rfl (fun H locs hH => ?_)
                refine lv_goto (tgt := 126) hx hb d_Model_makeUp_118 (by decide) ?_
                refine lv_iinc (v := x2 + 1) (lv' := [(2, .int (x2 + 1)), (3, .int 1), (1, .int 0), (0, .ref h)]) hx hb d_Model_makeUp_126 hl (k := 3) rfl rfl (by decide) rfl (fun ls hl => ?_)
                refine lv_goto (tgt := 38) hx hb d_Model_makeUp_129 (by decide) ?_
                exact ih r115 0 (x2 + 1) res hf _ _ _ hH (lv_sub hl [3, 2, 0] rfl)
            · have hf := im hc89 hf
              refine lv_iload_n hx hb d_Model_makeUp_92 rfl (lv_at hl 0 rfl) ?_
              refine lv_if_ne (tgt := 99) hx hb d_Model_makeUp_93 (by decide) (fun hc93 => ?_) (fun hc93 => ?_)
              · have hf := im hc93 hf
                refine lv_aload_n hx hb d_Model_makeUp_99 rfl (lv_at hl 2 rfl) ?_
                refine lv_dup hx hb d_Model_makeUp_100 rfl ?_
                refine gt (ci := 6) (v := .int st.2.2.2.2.2.1.1) C hH (iwT iw_Model) 0 rfl rfl 15 (by decide) (.tail _ wd_611) rfl d_Model_makeUp_101 ?_
                refine lv_iconst (v := 1) hx hb d_Model_makeUp_104 (by decide) ?_
                refine lv_iadd hx hb d_Model_makeUp_105 ?_
                refine pt (ci := 6) (v := .int (st.2.2.2.2.2.1.1 + 1)) C hH (iwT iw_Model) ty_Model tyok_Model nm_Model 0 rfl rfl 15 (by decide) (.tail _ wd_611) rfl rfl rfl (Nat.le_of_ble_eq_true rfl) d_Model_makeUp_106 [(h, .inr (6, [.int st.1, .int st.2.1.2.2.2.2, .ref h_kind, .ref h_b, .ref h_difference, .ref h_a, .int st.2.2.1.2.2.2.2, .ref h_newKind, .ref h_newB, .ref h_newDifference, .ref h_newA, .int st.2.2.2.1.2, .ref h_log, .ref h_packed, .int st.2.2.2.2.1.2, .int (st.2.2.2.2.2.1.1 + 1), .int st.2.2.2.2.2.1.2.1, .int st.2.2.2.2.2.1.2.2.1, .int st.2.2.2.2.2.1.2.2.2, .int st.2.2.2.2.2.2.1, .int st.2.2.2.2.2.2.2])), (h_kind, .inl (cI, 300, .inl st.2.1.1)), (h_b, .inl (cI, 300, .inl st.2.1.2.2.2.1)), (h_difference, .inl (cL, 300, .inr (.inl st.2.1.2.1))), (h_a, .inl (cL, 300, .inr (.inl st.2.1.2.2.1))), (h_newKind, .inl (cI, 300, .inl st.2.2.1.1)), (h_newB, .inl (cI, 300, .inl st.2.2.1.2.2.2.1)), (h_newDifference, .inl (cL, 300, .inr (.inl st.2.2.1.2.1))), (h_newA, .inl (cL, 300, .inr (.inl st.2.2.1.2.2.1))), (h_log, .inl (cI, 5000, .inl st.2.2.2.1.1)), (h_packed, .inl (cI, 5000, .inl st.2.2.2.2.1.1))] rfl (fun H locs hH => ?_)
                refine lv_iload_n hx hb d_Model_makeUp_109 rfl (lv_at hl 1 rfl) ?_
                refine lv_if_le (tgt := 121) hx hb d_Model_makeUp_110 (by decide) (fun hc110 => ?_) (fun hc110 => ?_)
                · have hf := ip hc110 hf
                  refine lv_aload_n hx hb d_Model_makeUp_121 rfl (lv_at hl 2 rfl) ?_
                  refine lv_iload_n hx hb d_Model_makeUp_122 rfl (lv_at hl 3 rfl) ?_
                  obtain ⟨r123, hr123, hf⟩ := ob hf
                  refine fnV (rest := []) (wr := []) (w2 := [(h, .inr (6, [.int r123.1, .int r123.2.1.2.2.2.2, .ref h_kind, .ref h_b, .ref h_difference, .ref h_a, .int r123.2.2.1.2.2.2.2, .ref h_newKind, .ref h_newB, .ref h_newDifference, .ref h_newA, .int r123.2.2.2.1.2, .ref h_log, .ref h_packed, .int r123.2.2.2.2.1.2, .int r123.2.2.2.2.2.1.1, .int r123.2.2.2.2.2.1.2.1, .int r123.2.2.2.2.2.1.2.2.1, .int r123.2.2.2.2.2.1.2.2.2, .int r123.2.2.2.2.2.2.1, .int r123.2.2.2.2.2.2.2])), (h_kind, .inl (cI, 300, .inl r123.2.1.1)), (h_b, .inl (cI, 300, .inl r123.2.1.2.2.2.1)), (h_difference, .inl (cL, 300, .inr (.inl r123.2.1.2.1))), (h_a, .inl (cL, 300, .inr (.inl r123.2.1.2.2.1))), (h_newKind, .inl (cI, 300, .inl r123.2.2.1.1)), (h_newB, .inl (cI, 300, .inl r123.2.2.1.2.2.2.1)), (h_newDifference, .inl (cL, 300, .inr (.inl r123.2.2.1.2.1))), (h_newA, .inl (cL, 300, .inr (.inl r123.2.2.1.2.2.1))), (h_log, .inl (cI, 5000, .inl r123.2.2.2.1.1)), (h_packed, .inl (cI, 5000, .inl r123.2.2.2.2.1.1))]) (st2 := []) C (c_Model_entry l D cI cL h h_kind h_b h_difference h_a h_newKind h_newB h_newDifference h_newA h_log h_packed ((st.1, st.2.1, st.2.2.1, st.2.2.2.1, st.2.2.2.2.1, (st.2.2.2.2.2.1.1 + 1, st.2.2.2.2.2.1.2.1, st.2.2.2.2.2.1.2.2.1, st.2.2.2.2.2.1.2.2.2), st.2.2.2.2.2.2.1, st.2.2.2.2.2.2.2)) x2 r123 hr123) (cV hts kV_Model_entry wd_719 ⟨Nat.le_of_ble_eq_true rfl, Nat.le_of_ble_eq_true rfl⟩) hH [0, 1, 2, 3, 4, 5, 6, 7, 8, 9, 10] [] [0, 1, 2, 3, 4, 5, 6, 7, 8, 9, 10] rfl rfl rfl rfl (by decide) rfl rfl 0 rfl rfl rfl hl.1 rfl (Nat.le_of_ble_eq_true rfl) d_Model_makeUp_123 ⟨Nat.le_of_ble_eq_true rfl, Nat.le_of_ble_eq_true rfl⟩ rfl (fun H locs hH => ?_)
                  refine lv_iinc (v := x2 + 1) (lv' := [(2, .int (x2 + 1)), (3, .int 1), (1, .int 0), (0, .ref h)]) hx hb d_Model_makeUp_126 hl (k := 3) rfl rfl (by decide) rfl (fun ls hl => ?_)
                  refine lv_goto (tgt := 38) hx hb d_Model_makeUp_129 (by decide) ?_
                  exact ih r123 0 (x2 + 1) res hf _ _ _ hH (lv_sub hl [3, 2, 0] rfl)
                · have hf := im hc110 hf
                  refine lv_aload_n hx hb d_Model_makeUp_113 rfl (lv_at hl 2 rfl) ?_
                  refine lv_iload_n hx hb d_Model_makeUp_114 rfl (lv_at hl 1 rfl) ?_
                  obtain ⟨r115, hr115, hf⟩ := ob hf
                  refine fnV (rest := []) (wr := []) (w2 := [(h, .inr (6, [.int r115.1, .int r115.2.1.2.2.2.2, .ref h_kind, .ref h_b, .ref h_difference, .ref h_a, .int r115.2.2.1.2.2.2.2, .ref h_newKind, .ref h_newB, .ref h_newDifference, .ref h_newA, .int r115.2.2.2.1.2, .ref h_log, .ref h_packed, .int r115.2.2.2.2.1.2, .int r115.2.2.2.2.2.1.1, .int r115.2.2.2.2.2.1.2.1, .int r115.2.2.2.2.2.1.2.2.1, .int r115.2.2.2.2.2.1.2.2.2, .int r115.2.2.2.2.2.2.1, .int r115.2.2.2.2.2.2.2])), (h_kind, .inl (cI, 300, .inl r115.2.1.1)), (h_b, .inl (cI, 300, .inl r115.2.1.2.2.2.1)), (h_difference, .inl (cL, 300, .inr (.inl r115.2.1.2.1))), (h_a, .inl (cL, 300, .inr (.inl r115.2.1.2.2.1))), (h_newKind, .inl (cI, 300, .inl r115.2.2.1.1)), (h_newB, .inl (cI, 300, .inl r115.2.2.1.2.2.2.1)), (h_newDifference, .inl (cL, 300, .inr (.inl r115.2.2.1.2.1))), (h_newA, .inl (cL, 300, .inr (.inl r115.2.2.1.2.2.1))), (h_log, .inl (cI, 5000, .inl r115.2.2.2.1.1)), (h_packed, .inl (cI, 5000, .inl r115.2.2.2.2.1.1))]) (st2 := []) C (c_Model_run l D cI cL h h_kind h_b h_difference h_a h_newKind h_newB h_newDifference h_newA h_log h_packed ((st.1, st.2.1, st.2.2.1, st.2.2.2.1, st.2.2.2.2.1, (st.2.2.2.2.2.1.1 + 1, st.2.2.2.2.2.1.2.1, st.2.2.2.2.2.1.2.2.1, st.2.2.2.2.2.1.2.2.2), st.2.2.2.2.2.2.1, st.2.2.2.2.2.2.2)) 0 r115 hr115) (cV hts kV_Model_run wd_715 ⟨Nat.le_of_ble_eq_true rfl, Nat.le_of_ble_eq_true rfl⟩) hH [0, 1, 2, 3, 4, 5, 6, 7, 8, 9, 10] [] [0, 1, 2, 3, 4, 5, 6, 7, 8, 9, 10] rfl rfl rfl rfl (by decide) rfl rfl 0 rfl rfl rfl hl.1 rfl (Nat.le_of_ble_eq_true rfl) d_Model_makeUp_115 ⟨Nat.le_of_ble_eq_true rfl, Nat.le_of_ble_eq_true rfl⟩ rfl (fun H locs hH => ?_)
                  refine lv_goto (tgt := 126) hx hb d_Model_makeUp_118 (by decide) ?_
                  refine lv_iinc (v := x2 + 1) (lv' := [(2, .int (x2 + 1)), (3, .int 1), (1, .int 0), (0, .ref h)]) hx hb d_Model_makeUp_126 hl (k := 3) rfl rfl (by decide) rfl (fun ls hl => ?_)
                  refine lv_goto (tgt := 38) hx hb d_Model_makeUp_129 (by decide) ?_
                  exact ih r115 0 (x2 + 1) res hf _ _ _ hH (lv_sub hl [3, 2, 0] rfl)
              · have hf := ip hc93 hf
                refine lv_goto (tgt := 126) hx hb d_Model_makeUp_96 (by decide) ?_
                refine lv_iinc (v := x2 + 1) (lv' := [(2, .int (x2 + 1)), (3, .int 1), (1, .int 0), (0, .ref h)]) hx hb d_Model_makeUp_126 hl (k := 3) rfl rfl (by decide) rfl (fun ls hl => ?_)
                refine lv_goto (tgt := 38) hx hb d_Model_makeUp_129 (by decide) ?_
                exact ih st 0 (x2 + 1) res hf _ _ _ hH (lv_sub hl [3, 2, 0] rfl)
      · have hf := im hc51 hf
        refine lv_iload_n hx hb d_Model_makeUp_54 rfl (lv_at hl 1 rfl) ?_
        refine lv_iconst (v := 1) hx hb d_Model_makeUp_55 (by decide) ?_
        refine lv_iadd hx hb d_Model_makeUp_56 ?_
        refine lv_goto (tgt := 61) hx hb d_Model_makeUp_57 (by decide) ?_
        refine lv_istore_n (lv' := [(1, .int (x1 + 1)), (0, .ref h), (2, .int x2)]) hx hb d_Model_makeUp_61 rfl hl (by decide) rfl (fun ls hl => ?_)
        refine lv_iload_n hx hb d_Model_makeUp_62 rfl (lv_at hl 2 rfl) ?_
        refine lv_iconst (v := 1) hx hb d_Model_makeUp_63 (by decide) ?_
        refine lv_iadd hx hb d_Model_makeUp_64 ?_
        refine lv_aload_n hx hb d_Model_makeUp_65 rfl (lv_at hl 1 rfl) ?_
        refine gt (ci := 6) (v := .int st.2.1.2.2.2.2) C hH (iwT iw_Model) 0 rfl rfl 1 (by decide) (.tail _ wd_597) rfl d_Model_makeUp_66 ?_
        refine lv_icmp_eq (tgt := 82) hx hb d_Model_makeUp_69 (by decide) (fun hc69 => ?_) (fun hc69 => ?_)
        · have hf := ip hc69 hf
          refine lv_iconst (v := 1) hx hb d_Model_makeUp_82 (by decide) ?_
          refine lv_goto (tgt := 87) hx hb d_Model_makeUp_83 (by decide) ?_
          refine lv_istore_n (lv' := [(3, .int 1), (1, .int (x1 + 1)), (0, .ref h), (2, .int x2)]) hx hb d_Model_makeUp_87 rfl hl (by decide) rfl (fun ls hl => ?_)
          refine lv_iload_n hx hb d_Model_makeUp_88 rfl (lv_at hl 1 rfl) ?_
          refine lv_if_le (tgt := 99) hx hb d_Model_makeUp_89 (by decide) (fun hc89 => ?_) (fun hc89 => ?_)
          · have hf := ip hc89 hf
            refine lv_aload_n hx hb d_Model_makeUp_99 rfl (lv_at hl 2 rfl) ?_
            refine lv_dup hx hb d_Model_makeUp_100 rfl ?_
            refine gt (ci := 6) (v := .int st.2.2.2.2.2.1.1) C hH (iwT iw_Model) 0 rfl rfl 15 (by decide) (.tail _ wd_611) rfl d_Model_makeUp_101 ?_
            refine lv_iconst (v := 1) hx hb d_Model_makeUp_104 (by decide) ?_
            refine lv_iadd hx hb d_Model_makeUp_105 ?_
            refine pt (ci := 6) (v := .int (st.2.2.2.2.2.1.1 + 1)) C hH (iwT iw_Model) ty_Model tyok_Model nm_Model 0 rfl rfl 15 (by decide) (.tail _ wd_611) rfl rfl rfl (Nat.le_of_ble_eq_true rfl) d_Model_makeUp_106 [(h, .inr (6, [.int st.1, .int st.2.1.2.2.2.2, .ref h_kind, .ref h_b, .ref h_difference, .ref h_a, .int st.2.2.1.2.2.2.2, .ref h_newKind, .ref h_newB, .ref h_newDifference, .ref h_newA, .int st.2.2.2.1.2, .ref h_log, .ref h_packed, .int st.2.2.2.2.1.2, .int (st.2.2.2.2.2.1.1 + 1), .int st.2.2.2.2.2.1.2.1, .int st.2.2.2.2.2.1.2.2.1, .int st.2.2.2.2.2.1.2.2.2, .int st.2.2.2.2.2.2.1, .int st.2.2.2.2.2.2.2])), (h_kind, .inl (cI, 300, .inl st.2.1.1)), (h_b, .inl (cI, 300, .inl st.2.1.2.2.2.1)), (h_difference, .inl (cL, 300, .inr (.inl st.2.1.2.1))), (h_a, .inl (cL, 300, .inr (.inl st.2.1.2.2.1))), (h_newKind, .inl (cI, 300, .inl st.2.2.1.1)), (h_newB, .inl (cI, 300, .inl st.2.2.1.2.2.2.1)), (h_newDifference, .inl (cL, 300, .inr (.inl st.2.2.1.2.1))), (h_newA, .inl (cL, 300, .inr (.inl st.2.2.1.2.2.1))), (h_log, .inl (cI, 5000, .inl st.2.2.2.1.1)), (h_packed, .inl (cI, 5000, .inl st.2.2.2.2.1.1))] rfl (fun H locs hH => ?_)
            refine lv_iload_n hx hb d_Model_makeUp_109 rfl (lv_at hl 1 rfl) ?_
            refine lv_if_le (tgt := 121) hx hb d_Model_makeUp_110 (by decide) (fun hc110 => ?_) (fun hc110 => ?_)
            · have hf := ip hc110 hf
              refine lv_aload_n hx hb d_Model_makeUp_121 rfl (lv_at hl 2 rfl) ?_
              refine lv_iload_n hx hb d_Model_makeUp_122 rfl (lv_at hl 3 rfl) ?_
              obtain ⟨r123, hr123, hf⟩ := ob hf
              refine fnV (rest := []) (wr := []) (w2 := [(h, .inr (6, [.int r123.1, .int r123.2.1.2.2.2.2, .ref h_kind, .ref h_b, .ref h_difference, .ref h_a, .int r123.2.2.1.2.2.2.2, .ref h_newKind, .ref h_newB, .ref h_newDifference, .ref h_newA, .int r123.2.2.2.1.2, .ref h_log, .ref h_packed, .int r123.2.2.2.2.1.2, .int r123.2.2.2.2.2.1.1, .int r123.2.2.2.2.2.1.2.1, .int r123.2.2.2.2.2.1.2.2.1, .int r123.2.2.2.2.2.1.2.2.2, .int r123.2.2.2.2.2.2.1, .int r123.2.2.2.2.2.2.2])), (h_kind, .inl (cI, 300, .inl r123.2.1.1)), (h_b, .inl (cI, 300, .inl r123.2.1.2.2.2.1)), (h_difference, .inl (cL, 300, .inr (.inl r123.2.1.2.1))), (h_a, .inl (cL, 300, .inr (.inl r123.2.1.2.2.1))), (h_newKind, .inl (cI, 300, .inl r123.2.2.1.1)), (h_newB, .inl (cI, 300, .inl r123.2.2.1.2.2.2.1)), (h_newDifference, .inl (cL, 300, .inr (.inl r123.2.2.1.2.1))), (h_newA, .inl (cL, 300, .inr (.inl r123.2.2.1.2.2.1))), (h_log, .inl (cI, 5000, .inl r123.2.2.2.1.1)), (h_packed, .inl (cI, 5000, .inl r123.2.2.2.2.1.1))]) (st2 := []) C (c_Model_entry l D cI cL h h_kind h_b h_difference h_a h_newKind h_newB h_newDifference h_newA h_log h_packed ((st.1, st.2.1, st.2.2.1, st.2.2.2.1, st.2.2.2.2.1, (st.2.2.2.2.2.1.1 + 1, st.2.2.2.2.2.1.2.1, st.2.2.2.2.2.1.2.2.1, st.2.2.2.2.2.1.2.2.2), st.2.2.2.2.2.2.1, st.2.2.2.2.2.2.2)) x2 r123 hr123) (cV hts kV_Model_entry wd_719 ⟨Nat.le_of_ble_eq_true rfl, Nat.le_of_ble_eq_true rfl⟩) hH [0, 1, 2, 3, 4, 5, 6, 7, 8, 9, 10] [] [0, 1, 2, 3, 4, 5, 6, 7, 8, 9, 10] rfl rfl rfl rfl (by decide) rfl rfl 0 rfl rfl rfl hl.1 rfl (Nat.le_of_ble_eq_true rfl) d_Model_makeUp_123 ⟨Nat.le_of_ble_eq_true rfl, Nat.le_of_ble_eq_true rfl⟩ rfl (fun H locs hH => ?_)
              refine lv_iinc (v := x2 + 1) (lv' := [(2, .int (x2 + 1)), (3, .int 1), (1, .int (x1 + 1)), (0, .ref h)]) hx hb d_Model_makeUp_126 hl (k := 3) rfl rfl (by decide) rfl (fun ls hl => ?_)
              refine lv_goto (tgt := 38) hx hb d_Model_makeUp_129 (by decide) ?_
              exact ih r123 (x1 + 1) (x2 + 1) res hf _ _ _ hH (lv_sub hl [3, 2, 0] rfl)
            · have hf := im hc110 hf
              refine lv_aload_n hx hb d_Model_makeUp_113 rfl (lv_at hl 2 rfl) ?_
              refine lv_iload_n hx hb d_Model_makeUp_114 rfl (lv_at hl 1 rfl) ?_
              obtain ⟨r115, hr115, hf⟩ := ob hf
              refine fnV (rest := []) (wr := []) (w2 := [(h, .inr (6, [.int r115.1, .int r115.2.1.2.2.2.2, .ref h_kind, .ref h_b, .ref h_difference, .ref h_a, .int r115.2.2.1.2.2.2.2, .ref h_newKind, .ref h_newB, .ref h_newDifference, .ref h_newA, .int r115.2.2.2.1.2, .ref h_log, .ref h_packed, .int r115.2.2.2.2.1.2, .int r115.2.2.2.2.2.1.1, .int r115.2.2.2.2.2.1.2.1, .int r115.2.2.2.2.2.1.2.2.1, .int r115.2.2.2.2.2.1.2.2.2, .int r115.2.2.2.2.2.2.1, .int r115.2.2.2.2.2.2.2])), (h_kind, .inl (cI, 300, .inl r115.2.1.1)), (h_b, .inl (cI, 300, .inl r115.2.1.2.2.2.1)), (h_difference, .inl (cL, 300, .inr (.inl r115.2.1.2.1))), (h_a, .inl (cL, 300, .inr (.inl r115.2.1.2.2.1))), (h_newKind, .inl (cI, 300, .inl r115.2.2.1.1)), (h_newB, .inl (cI, 300, .inl r115.2.2.1.2.2.2.1)), (h_newDifference, .inl (cL, 300, .inr (.inl r115.2.2.1.2.1))), (h_newA, .inl (cL, 300, .inr (.inl r115.2.2.1.2.2.1))), (h_log, .inl (cI, 5000, .inl r115.2.2.2.1.1)), (h_packed, .inl (cI, 5000, .inl r115.2.2.2.2.1.1))]) (st2 := []) C (c_Model_run l D cI cL h h_kind h_b h_difference h_a h_newKind h_newB h_newDifference h_newA h_log h_packed ((st.1, st.2.1, st.2.2.1, st.2.2.2.1, st.2.2.2.2.1, (st.2.2.2.2.2.1.1 + 1, st.2.2.2.2.2.1.2.1, st.2.2.2.2.2.1.2.2.1, st.2.2.2.2.2.1.2.2.2), st.2.2.2.2.2.2.1, st.2.2.2.2.2.2.2)) (x1 + 1) r115 hr115) (cV hts kV_Model_run wd_715 ⟨Nat.le_of_ble_eq_true rfl, Nat.le_of_ble_eq_true rfl⟩) hH [0, 1, 2, 3, 4, 5, 6, 7, 8, 9, 10] [] [0, 1, 2, 3, 4, 5, 6, 7, 8, 9, 10] rfl rfl rfl rfl (by decide) rfl rfl 0 rfl rfl rfl hl.1 rfl (Nat.le_of_ble_eq_true rfl) d_Model_makeUp_115 ⟨Nat.le_of_ble_eq_true rfl, Nat.le_of_ble_eq_true rfl⟩ rfl (fun H locs hH => ?_)
              refine lv_goto (tgt := 126) hx hb d_Model_makeUp_118 (by decide) ?_
              refine lv_iinc (v := x2 + 1) (lv' := [(2, .int (x2 + 1)), (3, .int 1), (1, .int (x1 + 1)), (0, .ref h)]) hx hb d_Model_makeUp_126 hl (k := 3) rfl rfl (by decide) rfl (fun ls hl => ?_)
              refine lv_goto (tgt := 38) hx hb d_Model_makeUp_129 (by decide) ?_
              exact ih r115 (x1 + 1) (x2 + 1) res hf _ _ _ hH (lv_sub hl [3, 2, 0] rfl)
          · have hf := im hc89 hf
            refine lv_iload_n hx hb d_Model_makeUp_92 rfl (lv_at hl 0 rfl) ?_
            refine lv_if_ne (tgt := 99) hx hb d_Model_makeUp_93 (by decide) (fun hc93 => ?_) (fun hc93 => ?_)
            · have hf := im hc93 hf
              refine lv_aload_n hx hb d_Model_makeUp_99 rfl (lv_at hl 2 rfl) ?_
              refine lv_dup hx hb d_Model_makeUp_100 rfl ?_
              refine gt (ci := 6) (v := .int st.2.2.2.2.2.1.1) C hH (iwT iw_Model) 0 rfl rfl 15 (by decide) (.tail _ wd_611) rfl d_Model_makeUp_101 ?_
              refine lv_iconst (v := 1) hx hb d_Model_makeUp_104 (by decide) ?_
              refine lv_iadd hx hb d_Model_makeUp_105 ?_
              refine pt (ci := 6) (v := .int (st.2.2.2.2.2.1.1 + 1)) C hH (iwT iw_Model) ty_Model tyok_Model nm_Model 0 rfl rfl 15 (by decide) (.tail _ wd_611) rfl rfl rfl (Nat.le_of_ble_eq_true rfl) d_Model_makeUp_106 [(h, .inr (6, [.int st.1, .int st.2.1.2.2.2.2, .ref h_kind, .ref h_b, .ref h_difference, .ref h_a, .int st.2.2.1.2.2.2.2, .ref h_newKind, .ref h_newB, .ref h_newDifference, .ref h_newA, .int st.2.2.2.1.2, .ref h_log, .ref h_packed, .int st.2.2.2.2.1.2, .int (st.2.2.2.2.2.1.1 + 1), .int st.2.2.2.2.2.1.2.1, .int st.2.2.2.2.2.1.2.2.1, .int st.2.2.2.2.2.1.2.2.2, .int st.2.2.2.2.2.2.1, .int st.2.2.2.2.2.2.2])), (h_kind, .inl (cI, 300, .inl st.2.1.1)), (h_b, .inl (cI, 300, .inl st.2.1.2.2.2.1)), (h_difference, .inl (cL, 300, .inr (.inl st.2.1.2.1))), (h_a, .inl (cL, 300, .inr (.inl st.2.1.2.2.1))), (h_newKind, .inl (cI, 300, .inl st.2.2.1.1)), (h_newB, .inl (cI, 300, .inl st.2.2.1.2.2.2.1)), (h_newDifference, .inl (cL, 300, .inr (.inl st.2.2.1.2.1))), (h_newA, .inl (cL, 300, .inr (.inl st.2.2.1.2.2.1))), (h_log, .inl (cI, 5000, .inl st.2.2.2.1.1)), (h_packed, .inl (cI, 5000, .inl st.2.2.2.2.1.1))] rfl (fun H locs hH => ?_)
              refine lv_iload_n hx hb d_Model_makeUp_109 rfl (lv_at hl 1 rfl) ?_
              refine lv_if_le (tgt := 121) hx hb d_Model_makeUp_110 (by decide) (fun hc110 => ?_) (fun hc110 => ?_)
              · have hf := ip hc110 hf
                refine lv_aload_n hx hb d_Model_makeUp_121 rfl (lv_at hl 2 rfl) ?_
                refine lv_iload_n hx hb d_Model_makeUp_122 rfl (lv_at hl 3 rfl) ?_
                obtain ⟨r123, hr123, hf⟩ := ob hf
                refine fnV (rest := []) (wr := []) (w2 := [(h, .inr (6, [.int r123.1, .int r123.2.1.2.2.2.2, .ref h_kind, .ref h_b, .ref h_difference, .ref h_a, .int r123.2.2.1.2.2.2.2, .ref h_newKind, .ref h_newB, .ref h_newDifference, .ref h_newA, .int r123.2.2.2.1.2, .ref h_log, .ref h_packed, .int r123.2.2.2.2.1.2, .int r123.2.2.2.2.2.1.1, .int r123.2.2.2.2.2.1.2.1, .int r123.2.2.2.2.2.1.2.2.1, .int r123.2.2.2.2.2.1.2.2.2, .int r123.2.2.2.2.2.2.1, .int r123.2.2.2.2.2.2.2])), (h_kind, .inl (cI, 300, .inl r123.2.1.1)), (h_b, .inl (cI, 300, .inl r123.2.1.2.2.2.1)), (h_difference, .inl (cL, 300, .inr (.inl r123.2.1.2.1))), (h_a, .inl (cL, 300, .inr (.inl r123.2.1.2.2.1))), (h_newKind, .inl (cI, 300, .inl r123.2.2.1.1)), (h_newB, .inl (cI, 300, .inl r123.2.2.1.2.2.2.1)), (h_newDifference, .inl (cL, 300, .inr (.inl r123.2.2.1.2.1))), (h_newA, .inl (cL, 300, .inr (.inl r123.2.2.1.2.2.1))), (h_log, .inl (cI, 5000, .inl r123.2.2.2.1.1)), (h_packed, .inl (cI, 5000, .inl r123.2.2.2.2.1.1))]) (st2 := []) C (c_Model_entry l D cI cL h h_kind h_b h_difference h_a h_newKind h_newB h_newDifference h_newA h_log h_packed ((st.1, st.2.1, st.2.2.1, st.2.2.2.1, st.2.2.2.2.1, (st.2.2.2.2.2.1.1 + 1, st.2.2.2.2.2.1.2.1, st.2.2.2.2.2.1.2.2.1, st.2.2.2.2.2.1.2.2.2), st.2.2.2.2.2.2.1, st.2.2.2.2.2.2.2)) x2 r123 hr123) (cV hts kV_Model_entry wd_719 ⟨Nat.le_of_ble_eq_true rfl, Nat.le_of_ble_eq_true rfl⟩) hH [0, 1, 2, 3, 4, 5, 6, 7, 8, 9, 10] [] [0, 1, 2, 3, 4, 5, 6, 7, 8, 9, 10] rfl rfl rfl rfl (by decide) rfl rfl 0 rfl rfl rfl hl.1 rfl (Nat.le_of_ble_eq_true rfl) d_Model_makeUp_123 ⟨Nat.le_of_ble_eq_true rfl, Nat.le_of_ble_eq_true rfl⟩ rfl (fun H locs hH => ?_)
                refine lv_iinc (v := x2 + 1) (lv' := [(2, .int (x2 + 1)), (3, .int 1), (1, .int (x1 + 1)), (0, .ref h)]) hx hb d_Model_makeUp_126 hl (k := 3) rfl rfl (by decide) rfl (fun ls hl => ?_)
                refine lv_goto (tgt := 38) hx hb d_Model_makeUp_129 (by decide) ?_
                exact ih r123 (x1 + 1) (x2 + 1) res hf _ _ _ hH (lv_sub hl [3, 2, 0] rfl)
              · have hf := im hc110 hf
                refine lv_aload_n hx hb d_Model_makeUp_113 rfl (lv_at hl 2 rfl) ?_
                refine lv_iload_n hx hb d_Model_makeUp_114 rfl (lv_at hl 1 rfl) ?_
                obtain ⟨r115, hr115, hf⟩ := ob hf
                refine fnV (rest := []) (wr := []) (w2 := [(h, .inr (6, [.int r115.1, .int r115.2.1.2.2.2.2, .ref h_kind, .ref h_b, .ref h_difference, .ref h_a, .int r115.2.2.1.2.2.2.2, .ref h_newKind, .ref h_newB, .ref h_newDifference, .ref h_newA, .int r115.2.2.2.1.2, .ref h_log, .ref h_packed, .int r115.2.2.2.2.1.2, .int r115.2.2.2.2.2.1.1, .int r115.2.2.2.2.2.1.2.1, .int r115.2.2.2.2.2.1.2.2.1, .int r115.2.2.2.2.2.1.2.2.2, .int r115.2.2.2.2.2.2.1, .int r115.2.2.2.2.2.2.2])), (h_kind, .inl (cI, 300, .inl r115.2.1.1)), (h_b, .inl (cI, 300, .inl r115.2.1.2.2.2.1)), (h_difference, .inl (cL, 300, .inr (.inl r115.2.1.2.1))), (h_a, .inl (cL, 300, .inr (.inl r115.2.1.2.2.1))), (h_newKind, .inl (cI, 300, .inl r115.2.2.1.1)), (h_newB, .inl (cI, 300, .inl r115.2.2.1.2.2.2.1)), (h_newDifference, .inl (cL, 300, .inr (.inl r115.2.2.1.2.1))), (h_newA, .inl (cL, 300, .inr (.inl r115.2.2.1.2.2.1))), (h_log, .inl (cI, 5000, .inl r115.2.2.2.1.1)), (h_packed, .inl (cI, 5000, .inl r115.2.2.2.2.1.1))]) (st2 := []) C (c_Model_run l D cI cL h h_kind h_b h_difference h_a h_newKind h_newB h_newDifference h_newA h_log h_packed ((st.1, st.2.1, st.2.2.1, st.2.2.2.1, st.2.2.2.2.1, (st.2.2.2.2.2.1.1 + 1, st.2.2.2.2.2.1.2.1, st.2.2.2.2.2.1.2.2.1, st.2.2.2.2.2.1.2.2.2), st.2.2.2.2.2.2.1, st.2.2.2.2.2.2.2)) (x1 + 1) r115 hr115) (cV hts kV_Model_run wd_715 ⟨Nat.le_of_ble_eq_true rfl, Nat.le_of_ble_eq_true rfl⟩) hH [0, 1, 2, 3, 4, 5, 6, 7, 8, 9, 10] [] [0, 1, 2, 3, 4, 5, 6, 7, 8, 9, 10] rfl rfl rfl rfl (by decide) rfl rfl 0 rfl rfl rfl hl.1 rfl (Nat.le_of_ble_eq_true rfl) d_Model_makeUp_115 ⟨Nat.le_of_ble_eq_true rfl, Nat.le_of_ble_eq_true rfl⟩ rfl (fun H locs hH => ?_)
                refine lv_goto (tgt := 126) hx hb d_Model_makeUp_118 (by decide) ?_
                refine lv_iinc (v := x2 + 1) (lv' := [(2, .int (x2 + 1)), (3, .int 1), (1, .int (x1 + 1)), (0, .ref h)]) hx hb d_Model_makeUp_126 hl (k := 3) rfl rfl (by decide) rfl (fun ls hl => ?_)
                refine lv_goto (tgt := 38) hx hb d_Model_makeUp_129 (by decide) ?_
                exact ih r115 (x1 + 1) (x2 + 1) res hf _ _ _ hH (lv_sub hl [3, 2, 0] rfl)
            · have hf := ip hc93 hf
              refine lv_goto (tgt := 126) hx hb d_Model_makeUp_96 (by decide) ?_
              refine lv_iinc (v := x2 + 1) (lv' := [(2, .int (x2 + 1)), (3, .int 1), (1, .int (x1 + 1)), (0, .ref h)]) hx hb d_Model_makeUp_126 hl (k := 3) rfl rfl (by decide) rfl (fun ls hl => ?_)
              refine lv_goto (tgt := 38) hx hb d_Model_makeUp_129 (by decide) ?_
              exact ih st (x1 + 1) (x2 + 1) res hf _ _ _ hH (lv_sub hl [3, 2, 0] rfl)
        · have hf := im hc69 hf
          refine lv_aload_n hx hb d_Model_makeUp_72 rfl (lv_at hl 1 rfl) ?_
          refine lv_iload_n hx hb d_Model_makeUp_73 rfl (lv_at hl 2 rfl) ?_
          refine lv_iconst (v := 1) hx hb d_Model_makeUp_74 (by decide) ?_
          refine lv_iadd hx hb d_Model_makeUp_75 ?_
          obtain ⟨r76, hr76, hf⟩ := ob hf
          refine fnVR (rest := []) (st2 := [.int (bI r76)]) C (c_Model_isAlike l D cI cL h h_kind h_b h_difference h_a h_newKind h_newB h_newDifference h_newA h_log h_packed st (x2 + 1) r76 hr76) (cV hts kV_Model_isAlike wd_707 ⟨Nat.le_of_ble_eq_true rfl, Nat.le_of_ble_eq_true rfl⟩) hH [0, 1, 2, 3, 4, 5, 6, 7, 8, 9, 10] rfl rfl 0 rfl rfl rfl hl.1 rfl (Nat.le_of_ble_eq_true rfl) d_Model_makeUp_76 ⟨Nat.le_of_ble_eq_true rfl, Nat.le_of_ble_eq_true rfl⟩ rfl (fun H locs hH => ?_)
          refine lv_if_ne (tgt := 86) hx hb d_Model_makeUp_79 (by decide) (fun hc79 => ?_) (fun hc79 => ?_)
          · have hf := im hc79 hf
            refine lv_iconst (v := 0) hx hb d_Model_makeUp_86 (by decide) ?_
            refine lv_istore_n (lv' := [(3, .int 0), (1, .int (x1 + 1)), (0, .ref h), (2, .int x2)]) hx hb d_Model_makeUp_87 rfl hl (by decide) rfl (fun ls hl => ?_)
            refine lv_iload_n hx hb d_Model_makeUp_88 rfl (lv_at hl 1 rfl) ?_
            refine lv_if_le (tgt := 99) hx hb d_Model_makeUp_89 (by decide) (fun hc89 => ?_) (fun hc89 => ?_)
            · have hf := ip hc89 hf
              refine lv_aload_n hx hb d_Model_makeUp_99 rfl (lv_at hl 2 rfl) ?_
              refine lv_dup hx hb d_Model_makeUp_100 rfl ?_
              refine gt (ci := 6) (v := .int st.2.2.2.2.2.1.1) C hH (iwT iw_Model) 0 rfl rfl 15 (by decide) (.tail _ wd_611) rfl d_Model_makeUp_101 ?_
              refine lv_iconst (v := 1) hx hb d_Model_makeUp_104 (by decide) ?_
              refine lv_iadd hx hb d_Model_makeUp_105 ?_
              refine pt (ci := 6) (v := .int (st.2.2.2.2.2.1.1 + 1)) C hH (iwT iw_Model) ty_Model tyok_Model nm_Model 0 rfl rfl 15 (by decide) (.tail _ wd_611) rfl rfl rfl (Nat.le_of_ble_eq_true rfl) d_Model_makeUp_106 [(h, .inr (6, [.int st.1, .int st.2.1.2.2.2.2, .ref h_kind, .ref h_b, .ref h_difference, .ref h_a, .int st.2.2.1.2.2.2.2, .ref h_newKind, .ref h_newB, .ref h_newDifference, .ref h_newA, .int st.2.2.2.1.2, .ref h_log, .ref h_packed, .int st.2.2.2.2.1.2, .int (st.2.2.2.2.2.1.1 + 1), .int st.2.2.2.2.2.1.2.1, .int st.2.2.2.2.2.1.2.2.1, .int st.2.2.2.2.2.1.2.2.2, .int st.2.2.2.2.2.2.1, .int st.2.2.2.2.2.2.2])), (h_kind, .inl (cI, 300, .inl st.2.1.1)), (h_b, .inl (cI, 300, .inl st.2.1.2.2.2.1)), (h_difference, .inl (cL, 300, .inr (.inl st.2.1.2.1))), (h_a, .inl (cL, 300, .inr (.inl st.2.1.2.2.1))), (h_newKind, .inl (cI, 300, .inl st.2.2.1.1)), (h_newB, .inl (cI, 300, .inl st.2.2.1.2.2.2.1)), (h_newDifference, .inl (cL, 300, .inr (.inl st.2.2.1.2.1))), (h_newA, .inl (cL, 300, .inr (.inl st.2.2.1.2.2.1))), (h_log, .inl (cI, 5000, .inl st.2.2.2.1.1)), (h_packed, .inl (cI, 5000, .inl st.2.2.2.2.1.1))] rfl (fun H locs hH => ?_)
              refine lv_iload_n hx hb d_Model_makeUp_109 rfl (lv_at hl 1 rfl) ?_
              refine lv_if_le (tgt := 121) hx hb d_Model_makeUp_110 (by decide) (fun hc110 => ?_) (fun hc110 => ?_)
              · have hf := ip hc110 hf
                refine lv_aload_n hx hb d_Model_makeUp_121 rfl (lv_at hl 2 rfl) ?_
                refine lv_iload_n hx hb d_Model_makeUp_122 rfl (lv_at hl 3 rfl) ?_
                obtain ⟨r123, hr123, hf⟩ := ob hf
                refine fnV (rest := []) (wr := []) (w2 := [(h, .inr (6, [.int r123.1, .int r123.2.1.2.2.2.2, .ref h_kind, .ref h_b, .ref h_difference, .ref h_a, .int r123.2.2.1.2.2.2.2, .ref h_newKind, .ref h_newB, .ref h_newDifference, .ref h_newA, .int r123.2.2.2.1.2, .ref h_log, .ref h_packed, .int r123.2.2.2.2.1.2, .int r123.2.2.2.2.2.1.1, .int r123.2.2.2.2.2.1.2.1, .int r123.2.2.2.2.2.1.2.2.1, .int r123.2.2.2.2.2.1.2.2.2, .int r123.2.2.2.2.2.2.1, .int r123.2.2.2.2.2.2.2])), (h_kind, .inl (cI, 300, .inl r123.2.1.1)), (h_b, .inl (cI, 300, .inl r123.2.1.2.2.2.1)), (h_difference, .inl (cL, 300, .inr (.inl r123.2.1.2.1))), (h_a, .inl (cL, 300, .inr (.inl r123.2.1.2.2.1))), (h_newKind, .inl (cI, 300, .inl r123.2.2.1.1)), (h_newB, .inl (cI, 300, .inl r123.2.2.1.2.2.2.1)), (h_newDifference, .inl (cL, 300, .inr (.inl r123.2.2.1.2.1))), (h_newA, .inl (cL, 300, .inr (.inl r123.2.2.1.2.2.1))), (h_log, .inl (cI, 5000, .inl r123.2.2.2.1.1)), (h_packed, .inl (cI, 5000, .inl r123.2.2.2.2.1.1))]) (st2 := []) C (c_Model_entry l D cI cL h h_kind h_b h_difference h_a h_newKind h_newB h_newDifference h_newA h_log h_packed ((st.1, st.2.1, st.2.2.1, st.2.2.2.1, st.2.2.2.2.1, (st.2.2.2.2.2.1.1 + 1, st.2.2.2.2.2.1.2.1, st.2.2.2.2.2.1.2.2.1, st.2.2.2.2.2.1.2.2.2), st.2.2.2.2.2.2.1, st.2.2.2.2.2.2.2)) x2 r123 hr123) (cV hts kV_Model_entry wd_719 ⟨Nat.le_of_ble_eq_true rfl, Nat.le_of_ble_eq_true rfl⟩) hH [0, 1, 2, 3, 4, 5, 6, 7, 8, 9, 10] [] [0, 1, 2, 3, 4, 5, 6, 7, 8, 9, 10] rfl rfl rfl rfl (by decide) rfl rfl 0 rfl rfl rfl hl.1 rfl (Nat.le_of_ble_eq_true rfl) d_Model_makeUp_123 ⟨Nat.le_of_ble_eq_true rfl, Nat.le_of_ble_eq_true rfl⟩ rfl (fun H locs hH => ?_)
                refine lv_iinc (v := x2 + 1) (lv' := [(2, .int (x2 + 1)), (3, .int 0), (1, .int (x1 + 1)), (0, .ref h)]) hx hb d_Model_makeUp_126 hl (k := 3) rfl rfl (by decide) rfl (fun ls hl => ?_)
                refine lv_goto (tgt := 38) hx hb d_Model_makeUp_129 (by decide) ?_
                exact ih r123 (x1 + 1) (x2 + 1) res hf _ _ _ hH (lv_sub hl [3, 2, 0] rfl)
              · have hf := im hc110 hf
                refine lv_aload_n hx hb d_Model_makeUp_113 rfl (lv_at hl 2 rfl) ?_
                refine lv_iload_n hx hb d_Model_makeUp_114 rfl (lv_at hl 1 rfl) ?_
                obtain ⟨r115, hr115, hf⟩ := ob hf
                refine fnV (rest := []) (wr := []) (w2 := [(h, .inr (6, [.int r115.1, .int r115.2.1.2.2.2.2, .ref h_kind, .ref h_b, .ref h_difference, .ref h_a, .int r115.2.2.1.2.2.2.2, .ref h_newKind, .ref h_newB, .ref h_newDifference, .ref h_newA, .int r115.2.2.2.1.2, .ref h_log, .ref h_packed, .int r115.2.2.2.2.1.2, .int r115.2.2.2.2.2.1.1, .int r115.2.2.2.2.2.1.2.1, .int r115.2.2.2.2.2.1.2.2.1, .int r115.2.2.2.2.2.1.2.2.2, .int r115.2.2.2.2.2.2.1, .int r115.2.2.2.2.2.2.2])), (h_kind, .inl (cI, 300, .inl r115.2.1.1)), (h_b, .inl (cI, 300, .inl r115.2.1.2.2.2.1)), (h_difference, .inl (cL, 300, .inr (.inl r115.2.1.2.1))), (h_a, .inl (cL, 300, .inr (.inl r115.2.1.2.2.1))), (h_newKind, .inl (cI, 300, .inl r115.2.2.1.1)), (h_newB, .inl (cI, 300, .inl r115.2.2.1.2.2.2.1)), (h_newDifference, .inl (cL, 300, .inr (.inl r115.2.2.1.2.1))), (h_newA, .inl (cL, 300, .inr (.inl r115.2.2.1.2.2.1))), (h_log, .inl (cI, 5000, .inl r115.2.2.2.1.1)), (h_packed, .inl (cI, 5000, .inl r115.2.2.2.2.1.1))]) (st2 := []) C (c_Model_run l D cI cL h h_kind h_b h_difference h_a h_newKind h_newB h_newDifference h_newA h_log h_packed ((st.1, st.2.1, st.2.2.1, st.2.2.2.1, st.2.2.2.2.1, (st.2.2.2.2.2.1.1 + 1, st.2.2.2.2.2.1.2.1, st.2.2.2.2.2.1.2.2.1, st.2.2.2.2.2.1.2.2.2), st.2.2.2.2.2.2.1, st.2.2.2.2.2.2.2)) (x1 + 1) r115 hr115) (cV hts kV_Model_run wd_715 ⟨Nat.le_of_ble_eq_true rfl, Nat.le_of_ble_eq_true rfl⟩) hH [0, 1, 2, 3, 4, 5, 6, 7, 8, 9, 10] [] [0, 1, 2, 3, 4, 5, 6, 7, 8, 9, 10] rfl rfl rfl rfl (by decide) rfl rfl 0 rfl rfl rfl hl.1 rfl (Nat.le_of_ble_eq_true rfl) d_Model_makeUp_115 ⟨Nat.le_of_ble_eq_true rfl, Nat.le_of_ble_eq_true rfl⟩ rfl (fun H locs hH => ?_)
                refine lv_goto (tgt := 126) hx hb d_Model_makeUp_118 (by decide) ?_
                refine lv_iinc (v := x2 + 1) (lv' := [(2, .int (x2 + 1)), (3, .int 0), (1, .int (x1 + 1)), (0, .ref h)]) hx hb d_Model_makeUp_126 hl (k := 3) rfl rfl (by decide) rfl (fun ls hl => ?_)
                refine lv_goto (tgt := 38) hx hb d_Model_makeUp_129 (by decide) ?_
                exact ih r115 (x1 + 1) (x2 + 1) res hf _ _ _ hH (lv_sub hl [3, 2, 0] rfl)
            · have hf := im hc89 hf
              refine lv_iload_n hx hb d_Model_makeUp_92 rfl (lv_at hl 0 rfl) ?_
              refine lv_if_ne (tgt := 99) hx hb d_Model_makeUp_93 (by decide) (fun hc93 => ?_) (fun hc93 => ?_)
              · have hf := im hc93 hf
                refine lv_aload_n hx hb d_Model_makeUp_99 rfl (lv_at hl 2 rfl) ?_
                refine lv_dup hx hb d_Model_makeUp_100 rfl ?_
                refine gt (ci := 6) (v := .int st.2.2.2.2.2.1.1) C hH (iwT iw_Model) 0 rfl rfl 15 (by decide) (.tail _ wd_611) rfl d_Model_makeUp_101 ?_
                refine lv_iconst (v := 1) hx hb d_Model_makeUp_104 (by decide) ?_
                refine lv_iadd hx hb d_Model_makeUp_105 ?_
                refine pt (ci := 6) (v := .int (st.2.2.2.2.2.1.1 + 1)) C hH (iwT iw_Model) ty_Model tyok_Model nm_Model 0 rfl rfl 15 (by decide) (.tail _ wd_611) rfl rfl rfl (Nat.le_of_ble_eq_true rfl) d_Model_makeUp_106 [(h, .inr (6, [.int st.1, .int st.2.1.2.2.2.2, .ref h_kind, .ref h_b, .ref h_difference, .ref h_a, .int st.2.2.1.2.2.2.2, .ref h_newKind, .ref h_newB, .ref h_newDifference, .ref h_newA, .int st.2.2.2.1.2, .ref h_log, .ref h_packed, .int st.2.2.2.2.1.2, .int (st.2.2.2.2.2.1.1 + 1), .int st.2.2.2.2.2.1.2.1, .int st.2.2.2.2.2.1.2.2.1, .int st.2.2.2.2.2.1.2.2.2, .int st.2.2.2.2.2.2.1, .int st.2.2.2.2.2.2.2])), (h_kind, .inl (cI, 300, .inl st.2.1.1)), (h_b, .inl (cI, 300, .inl st.2.1.2.2.2.1)), (h_difference, .inl (cL, 300, .inr (.inl st.2.1.2.1))), (h_a, .inl (cL, 300, .inr (.inl st.2.1.2.2.1))), (h_newKind, .inl (cI, 300, .inl st.2.2.1.1)), (h_newB, .inl (cI, 300, .inl st.2.2.1.2.2.2.1)), (h_newDifference, .inl (cL, 300, .inr (.inl st.2.2.1.2.1))), (h_newA, .inl (cL, 300, .inr (.inl st.2.2.1.2.2.1))), (h_log, .inl (cI, 5000, .inl st.2.2.2.1.1)), (h_packed, .inl (cI, 5000, .inl st.2.2.2.2.1.1))] rfl (fun H locs hH => ?_)
                refine lv_iload_n hx hb d_Model_makeUp_109 rfl (lv_at hl 1 rfl) ?_
                refine lv_if_le (tgt := 121) hx hb d_Model_makeUp_110 (by decide) (fun hc110 => ?_) (fun hc110 => ?_)
                · have hf := ip hc110 hf
                  refine lv_aload_n hx hb d_Model_makeUp_121 rfl (lv_at hl 2 rfl) ?_
                  refine lv_iload_n hx hb d_Model_makeUp_122 rfl (lv_at hl 3 rfl) ?_
                  obtain ⟨r123, hr123, hf⟩ := ob hf
                  refine fnV (rest := []) (wr := []) (w2 := [(h, .inr (6, [.int r123.1, .int r123.2.1.2.2.2.2, .ref h_kind, .ref h_b, .ref h_difference, .ref h_a, .int r123.2.2.1.2.2.2.2, .ref h_newKind, .ref h_newB, .ref h_newDifference, .ref h_newA, .int r123.2.2.2.1.2, .ref h_log, .ref h_packed, .int r123.2.2.2.2.1.2, .int r123.2.2.2.2.2.1.1, .int r123.2.2.2.2.2.1.2.1, .int r123.2.2.2.2.2.1.2.2.1, .int r123.2.2.2.2.2.1.2.2.2, .int r123.2.2.2.2.2.2.1, .int r123.2.2.2.2.2.2.2])), (h_kind, .inl (cI, 300, .inl r123.2.1.1)), (h_b, .inl (cI, 300, .inl r123.2.1.2.2.2.1)), (h_difference, .inl (cL, 300, .inr (.inl r123.2.1.2.1))), (h_a, .inl (cL, 300, .inr (.inl r123.2.1.2.2.1))), (h_newKind, .inl (cI, 300, .inl r123.2.2.1.1)), (h_newB, .inl (cI, 300, .inl r123.2.2.1.2.2.2.1)), (h_newDifference, .inl (cL, 300, .inr (.inl r123.2.2.1.2.1))), (h_newA, .inl (cL, 300, .inr (.inl r123.2.2.1.2.2.1))), (h_log, .inl (cI, 5000, .inl r123.2.2.2.1.1)), (h_packed, .inl (cI, 5000, .inl r123.2.2.2.2.1.1))]) (st2 := []) C (c_Model_entry l D cI cL h h_kind h_b h_difference h_a h_newKind h_newB h_newDifference h_newA h_log h_packed ((st.1, st.2.1, st.2.2.1, st.2.2.2.1, st.2.2.2.2.1, (st.2.2.2.2.2.1.1 + 1, st.2.2.2.2.2.1.2.1, st.2.2.2.2.2.1.2.2.1, st.2.2.2.2.2.1.2.2.2), st.2.2.2.2.2.2.1, st.2.2.2.2.2.2.2)) x2 r123 hr123) (cV hts kV_Model_entry wd_719 ⟨Nat.le_of_ble_eq_true rfl, Nat.le_of_ble_eq_true rfl⟩) hH [0, 1, 2, 3, 4, 5, 6, 7, 8, 9, 10] [] [0, 1, 2, 3, 4, 5, 6, 7, 8, 9, 10] rfl rfl rfl rfl (by decide) rfl rfl 0 rfl rfl rfl hl.1 rfl (Nat.le_of_ble_eq_true rfl) d_Model_makeUp_123 ⟨Nat.le_of_ble_eq_true rfl, Nat.le_of_ble_eq_true rfl⟩ rfl (fun H locs hH => ?_)
                  refine lv_iinc (v := x2 + 1) (lv' := [(2, .int (x2 + 1)), (3, .int 0), (1, .int (x1 + 1)), (0, .ref h)]) hx hb d_Model_makeUp_126 hl (k := 3) rfl rfl (by decide) rfl (fun ls hl => ?_)
                  refine lv_goto (tgt := 38) hx hb d_Model_makeUp_129 (by decide) ?_
                  exact ih r123 (x1 + 1) (x2 + 1) res hf _ _ _ hH (lv_sub hl [3, 2, 0] rfl)
                · have hf := im hc110 hf
                  refine lv_aload_n hx hb d_Model_makeUp_113 rfl (lv_at hl 2 rfl) ?_
                  refine lv_iload_n hx hb d_Model_makeUp_114 rfl (lv_at hl 1 rfl) ?_
                  obtain ⟨r115, hr115, hf⟩ := ob hf
                  refine fnV (rest := []) (wr := []) (w2 := [(h, .inr (6, [.int r115.1, .int r115.2.1.2.2.2.2, .ref h_kind, .ref h_b, .ref h_difference, .ref h_a, .int r115.2.2.1.2.2.2.2, .ref h_newKind, .ref h_newB, .ref h_newDifference, .ref h_newA, .int r115.2.2.2.1.2, .ref h_log, .ref h_packed, .int r115.2.2.2.2.1.2, .int r115.2.2.2.2.2.1.1, .int r115.2.2.2.2.2.1.2.1, .int r115.2.2.2.2.2.1.2.2.1, .int r115.2.2.2.2.2.1.2.2.2, .int r115.2.2.2.2.2.2.1, .int r115.2.2.2.2.2.2.2])), (h_kind, .inl (cI, 300, .inl r115.2.1.1)), (h_b, .inl (cI, 300, .inl r115.2.1.2.2.2.1)), (h_difference, .inl (cL, 300, .inr (.inl r115.2.1.2.1))), (h_a, .inl (cL, 300, .inr (.inl r115.2.1.2.2.1))), (h_newKind, .inl (cI, 300, .inl r115.2.2.1.1)), (h_newB, .inl (cI, 300, .inl r115.2.2.1.2.2.2.1)), (h_newDifference, .inl (cL, 300, .inr (.inl r115.2.2.1.2.1))), (h_newA, .inl (cL, 300, .inr (.inl r115.2.2.1.2.2.1))), (h_log, .inl (cI, 5000, .inl r115.2.2.2.1.1)), (h_packed, .inl (cI, 5000, .inl r115.2.2.2.2.1.1))]) (st2 := []) C (c_Model_run l D cI cL h h_kind h_b h_difference h_a h_newKind h_newB h_newDifference h_newA h_log h_packed ((st.1, st.2.1, st.2.2.1, st.2.2.2.1, st.2.2.2.2.1, (st.2.2.2.2.2.1.1 + 1, st.2.2.2.2.2.1.2.1, st.2.2.2.2.2.1.2.2.1, st.2.2.2.2.2.1.2.2.2), st.2.2.2.2.2.2.1, st.2.2.2.2.2.2.2)) (x1 + 1) r115 hr115) (cV hts kV_Model_run wd_715 ⟨Nat.le_of_ble_eq_true rfl, Nat.le_of_ble_eq_true rfl⟩) hH [0, 1, 2, 3, 4, 5, 6, 7, 8, 9, 10] [] [0, 1, 2, 3, 4, 5, 6, 7, 8, 9, 10] rfl rfl rfl rfl (by decide) rfl rfl 0 rfl rfl rfl hl.1 rfl (Nat.le_of_ble_eq_true rfl) d_Model_makeUp_115 ⟨Nat.le_of_ble_eq_true rfl, Nat.le_of_ble_eq_true rfl⟩ rfl (fun H locs hH => ?_)
                  refine lv_goto (tgt := 126) hx hb d_Model_makeUp_118 (by decide) ?_
                  refine lv_iinc (v := x2 + 1) (lv' := [(2, .int (x2 + 1)), (3, .int 0), (1, .int (x1 + 1)), (0, .ref h)]) hx hb d_Model_makeUp_126 hl (k := 3) rfl rfl (by decide) rfl (fun ls hl => ?_)
                  refine lv_goto (tgt := 38) hx hb d_Model_makeUp_129 (by decide) ?_
                  exact ih r115 (x1 + 1) (x2 + 1) res hf _ _ _ hH (lv_sub hl [3, 2, 0] rfl)
              · have hf := ip hc93 hf
                refine lv_goto (tgt := 126) hx hb d_Model_makeUp_96 (by decide) ?_
                refine lv_iinc (v := x2 + 1) (lv' := [(2, .int (x2 + 1)), (3, .int 0), (1, .int (x1 + 1)), (0, .ref h)]) hx hb d_Model_makeUp_126 hl (k := 3) rfl rfl (by decide) rfl (fun ls hl => ?_)
                refine lv_goto (tgt := 38) hx hb d_Model_makeUp_129 (by decide) ?_
                exact ih st (x1 + 1) (x2 + 1) res hf _ _ _ hH (lv_sub hl [3, 2, 0] rfl)
          · have hf := ip hc79 hf
            refine lv_iconst (v := 1) hx hb d_Model_makeUp_82 (by decide) ?_
            refine lv_goto (tgt := 87) hx hb d_Model_makeUp_83 (by decide) ?_
            refine lv_istore_n (lv' := [(3, .int 1), (1, .int (x1 + 1)), (0, .ref h), (2, .int x2)]) hx hb d_Model_makeUp_87 rfl hl (by decide) rfl (fun ls hl => ?_)
            refine lv_iload_n hx hb d_Model_makeUp_88 rfl (lv_at hl 1 rfl) ?_
            refine lv_if_le (tgt := 99) hx hb d_Model_makeUp_89 (by decide) (fun hc89 => ?_) (fun hc89 => ?_)
            · have hf := ip hc89 hf
              refine lv_aload_n hx hb d_Model_makeUp_99 rfl (lv_at hl 2 rfl) ?_
              refine lv_dup hx hb d_Model_makeUp_100 rfl ?_
              refine gt (ci := 6) (v := .int st.2.2.2.2.2.1.1) C hH (iwT iw_Model) 0 rfl rfl 15 (by decide) (.tail _ wd_611) rfl d_Model_makeUp_101 ?_
              refine lv_iconst (v := 1) hx hb d_Model_makeUp_104 (by decide) ?_
              refine lv_iadd hx hb d_Model_makeUp_105 ?_
              refine pt (ci := 6) (v := .int (st.2.2.2.2.2.1.1 + 1)) C hH (iwT iw_Model) ty_Model tyok_Model nm_Model 0 rfl rfl 15 (by decide) (.tail _ wd_611) rfl rfl rfl (Nat.le_of_ble_eq_true rfl) d_Model_makeUp_106 [(h, .inr (6, [.int st.1, .int st.2.1.2.2.2.2, .ref h_kind, .ref h_b, .ref h_difference, .ref h_a, .int st.2.2.1.2.2.2.2, .ref h_newKind, .ref h_newB, .ref h_newDifference, .ref h_newA, .int st.2.2.2.1.2, .ref h_log, .ref h_packed, .int st.2.2.2.2.1.2, .int (st.2.2.2.2.2.1.1 + 1), .int st.2.2.2.2.2.1.2.1, .int st.2.2.2.2.2.1.2.2.1, .int st.2.2.2.2.2.1.2.2.2, .int st.2.2.2.2.2.2.1, .int st.2.2.2.2.2.2.2])), (h_kind, .inl (cI, 300, .inl st.2.1.1)), (h_b, .inl (cI, 300, .inl st.2.1.2.2.2.1)), (h_difference, .inl (cL, 300, .inr (.inl st.2.1.2.1))), (h_a, .inl (cL, 300, .inr (.inl st.2.1.2.2.1))), (h_newKind, .inl (cI, 300, .inl st.2.2.1.1)), (h_newB, .inl (cI, 300, .inl st.2.2.1.2.2.2.1)), (h_newDifference, .inl (cL, 300, .inr (.inl st.2.2.1.2.1))), (h_newA, .inl (cL, 300, .inr (.inl st.2.2.1.2.2.1))), (h_log, .inl (cI, 5000, .inl st.2.2.2.1.1)), (h_packed, .inl (cI, 5000, .inl st.2.2.2.2.1.1))] rfl (fun H locs hH => ?_)
              refine lv_iload_n hx hb d_Model_makeUp_109 rfl (lv_at hl 1 rfl) ?_
              refine lv_if_le (tgt := 121) hx hb d_Model_makeUp_110 (by decide) (fun hc110 => ?_) (fun hc110 => ?_)
              · have hf := ip hc110 hf
                refine lv_aload_n hx hb d_Model_makeUp_121 rfl (lv_at hl 2 rfl) ?_
                refine lv_iload_n hx hb d_Model_makeUp_122 rfl (lv_at hl 3 rfl) ?_
                obtain ⟨r123, hr123, hf⟩ := ob hf
                refine fnV (rest := []) (wr := []) (w2 := [(h, .inr (6, [.int r123.1, .int r123.2.1.2.2.2.2, .ref h_kind, .ref h_b, .ref h_difference, .ref h_a, .int r123.2.2.1.2.2.2.2, .ref h_newKind, .ref h_newB, .ref h_newDifference, .ref h_newA, .int r123.2.2.2.1.2, .ref h_log, .ref h_packed, .int r123.2.2.2.2.1.2, .int r123.2.2.2.2.2.1.1, .int r123.2.2.2.2.2.1.2.1, .int r123.2.2.2.2.2.1.2.2.1, .int r123.2.2.2.2.2.1.2.2.2, .int r123.2.2.2.2.2.2.1, .int r123.2.2.2.2.2.2.2])), (h_kind, .inl (cI, 300, .inl r123.2.1.1)), (h_b, .inl (cI, 300, .inl r123.2.1.2.2.2.1)), (h_difference, .inl (cL, 300, .inr (.inl r123.2.1.2.1))), (h_a, .inl (cL, 300, .inr (.inl r123.2.1.2.2.1))), (h_newKind, .inl (cI, 300, .inl r123.2.2.1.1)), (h_newB, .inl (cI, 300, .inl r123.2.2.1.2.2.2.1)), (h_newDifference, .inl (cL, 300, .inr (.inl r123.2.2.1.2.1))), (h_newA, .inl (cL, 300, .inr (.inl r123.2.2.1.2.2.1))), (h_log, .inl (cI, 5000, .inl r123.2.2.2.1.1)), (h_packed, .inl (cI, 5000, .inl r123.2.2.2.2.1.1))]) (st2 := []) C (c_Model_entry l D cI cL h h_kind h_b h_difference h_a h_newKind h_newB h_newDifference h_newA h_log h_packed ((st.1, st.2.1, st.2.2.1, st.2.2.2.1, st.2.2.2.2.1, (st.2.2.2.2.2.1.1 + 1, st.2.2.2.2.2.1.2.1, st.2.2.2.2.2.1.2.2.1, st.2.2.2.2.2.1.2.2.2), st.2.2.2.2.2.2.1, st.2.2.2.2.2.2.2)) x2 r123 hr123) (cV hts kV_Model_entry wd_719 ⟨Nat.le_of_ble_eq_true rfl, Nat.le_of_ble_eq_true rfl⟩) hH [0, 1, 2, 3, 4, 5, 6, 7, 8, 9, 10] [] [0, 1, 2, 3, 4, 5, 6, 7, 8, 9, 10] rfl rfl rfl rfl (by decide) rfl rfl 0 rfl rfl rfl hl.1 rfl (Nat.le_of_ble_eq_true rfl) d_Model_makeUp_123 ⟨Nat.le_of_ble_eq_true rfl, Nat.le_of_ble_eq_true rfl⟩ rfl (fun H locs hH => ?_)
                refine lv_iinc (v := x2 + 1) (lv' := [(2, .int (x2 + 1)), (3, .int 1), (1, .int (x1 + 1)), (0, .ref h)]) hx hb d_Model_makeUp_126 hl (k := 3) rfl rfl (by decide) rfl (fun ls hl => ?_)
                refine lv_goto (tgt := 38) hx hb d_Model_makeUp_129 (by decide) ?_
                exact ih r123 (x1 + 1) (x2 + 1) res hf _ _ _ hH (lv_sub hl [3, 2, 0] rfl)
              · have hf := im hc110 hf
                refine lv_aload_n hx hb d_Model_makeUp_113 rfl (lv_at hl 2 rfl) ?_
                refine lv_iload_n hx hb d_Model_makeUp_114 rfl (lv_at hl 1 rfl) ?_
                obtain ⟨r115, hr115, hf⟩ := ob hf
                refine fnV (rest := []) (wr := []) (w2 := [(h, .inr (6, [.int r115.1, .int r115.2.1.2.2.2.2, .ref h_kind, .ref h_b, .ref h_difference, .ref h_a, .int r115.2.2.1.2.2.2.2, .ref h_newKind, .ref h_newB, .ref h_newDifference, .ref h_newA, .int r115.2.2.2.1.2, .ref h_log, .ref h_packed, .int r115.2.2.2.2.1.2, .int r115.2.2.2.2.2.1.1, .int r115.2.2.2.2.2.1.2.1, .int r115.2.2.2.2.2.1.2.2.1, .int r115.2.2.2.2.2.1.2.2.2, .int r115.2.2.2.2.2.2.1, .int r115.2.2.2.2.2.2.2])), (h_kind, .inl (cI, 300, .inl r115.2.1.1)), (h_b, .inl (cI, 300, .inl r115.2.1.2.2.2.1)), (h_difference, .inl (cL, 300, .inr (.inl r115.2.1.2.1))), (h_a, .inl (cL, 300, .inr (.inl r115.2.1.2.2.1))), (h_newKind, .inl (cI, 300, .inl r115.2.2.1.1)), (h_newB, .inl (cI, 300, .inl r115.2.2.1.2.2.2.1)), (h_newDifference, .inl (cL, 300, .inr (.inl r115.2.2.1.2.1))), (h_newA, .inl (cL, 300, .inr (.inl r115.2.2.1.2.2.1))), (h_log, .inl (cI, 5000, .inl r115.2.2.2.1.1)), (h_packed, .inl (cI, 5000, .inl r115.2.2.2.2.1.1))]) (st2 := []) C (c_Model_run l D cI cL h h_kind h_b h_difference h_a h_newKind h_newB h_newDifference h_newA h_log h_packed ((st.1, st.2.1, st.2.2.1, st.2.2.2.1, st.2.2.2.2.1, (st.2.2.2.2.2.1.1 + 1, st.2.2.2.2.2.1.2.1, st.2.2.2.2.2.1.2.2.1, st.2.2.2.2.2.1.2.2.2), st.2.2.2.2.2.2.1, st.2.2.2.2.2.2.2)) (x1 + 1) r115 hr115) (cV hts kV_Model_run wd_715 ⟨Nat.le_of_ble_eq_true rfl, Nat.le_of_ble_eq_true rfl⟩) hH [0, 1, 2, 3, 4, 5, 6, 7, 8, 9, 10] [] [0, 1, 2, 3, 4, 5, 6, 7, 8, 9, 10] rfl rfl rfl rfl (by decide) rfl rfl 0 rfl rfl rfl hl.1 rfl (Nat.le_of_ble_eq_true rfl) d_Model_makeUp_115 ⟨Nat.le_of_ble_eq_true rfl, Nat.le_of_ble_eq_true rfl⟩ rfl (fun H locs hH => ?_)
                refine lv_goto (tgt := 126) hx hb d_Model_makeUp_118 (by decide) ?_
                refine lv_iinc (v := x2 + 1) (lv' := [(2, .int (x2 + 1)), (3, .int 1), (1, .int (x1 + 1)), (0, .ref h)]) hx hb d_Model_makeUp_126 hl (k := 3) rfl rfl (by decide) rfl (fun ls hl => ?_)
                refine lv_goto (tgt := 38) hx hb d_Model_makeUp_129 (by decide) ?_
                exact ih r115 (x1 + 1) (x2 + 1) res hf _ _ _ hH (lv_sub hl [3, 2, 0] rfl)
            · have hf := im hc89 hf
              refine lv_iload_n hx hb d_Model_makeUp_92 rfl (lv_at hl 0 rfl) ?_
              refine lv_if_ne (tgt := 99) hx hb d_Model_makeUp_93 (by decide) (fun hc93 => ?_) (fun hc93 => ?_)
              · have hf := im hc93 hf
                refine lv_aload_n hx hb d_Model_makeUp_99 rfl (lv_at hl 2 rfl) ?_
                refine lv_dup hx hb d_Model_makeUp_100 rfl ?_
                refine gt (ci := 6) (v := .int st.2.2.2.2.2.1.1) C hH (iwT iw_Model) 0 rfl rfl 15 (by decide) (.tail _ wd_611) rfl d_Model_makeUp_101 ?_
                refine lv_iconst (v := 1) hx hb d_Model_makeUp_104 (by decide) ?_
                refine lv_iadd hx hb d_Model_makeUp_105 ?_
                refine pt (ci := 6) (v := .int (st.2.2.2.2.2.1.1 + 1)) C hH (iwT iw_Model) ty_Model tyok_Model nm_Model 0 rfl rfl 15 (by decide) (.tail _ wd_611) rfl rfl rfl (Nat.le_of_ble_eq_true rfl) d_Model_makeUp_106 [(h, .inr (6, [.int st.1, .int st.2.1.2.2.2.2, .ref h_kind, .ref h_b, .ref h_difference, .ref h_a, .int st.2.2.1.2.2.2.2, .ref h_newKind, .ref h_newB, .ref h_newDifference, .ref h_newA, .int st.2.2.2.1.2, .ref h_log, .ref h_packed, .int st.2.2.2.2.1.2, .int (st.2.2.2.2.2.1.1 + 1), .int st.2.2.2.2.2.1.2.1, .int st.2.2.2.2.2.1.2.2.1, .int st.2.2.2.2.2.1.2.2.2, .int st.2.2.2.2.2.2.1, .int st.2.2.2.2.2.2.2])), (h_kind, .inl (cI, 300, .inl st.2.1.1)), (h_b, .inl (cI, 300, .inl st.2.1.2.2.2.1)), (h_difference, .inl (cL, 300, .inr (.inl st.2.1.2.1))), (h_a, .inl (cL, 300, .inr (.inl st.2.1.2.2.1))), (h_newKind, .inl (cI, 300, .inl st.2.2.1.1)), (h_newB, .inl (cI, 300, .inl st.2.2.1.2.2.2.1)), (h_newDifference, .inl (cL, 300, .inr (.inl st.2.2.1.2.1))), (h_newA, .inl (cL, 300, .inr (.inl st.2.2.1.2.2.1))), (h_log, .inl (cI, 5000, .inl st.2.2.2.1.1)), (h_packed, .inl (cI, 5000, .inl st.2.2.2.2.1.1))] rfl (fun H locs hH => ?_)
                refine lv_iload_n hx hb d_Model_makeUp_109 rfl (lv_at hl 1 rfl) ?_
                refine lv_if_le (tgt := 121) hx hb d_Model_makeUp_110 (by decide) (fun hc110 => ?_) (fun hc110 => ?_)
                · have hf := ip hc110 hf
                  refine lv_aload_n hx hb d_Model_makeUp_121 rfl (lv_at hl 2 rfl) ?_
                  refine lv_iload_n hx hb d_Model_makeUp_122 rfl (lv_at hl 3 rfl) ?_
                  obtain ⟨r123, hr123, hf⟩ := ob hf
                  refine fnV (rest := []) (wr := []) (w2 := [(h, .inr (6, [.int r123.1, .int r123.2.1.2.2.2.2, .ref h_kind, .ref h_b, .ref h_difference, .ref h_a, .int r123.2.2.1.2.2.2.2, .ref h_newKind, .ref h_newB, .ref h_newDifference, .ref h_newA, .int r123.2.2.2.1.2, .ref h_log, .ref h_packed, .int r123.2.2.2.2.1.2, .int r123.2.2.2.2.2.1.1, .int r123.2.2.2.2.2.1.2.1, .int r123.2.2.2.2.2.1.2.2.1, .int r123.2.2.2.2.2.1.2.2.2, .int r123.2.2.2.2.2.2.1, .int r123.2.2.2.2.2.2.2])), (h_kind, .inl (cI, 300, .inl r123.2.1.1)), (h_b, .inl (cI, 300, .inl r123.2.1.2.2.2.1)), (h_difference, .inl (cL, 300, .inr (.inl r123.2.1.2.1))), (h_a, .inl (cL, 300, .inr (.inl r123.2.1.2.2.1))), (h_newKind, .inl (cI, 300, .inl r123.2.2.1.1)), (h_newB, .inl (cI, 300, .inl r123.2.2.1.2.2.2.1)), (h_newDifference, .inl (cL, 300, .inr (.inl r123.2.2.1.2.1))), (h_newA, .inl (cL, 300, .inr (.inl r123.2.2.1.2.2.1))), (h_log, .inl (cI, 5000, .inl r123.2.2.2.1.1)), (h_packed, .inl (cI, 5000, .inl r123.2.2.2.2.1.1))]) (st2 := []) C (c_Model_entry l D cI cL h h_kind h_b h_difference h_a h_newKind h_newB h_newDifference h_newA h_log h_packed ((st.1, st.2.1, st.2.2.1, st.2.2.2.1, st.2.2.2.2.1, (st.2.2.2.2.2.1.1 + 1, st.2.2.2.2.2.1.2.1, st.2.2.2.2.2.1.2.2.1, st.2.2.2.2.2.1.2.2.2), st.2.2.2.2.2.2.1, st.2.2.2.2.2.2.2)) x2 r123 hr123) (cV hts kV_Model_entry wd_719 ⟨Nat.le_of_ble_eq_true rfl, Nat.le_of_ble_eq_true rfl⟩) hH [0, 1, 2, 3, 4, 5, 6, 7, 8, 9, 10] [] [0, 1, 2, 3, 4, 5, 6, 7, 8, 9, 10] rfl rfl rfl rfl (by decide) rfl rfl 0 rfl rfl rfl hl.1 rfl (Nat.le_of_ble_eq_true rfl) d_Model_makeUp_123 ⟨Nat.le_of_ble_eq_true rfl, Nat.le_of_ble_eq_true rfl⟩ rfl (fun H locs hH => ?_)
                  refine lv_iinc (v := x2 + 1) (lv' := [(2, .int (x2 + 1)), (3, .int 1), (1, .int (x1 + 1)), (0, .ref h)]) hx hb d_Model_makeUp_126 hl (k := 3) rfl rfl (by decide) rfl (fun ls hl => ?_)
                  refine lv_goto (tgt := 38) hx hb d_Model_makeUp_129 (by decide) ?_
                  exact ih r123 (x1 + 1) (x2 + 1) res hf _ _ _ hH (lv_sub hl [3, 2, 0] rfl)
                · have hf := im hc110 hf
                  refine lv_aload_n hx hb d_Model_makeUp_113 rfl (lv_at hl 2 rfl) ?_
                  refine lv_iload_n hx hb d_Model_makeUp_114 rfl (lv_at hl 1 rfl) ?_
                  obtain ⟨r115, hr115, hf⟩ := ob hf
                  refine fnV (rest := []) (wr := []) (w2 := [(h, .inr (6, [.int r115.1, .int r115.2.1.2.2.2.2, .ref h_kind, .ref h_b, .ref h_difference, .ref h_a, .int r115.2.2.1.2.2.2.2, .ref h_newKind, .ref h_newB, .ref h_newDifference, .ref h_newA, .int r115.2.2.2.1.2, .ref h_log, .ref h_packed, .int r115.2.2.2.2.1.2, .int r115.2.2.2.2.2.1.1, .int r115.2.2.2.2.2.1.2.1, .int r115.2.2.2.2.2.1.2.2.1, .int r115.2.2.2.2.2.1.2.2.2, .int r115.2.2.2.2.2.2.1, .int r115.2.2.2.2.2.2.2])), (h_kind, .inl (cI, 300, .inl r115.2.1.1)), (h_b, .inl (cI, 300, .inl r115.2.1.2.2.2.1)), (h_difference, .inl (cL, 300, .inr (.inl r115.2.1.2.1))), (h_a, .inl (cL, 300, .inr (.inl r115.2.1.2.2.1))), (h_newKind, .inl (cI, 300, .inl r115.2.2.1.1)), (h_newB, .inl (cI, 300, .inl r115.2.2.1.2.2.2.1)), (h_newDifference, .inl (cL, 300, .inr (.inl r115.2.2.1.2.1))), (h_newA, .inl (cL, 300, .inr (.inl r115.2.2.1.2.2.1))), (h_log, .inl (cI, 5000, .inl r115.2.2.2.1.1)), (h_packed, .inl (cI, 5000, .inl r115.2.2.2.2.1.1))]) (st2 := []) C (c_Model_run l D cI cL h h_kind h_b h_difference h_a h_newKind h_newB h_newDifference h_newA h_log h_packed ((st.1, st.2.1, st.2.2.1, st.2.2.2.1, st.2.2.2.2.1, (st.2.2.2.2.2.1.1 + 1, st.2.2.2.2.2.1.2.1, st.2.2.2.2.2.1.2.2.1, st.2.2.2.2.2.1.2.2.2), st.2.2.2.2.2.2.1, st.2.2.2.2.2.2.2)) (x1 + 1) r115 hr115) (cV hts kV_Model_run wd_715 ⟨Nat.le_of_ble_eq_true rfl, Nat.le_of_ble_eq_true rfl⟩) hH [0, 1, 2, 3, 4, 5, 6, 7, 8, 9, 10] [] [0, 1, 2, 3, 4, 5, 6, 7, 8, 9, 10] rfl rfl rfl rfl (by decide) rfl rfl 0 rfl rfl rfl hl.1 rfl (Nat.le_of_ble_eq_true rfl) d_Model_makeUp_115 ⟨Nat.le_of_ble_eq_true rfl, Nat.le_of_ble_eq_true rfl⟩ rfl (fun H locs hH => ?_)
                  refine lv_goto (tgt := 126) hx hb d_Model_makeUp_118 (by decide) ?_
                  refine lv_iinc (v := x2 + 1) (lv' := [(2, .int (x2 + 1)), (3, .int 1), (1, .int (x1 + 1)), (0, .ref h)]) hx hb d_Model_makeUp_126 hl (k := 3) rfl rfl (by decide) rfl (fun ls hl => ?_)
                  refine lv_goto (tgt := 38) hx hb d_Model_makeUp_129 (by decide) ?_
                  exact ih r115 (x1 + 1) (x2 + 1) res hf _ _ _ hH (lv_sub hl [3, 2, 0] rfl)
              · have hf := ip hc93 hf
                refine lv_goto (tgt := 126) hx hb d_Model_makeUp_96 (by decide) ?_
                refine lv_iinc (v := x2 + 1) (lv' := [(2, .int (x2 + 1)), (3, .int 1), (1, .int (x1 + 1)), (0, .ref h)]) hx hb d_Model_makeUp_126 hl (k := 3) rfl rfl (by decide) rfl (fun ls hl => ?_)
                refine lv_goto (tgt := 38) hx hb d_Model_makeUp_129 (by decide) ?_
                exact ih st (x1 + 1) (x2 + 1) res hf _ _ _ hH (lv_sub hl [3, 2, 0] rfl)
def f_Model_makeUp (st : S_Model)  : Option (S_Model) :=
  (f_Model_varint ((st.1, st.2.1, st.2.2.1, st.2.2.2.1, (st.2.2.2.2.1.1, 0), (0, 0, 0, 0), st.2.2.2.2.2.2.1, st.2.2.2.2.2.2.2)) st.2.1.2.2.2.2.toInt64).bind (fun r31 => f_Model_makeUp_b38 400 r31 0 0)
set_option maxRecDepth 100000 in
set_option maxHeartbeats 4000000 in
theorem c_Model_makeUp (l : Launch) (D : va_G) (cI cL : ClassId) (h h_kind h_b h_difference h_a h_newKind h_newB h_newDifference h_newA h_log h_packed : Nat) (st : S_Model)  (res : S_Model) (hf : f_Model_makeUp st = some res) :
    Fn l D vwCl [(cI, .int), (cL, .long)] y_Model_makeUp ws_Model_makeUp { frames := 3, cells := 0, slots := 0, locals := 72 } [.ref h] [(h, .inr (6, [.int st.1, .int st.2.1.2.2.2.2, .ref h_kind, .ref h_b, .ref h_difference, .ref h_a, .int st.2.2.1.2.2.2.2, .ref h_newKind, .ref h_newB, .ref h_newDifference, .ref h_newA, .int st.2.2.2.1.2, .ref h_log, .ref h_packed, .int st.2.2.2.2.1.2, .int st.2.2.2.2.2.1.1, .int st.2.2.2.2.2.1.2.1, .int st.2.2.2.2.2.1.2.2.1, .int st.2.2.2.2.2.1.2.2.2, .int st.2.2.2.2.2.2.1, .int st.2.2.2.2.2.2.2])), (h_kind, .inl (cI, 300, .inl st.2.1.1)), (h_b, .inl (cI, 300, .inl st.2.1.2.2.2.1)), (h_difference, .inl (cL, 300, .inr (.inl st.2.1.2.1))), (h_a, .inl (cL, 300, .inr (.inl st.2.1.2.2.1))), (h_newKind, .inl (cI, 300, .inl st.2.2.1.1)), (h_newB, .inl (cI, 300, .inl st.2.2.1.2.2.2.1)), (h_newDifference, .inl (cL, 300, .inr (.inl st.2.2.1.2.1))), (h_newA, .inl (cL, 300, .inr (.inl st.2.2.1.2.2.1))), (h_log, .inl (cI, 5000, .inl st.2.2.2.1.1)), (h_packed, .inl (cI, 5000, .inl st.2.2.2.2.1.1))] (none) [(h, .inr (6, [.int res.1, .int res.2.1.2.2.2.2, .ref h_kind, .ref h_b, .ref h_difference, .ref h_a, .int res.2.2.1.2.2.2.2, .ref h_newKind, .ref h_newB, .ref h_newDifference, .ref h_newA, .int res.2.2.2.1.2, .ref h_log, .ref h_packed, .int res.2.2.2.2.1.2, .int res.2.2.2.2.2.1.1, .int res.2.2.2.2.2.1.2.1, .int res.2.2.2.2.2.1.2.2.1, .int res.2.2.2.2.2.1.2.2.2, .int res.2.2.2.2.2.2.1, .int res.2.2.2.2.2.2.2])), (h_kind, .inl (cI, 300, .inl res.2.1.1)), (h_b, .inl (cI, 300, .inl res.2.1.2.2.2.1)), (h_difference, .inl (cL, 300, .inr (.inl res.2.1.2.1))), (h_a, .inl (cL, 300, .inr (.inl res.2.1.2.2.1))), (h_newKind, .inl (cI, 300, .inl res.2.2.1.1)), (h_newB, .inl (cI, 300, .inl res.2.2.1.2.2.2.1)), (h_newDifference, .inl (cL, 300, .inr (.inl res.2.2.1.2.1))), (h_newA, .inl (cL, 300, .inr (.inl res.2.2.1.2.2.1))), (h_log, .inl (cI, 5000, .inl res.2.2.2.1.1)), (h_packed, .inl (cI, 5000, .inl res.2.2.2.2.1.1))] := by
  refine Fn.ofW (cc := b_Model_makeUp) (maxL := 4) (ret := none) (by decide) rfl (Nat.le_of_ble_eq_true rfl) ?_
  intro p e s m below meth c A ls C hH hinit hl
  have hl : lv_has ls 4 [(0, .ref h)] := hl
  obtain ⟨hx, hb, hr, hml, hown, hts, hlk, hK, hA⟩ := id C
  unfold f_Model_makeUp at hf
  refine lv_aload_n hx hb d_Model_makeUp_0 rfl (lv_at hl 0 rfl) ?_
  refine lv_aload_n hx hb d_Model_makeUp_1 rfl (lv_at hl 0 rfl) ?_
  refine lv_aload_n hx hb d_Model_makeUp_2 rfl (lv_at hl 0 rfl) ?_
  refine lv_aload_n hx hb d_Model_makeUp_3 rfl (lv_at hl 0 rfl) ?_
  refine lv_aload_n hx hb d_Model_makeUp_4 rfl (lv_at hl 0 rfl) ?_
  refine lv_iconst (v := 0) hx hb d_Model_makeUp_5 (by decide) ?_
  refine lv_dup_x1 hx hb d_Model_makeUp_6 rfl rfl ?_
  refine pt (ci := 6) (v := .int 0) C hH (iwT iw_Model) ty_Model tyok_Model nm_Model 0 rfl rfl 18 (by decide) (.tail _ wd_614) rfl rfl rfl (Nat.le_of_ble_eq_true rfl) d_Model_makeUp_7 [(h, .inr (6, [.int st.1, .int st.2.1.2.2.2.2, .ref h_kind, .ref h_b, .ref h_difference, .ref h_a, .int st.2.2.1.2.2.2.2, .ref h_newKind, .ref h_newB, .ref h_newDifference, .ref h_newA, .int st.2.2.2.1.2, .ref h_log, .ref h_packed, .int st.2.2.2.2.1.2, .int st.2.2.2.2.2.1.1, .int st.2.2.2.2.2.1.2.1, .int st.2.2.2.2.2.1.2.2.1, .int 0, .int st.2.2.2.2.2.2.1, .int st.2.2.2.2.2.2.2])), (h_kind, .inl (cI, 300, .inl st.2.1.1)), (h_b, .inl (cI, 300, .inl st.2.1.2.2.2.1)), (h_difference, .inl (cL, 300, .inr (.inl st.2.1.2.1))), (h_a, .inl (cL, 300, .inr (.inl st.2.1.2.2.1))), (h_newKind, .inl (cI, 300, .inl st.2.2.1.1)), (h_newB, .inl (cI, 300, .inl st.2.2.1.2.2.2.1)), (h_newDifference, .inl (cL, 300, .inr (.inl st.2.2.1.2.1))), (h_newA, .inl (cL, 300, .inr (.inl st.2.2.1.2.2.1))), (h_log, .inl (cI, 5000, .inl st.2.2.2.1.1)), (h_packed, .inl (cI, 5000, .inl st.2.2.2.2.1.1))] rfl (fun H locs hH => ?_)
  refine lv_dup_x1 hx hb d_Model_makeUp_10 rfl rfl ?_
  refine pt (ci := 6) (v := .int 0) C hH (iwT iw_Model) ty_Model tyok_Model nm_Model 0 rfl rfl 17 (by decide) (.tail _ wd_613) rfl rfl rfl (Nat.le_of_ble_eq_true rfl) d_Model_makeUp_11 [(h, .inr (6, [.int st.1, .int st.2.1.2.2.2.2, .ref h_kind, .ref h_b, .ref h_difference, .ref h_a, .int st.2.2.1.2.2.2.2, .ref h_newKind, .ref h_newB, .ref h_newDifference, .ref h_newA, .int st.2.2.2.1.2, .ref h_log, .ref h_packed, .int st.2.2.2.2.1.2, .int st.2.2.2.2.2.1.1, .int st.2.2.2.2.2.1.2.1, .int 0, .int 0, .int st.2.2.2.2.2.2.1, .int st.2.2.2.2.2.2.2])), (h_kind, .inl (cI, 300, .inl st.2.1.1)), (h_b, .inl (cI, 300, .inl st.2.1.2.2.2.1)), (h_difference, .inl (cL, 300, .inr (.inl st.2.1.2.1))), (h_a, .inl (cL, 300, .inr (.inl st.2.1.2.2.1))), (h_newKind, .inl (cI, 300, .inl st.2.2.1.1)), (h_newB, .inl (cI, 300, .inl st.2.2.1.2.2.2.1)), (h_newDifference, .inl (cL, 300, .inr (.inl st.2.2.1.2.1))), (h_newA, .inl (cL, 300, .inr (.inl st.2.2.1.2.2.1))), (h_log, .inl (cI, 5000, .inl st.2.2.2.1.1)), (h_packed, .inl (cI, 5000, .inl st.2.2.2.2.1.1))] rfl (fun H locs hH => ?_)
  refine lv_dup_x1 hx hb d_Model_makeUp_14 rfl rfl ?_
  refine pt (ci := 6) (v := .int 0) C hH (iwT iw_Model) ty_Model tyok_Model nm_Model 0 rfl rfl 16 (by decide) (.tail _ wd_612) rfl rfl rfl (Nat.le_of_ble_eq_true rfl) d_Model_makeUp_15 [(h, .inr (6, [.int st.1, .int st.2.1.2.2.2.2, .ref h_kind, .ref h_b, .ref h_difference, .ref h_a, .int st.2.2.1.2.2.2.2, .ref h_newKind, .ref h_newB, .ref h_newDifference, .ref h_newA, .int st.2.2.2.1.2, .ref h_log, .ref h_packed, .int st.2.2.2.2.1.2, .int st.2.2.2.2.2.1.1, .int 0, .int 0, .int 0, .int st.2.2.2.2.2.2.1, .int st.2.2.2.2.2.2.2])), (h_kind, .inl (cI, 300, .inl st.2.1.1)), (h_b, .inl (cI, 300, .inl st.2.1.2.2.2.1)), (h_difference, .inl (cL, 300, .inr (.inl st.2.1.2.1))), (h_a, .inl (cL, 300, .inr (.inl st.2.1.2.2.1))), (h_newKind, .inl (cI, 300, .inl st.2.2.1.1)), (h_newB, .inl (cI, 300, .inl st.2.2.1.2.2.2.1)), (h_newDifference, .inl (cL, 300, .inr (.inl st.2.2.1.2.1))), (h_newA, .inl (cL, 300, .inr (.inl st.2.2.1.2.2.1))), (h_log, .inl (cI, 5000, .inl st.2.2.2.1.1)), (h_packed, .inl (cI, 5000, .inl st.2.2.2.2.1.1))] rfl (fun H locs hH => ?_)
  refine lv_dup_x1 hx hb d_Model_makeUp_18 rfl rfl ?_
  refine pt (ci := 6) (v := .int 0) C hH (iwT iw_Model) ty_Model tyok_Model nm_Model 0 rfl rfl 15 (by decide) (.tail _ wd_611) rfl rfl rfl (Nat.le_of_ble_eq_true rfl) d_Model_makeUp_19 [(h, .inr (6, [.int st.1, .int st.2.1.2.2.2.2, .ref h_kind, .ref h_b, .ref h_difference, .ref h_a, .int st.2.2.1.2.2.2.2, .ref h_newKind, .ref h_newB, .ref h_newDifference, .ref h_newA, .int st.2.2.2.1.2, .ref h_log, .ref h_packed, .int st.2.2.2.2.1.2, .int 0, .int 0, .int 0, .int 0, .int st.2.2.2.2.2.2.1, .int st.2.2.2.2.2.2.2])), (h_kind, .inl (cI, 300, .inl st.2.1.1)), (h_b, .inl (cI, 300, .inl st.2.1.2.2.2.1)), (h_difference, .inl (cL, 300, .inr (.inl st.2.1.2.1))), (h_a, .inl (cL, 300, .inr (.inl st.2.1.2.2.1))), (h_newKind, .inl (cI, 300, .inl st.2.2.1.1)), (h_newB, .inl (cI, 300, .inl st.2.2.1.2.2.2.1)), (h_newDifference, .inl (cL, 300, .inr (.inl st.2.2.1.2.1))), (h_newA, .inl (cL, 300, .inr (.inl st.2.2.1.2.2.1))), (h_log, .inl (cI, 5000, .inl st.2.2.2.1.1)), (h_packed, .inl (cI, 5000, .inl st.2.2.2.2.1.1))] rfl (fun H locs hH => ?_)
  refine pt (ci := 6) (v := .int 0) C hH (iwT iw_Model) ty_Model tyok_Model nm_Model 0 rfl rfl 14 (by decide) (.tail _ wd_610) rfl rfl rfl (Nat.le_of_ble_eq_true rfl) d_Model_makeUp_22 [(h, .inr (6, [.int st.1, .int st.2.1.2.2.2.2, .ref h_kind, .ref h_b, .ref h_difference, .ref h_a, .int st.2.2.1.2.2.2.2, .ref h_newKind, .ref h_newB, .ref h_newDifference, .ref h_newA, .int st.2.2.2.1.2, .ref h_log, .ref h_packed, .int 0, .int 0, .int 0, .int 0, .int 0, .int st.2.2.2.2.2.2.1, .int st.2.2.2.2.2.2.2])), (h_kind, .inl (cI, 300, .inl st.2.1.1)), (h_b, .inl (cI, 300, .inl st.2.1.2.2.2.1)), (h_difference, .inl (cL, 300, .inr (.inl st.2.1.2.1))), (h_a, .inl (cL, 300, .inr (.inl st.2.1.2.2.1))), (h_newKind, .inl (cI, 300, .inl st.2.2.1.1)), (h_newB, .inl (cI, 300, .inl st.2.2.1.2.2.2.1)), (h_newDifference, .inl (cL, 300, .inr (.inl st.2.2.1.2.1))), (h_newA, .inl (cL, 300, .inr (.inl st.2.2.1.2.2.1))), (h_log, .inl (cI, 5000, .inl st.2.2.2.1.1)), (h_packed, .inl (cI, 5000, .inl st.2.2.2.2.1.1))] rfl (fun H locs hH => ?_)
  refine lv_aload_n hx hb d_Model_makeUp_25 rfl (lv_at hl 0 rfl) ?_
  refine lv_aload_n hx hb d_Model_makeUp_26 rfl (lv_at hl 0 rfl) ?_
  refine gt (ci := 6) (v := .int st.2.1.2.2.2.2) C hH (iwT iw_Model) 0 rfl rfl 1 (by decide) (.tail _ wd_597) rfl d_Model_makeUp_27 ?_
  refine lv_i2l (v := st.2.1.2.2.2.2.toInt64) hx hb d_Model_makeUp_30 rfl ?_
  obtain ⟨r31, hr31, hf⟩ := ob hf
  refine fnV (rest := []) (wr := []) (w2 := [(h, .inr (6, [.int r31.1, .int r31.2.1.2.2.2.2, .ref h_kind, .ref h_b, .ref h_difference, .ref h_a, .int r31.2.2.1.2.2.2.2, .ref h_newKind, .ref h_newB, .ref h_newDifference, .ref h_newA, .int r31.2.2.2.1.2, .ref h_log, .ref h_packed, .int r31.2.2.2.2.1.2, .int r31.2.2.2.2.2.1.1, .int r31.2.2.2.2.2.1.2.1, .int r31.2.2.2.2.2.1.2.2.1, .int r31.2.2.2.2.2.1.2.2.2, .int r31.2.2.2.2.2.2.1, .int r31.2.2.2.2.2.2.2])), (h_kind, .inl (cI, 300, .inl r31.2.1.1)), (h_b, .inl (cI, 300, .inl r31.2.1.2.2.2.1)), (h_difference, .inl (cL, 300, .inr (.inl r31.2.1.2.1))), (h_a, .inl (cL, 300, .inr (.inl r31.2.1.2.2.1))), (h_newKind, .inl (cI, 300, .inl r31.2.2.1.1)), (h_newB, .inl (cI, 300, .inl r31.2.2.1.2.2.2.1)), (h_newDifference, .inl (cL, 300, .inr (.inl r31.2.2.1.2.1))), (h_newA, .inl (cL, 300, .inr (.inl r31.2.2.1.2.2.1))), (h_log, .inl (cI, 5000, .inl r31.2.2.2.1.1)), (h_packed, .inl (cI, 5000, .inl r31.2.2.2.2.1.1))]) (st2 := []) C (c_Model_varint l D cI cL h h_kind h_b h_difference h_a h_newKind h_newB h_newDifference h_newA h_log h_packed ((st.1, st.2.1, st.2.2.1, st.2.2.2.1, (st.2.2.2.2.1.1, 0), (0, 0, 0, 0), st.2.2.2.2.2.2.1, st.2.2.2.2.2.2.2)) st.2.1.2.2.2.2.toInt64 r31 hr31) (cV hts kV_Model_varint wd_698 ⟨Nat.le_of_ble_eq_true rfl, Nat.le_of_ble_eq_true rfl⟩) hH [0, 1, 2, 3, 4, 5, 6, 7, 8, 9, 10] [] [0, 1, 2, 3, 4, 5, 6, 7, 8, 9, 10] rfl rfl rfl rfl (by decide) rfl rfl 0 rfl rfl rfl hl.1 rfl (Nat.le_of_ble_eq_true rfl) d_Model_makeUp_31 ⟨Nat.le_of_ble_eq_true rfl, Nat.le_of_ble_eq_true rfl⟩ rfl (fun H locs hH => ?_)
  refine lv_iconst (v := 0) hx hb d_Model_makeUp_34 (by decide) ?_
  refine lv_istore_n (lv' := [(1, .int 0), (0, .ref h)]) hx hb d_Model_makeUp_35 rfl hl (by decide) rfl (fun ls hl => ?_)
  refine lv_iconst (v := 0) hx hb d_Model_makeUp_36 (by decide) ?_
  refine lv_istore_n (lv' := [(2, .int 0), (1, .int 0), (0, .ref h)]) hx hb d_Model_makeUp_37 rfl hl (by decide) rfl (fun ls hl => ?_)
  exact w_Model_makeUp_b38 l D cI cL h h_kind h_b h_difference h_a h_newKind h_newB h_newDifference h_newA h_log h_packed C 400 r31 0 0 res hf _ _ _ hH (lv_sub hl [2, 1, 0] rfl)
def f_Model_pack_b19 : Nat → S_Model → Int32 → Option (Int32 × S_Model)
  | 0, _, _ => none
  | n + 1, st, x1 =>
  if st.2.2.2.2.1.2 ≤ x1 then (some ((st.2.2.2.1.2, st))) else (if x1 < 0 ∨ 5000 ≤ x1.toNatClampNeg then none else if x1 < 0 ∨ 5000 ≤ x1.toNatClampNeg then none else f_Model_pack_b19 n ((st.1, st.2.1, st.2.2.1, (upd st.2.2.2.1.1 x1.toNatClampNeg (st.2.2.2.2.1.1 x1.toNatClampNeg), st.2.2.2.1.2), st.2.2.2.2.1, st.2.2.2.2.2.1, st.2.2.2.2.2.2.1, st.2.2.2.2.2.2.2)) (x1 + 1))
set_option maxRecDepth 100000 in
set_option maxHeartbeats 4000000 in
theorem w_Model_pack_b19 (l : Launch) (D : va_G) (cI cL : ClassId) (h h_kind h_b h_difference h_a h_newKind h_newB h_newDifference h_newA h_log h_packed : Nat) {p : Program} {e : Env} {s : State} {m : MethodId} {args : Array Value} {below : List Frame} {meth : Method} {c : Code} {A : Nat → Prop} (C : Cx p s m args meth c D vwCl [(cI, .int), (cL, .long)] A b_Model_pack 2 (some .int) ws_Model_pack y_Model_pack.cls) : ∀ (n : Nat) (st : S_Model) (x1 : Int32) (res : Int32 × S_Model), f_Model_pack_b19 n st x1 = some res → ∀ (H : Heap) (locs : List Loc) (ls : Array Slot), Hp D vwCl A A s.heap H locs [(h, .inr (6, [.int st.1, .int st.2.1.2.2.2.2, .ref h_kind, .ref h_b, .ref h_difference, .ref h_a, .int st.2.2.1.2.2.2.2, .ref h_newKind, .ref h_newB, .ref h_newDifference, .ref h_newA, .int st.2.2.2.1.2, .ref h_log, .ref h_packed, .int st.2.2.2.2.1.2, .int st.2.2.2.2.2.1.1, .int st.2.2.2.2.2.1.2.1, .int st.2.2.2.2.2.1.2.2.1, .int st.2.2.2.2.2.1.2.2.2, .int st.2.2.2.2.2.2.1, .int st.2.2.2.2.2.2.2])), (h_kind, .inl (cI, 300, .inl st.2.1.1)), (h_b, .inl (cI, 300, .inl st.2.1.2.2.2.1)), (h_difference, .inl (cL, 300, .inr (.inl st.2.1.2.1))), (h_a, .inl (cL, 300, .inr (.inl st.2.1.2.2.1))), (h_newKind, .inl (cI, 300, .inl st.2.2.1.1)), (h_newB, .inl (cI, 300, .inl st.2.2.1.2.2.2.1)), (h_newDifference, .inl (cL, 300, .inr (.inl st.2.2.1.2.1))), (h_newA, .inl (cL, 300, .inr (.inl st.2.2.1.2.2.1))), (h_log, .inl (cI, 5000, .inl st.2.2.2.1.1)), (h_packed, .inl (cI, 5000, .inl st.2.2.2.2.1.1))] → lv_has ls 2 [(0, .ref h), (1, .int x1)] → W p l e { frames := 4, cells := 0, slots := 0, locals := 95 } s m args below meth c H locs 0 0 (MQ below (Qw D vwCl [(cI, .int), (cL, .long)] (some (.int res.1)) A [(h, .inr (6, [.int res.2.1, .int res.2.2.1.2.2.2.2, .ref h_kind, .ref h_b, .ref h_difference, .ref h_a, .int res.2.2.2.1.2.2.2.2, .ref h_newKind, .ref h_newB, .ref h_newDifference, .ref h_newA, .int res.2.2.2.2.1.2, .ref h_log, .ref h_packed, .int res.2.2.2.2.2.1.2, .int res.2.2.2.2.2.2.1.1, .int res.2.2.2.2.2.2.1.2.1, .int res.2.2.2.2.2.2.1.2.2.1, .int res.2.2.2.2.2.2.1.2.2.2, .int res.2.2.2.2.2.2.2.1, .int res.2.2.2.2.2.2.2.2])), (h_kind, .inl (cI, 300, .inl res.2.2.1.1)), (h_b, .inl (cI, 300, .inl res.2.2.1.2.2.2.1)), (h_difference, .inl (cL, 300, .inr (.inl res.2.2.1.2.1))), (h_a, .inl (cL, 300, .inr (.inl res.2.2.1.2.2.1))), (h_newKind, .inl (cI, 300, .inl res.2.2.2.1.1)), (h_newB, .inl (cI, 300, .inl res.2.2.2.1.2.2.2.1)), (h_newDifference, .inl (cL, 300, .inr (.inl res.2.2.2.1.2.1))), (h_newA, .inl (cL, 300, .inr (.inl res.2.2.2.1.2.2.1))), (h_log, .inl (cI, 5000, .inl res.2.2.2.2.1.1)), (h_packed, .inl (cI, 5000, .inl res.2.2.2.2.2.1.1))]) args s 0 0 A) (F0 m 19 ls []) := by
  obtain ⟨hx, hb, hr, hml, hown, hts, hlk, hK, hA⟩ := id C
  intro n
  induction n with
  | zero => intro st x1 res hf; cases hf
  | succ n ih =>
    intro st x1 res hf H locs ls hH hl
    rw [f_Model_pack_b19] at hf
    refine lv_iload_n hx hb d_Model_pack_19 rfl (lv_at hl 1 rfl) ?_
    refine lv_aload_n hx hb d_Model_pack_20 rfl (lv_at hl 0 rfl) ?_
    refine gt (ci := 6) (v := .int st.2.2.2.2.1.2) C hH (iwT iw_Model) 0 rfl rfl 14 (by decide) (.tail _ wd_610) rfl d_Model_pack_21 ?_
    refine lv_icmp_ge (tgt := 45) hx hb d_Model_pack_24 (by decide) (fun hc24 => ?_) (fun hc24 => ?_)
    · have hf := ip hc24 hf
      refine lv_aload_n hx hb d_Model_pack_45 rfl (lv_at hl 0 rfl) ?_
      refine gt (ci := 6) (v := .int st.2.2.2.1.2) C hH (iwT iw_Model) 0 rfl rfl 11 (by decide) (.tail _ wd_607) rfl d_Model_pack_46 ?_
      have hf := Option.some.inj hf
      subst hf
      exact rI (v := st.2.2.2.1.2) C hH d_Model_pack_49
    · have hf := im hc24 hf
      refine lv_aload_n hx hb d_Model_pack_27 rfl (lv_at hl 0 rfl) ?_
      refine gt (ci := 6) (v := .ref h_log) C hH (iwT iw_Model) 0 rfl rfl 12 (by decide) (.tail _ wd_608) rfl d_Model_pack_28 ?_
      refine lv_iload_n hx hb d_Model_pack_31 rfl (lv_at hl 1 rfl) ?_
      refine lv_aload_n hx hb d_Model_pack_32 rfl (lv_at hl 0 rfl) ?_
      refine gt (ci := 6) (v := .ref h_packed) C hH (iwT iw_Model) 0 rfl rfl 13 (by decide) (.tail _ wd_609) rfl d_Model_pack_33 ?_
      refine lv_iload_n hx hb d_Model_pack_36 rfl (lv_at hl 1 rfl) ?_
      obtain ⟨hin37, hf⟩ := oa hf
      refine ali C hH 10 0 rfl rfl (hin37) d_Model_pack_37 ?_
      obtain ⟨hin38, hf⟩ := oa hf
      refine asi C hH 9 0 rfl rfl (hin38) d_Model_pack_38 [(h, .inr (6, [.int st.1, .int st.2.1.2.2.2.2, .ref h_kind, .ref h_b, .ref h_difference, .ref h_a, .int st.2.2.1.2.2.2.2, .ref h_newKind, .ref h_newB, .ref h_newDifference, .ref h_newA, .int st.2.2.2.1.2, .ref h_log, .ref h_packed, .int st.2.2.2.2.1.2, .int st.2.2.2.2.2.1.1, .int st.2.2.2.2.2.1.2.1, .int st.2.2.2.2.2.1.2.2.1, .int st.2.2.2.2.2.1.2.2.2, .int st.2.2.2.2.2.2.1, .int st.2.2.2.2.2.2.2])), (h_kind, .inl (cI, 300, .inl st.2.1.1)), (h_b, .inl (cI, 300, .inl st.2.1.2.2.2.1)), (h_difference, .inl (cL, 300, .inr (.inl st.2.1.2.1))), (h_a, .inl (cL, 300, .inr (.inl st.2.1.2.2.1))), (h_newKind, .inl (cI, 300, .inl st.2.2.1.1)), (h_newB, .inl (cI, 300, .inl st.2.2.1.2.2.2.1)), (h_newDifference, .inl (cL, 300, .inr (.inl st.2.2.1.2.1))), (h_newA, .inl (cL, 300, .inr (.inl st.2.2.1.2.2.1))), (h_log, .inl (cI, 5000, .inl (upd st.2.2.2.1.1 x1.toNatClampNeg (st.2.2.2.2.1.1 x1.toNatClampNeg)))), (h_packed, .inl (cI, 5000, .inl st.2.2.2.2.1.1))] rfl (fun H locs hH => ?_)
      refine lv_iinc (v := x1 + 1) (lv' := [(1, .int (x1 + 1)), (0, .ref h)]) hx hb d_Model_pack_39 hl (k := 1) rfl rfl (by decide) rfl (fun ls hl => ?_)
      refine lv_goto (tgt := 19) hx hb d_Model_pack_42 (by decide) ?_
      exact ih ((st.1, st.2.1, st.2.2.1, (upd st.2.2.2.1.1 x1.toNatClampNeg (st.2.2.2.2.1.1 x1.toNatClampNeg), st.2.2.2.1.2), st.2.2.2.2.1, st.2.2.2.2.2.1, st.2.2.2.2.2.2.1, st.2.2.2.2.2.2.2)) (x1 + 1) res hf _ _ _ hH (lv_sub hl [1, 0] rfl)
def f_Model_pack (st : S_Model)  : Option (Int32 × S_Model) :=
  (f_Model_makeUp ((0, st.2.1, st.2.2.1, st.2.2.2.1, st.2.2.2.2.1, st.2.2.2.2.2.1, st.2.2.2.2.2.2.1, st.2.2.2.2.2.2.2))).bind (fun r6 => f_Model_pack_b19 6000 ((r6.1, r6.2.1, r6.2.2.1, (r6.2.2.2.1.1, r6.2.2.2.2.1.2), r6.2.2.2.2.1, r6.2.2.2.2.2.1, r6.2.2.2.2.2.2.1, r6.2.2.2.2.2.2.2)) 0)
set_option maxRecDepth 100000 in
set_option maxHeartbeats 4000000 in
theorem c_Model_pack (l : Launch) (D : va_G) (cI cL : ClassId) (h h_kind h_b h_difference h_a h_newKind h_newB h_newDifference h_newA h_log h_packed : Nat) (st : S_Model)  (res : Int32 × S_Model) (hf : f_Model_pack st = some res) :
    Fn l D vwCl [(cI, .int), (cL, .long)] y_Model_pack ws_Model_pack { frames := 4, cells := 0, slots := 0, locals := 95 } [.ref h] [(h, .inr (6, [.int st.1, .int st.2.1.2.2.2.2, .ref h_kind, .ref h_b, .ref h_difference, .ref h_a, .int st.2.2.1.2.2.2.2, .ref h_newKind, .ref h_newB, .ref h_newDifference, .ref h_newA, .int st.2.2.2.1.2, .ref h_log, .ref h_packed, .int st.2.2.2.2.1.2, .int st.2.2.2.2.2.1.1, .int st.2.2.2.2.2.1.2.1, .int st.2.2.2.2.2.1.2.2.1, .int st.2.2.2.2.2.1.2.2.2, .int st.2.2.2.2.2.2.1, .int st.2.2.2.2.2.2.2])), (h_kind, .inl (cI, 300, .inl st.2.1.1)), (h_b, .inl (cI, 300, .inl st.2.1.2.2.2.1)), (h_difference, .inl (cL, 300, .inr (.inl st.2.1.2.1))), (h_a, .inl (cL, 300, .inr (.inl st.2.1.2.2.1))), (h_newKind, .inl (cI, 300, .inl st.2.2.1.1)), (h_newB, .inl (cI, 300, .inl st.2.2.1.2.2.2.1)), (h_newDifference, .inl (cL, 300, .inr (.inl st.2.2.1.2.1))), (h_newA, .inl (cL, 300, .inr (.inl st.2.2.1.2.2.1))), (h_log, .inl (cI, 5000, .inl st.2.2.2.1.1)), (h_packed, .inl (cI, 5000, .inl st.2.2.2.2.1.1))] (some (.int res.1)) [(h, .inr (6, [.int res.2.1, .int res.2.2.1.2.2.2.2, .ref h_kind, .ref h_b, .ref h_difference, .ref h_a, .int res.2.2.2.1.2.2.2.2, .ref h_newKind, .ref h_newB, .ref h_newDifference, .ref h_newA, .int res.2.2.2.2.1.2, .ref h_log, .ref h_packed, .int res.2.2.2.2.2.1.2, .int res.2.2.2.2.2.2.1.1, .int res.2.2.2.2.2.2.1.2.1, .int res.2.2.2.2.2.2.1.2.2.1, .int res.2.2.2.2.2.2.1.2.2.2, .int res.2.2.2.2.2.2.2.1, .int res.2.2.2.2.2.2.2.2])), (h_kind, .inl (cI, 300, .inl res.2.2.1.1)), (h_b, .inl (cI, 300, .inl res.2.2.1.2.2.2.1)), (h_difference, .inl (cL, 300, .inr (.inl res.2.2.1.2.1))), (h_a, .inl (cL, 300, .inr (.inl res.2.2.1.2.2.1))), (h_newKind, .inl (cI, 300, .inl res.2.2.2.1.1)), (h_newB, .inl (cI, 300, .inl res.2.2.2.1.2.2.2.1)), (h_newDifference, .inl (cL, 300, .inr (.inl res.2.2.2.1.2.1))), (h_newA, .inl (cL, 300, .inr (.inl res.2.2.2.1.2.2.1))), (h_log, .inl (cI, 5000, .inl res.2.2.2.2.1.1)), (h_packed, .inl (cI, 5000, .inl res.2.2.2.2.2.1.1))] := by
  refine Fn.ofW (cc := b_Model_pack) (maxL := 2) (ret := (some .int)) (by decide) rfl (Nat.le_of_ble_eq_true rfl) ?_
  intro p e s m below meth c A ls C hH hinit hl
  have hl : lv_has ls 2 [(0, .ref h)] := hl
  obtain ⟨hx, hb, hr, hml, hown, hts, hlk, hK, hA⟩ := id C
  unfold f_Model_pack at hf
  refine lv_aload_n hx hb d_Model_pack_0 rfl (lv_at hl 0 rfl) ?_
  refine lv_iconst (v := 0) hx hb d_Model_pack_1 (by decide) ?_
  refine pt (ci := 6) (v := .int 0) C hH (iwT iw_Model) ty_Model tyok_Model nm_Model 0 rfl rfl 0 (by decide) (.tail _ wd_596) rfl rfl rfl (Nat.le_of_ble_eq_true rfl) d_Model_pack_2 [(h, .inr (6, [.int 0, .int st.2.1.2.2.2.2, .ref h_kind, .ref h_b, .ref h_difference, .ref h_a, .int st.2.2.1.2.2.2.2, .ref h_newKind, .ref h_newB, .ref h_newDifference, .ref h_newA, .int st.2.2.2.1.2, .ref h_log, .ref h_packed, .int st.2.2.2.2.1.2, .int st.2.2.2.2.2.1.1, .int st.2.2.2.2.2.1.2.1, .int st.2.2.2.2.2.1.2.2.1, .int st.2.2.2.2.2.1.2.2.2, .int st.2.2.2.2.2.2.1, .int st.2.2.2.2.2.2.2])), (h_kind, .inl (cI, 300, .inl st.2.1.1)), (h_b, .inl (cI, 300, .inl st.2.1.2.2.2.1)), (h_difference, .inl (cL, 300, .inr (.inl st.2.1.2.1))), (h_a, .inl (cL, 300, .inr (.inl st.2.1.2.2.1))), (h_newKind, .inl (cI, 300, .inl st.2.2.1.1)), (h_newB, .inl (cI, 300, .inl st.2.2.1.2.2.2.1)), (h_newDifference, .inl (cL, 300, .inr (.inl st.2.2.1.2.1))), (h_newA, .inl (cL, 300, .inr (.inl st.2.2.1.2.2.1))), (h_log, .inl (cI, 5000, .inl st.2.2.2.1.1)), (h_packed, .inl (cI, 5000, .inl st.2.2.2.2.1.1))] rfl (fun H locs hH => ?_)
  refine lv_aload_n hx hb d_Model_pack_5 rfl (lv_at hl 0 rfl) ?_
  obtain ⟨r6, hr6, hf⟩ := ob hf
  refine fnV (rest := []) (wr := []) (w2 := [(h, .inr (6, [.int r6.1, .int r6.2.1.2.2.2.2, .ref h_kind, .ref h_b, .ref h_difference, .ref h_a, .int r6.2.2.1.2.2.2.2, .ref h_newKind, .ref h_newB, .ref h_newDifference, .ref h_newA, .int r6.2.2.2.1.2, .ref h_log, .ref h_packed, .int r6.2.2.2.2.1.2, .int r6.2.2.2.2.2.1.1, .int r6.2.2.2.2.2.1.2.1, .int r6.2.2.2.2.2.1.2.2.1, .int r6.2.2.2.2.2.1.2.2.2, .int r6.2.2.2.2.2.2.1, .int r6.2.2.2.2.2.2.2])), (h_kind, .inl (cI, 300, .inl r6.2.1.1)), (h_b, .inl (cI, 300, .inl r6.2.1.2.2.2.1)), (h_difference, .inl (cL, 300, .inr (.inl r6.2.1.2.1))), (h_a, .inl (cL, 300, .inr (.inl r6.2.1.2.2.1))), (h_newKind, .inl (cI, 300, .inl r6.2.2.1.1)), (h_newB, .inl (cI, 300, .inl r6.2.2.1.2.2.2.1)), (h_newDifference, .inl (cL, 300, .inr (.inl r6.2.2.1.2.1))), (h_newA, .inl (cL, 300, .inr (.inl r6.2.2.1.2.2.1))), (h_log, .inl (cI, 5000, .inl r6.2.2.2.1.1)), (h_packed, .inl (cI, 5000, .inl r6.2.2.2.2.1.1))]) (st2 := []) C (c_Model_makeUp l D cI cL h h_kind h_b h_difference h_a h_newKind h_newB h_newDifference h_newA h_log h_packed ((0, st.2.1, st.2.2.1, st.2.2.2.1, st.2.2.2.2.1, st.2.2.2.2.2.1, st.2.2.2.2.2.2.1, st.2.2.2.2.2.2.2)) r6 hr6) (cV hts kV_Model_makeUp wd_694 ⟨Nat.le_of_ble_eq_true rfl, Nat.le_of_ble_eq_true rfl⟩) hH [0, 1, 2, 3, 4, 5, 6, 7, 8, 9, 10] [] [0, 1, 2, 3, 4, 5, 6, 7, 8, 9, 10] rfl rfl rfl rfl (by decide) rfl rfl 0 rfl rfl rfl hl.1 rfl (Nat.le_of_ble_eq_true rfl) d_Model_pack_6 ⟨Nat.le_of_ble_eq_true rfl, Nat.le_of_ble_eq_true rfl⟩ rfl (fun H locs hH => ?_)
  refine lv_aload_n hx hb d_Model_pack_9 rfl (lv_at hl 0 rfl) ?_
  refine lv_aload_n hx hb d_Model_pack_10 rfl (lv_at hl 0 rfl) ?_
  refine gt (ci := 6) (v := .int r6.2.2.2.2.1.2) C hH (iwT iw_Model) 0 rfl rfl 14 (by decide) (.tail _ wd_610) rfl d_Model_pack_11 ?_
  refine pt (ci := 6) (v := .int r6.2.2.2.2.1.2) C hH (iwT iw_Model) ty_Model tyok_Model nm_Model 0 rfl rfl 11 (by decide) (.tail _ wd_607) rfl rfl rfl (Nat.le_of_ble_eq_true rfl) d_Model_pack_14 [(h, .inr (6, [.int r6.1, .int r6.2.1.2.2.2.2, .ref h_kind, .ref h_b, .ref h_difference, .ref h_a, .int r6.2.2.1.2.2.2.2, .ref h_newKind, .ref h_newB, .ref h_newDifference, .ref h_newA, .int r6.2.2.2.2.1.2, .ref h_log, .ref h_packed, .int r6.2.2.2.2.1.2, .int r6.2.2.2.2.2.1.1, .int r6.2.2.2.2.2.1.2.1, .int r6.2.2.2.2.2.1.2.2.1, .int r6.2.2.2.2.2.1.2.2.2, .int r6.2.2.2.2.2.2.1, .int r6.2.2.2.2.2.2.2])), (h_kind, .inl (cI, 300, .inl r6.2.1.1)), (h_b, .inl (cI, 300, .inl r6.2.1.2.2.2.1)), (h_difference, .inl (cL, 300, .inr (.inl r6.2.1.2.1))), (h_a, .inl (cL, 300, .inr (.inl r6.2.1.2.2.1))), (h_newKind, .inl (cI, 300, .inl r6.2.2.1.1)), (h_newB, .inl (cI, 300, .inl r6.2.2.1.2.2.2.1)), (h_newDifference, .inl (cL, 300, .inr (.inl r6.2.2.1.2.1))), (h_newA, .inl (cL, 300, .inr (.inl r6.2.2.1.2.2.1))), (h_log, .inl (cI, 5000, .inl r6.2.2.2.1.1)), (h_packed, .inl (cI, 5000, .inl r6.2.2.2.2.1.1))] rfl (fun H locs hH => ?_)
  refine lv_iconst (v := 0) hx hb d_Model_pack_17 (by decide) ?_
  refine lv_istore_n (lv' := [(1, .int 0), (0, .ref h)]) hx hb d_Model_pack_18 rfl hl (by decide) rfl (fun ls hl => ?_)
  exact w_Model_pack_b19 l D cI cL h h_kind h_b h_difference h_a h_newKind h_newB h_newDifference h_newA h_log h_packed C 6000 ((r6.1, r6.2.1, r6.2.2.1, (r6.2.2.2.1.1, r6.2.2.2.2.1.2), r6.2.2.2.2.1, r6.2.2.2.2.2.1, r6.2.2.2.2.2.2.1, r6.2.2.2.2.2.2.2)) 0 res hf _ _ _ hH (lv_sub hl [1, 0] rfl)
def f_Model_size (st : S_Model)  : Option (Int32 × S_Model) :=
  (f_Model_makeUp ((0, st.2.1, st.2.2.1, st.2.2.2.1, st.2.2.2.2.1, st.2.2.2.2.2.1, st.2.2.2.2.2.2.1, st.2.2.2.2.2.2.2))).bind (fun r6 => some ((r6.2.2.2.2.1.2, r6)))
set_option maxRecDepth 100000 in
set_option maxHeartbeats 4000000 in
theorem c_Model_size (l : Launch) (D : va_G) (cI cL : ClassId) (h h_kind h_b h_difference h_a h_newKind h_newB h_newDifference h_newA h_log h_packed : Nat) (st : S_Model)  (res : Int32 × S_Model) (hf : f_Model_size st = some res) :
    Fn l D vwCl [(cI, .int), (cL, .long)] y_Model_size ws_Model_size { frames := 4, cells := 0, slots := 0, locals := 95 } [.ref h] [(h, .inr (6, [.int st.1, .int st.2.1.2.2.2.2, .ref h_kind, .ref h_b, .ref h_difference, .ref h_a, .int st.2.2.1.2.2.2.2, .ref h_newKind, .ref h_newB, .ref h_newDifference, .ref h_newA, .int st.2.2.2.1.2, .ref h_log, .ref h_packed, .int st.2.2.2.2.1.2, .int st.2.2.2.2.2.1.1, .int st.2.2.2.2.2.1.2.1, .int st.2.2.2.2.2.1.2.2.1, .int st.2.2.2.2.2.1.2.2.2, .int st.2.2.2.2.2.2.1, .int st.2.2.2.2.2.2.2])), (h_kind, .inl (cI, 300, .inl st.2.1.1)), (h_b, .inl (cI, 300, .inl st.2.1.2.2.2.1)), (h_difference, .inl (cL, 300, .inr (.inl st.2.1.2.1))), (h_a, .inl (cL, 300, .inr (.inl st.2.1.2.2.1))), (h_newKind, .inl (cI, 300, .inl st.2.2.1.1)), (h_newB, .inl (cI, 300, .inl st.2.2.1.2.2.2.1)), (h_newDifference, .inl (cL, 300, .inr (.inl st.2.2.1.2.1))), (h_newA, .inl (cL, 300, .inr (.inl st.2.2.1.2.2.1))), (h_log, .inl (cI, 5000, .inl st.2.2.2.1.1)), (h_packed, .inl (cI, 5000, .inl st.2.2.2.2.1.1))] (some (.int res.1)) [(h, .inr (6, [.int res.2.1, .int res.2.2.1.2.2.2.2, .ref h_kind, .ref h_b, .ref h_difference, .ref h_a, .int res.2.2.2.1.2.2.2.2, .ref h_newKind, .ref h_newB, .ref h_newDifference, .ref h_newA, .int res.2.2.2.2.1.2, .ref h_log, .ref h_packed, .int res.2.2.2.2.2.1.2, .int res.2.2.2.2.2.2.1.1, .int res.2.2.2.2.2.2.1.2.1, .int res.2.2.2.2.2.2.1.2.2.1, .int res.2.2.2.2.2.2.1.2.2.2, .int res.2.2.2.2.2.2.2.1, .int res.2.2.2.2.2.2.2.2])), (h_kind, .inl (cI, 300, .inl res.2.2.1.1)), (h_b, .inl (cI, 300, .inl res.2.2.1.2.2.2.1)), (h_difference, .inl (cL, 300, .inr (.inl res.2.2.1.2.1))), (h_a, .inl (cL, 300, .inr (.inl res.2.2.1.2.2.1))), (h_newKind, .inl (cI, 300, .inl res.2.2.2.1.1)), (h_newB, .inl (cI, 300, .inl res.2.2.2.1.2.2.2.1)), (h_newDifference, .inl (cL, 300, .inr (.inl res.2.2.2.1.2.1))), (h_newA, .inl (cL, 300, .inr (.inl res.2.2.2.1.2.2.1))), (h_log, .inl (cI, 5000, .inl res.2.2.2.2.1.1)), (h_packed, .inl (cI, 5000, .inl res.2.2.2.2.2.1.1))] := by
  refine Fn.ofW (cc := b_Model_size) (maxL := 1) (ret := (some .int)) (by decide) rfl (Nat.le_of_ble_eq_true rfl) ?_
  intro p e s m below meth c A ls C hH hinit hl
  have hl : lv_has ls 1 [(0, .ref h)] := hl
  obtain ⟨hx, hb, hr, hml, hown, hts, hlk, hK, hA⟩ := id C
  unfold f_Model_size at hf
  refine lv_aload_n hx hb d_Model_size_0 rfl (lv_at hl 0 rfl) ?_
  refine lv_iconst (v := 0) hx hb d_Model_size_1 (by decide) ?_
  refine pt (ci := 6) (v := .int 0) C hH (iwT iw_Model) ty_Model tyok_Model nm_Model 0 rfl rfl 0 (by decide) (.tail _ wd_596) rfl rfl rfl (Nat.le_of_ble_eq_true rfl) d_Model_size_2 [(h, .inr (6, [.int 0, .int st.2.1.2.2.2.2, .ref h_kind, .ref h_b, .ref h_difference, .ref h_a, .int st.2.2.1.2.2.2.2, .ref h_newKind, .ref h_newB, .ref h_newDifference, .ref h_newA, .int st.2.2.2.1.2, .ref h_log, .ref h_packed, .int st.2.2.2.2.1.2, .int st.2.2.2.2.2.1.1, .int st.2.2.2.2.2.1.2.1, .int st.2.2.2.2.2.1.2.2.1, .int st.2.2.2.2.2.1.2.2.2, .int st.2.2.2.2.2.2.1, .int st.2.2.2.2.2.2.2])), (h_kind, .inl (cI, 300, .inl st.2.1.1)), (h_b, .inl (cI, 300, .inl st.2.1.2.2.2.1)), (h_difference, .inl (cL, 300, .inr (.inl st.2.1.2.1))), (h_a, .inl (cL, 300, .inr (.inl st.2.1.2.2.1))), (h_newKind, .inl (cI, 300, .inl st.2.2.1.1)), (h_newB, .inl (cI, 300, .inl st.2.2.1.2.2.2.1)), (h_newDifference, .inl (cL, 300, .inr (.inl st.2.2.1.2.1))), (h_newA, .inl (cL, 300, .inr (.inl st.2.2.1.2.2.1))), (h_log, .inl (cI, 5000, .inl st.2.2.2.1.1)), (h_packed, .inl (cI, 5000, .inl st.2.2.2.2.1.1))] rfl (fun H locs hH => ?_)
  refine lv_aload_n hx hb d_Model_size_5 rfl (lv_at hl 0 rfl) ?_
  obtain ⟨r6, hr6, hf⟩ := ob hf
  refine fnV (rest := []) (wr := []) (w2 := [(h, .inr (6, [.int r6.1, .int r6.2.1.2.2.2.2, .ref h_kind, .ref h_b, .ref h_difference, .ref h_a, .int r6.2.2.1.2.2.2.2, .ref h_newKind, .ref h_newB, .ref h_newDifference, .ref h_newA, .int r6.2.2.2.1.2, .ref h_log, .ref h_packed, .int r6.2.2.2.2.1.2, .int r6.2.2.2.2.2.1.1, .int r6.2.2.2.2.2.1.2.1, .int r6.2.2.2.2.2.1.2.2.1, .int r6.2.2.2.2.2.1.2.2.2, .int r6.2.2.2.2.2.2.1, .int r6.2.2.2.2.2.2.2])), (h_kind, .inl (cI, 300, .inl r6.2.1.1)), (h_b, .inl (cI, 300, .inl r6.2.1.2.2.2.1)), (h_difference, .inl (cL, 300, .inr (.inl r6.2.1.2.1))), (h_a, .inl (cL, 300, .inr (.inl r6.2.1.2.2.1))), (h_newKind, .inl (cI, 300, .inl r6.2.2.1.1)), (h_newB, .inl (cI, 300, .inl r6.2.2.1.2.2.2.1)), (h_newDifference, .inl (cL, 300, .inr (.inl r6.2.2.1.2.1))), (h_newA, .inl (cL, 300, .inr (.inl r6.2.2.1.2.2.1))), (h_log, .inl (cI, 5000, .inl r6.2.2.2.1.1)), (h_packed, .inl (cI, 5000, .inl r6.2.2.2.2.1.1))]) (st2 := []) C (c_Model_makeUp l D cI cL h h_kind h_b h_difference h_a h_newKind h_newB h_newDifference h_newA h_log h_packed ((0, st.2.1, st.2.2.1, st.2.2.2.1, st.2.2.2.2.1, st.2.2.2.2.2.1, st.2.2.2.2.2.2.1, st.2.2.2.2.2.2.2)) r6 hr6) (cV hts kV_Model_makeUp wd_694 ⟨Nat.le_of_ble_eq_true rfl, Nat.le_of_ble_eq_true rfl⟩) hH [0, 1, 2, 3, 4, 5, 6, 7, 8, 9, 10] [] [0, 1, 2, 3, 4, 5, 6, 7, 8, 9, 10] rfl rfl rfl rfl (by decide) rfl rfl 0 rfl rfl rfl hl.1 rfl (Nat.le_of_ble_eq_true rfl) d_Model_size_6 ⟨Nat.le_of_ble_eq_true rfl, Nat.le_of_ble_eq_true rfl⟩ rfl (fun H locs hH => ?_)
  refine lv_aload_n hx hb d_Model_size_9 rfl (lv_at hl 0 rfl) ?_
  refine gt (ci := 6) (v := .int r6.2.2.2.2.1.2) C hH (iwT iw_Model) 0 rfl rfl 14 (by decide) (.tail _ wd_610) rfl d_Model_size_10 ?_
  have hf := Option.some.inj hf
  subst hf
  exact rI (v := r6.2.2.2.2.1.2) C hH d_Model_size_13
def f_Model_meet (st : S_Model) (x1 : Int32) (x2 : Int32) : S_Model :=
  if st.2.2.2.2.2.2.2 = 0 then ((st.1, st.2.1, st.2.2.1, st.2.2.2.1, st.2.2.2.2.1, st.2.2.2.2.2.1, st.2.2.2.2.2.2.1, x1 + ((8 : Int32) * x2))) else (st)
set_option maxRecDepth 100000 in
set_option maxHeartbeats 4000000 in
theorem c_Model_meet (l : Launch) (D : va_G) (cI cL : ClassId) (h h_kind h_b h_difference h_a h_newKind h_newB h_newDifference h_newA h_log h_packed : Nat) (st : S_Model) (x1 : Int32) (x2 : Int32) (res : S_Model) (hf : f_Model_meet st x1 x2 = res) :
    Fn l D vwCl [(cI, .int), (cL, .long)] y_Model_meet ws_Model_meet { frames := 0, cells := 0, slots := 0, locals := 0 } [.ref h, .int x1, .int x2] [(h, .inr (6, [.int st.1, .int st.2.1.2.2.2.2, .ref h_kind, .ref h_b, .ref h_difference, .ref h_a, .int st.2.2.1.2.2.2.2, .ref h_newKind, .ref h_newB, .ref h_newDifference, .ref h_newA, .int st.2.2.2.1.2, .ref h_log, .ref h_packed, .int st.2.2.2.2.1.2, .int st.2.2.2.2.2.1.1, .int st.2.2.2.2.2.1.2.1, .int st.2.2.2.2.2.1.2.2.1, .int st.2.2.2.2.2.1.2.2.2, .int st.2.2.2.2.2.2.1, .int st.2.2.2.2.2.2.2])), (h_kind, .inl (cI, 300, .inl st.2.1.1)), (h_b, .inl (cI, 300, .inl st.2.1.2.2.2.1)), (h_difference, .inl (cL, 300, .inr (.inl st.2.1.2.1))), (h_a, .inl (cL, 300, .inr (.inl st.2.1.2.2.1))), (h_newKind, .inl (cI, 300, .inl st.2.2.1.1)), (h_newB, .inl (cI, 300, .inl st.2.2.1.2.2.2.1)), (h_newDifference, .inl (cL, 300, .inr (.inl st.2.2.1.2.1))), (h_newA, .inl (cL, 300, .inr (.inl st.2.2.1.2.2.1))), (h_log, .inl (cI, 5000, .inl st.2.2.2.1.1)), (h_packed, .inl (cI, 5000, .inl st.2.2.2.2.1.1))] (none) [(h, .inr (6, [.int res.1, .int res.2.1.2.2.2.2, .ref h_kind, .ref h_b, .ref h_difference, .ref h_a, .int res.2.2.1.2.2.2.2, .ref h_newKind, .ref h_newB, .ref h_newDifference, .ref h_newA, .int res.2.2.2.1.2, .ref h_log, .ref h_packed, .int res.2.2.2.2.1.2, .int res.2.2.2.2.2.1.1, .int res.2.2.2.2.2.1.2.1, .int res.2.2.2.2.2.1.2.2.1, .int res.2.2.2.2.2.1.2.2.2, .int res.2.2.2.2.2.2.1, .int res.2.2.2.2.2.2.2])), (h_kind, .inl (cI, 300, .inl res.2.1.1)), (h_b, .inl (cI, 300, .inl res.2.1.2.2.2.1)), (h_difference, .inl (cL, 300, .inr (.inl res.2.1.2.1))), (h_a, .inl (cL, 300, .inr (.inl res.2.1.2.2.1))), (h_newKind, .inl (cI, 300, .inl res.2.2.1.1)), (h_newB, .inl (cI, 300, .inl res.2.2.1.2.2.2.1)), (h_newDifference, .inl (cL, 300, .inr (.inl res.2.2.1.2.1))), (h_newA, .inl (cL, 300, .inr (.inl res.2.2.1.2.2.1))), (h_log, .inl (cI, 5000, .inl res.2.2.2.1.1)), (h_packed, .inl (cI, 5000, .inl res.2.2.2.2.1.1))] := by
  refine Fn.ofW (cc := b_Model_meet) (maxL := 3) (ret := none) (by decide) rfl (Nat.le_of_ble_eq_true rfl) ?_
  intro p e s m below meth c A ls C hH hinit hl
  have hl : lv_has ls 3 [(0, .ref h), (1, .int x1), (2, .int x2)] := hl
  obtain ⟨hx, hb, hr, hml, hown, hts, hlk, hK, hA⟩ := id C
  unfold f_Model_meet at hf
  refine lv_aload_n hx hb d_Model_meet_0 rfl (lv_at hl 0 rfl) ?_
  refine gt (ci := 6) (v := .int st.2.2.2.2.2.2.2) C hH (iwT iw_Model) 0 rfl rfl 20 (by decide) (.tail _ wd_616) rfl d_Model_meet_1 ?_
  refine lv_if_ne (tgt := 17) hx hb d_Model_meet_4 (by decide) (fun hc4 => ?_) (fun hc4 => ?_)
  · have hf := im hc4 hf
    subst hf
    exact rV C hH d_Model_meet_17
  · have hf := ip hc4 hf
    refine lv_aload_n hx hb d_Model_meet_7 rfl (lv_at hl 0 rfl) ?_
    refine lv_iload_n hx hb d_Model_meet_8 rfl (lv_at hl 1 rfl) ?_
    refine lv_bipush (v := 8) hx hb d_Model_meet_9 (by decide) ?_
    refine lv_iload_n hx hb d_Model_meet_11 rfl (lv_at hl 2 rfl) ?_
    refine lv_imul hx hb d_Model_meet_12 ?_
    refine lv_iadd hx hb d_Model_meet_13 ?_
    refine pt (ci := 6) (v := .int (x1 + ((8 : Int32) * x2))) C hH (iwT iw_Model) ty_Model tyok_Model nm_Model 0 rfl rfl 20 (by decide) (.tail _ wd_616) rfl rfl rfl (Nat.le_of_ble_eq_true rfl) d_Model_meet_14 [(h, .inr (6, [.int st.1, .int st.2.1.2.2.2.2, .ref h_kind, .ref h_b, .ref h_difference, .ref h_a, .int st.2.2.1.2.2.2.2, .ref h_newKind, .ref h_newB, .ref h_newDifference, .ref h_newA, .int st.2.2.2.1.2, .ref h_log, .ref h_packed, .int st.2.2.2.2.1.2, .int st.2.2.2.2.2.1.1, .int st.2.2.2.2.2.1.2.1, .int st.2.2.2.2.2.1.2.2.1, .int st.2.2.2.2.2.1.2.2.2, .int st.2.2.2.2.2.2.1, .int (x1 + ((8 : Int32) * x2))])), (h_kind, .inl (cI, 300, .inl st.2.1.1)), (h_b, .inl (cI, 300, .inl st.2.1.2.2.2.1)), (h_difference, .inl (cL, 300, .inr (.inl st.2.1.2.1))), (h_a, .inl (cL, 300, .inr (.inl st.2.1.2.2.1))), (h_newKind, .inl (cI, 300, .inl st.2.2.1.1)), (h_newB, .inl (cI, 300, .inl st.2.2.1.2.2.2.1)), (h_newDifference, .inl (cL, 300, .inr (.inl st.2.2.1.2.1))), (h_newA, .inl (cL, 300, .inr (.inl st.2.2.1.2.2.1))), (h_log, .inl (cI, 5000, .inl st.2.2.2.1.1)), (h_packed, .inl (cI, 5000, .inl st.2.2.2.2.1.1))] rfl (fun H locs hH => ?_)
    subst hf
    exact rV C hH d_Model_meet_17
def f_Model_next_b20 (st : S_Model)  : Option (Int32 × S_Model) :=
  if st.2.2.2.2.2.2.2 ≤ 0 then (if ((st.2.2.2.2.2.2.1 + 1) - 1) < 0 ∨ 5000 ≤ ((st.2.2.2.2.2.2.1 + 1) - 1).toNatClampNeg then none else some ((st.2.2.2.1.1 ((st.2.2.2.2.2.2.1 + 1) - 1).toNatClampNeg, (st.1, st.2.1, st.2.2.1, st.2.2.2.1, st.2.2.2.2.1, st.2.2.2.2.2.1, st.2.2.2.2.2.2.1 + 1, st.2.2.2.2.2.2.2)))) else (some ((0, (st.1, st.2.1, st.2.2.1, st.2.2.2.1, st.2.2.2.2.1, st.2.2.2.2.2.1, st.2.2.2.2.2.2.1 + 1, st.2.2.2.2.2.2.2))))
set_option maxRecDepth 100000 in
set_option maxHeartbeats 4000000 in
theorem w_Model_next_b20 (l : Launch) (D : va_G) (cI cL : ClassId) (h h_kind h_b h_difference h_a h_newKind h_newB h_newDifference h_newA h_log h_packed : Nat) {p : Program} {e : Env} {s : State} {m : MethodId} {args : Array Value} {below : List Frame} {meth : Method} {c : Code} {A : Nat → Prop} (C : Cx p s m args meth c D vwCl [(cI, .int), (cL, .long)] A b_Model_next 1 (some .int) ws_Model_next y_Model_next.cls) : ∀ (st : S_Model)  (res : Int32 × S_Model), f_Model_next_b20 st = some res → ∀ (H : Heap) (locs : List Loc) (ls : Array Slot), Hp D vwCl A A s.heap H locs [(h, .inr (6, [.int st.1, .int st.2.1.2.2.2.2, .ref h_kind, .ref h_b, .ref h_difference, .ref h_a, .int st.2.2.1.2.2.2.2, .ref h_newKind, .ref h_newB, .ref h_newDifference, .ref h_newA, .int st.2.2.2.1.2, .ref h_log, .ref h_packed, .int st.2.2.2.2.1.2, .int st.2.2.2.2.2.1.1, .int st.2.2.2.2.2.1.2.1, .int st.2.2.2.2.2.1.2.2.1, .int st.2.2.2.2.2.1.2.2.2, .int st.2.2.2.2.2.2.1, .int st.2.2.2.2.2.2.2])), (h_kind, .inl (cI, 300, .inl st.2.1.1)), (h_b, .inl (cI, 300, .inl st.2.1.2.2.2.1)), (h_difference, .inl (cL, 300, .inr (.inl st.2.1.2.1))), (h_a, .inl (cL, 300, .inr (.inl st.2.1.2.2.1))), (h_newKind, .inl (cI, 300, .inl st.2.2.1.1)), (h_newB, .inl (cI, 300, .inl st.2.2.1.2.2.2.1)), (h_newDifference, .inl (cL, 300, .inr (.inl st.2.2.1.2.1))), (h_newA, .inl (cL, 300, .inr (.inl st.2.2.1.2.2.1))), (h_log, .inl (cI, 5000, .inl st.2.2.2.1.1)), (h_packed, .inl (cI, 5000, .inl st.2.2.2.2.1.1))] → lv_has ls 1 [(0, .ref h)] → W p l e { frames := 1, cells := 0, slots := 0, locals := 22 } s m args below meth c H locs 0 0 (MQ below (Qw D vwCl [(cI, .int), (cL, .long)] (some (.int res.1)) A [(h, .inr (6, [.int res.2.1, .int res.2.2.1.2.2.2.2, .ref h_kind, .ref h_b, .ref h_difference, .ref h_a, .int res.2.2.2.1.2.2.2.2, .ref h_newKind, .ref h_newB, .ref h_newDifference, .ref h_newA, .int res.2.2.2.2.1.2, .ref h_log, .ref h_packed, .int res.2.2.2.2.2.1.2, .int res.2.2.2.2.2.2.1.1, .int res.2.2.2.2.2.2.1.2.1, .int res.2.2.2.2.2.2.1.2.2.1, .int res.2.2.2.2.2.2.1.2.2.2, .int res.2.2.2.2.2.2.2.1, .int res.2.2.2.2.2.2.2.2])), (h_kind, .inl (cI, 300, .inl res.2.2.1.1)), (h_b, .inl (cI, 300, .inl res.2.2.1.2.2.2.1)), (h_difference, .inl (cL, 300, .inr (.inl res.2.2.1.2.1))), (h_a, .inl (cL, 300, .inr (.inl res.2.2.1.2.2.1))), (h_newKind, .inl (cI, 300, .inl res.2.2.2.1.1)), (h_newB, .inl (cI, 300, .inl res.2.2.2.1.2.2.2.1)), (h_newDifference, .inl (cL, 300, .inr (.inl res.2.2.2.1.2.1))), (h_newA, .inl (cL, 300, .inr (.inl res.2.2.2.1.2.2.1))), (h_log, .inl (cI, 5000, .inl res.2.2.2.2.1.1)), (h_packed, .inl (cI, 5000, .inl res.2.2.2.2.2.1.1))]) args s 0 0 A) (F0 m 20 ls []) := by
  obtain ⟨hx, hb, hr, hml, hown, hts, hlk, hK, hA⟩ := id C
  intro st res hf H locs ls hH hl
  unfold f_Model_next_b20 at hf
  refine lv_aload_n hx hb d_Model_next_20 rfl (lv_at hl 0 rfl) ?_
  refine lv_dup hx hb d_Model_next_21 rfl ?_
  refine gt (ci := 6) (v := .int st.2.2.2.2.2.2.1) C hH (iwT iw_Model) 0 rfl rfl 19 (by decide) (.tail _ wd_615) rfl d_Model_next_22 ?_
  refine lv_iconst (v := 1) hx hb d_Model_next_25 (by decide) ?_
  refine lv_iadd hx hb d_Model_next_26 ?_
  refine pt (ci := 6) (v := .int (st.2.2.2.2.2.2.1 + 1)) C hH (iwT iw_Model) ty_Model tyok_Model nm_Model 0 rfl rfl 19 (by decide) (.tail _ wd_615) rfl rfl rfl (Nat.le_of_ble_eq_true rfl) d_Model_next_27 [(h, .inr (6, [.int st.1, .int st.2.1.2.2.2.2, .ref h_kind, .ref h_b, .ref h_difference, .ref h_a, .int st.2.2.1.2.2.2.2, .ref h_newKind, .ref h_newB, .ref h_newDifference, .ref h_newA, .int st.2.2.2.1.2, .ref h_log, .ref h_packed, .int st.2.2.2.2.1.2, .int st.2.2.2.2.2.1.1, .int st.2.2.2.2.2.1.2.1, .int st.2.2.2.2.2.1.2.2.1, .int st.2.2.2.2.2.1.2.2.2, .int (st.2.2.2.2.2.2.1 + 1), .int st.2.2.2.2.2.2.2])), (h_kind, .inl (cI, 300, .inl st.2.1.1)), (h_b, .inl (cI, 300, .inl st.2.1.2.2.2.1)), (h_difference, .inl (cL, 300, .inr (.inl st.2.1.2.1))), (h_a, .inl (cL, 300, .inr (.inl st.2.1.2.2.1))), (h_newKind, .inl (cI, 300, .inl st.2.2.1.1)), (h_newB, .inl (cI, 300, .inl st.2.2.1.2.2.2.1)), (h_newDifference, .inl (cL, 300, .inr (.inl st.2.2.1.2.1))), (h_newA, .inl (cL, 300, .inr (.inl st.2.2.1.2.2.1))), (h_log, .inl (cI, 5000, .inl st.2.2.2.1.1)), (h_packed, .inl (cI, 5000, .inl st.2.2.2.2.1.1))] rfl (fun H locs hH => ?_)
  refine lv_aload_n hx hb d_Model_next_30 rfl (lv_at hl 0 rfl) ?_
  refine gt (ci := 6) (v := .int st.2.2.2.2.2.2.2) C hH (iwT iw_Model) 0 rfl rfl 20 (by decide) (.tail _ wd_616) rfl d_Model_next_31 ?_
  refine lv_if_le (tgt := 41) hx hb d_Model_next_34 (by decide) (fun hc34 => ?_) (fun hc34 => ?_)
  · have hf := ip hc34 hf
    refine lv_aload_n hx hb d_Model_next_41 rfl (lv_at hl 0 rfl) ?_
    refine gt (ci := 6) (v := .ref h_log) C hH (iwT iw_Model) 0 rfl rfl 12 (by decide) (.tail _ wd_608) rfl d_Model_next_42 ?_
    refine lv_aload_n hx hb d_Model_next_45 rfl (lv_at hl 0 rfl) ?_
    refine gt (ci := 6) (v := .int (st.2.2.2.2.2.2.1 + 1)) C hH (iwT iw_Model) 0 rfl rfl 19 (by decide) (.tail _ wd_615) rfl d_Model_next_46 ?_
    refine lv_iconst (v := 1) hx hb d_Model_next_49 (by decide) ?_
    refine lv_isub hx hb d_Model_next_50 ?_
    obtain ⟨hin51, hf⟩ := oa hf
    refine ali C hH 9 0 rfl rfl (hin51) d_Model_next_51 ?_
    have hf := Option.some.inj hf
    subst hf
    exact rI (v := st.2.2.2.1.1 ((st.2.2.2.2.2.2.1 + 1) - 1).toNatClampNeg) C hH d_Model_next_52
  · have hf := im hc34 hf
    refine lv_iconst (v := 0) hx hb d_Model_next_37 (by decide) ?_
    refine lv_goto (tgt := 52) hx hb d_Model_next_38 (by decide) ?_
    have hf := Option.some.inj hf
    subst hf
    exact rI (v := 0) C hH d_Model_next_52
def f_Model_next (st : S_Model)  : Option (Int32 × S_Model) :=
  if st.2.2.2.2.2.2.1 < st.2.2.2.1.2 then (f_Model_next_b20 st) else (lt1 (f_Model_meet st 2 st.2.2.2.1.2) (fun r17 => f_Model_next_b20 r17))
set_option maxRecDepth 100000 in
set_option maxHeartbeats 4000000 in
theorem c_Model_next (l : Launch) (D : va_G) (cI cL : ClassId) (h h_kind h_b h_difference h_a h_newKind h_newB h_newDifference h_newA h_log h_packed : Nat) (st : S_Model)  (res : Int32 × S_Model) (hf : f_Model_next st = some res) :
    Fn l D vwCl [(cI, .int), (cL, .long)] y_Model_next ws_Model_next { frames := 1, cells := 0, slots := 0, locals := 22 } [.ref h] [(h, .inr (6, [.int st.1, .int st.2.1.2.2.2.2, .ref h_kind, .ref h_b, .ref h_difference, .ref h_a, .int st.2.2.1.2.2.2.2, .ref h_newKind, .ref h_newB, .ref h_newDifference, .ref h_newA, .int st.2.2.2.1.2, .ref h_log, .ref h_packed, .int st.2.2.2.2.1.2, .int st.2.2.2.2.2.1.1, .int st.2.2.2.2.2.1.2.1, .int st.2.2.2.2.2.1.2.2.1, .int st.2.2.2.2.2.1.2.2.2, .int st.2.2.2.2.2.2.1, .int st.2.2.2.2.2.2.2])), (h_kind, .inl (cI, 300, .inl st.2.1.1)), (h_b, .inl (cI, 300, .inl st.2.1.2.2.2.1)), (h_difference, .inl (cL, 300, .inr (.inl st.2.1.2.1))), (h_a, .inl (cL, 300, .inr (.inl st.2.1.2.2.1))), (h_newKind, .inl (cI, 300, .inl st.2.2.1.1)), (h_newB, .inl (cI, 300, .inl st.2.2.1.2.2.2.1)), (h_newDifference, .inl (cL, 300, .inr (.inl st.2.2.1.2.1))), (h_newA, .inl (cL, 300, .inr (.inl st.2.2.1.2.2.1))), (h_log, .inl (cI, 5000, .inl st.2.2.2.1.1)), (h_packed, .inl (cI, 5000, .inl st.2.2.2.2.1.1))] (some (.int res.1)) [(h, .inr (6, [.int res.2.1, .int res.2.2.1.2.2.2.2, .ref h_kind, .ref h_b, .ref h_difference, .ref h_a, .int res.2.2.2.1.2.2.2.2, .ref h_newKind, .ref h_newB, .ref h_newDifference, .ref h_newA, .int res.2.2.2.2.1.2, .ref h_log, .ref h_packed, .int res.2.2.2.2.2.1.2, .int res.2.2.2.2.2.2.1.1, .int res.2.2.2.2.2.2.1.2.1, .int res.2.2.2.2.2.2.1.2.2.1, .int res.2.2.2.2.2.2.1.2.2.2, .int res.2.2.2.2.2.2.2.1, .int res.2.2.2.2.2.2.2.2])), (h_kind, .inl (cI, 300, .inl res.2.2.1.1)), (h_b, .inl (cI, 300, .inl res.2.2.1.2.2.2.1)), (h_difference, .inl (cL, 300, .inr (.inl res.2.2.1.2.1))), (h_a, .inl (cL, 300, .inr (.inl res.2.2.1.2.2.1))), (h_newKind, .inl (cI, 300, .inl res.2.2.2.1.1)), (h_newB, .inl (cI, 300, .inl res.2.2.2.1.2.2.2.1)), (h_newDifference, .inl (cL, 300, .inr (.inl res.2.2.2.1.2.1))), (h_newA, .inl (cL, 300, .inr (.inl res.2.2.2.1.2.2.1))), (h_log, .inl (cI, 5000, .inl res.2.2.2.2.1.1)), (h_packed, .inl (cI, 5000, .inl res.2.2.2.2.2.1.1))] := by
  refine Fn.ofW (cc := b_Model_next) (maxL := 1) (ret := (some .int)) (by decide) rfl (Nat.le_of_ble_eq_true rfl) ?_
  intro p e s m below meth c A ls C hH hinit hl
  have hl : lv_has ls 1 [(0, .ref h)] := hl
  obtain ⟨hx, hb, hr, hml, hown, hts, hlk, hK, hA⟩ := id C
  unfold f_Model_next at hf
  refine lv_aload_n hx hb d_Model_next_0 rfl (lv_at hl 0 rfl) ?_
  refine gt (ci := 6) (v := .int st.2.2.2.2.2.2.1) C hH (iwT iw_Model) 0 rfl rfl 19 (by decide) (.tail _ wd_615) rfl d_Model_next_1 ?_
  refine lv_aload_n hx hb d_Model_next_4 rfl (lv_at hl 0 rfl) ?_
  refine gt (ci := 6) (v := .int st.2.2.2.1.2) C hH (iwT iw_Model) 0 rfl rfl 11 (by decide) (.tail _ wd_607) rfl d_Model_next_5 ?_
  refine lv_icmp_lt (tgt := 20) hx hb d_Model_next_8 (by decide) (fun hc8 => ?_) (fun hc8 => ?_)
  · have hf := ip hc8 hf
    exact w_Model_next_b20 l D cI cL h h_kind h_b h_difference h_a h_newKind h_newB h_newDifference h_newA h_log h_packed C st res hf _ _ _ hH (lv_sub hl [0] rfl)
  · have hf := im hc8 hf
    refine lv_aload_n hx hb d_Model_next_11 rfl (lv_at hl 0 rfl) ?_
    refine lv_iconst (v := 2) hx hb d_Model_next_12 (by decide) ?_
    refine lv_aload_n hx hb d_Model_next_13 rfl (lv_at hl 0 rfl) ?_
    refine gt (ci := 6) (v := .int st.2.2.2.1.2) C hH (iwT iw_Model) 0 rfl rfl 11 (by decide) (.tail _ wd_607) rfl d_Model_next_14 ?_
    obtain ⟨r17, hr17, hf⟩ := lb hf
    refine fnV (rest := []) (wr := []) (w2 := [(h, .inr (6, [.int r17.1, .int r17.2.1.2.2.2.2, .ref h_kind, .ref h_b, .ref h_difference, .ref h_a, .int r17.2.2.1.2.2.2.2, .ref h_newKind, .ref h_newB, .ref h_newDifference, .ref h_newA, .int r17.2.2.2.1.2, .ref h_log, .ref h_packed, .int r17.2.2.2.2.1.2, .int r17.2.2.2.2.2.1.1, .int r17.2.2.2.2.2.1.2.1, .int r17.2.2.2.2.2.1.2.2.1, .int r17.2.2.2.2.2.1.2.2.2, .int r17.2.2.2.2.2.2.1, .int r17.2.2.2.2.2.2.2])), (h_kind, .inl (cI, 300, .inl r17.2.1.1)), (h_b, .inl (cI, 300, .inl r17.2.1.2.2.2.1)), (h_difference, .inl (cL, 300, .inr (.inl r17.2.1.2.1))), (h_a, .inl (cL, 300, .inr (.inl r17.2.1.2.2.1))), (h_newKind, .inl (cI, 300, .inl r17.2.2.1.1)), (h_newB, .inl (cI, 300, .inl r17.2.2.1.2.2.2.1)), (h_newDifference, .inl (cL, 300, .inr (.inl r17.2.2.1.2.1))), (h_newA, .inl (cL, 300, .inr (.inl r17.2.2.1.2.2.1))), (h_log, .inl (cI, 5000, .inl r17.2.2.2.1.1)), (h_packed, .inl (cI, 5000, .inl r17.2.2.2.2.1.1))]) (st2 := []) C (c_Model_meet l D cI cL h h_kind h_b h_difference h_a h_newKind h_newB h_newDifference h_newA h_log h_packed st 2 st.2.2.2.1.2 r17 hr17) (cV hts kV_Model_meet wd_747 ⟨Nat.le_of_ble_eq_true rfl, Nat.le_of_ble_eq_true rfl⟩) hH [0, 1, 2, 3, 4, 5, 6, 7, 8, 9, 10] [] [0, 1, 2, 3, 4, 5, 6, 7, 8, 9, 10] rfl rfl rfl rfl (by decide) rfl rfl 0 rfl rfl rfl hl.1 rfl (Nat.le_of_ble_eq_true rfl) d_Model_next_17 ⟨Nat.le_of_ble_eq_true rfl, Nat.le_of_ble_eq_true rfl⟩ rfl (fun H locs hH => ?_)
    exact w_Model_next_b20 l D cI cL h h_kind h_b h_difference h_a h_newKind h_newB h_newDifference h_newA h_log h_packed C r17 res hf _ _ _ hH (lv_sub hl [0] rfl)
def f_Model_readVarint_b91 (st : S_Model) (x1 : Int64) : Option (Int64 × S_Model) :=
  lt1 (f_Model_meet st 3 (st.2.2.2.2.2.2.1 - 1)) (fun r99 => some ((x1, r99)))
set_option maxRecDepth 100000 in
set_option maxHeartbeats 4000000 in
theorem w_Model_readVarint_b91 (l : Launch) (D : va_G) (cI cL : ClassId) (h h_kind h_b h_difference h_a h_newKind h_newB h_newDifference h_newA h_log h_packed : Nat) {p : Program} {e : Env} {s : State} {m : MethodId} {args : Array Value} {below : List Frame} {meth : Method} {c : Code} {A : Nat → Prop} (C : Cx p s m args meth c D vwCl [(cI, .int), (cL, .long)] A b_Model_readVarint 5 (some .long) ws_Model_readVarint y_Model_readVarint.cls) : ∀ (st : S_Model) (x1 : Int64) (res : Int64 × S_Model), f_Model_readVarint_b91 st x1 = some res → ∀ (H : Heap) (locs : List Loc) (ls : Array Slot), Hp D vwCl A A s.heap H locs [(h, .inr (6, [.int st.1, .int st.2.1.2.2.2.2, .ref h_kind, .ref h_b, .ref h_difference, .ref h_a, .int st.2.2.1.2.2.2.2, .ref h_newKind, .ref h_newB, .ref h_newDifference, .ref h_newA, .int st.2.2.2.1.2, .ref h_log, .ref h_packed, .int st.2.2.2.2.1.2, .int st.2.2.2.2.2.1.1, .int st.2.2.2.2.2.1.2.1, .int st.2.2.2.2.2.1.2.2.1, .int st.2.2.2.2.2.1.2.2.2, .int st.2.2.2.2.2.2.1, .int st.2.2.2.2.2.2.2])), (h_kind, .inl (cI, 300, .inl st.2.1.1)), (h_b, .inl (cI, 300, .inl st.2.1.2.2.2.1)), (h_difference, .inl (cL, 300, .inr (.inl st.2.1.2.1))), (h_a, .inl (cL, 300, .inr (.inl st.2.1.2.2.1))), (h_newKind, .inl (cI, 300, .inl st.2.2.1.1)), (h_newB, .inl (cI, 300, .inl st.2.2.1.2.2.2.1)), (h_newDifference, .inl (cL, 300, .inr (.inl st.2.2.1.2.1))), (h_newA, .inl (cL, 300, .inr (.inl st.2.2.1.2.2.1))), (h_log, .inl (cI, 5000, .inl st.2.2.2.1.1)), (h_packed, .inl (cI, 5000, .inl st.2.2.2.2.1.1))] → lv_has ls 5 [(0, .ref h), (1, .long x1)] → W p l e { frames := 2, cells := 0, slots := 0, locals := 42 } s m args below meth c H locs 0 0 (MQ below (Qw D vwCl [(cI, .int), (cL, .long)] (some (.long res.1)) A [(h, .inr (6, [.int res.2.1, .int res.2.2.1.2.2.2.2, .ref h_kind, .ref h_b, .ref h_difference, .ref h_a, .int res.2.2.2.1.2.2.2.2, .ref h_newKind, .ref h_newB, .ref h_newDifference, .ref h_newA, .int res.2.2.2.2.1.2, .ref h_log, .ref h_packed, .int res.2.2.2.2.2.1.2, .int res.2.2.2.2.2.2.1.1, .int res.2.2.2.2.2.2.1.2.1, .int res.2.2.2.2.2.2.1.2.2.1, .int res.2.2.2.2.2.2.1.2.2.2, .int res.2.2.2.2.2.2.2.1, .int res.2.2.2.2.2.2.2.2])), (h_kind, .inl (cI, 300, .inl res.2.2.1.1)), (h_b, .inl (cI, 300, .inl res.2.2.1.2.2.2.1)), (h_difference, .inl (cL, 300, .inr (.inl res.2.2.1.2.1))), (h_a, .inl (cL, 300, .inr (.inl res.2.2.1.2.2.1))), (h_newKind, .inl (cI, 300, .inl res.2.2.2.1.1)), (h_newB, .inl (cI, 300, .inl res.2.2.2.1.2.2.2.1)), (h_newDifference, .inl (cL, 300, .inr (.inl res.2.2.2.1.2.1))), (h_newA, .inl (cL, 300, .inr (.inl res.2.2.2.1.2.2.1))), (h_log, .inl (cI, 5000, .inl res.2.2.2.2.1.1)), (h_packed, .inl (cI, 5000, .inl res.2.2.2.2.2.1.1))]) args s 0 0 A) (F0 m 91 ls []) := by
  obtain ⟨hx, hb, hr, hml, hown, hts, hlk, hK, hA⟩ := id C
  intro st x1 res hf H locs ls hH hl
  unfold f_Model_readVarint_b91 at hf
  refine lv_aload_n hx hb d_Model_readVarint_91 rfl (lv_at hl 0 rfl) ?_
  refine lv_iconst (v := 3) hx hb d_Model_readVarint_92 (by decide) ?_
  refine lv_aload_n hx hb d_Model_readVarint_93 rfl (lv_at hl 0 rfl) ?_
  refine gt (ci := 6) (v := .int st.2.2.2.2.2.2.1) C hH (iwT iw_Model) 0 rfl rfl 19 (by decide) (.tail _ wd_615) rfl d_Model_readVarint_94 ?_
  refine lv_iconst (v := 1) hx hb d_Model_readVarint_97 (by decide) ?_
  refine lv_isub hx hb d_Model_readVarint_98 ?_
  obtain ⟨r99, hr99, hf⟩ := lb hf
  refine fnV (rest := []) (wr := []) (w2 := [(h, .inr (6, [.int r99.1, .int r99.2.1.2.2.2.2, .ref h_kind, .ref h_b, .ref h_difference, .ref h_a, .int r99.2.2.1.2.2.2.2, .ref h_newKind, .ref h_newB, .ref h_newDifference, .ref h_newA, .int r99.2.2.2.1.2, .ref h_log, .ref h_packed, .int r99.2.2.2.2.1.2, .int r99.2.2.2.2.2.1.1, .int r99.2.2.2.2.2.1.2.1, .int r99.2.2.2.2.2.1.2.2.1, .int r99.2.2.2.2.2.1.2.2.2, .int r99.2.2.2.2.2.2.1, .int r99.2.2.2.2.2.2.2])), (h_kind, .inl (cI, 300, .inl r99.2.1.1)), (h_b, .inl (cI, 300, .inl r99.2.1.2.2.2.1)), (h_difference, .inl (cL, 300, .inr (.inl r99.2.1.2.1))), (h_a, .inl (cL, 300, .inr (.inl r99.2.1.2.2.1))), (h_newKind, .inl (cI, 300, .inl r99.2.2.1.1)), (h_newB, .inl (cI, 300, .inl r99.2.2.1.2.2.2.1)), (h_newDifference, .inl (cL, 300, .inr (.inl r99.2.2.1.2.1))), (h_newA, .inl (cL, 300, .inr (.inl r99.2.2.1.2.2.1))), (h_log, .inl (cI, 5000, .inl r99.2.2.2.1.1)), (h_packed, .inl (cI, 5000, .inl r99.2.2.2.2.1.1))]) (st2 := []) C (c_Model_meet l D cI cL h h_kind h_b h_difference h_a h_newKind h_newB h_newDifference h_newA h_log h_packed st 3 (st.2.2.2.2.2.2.1 - 1) r99 hr99) (cV hts kV_Model_meet wd_747 ⟨Nat.le_of_ble_eq_true rfl, Nat.le_of_ble_eq_true rfl⟩) hH [0, 1, 2, 3, 4, 5, 6, 7, 8, 9, 10] [] [0, 1, 2, 3, 4, 5, 6, 7, 8, 9, 10] rfl rfl rfl rfl (by decide) rfl rfl 0 rfl rfl rfl hl.1 rfl (Nat.le_of_ble_eq_true rfl) d_Model_readVarint_99 ⟨Nat.le_of_ble_eq_true rfl, Nat.le_of_ble_eq_true rfl⟩ rfl (fun H locs hH => ?_)
  refine lv_lload_n hx hb d_Model_readVarint_102 rfl (lv_at hl 1 rfl) ?_
  have hf := Option.some.inj hf
  subst hf
  exact rJ (v := x1) C hH d_Model_readVarint_103
def f_Model_readVarint_b83 (st : S_Model) (x1 : Int64) : Option (Int64 × S_Model) :=
  if (lg_cmp x1 1099511627776) ≤ 0 then (some ((x1, st))) else (f_Model_readVarint_b91 st x1)
set_option maxRecDepth 100000 in
set_option maxHeartbeats 4000000 in
theorem w_Model_readVarint_b83 (l : Launch) (D : va_G) (cI cL : ClassId) (h h_kind h_b h_difference h_a h_newKind h_newB h_newDifference h_newA h_log h_packed : Nat) {p : Program} {e : Env} {s : State} {m : MethodId} {args : Array Value} {below : List Frame} {meth : Method} {c : Code} {A : Nat → Prop} (C : Cx p s m args meth c D vwCl [(cI, .int), (cL, .long)] A b_Model_readVarint 5 (some .long) ws_Model_readVarint y_Model_readVarint.cls) : ∀ (st : S_Model) (x1 : Int64) (res : Int64 × S_Model), f_Model_readVarint_b83 st x1 = some res → ∀ (H : Heap) (locs : List Loc) (ls : Array Slot), Hp D vwCl A A s.heap H locs [(h, .inr (6, [.int st.1, .int st.2.1.2.2.2.2, .ref h_kind, .ref h_b, .ref h_difference, .ref h_a, .int st.2.2.1.2.2.2.2, .ref h_newKind, .ref h_newB, .ref h_newDifference, .ref h_newA, .int st.2.2.2.1.2, .ref h_log, .ref h_packed, .int st.2.2.2.2.1.2, .int st.2.2.2.2.2.1.1, .int st.2.2.2.2.2.1.2.1, .int st.2.2.2.2.2.1.2.2.1, .int st.2.2.2.2.2.1.2.2.2, .int st.2.2.2.2.2.2.1, .int st.2.2.2.2.2.2.2])), (h_kind, .inl (cI, 300, .inl st.2.1.1)), (h_b, .inl (cI, 300, .inl st.2.1.2.2.2.1)), (h_difference, .inl (cL, 300, .inr (.inl st.2.1.2.1))), (h_a, .inl (cL, 300, .inr (.inl st.2.1.2.2.1))), (h_newKind, .inl (cI, 300, .inl st.2.2.1.1)), (h_newB, .inl (cI, 300, .inl st.2.2.1.2.2.2.1)), (h_newDifference, .inl (cL, 300, .inr (.inl st.2.2.1.2.1))), (h_newA, .inl (cL, 300, .inr (.inl st.2.2.1.2.2.1))), (h_log, .inl (cI, 5000, .inl st.2.2.2.1.1)), (h_packed, .inl (cI, 5000, .inl st.2.2.2.2.1.1))] → lv_has ls 5 [(0, .ref h), (1, .long x1)] → W p l e { frames := 2, cells := 0, slots := 0, locals := 42 } s m args below meth c H locs 0 0 (MQ below (Qw D vwCl [(cI, .int), (cL, .long)] (some (.long res.1)) A [(h, .inr (6, [.int res.2.1, .int res.2.2.1.2.2.2.2, .ref h_kind, .ref h_b, .ref h_difference, .ref h_a, .int res.2.2.2.1.2.2.2.2, .ref h_newKind, .ref h_newB, .ref h_newDifference, .ref h_newA, .int res.2.2.2.2.1.2, .ref h_log, .ref h_packed, .int res.2.2.2.2.2.1.2, .int res.2.2.2.2.2.2.1.1, .int res.2.2.2.2.2.2.1.2.1, .int res.2.2.2.2.2.2.1.2.2.1, .int res.2.2.2.2.2.2.1.2.2.2, .int res.2.2.2.2.2.2.2.1, .int res.2.2.2.2.2.2.2.2])), (h_kind, .inl (cI, 300, .inl res.2.2.1.1)), (h_b, .inl (cI, 300, .inl res.2.2.1.2.2.2.1)), (h_difference, .inl (cL, 300, .inr (.inl res.2.2.1.2.1))), (h_a, .inl (cL, 300, .inr (.inl res.2.2.1.2.2.1))), (h_newKind, .inl (cI, 300, .inl res.2.2.2.1.1)), (h_newB, .inl (cI, 300, .inl res.2.2.2.1.2.2.2.1)), (h_newDifference, .inl (cL, 300, .inr (.inl res.2.2.2.1.2.1))), (h_newA, .inl (cL, 300, .inr (.inl res.2.2.2.1.2.2.1))), (h_log, .inl (cI, 5000, .inl res.2.2.2.2.1.1)), (h_packed, .inl (cI, 5000, .inl res.2.2.2.2.2.1.1))]) args s 0 0 A) (F0 m 83 ls []) := by
  obtain ⟨hx, hb, hr, hml, hown, hts, hlk, hK, hA⟩ := id C
  intro st x1 res hf H locs ls hH hl
  unfold f_Model_readVarint_b83 at hf
  refine lv_lload_n hx hb d_Model_readVarint_83 rfl (lv_at hl 1 rfl) ?_
  refine lv_ldc2 (v := 1099511627776) hx hb hown (hts _ (.tail _ wd_675)) d_Model_readVarint_84 ?_
  refine W.lcmp hx hb d_Model_readVarint_87 ?_
  refine lv_if_le (tgt := 102) hx hb d_Model_readVarint_88 (by decide) (fun hc88 => ?_) (fun hc88 => ?_)
  · have hf := ip hc88 hf
    refine lv_lload_n hx hb d_Model_readVarint_102 rfl (lv_at hl 1 rfl) ?_
    have hf := Option.some.inj hf
    subst hf
    exact rJ (v := x1) C hH d_Model_readVarint_103
  · have hf := im hc88 hf
    exact w_Model_readVarint_b91 l D cI cL h h_kind h_b h_difference h_a h_newKind h_newB h_newDifference h_newA h_log h_packed C st x1 res hf _ _ _ hH (lv_sub hl [0, 1] rfl)
def f_Model_readVarint_b73 (st : S_Model) (x1 : Int64) (x3 : Int32) (x4 : Int32) : Option (Int64 × S_Model) :=
  if x3 ≤ (1 : Int32) then (f_Model_readVarint_b83 st x1) else (if x4 = 0 then (f_Model_readVarint_b91 st x1) else (f_Model_readVarint_b83 st x1))
set_option maxRecDepth 100000 in
set_option maxHeartbeats 4000000 in
theorem w_Model_readVarint_b73 (l : Launch) (D : va_G) (cI cL : ClassId) (h h_kind h_b h_difference h_a h_newKind h_newB h_newDifference h_newA h_log h_packed : Nat) {p : Program} {e : Env} {s : State} {m : MethodId} {args : Array Value} {below : List Frame} {meth : Method} {c : Code} {A : Nat → Prop} (C : Cx p s m args meth c D vwCl [(cI, .int), (cL, .long)] A b_Model_readVarint 5 (some .long) ws_Model_readVarint y_Model_readVarint.cls) : ∀ (st : S_Model) (x1 : Int64) (x3 : Int32) (x4 : Int32) (res : Int64 × S_Model), f_Model_readVarint_b73 st x1 x3 x4 = some res → ∀ (H : Heap) (locs : List Loc) (ls : Array Slot), Hp D vwCl A A s.heap H locs [(h, .inr (6, [.int st.1, .int st.2.1.2.2.2.2, .ref h_kind, .ref h_b, .ref h_difference, .ref h_a, .int st.2.2.1.2.2.2.2, .ref h_newKind, .ref h_newB, .ref h_newDifference, .ref h_newA, .int st.2.2.2.1.2, .ref h_log, .ref h_packed, .int st.2.2.2.2.1.2, .int st.2.2.2.2.2.1.1, .int st.2.2.2.2.2.1.2.1, .int st.2.2.2.2.2.1.2.2.1, .int st.2.2.2.2.2.1.2.2.2, .int st.2.2.2.2.2.2.1, .int st.2.2.2.2.2.2.2])), (h_kind, .inl (cI, 300, .inl st.2.1.1)), (h_b, .inl (cI, 300, .inl st.2.1.2.2.2.1)), (h_difference, .inl (cL, 300, .inr (.inl st.2.1.2.1))), (h_a, .inl (cL, 300, .inr (.inl st.2.1.2.2.1))), (h_newKind, .inl (cI, 300, .inl st.2.2.1.1)), (h_newB, .inl (cI, 300, .inl st.2.2.1.2.2.2.1)), (h_newDifference, .inl (cL, 300, .inr (.inl st.2.2.1.2.1))), (h_newA, .inl (cL, 300, .inr (.inl st.2.2.1.2.2.1))), (h_log, .inl (cI, 5000, .inl st.2.2.2.1.1)), (h_packed, .inl (cI, 5000, .inl st.2.2.2.2.1.1))] → lv_has ls 5 [(0, .ref h), (1, .long x1), (3, .int x3), (4, .int x4)] → W p l e { frames := 2, cells := 0, slots := 0, locals := 42 } s m args below meth c H locs 0 0 (MQ below (Qw D vwCl [(cI, .int), (cL, .long)] (some (.long res.1)) A [(h, .inr (6, [.int res.2.1, .int res.2.2.1.2.2.2.2, .ref h_kind, .ref h_b, .ref h_difference, .ref h_a, .int res.2.2.2.1.2.2.2.2, .ref h_newKind, .ref h_newB, .ref h_newDifference, .ref h_newA, .int res.2.2.2.2.1.2, .ref h_log, .ref h_packed, .int res.2.2.2.2.2.1.2, .int res.2.2.2.2.2.2.1.1, .int res.2.2.2.2.2.2.1.2.1, .int res.2.2.2.2.2.2.1.2.2.1, .int res.2.2.2.2.2.2.1.2.2.2, .int res.2.2.2.2.2.2.2.1, .int res.2.2.2.2.2.2.2.2])), (h_kind, .inl (cI, 300, .inl res.2.2.1.1)), (h_b, .inl (cI, 300, .inl res.2.2.1.2.2.2.1)), (h_difference, .inl (cL, 300, .inr (.inl res.2.2.1.2.1))), (h_a, .inl (cL, 300, .inr (.inl res.2.2.1.2.2.1))), (h_newKind, .inl (cI, 300, .inl res.2.2.2.1.1)), (h_newB, .inl (cI, 300, .inl res.2.2.2.1.2.2.2.1)), (h_newDifference, .inl (cL, 300, .inr (.inl res.2.2.2.1.2.1))), (h_newA, .inl (cL, 300, .inr (.inl res.2.2.2.1.2.2.1))), (h_log, .inl (cI, 5000, .inl res.2.2.2.2.1.1)), (h_packed, .inl (cI, 5000, .inl res.2.2.2.2.2.1.1))]) args s 0 0 A) (F0 m 73 ls []) := by
  obtain ⟨hx, hb, hr, hml, hown, hts, hlk, hK, hA⟩ := id C
  intro st x1 x3 x4 res hf H locs ls hH hl
  unfold f_Model_readVarint_b73 at hf
  refine lv_iload_n hx hb d_Model_readVarint_73 rfl (lv_at hl 2 rfl) ?_
  refine lv_iconst (v := 1) hx hb d_Model_readVarint_74 (by decide) ?_
  refine lv_icmp_le (tgt := 83) hx hb d_Model_readVarint_75 (by decide) (fun hc75 => ?_) (fun hc75 => ?_)
  · have hf := ip hc75 hf
    exact w_Model_readVarint_b83 l D cI cL h h_kind h_b h_difference h_a h_newKind h_newB h_newDifference h_newA h_log h_packed C st x1 res hf _ _ _ hH (lv_sub hl [0, 1] rfl)
  · have hf := im hc75 hf
    refine lv_iload hx hb d_Model_readVarint_78 (lv_at hl 3 rfl) ?_
    refine lv_if_eq (tgt := 91) hx hb d_Model_readVarint_80 (by decide) (fun hc80 => ?_) (fun hc80 => ?_)
    · have hf := ip hc80 hf
      exact w_Model_readVarint_b91 l D cI cL h h_kind h_b h_difference h_a h_newKind h_newB h_newDifference h_newA h_log h_packed C st x1 res hf _ _ _ hH (lv_sub hl [0, 1] rfl)
    · have hf := im hc80 hf
      exact w_Model_readVarint_b83 l D cI cL h h_kind h_b h_difference h_a h_newKind h_newB h_newDifference h_newA h_log h_packed C st x1 res hf _ _ _ hH (lv_sub hl [0, 1] rfl)
def f_Model_readVarint_b9 : Nat → S_Model → Int64 → Int32 → Int32 → Option (Int64 × S_Model)
  | 0, _, _, _, _ => none
  | n + 1, st, x1, x3, x4 =>
  if x4 ≤ (127 : Int32) then (f_Model_readVarint_b73 st x1 x3 x4) else (if st.2.2.2.2.2.2.2 = 0 then ((f_Model_next st).bind (fun r24 => if (x3 + 1) = (7 : Int32) then (if r24.1 ≤ (127 : Int32) then (f_Model_readVarint_b9 n r24.2 (x1 ||| (((r24.1 &&& 127).toInt64) <<< (((7 : Int32) * x3).toInt64 &&& 63))) (x3 + 1) r24.1) else (lt1 (f_Model_meet r24.2 3 (r24.2.2.2.2.2.2.2.1 - 1)) (fun r67 => f_Model_readVarint_b9 n r67 (x1 ||| (((r24.1 &&& 127).toInt64) <<< (((7 : Int32) * x3).toInt64 &&& 63))) (x3 + 1) r24.1))) else (f_Model_readVarint_b9 n r24.2 (x1 ||| (((r24.1 &&& 127).toInt64) <<< (((7 : Int32) * x3).toInt64 &&& 63))) (x3 + 1) r24.1))) else (f_Model_readVarint_b73 st x1 x3 x4))
set_option maxRecDepth 100000 in
set_option maxHeartbeats 4000000 in
theorem w_Model_readVarint_b9 (l : Launch) (D : va_G) (cI cL : ClassId) (h h_kind h_b h_difference h_a h_newKind h_newB h_newDifference h_newA h_log h_packed : Nat) {p : Program} {e : Env} {s : State} {m : MethodId} {args : Array Value} {below : List Frame} {meth : Method} {c : Code} {A : Nat → Prop} (C : Cx p s m args meth c D vwCl [(cI, .int), (cL, .long)] A b_Model_readVarint 5 (some .long) ws_Model_readVarint y_Model_readVarint.cls) : ∀ (n : Nat) (st : S_Model) (x1 : Int64) (x3 : Int32) (x4 : Int32) (res : Int64 × S_Model), f_Model_readVarint_b9 n st x1 x3 x4 = some res → ∀ (H : Heap) (locs : List Loc) (ls : Array Slot), Hp D vwCl A A s.heap H locs [(h, .inr (6, [.int st.1, .int st.2.1.2.2.2.2, .ref h_kind, .ref h_b, .ref h_difference, .ref h_a, .int st.2.2.1.2.2.2.2, .ref h_newKind, .ref h_newB, .ref h_newDifference, .ref h_newA, .int st.2.2.2.1.2, .ref h_log, .ref h_packed, .int st.2.2.2.2.1.2, .int st.2.2.2.2.2.1.1, .int st.2.2.2.2.2.1.2.1, .int st.2.2.2.2.2.1.2.2.1, .int st.2.2.2.2.2.1.2.2.2, .int st.2.2.2.2.2.2.1, .int st.2.2.2.2.2.2.2])), (h_kind, .inl (cI, 300, .inl st.2.1.1)), (h_b, .inl (cI, 300, .inl st.2.1.2.2.2.1)), (h_difference, .inl (cL, 300, .inr (.inl st.2.1.2.1))), (h_a, .inl (cL, 300, .inr (.inl st.2.1.2.2.1))), (h_newKind, .inl (cI, 300, .inl st.2.2.1.1)), (h_newB, .inl (cI, 300, .inl st.2.2.1.2.2.2.1)), (h_newDifference, .inl (cL, 300, .inr (.inl st.2.2.1.2.1))), (h_newA, .inl (cL, 300, .inr (.inl st.2.2.1.2.2.1))), (h_log, .inl (cI, 5000, .inl st.2.2.2.1.1)), (h_packed, .inl (cI, 5000, .inl st.2.2.2.2.1.1))] → lv_has ls 5 [(0, .ref h), (1, .long x1), (3, .int x3), (4, .int x4)] → W p l e { frames := 2, cells := 0, slots := 0, locals := 42 } s m args below meth c H locs 0 0 (MQ below (Qw D vwCl [(cI, .int), (cL, .long)] (some (.long res.1)) A [(h, .inr (6, [.int res.2.1, .int res.2.2.1.2.2.2.2, .ref h_kind, .ref h_b, .ref h_difference, .ref h_a, .int res.2.2.2.1.2.2.2.2, .ref h_newKind, .ref h_newB, .ref h_newDifference, .ref h_newA, .int res.2.2.2.2.1.2, .ref h_log, .ref h_packed, .int res.2.2.2.2.2.1.2, .int res.2.2.2.2.2.2.1.1, .int res.2.2.2.2.2.2.1.2.1, .int res.2.2.2.2.2.2.1.2.2.1, .int res.2.2.2.2.2.2.1.2.2.2, .int res.2.2.2.2.2.2.2.1, .int res.2.2.2.2.2.2.2.2])), (h_kind, .inl (cI, 300, .inl res.2.2.1.1)), (h_b, .inl (cI, 300, .inl res.2.2.1.2.2.2.1)), (h_difference, .inl (cL, 300, .inr (.inl res.2.2.1.2.1))), (h_a, .inl (cL, 300, .inr (.inl res.2.2.1.2.2.1))), (h_newKind, .inl (cI, 300, .inl res.2.2.2.1.1)), (h_newB, .inl (cI, 300, .inl res.2.2.2.1.2.2.2.1)), (h_newDifference, .inl (cL, 300, .inr (.inl res.2.2.2.1.2.1))), (h_newA, .inl (cL, 300, .inr (.inl res.2.2.2.1.2.2.1))), (h_log, .inl (cI, 5000, .inl res.2.2.2.2.1.1)), (h_packed, .inl (cI, 5000, .inl res.2.2.2.2.2.1.1))]) args s 0 0 A) (F0 m 9 ls []) := by
  obtain ⟨hx, hb, hr, hml, hown, hts, hlk, hK, hA⟩ := id C
  intro n
  induction n with
  | zero => intro st x1 x3 x4 res hf; cases hf
  | succ n ih =>
    intro st x1 x3 x4 res hf H locs ls hH hl
    rw [f_Model_readVarint_b9] at hf
    refine lv_iload hx hb d_Model_readVarint_9 (lv_at hl 3 rfl) ?_
    refine lv_bipush (v := 127) hx hb d_Model_readVarint_11 (by decide) ?_
    refine lv_icmp_le (tgt := 73) hx hb d_Model_readVarint_13 (by decide) (fun hc13 => ?_) (fun hc13 => ?_)
    · have hf := ip hc13 hf
      exact w_Model_readVarint_b73 l D cI cL h h_kind h_b h_difference h_a h_newKind h_newB h_newDifference h_newA h_log h_packed C st x1 x3 x4 res hf _ _ _ hH (lv_sub hl [0, 1, 2, 3] rfl)
    · have hf := im hc13 hf
      refine lv_aload_n hx hb d_Model_readVarint_16 rfl (lv_at hl 0 rfl) ?_
      refine gt (ci := 6) (v := .int st.2.2.2.2.2.2.2) C hH (iwT iw_Model) 0 rfl rfl 20 (by decide) (.tail _ wd_616) rfl d_Model_readVarint_17 ?_
      refine lv_if_ne (tgt := 73) hx hb d_Model_readVarint_20 (by decide) (fun hc20 => ?_) (fun hc20 => ?_)
      · have hf := im hc20 hf
        exact w_Model_readVarint_b73 l D cI cL h h_kind h_b h_difference h_a h_newKind h_newB h_newDifference h_newA h_log h_packed C st x1 x3 x4 res hf _ _ _ hH (lv_sub hl [0, 1, 2, 3] rfl)
      · have hf := ip hc20 hf
        refine lv_aload_n hx hb d_Model_readVarint_23 rfl (lv_at hl 0 rfl) ?_
        obtain ⟨r24, hr24, hf⟩ := ob hf
        refine fnV (rest := []) (wr := []) (w2 := [(h, .inr (6, [.int r24.2.1, .int r24.2.2.1.2.2.2.2, .ref h_kind, .ref h_b, .ref h_difference, .ref h_a, .int r24.2.2.2.1.2.2.2.2, .ref h_newKind, .ref h_newB, .ref h_newDifference, .ref h_newA, .int r24.2.2.2.2.1.2, .ref h_log, .ref h_packed, .int r24.2.2.2.2.2.1.2, .int r24.2.2.2.2.2.2.1.1, .int r24.2.2.2.2.2.2.1.2.1, .int r24.2.2.2.2.2.2.1.2.2.1, .int r24.2.2.2.2.2.2.1.2.2.2, .int r24.2.2.2.2.2.2.2.1, .int r24.2.2.2.2.2.2.2.2])), (h_kind, .inl (cI, 300, .inl r24.2.2.1.1)), (h_b, .inl (cI, 300, .inl r24.2.2.1.2.2.2.1)), (h_difference, .inl (cL, 300, .inr (.inl r24.2.2.1.2.1))), (h_a, .inl (cL, 300, .inr (.inl r24.2.2.1.2.2.1))), (h_newKind, .inl (cI, 300, .inl r24.2.2.2.1.1)), (h_newB, .inl (cI, 300, .inl r24.2.2.2.1.2.2.2.1)), (h_newDifference, .inl (cL, 300, .inr (.inl r24.2.2.2.1.2.1))), (h_newA, .inl (cL, 300, .inr (.inl r24.2.2.2.1.2.2.1))), (h_log, .inl (cI, 5000, .inl r24.2.2.2.2.1.1)), (h_packed, .inl (cI, 5000, .inl r24.2.2.2.2.2.1.1))]) (st2 := [.int r24.1]) C (c_Model_next l D cI cL h h_kind h_b h_difference h_a h_newKind h_newB h_newDifference h_newA h_log h_packed st r24 hr24) (cV hts kV_Model_next wd_743 ⟨Nat.le_of_ble_eq_true rfl, Nat.le_of_ble_eq_true rfl⟩) hH [0, 1, 2, 3, 4, 5, 6, 7, 8, 9, 10] [] [0, 1, 2, 3, 4, 5, 6, 7, 8, 9, 10] rfl rfl rfl rfl (by decide) rfl rfl 0 rfl rfl rfl hl.1 rfl (Nat.le_of_ble_eq_true rfl) d_Model_readVarint_24 ⟨Nat.le_of_ble_eq_true rfl, Nat.le_of_ble_eq_true rfl⟩ rfl (fun H locs hH => ?_)
        refine lv_istore (lv' := [(4, .int r24.1), (0, .ref h), (1, .long x1), (3, .int x3)]) hx hb d_Model_readVarint_27 hl (by decide) rfl (fun ls hl => ?_)
        refine lv_lload_n hx hb d_Model_readVarint_29 rfl (lv_at hl 2 rfl) ?_
        refine lv_iload hx hb d_Model_readVarint_30 (lv_at hl 0 rfl) ?_
        refine lv_bipush (v := 127) hx hb d_Model_readVarint_32 (by decide) ?_
        refine lv_iand hx hb d_Model_readVarint_34 ?_
        refine lv_i2l (v := (r24.1 &&& 127).toInt64) hx hb d_Model_readVarint_35 rfl ?_
        refine lv_bipush (v := 7) hx hb d_Model_readVarint_36 (by decide) ?_
        refine lv_iload_n hx hb d_Model_readVarint_38 rfl (lv_at hl 3 rfl) ?_
        refine lv_imul hx hb d_Model_readVarint_39 ?_
        refine lv_lshl (v := ((r24.1 &&& 127).toInt64) <<< (((7 : Int32) * x3).toInt64 &&& 63)) hx hb d_Model_readVarint_40 rfl ?_
        refine lv_lor hx hb d_Model_readVarint_41 ?_
        refine lv_lstore_n (lv' := [(1, .long (x1 ||| (((r24.1 &&& 127).toInt64) <<< (((7 : Int32) * x3).toInt64 &&& 63)))), (4, .int r24.1), (0, .ref h), (3, .int x3)]) hx hb d_Model_readVarint_42 rfl hl (by decide) rfl (fun ls hl => ?_)
        refine lv_iinc (v := x3 + 1) (lv' := [(3, .int (x3 + 1)), (1, .long (x1 ||| (((r24.1 &&& 127).toInt64) <<< (((7 : Int32) * x3).toInt64 &&& 63)))), (4, .int r24.1), (0, .ref h)]) hx hb d_Model_readVarint_43 hl (k := 3) rfl rfl (by decide) rfl (fun ls hl => ?_)
        refine lv_iload_n hx hb d_Model_readVarint_46 rfl (lv_at hl 0 rfl) ?_
        refine lv_bipush (v := 7) hx hb d_Model_readVarint_47 (by decide) ?_
        refine lv_icmp_ne (tgt := 9) hx hb d_Model_readVarint_49 (by decide) (fun hc49 => ?_) (fun hc49 => ?_)
        · have hf := im hc49 hf
          exact ih r24.2 (x1 ||| (((r24.1 &&& 127).toInt64) <<< (((7 : Int32) * x3).toInt64 &&& 63))) (x3 + 1) r24.1 res hf _ _ _ hH (lv_sub hl [3, 1, 0, 2] rfl)
        · have hf := ip hc49 hf
          refine lv_iload hx hb d_Model_readVarint_52 (lv_at hl 2 rfl) ?_
          refine lv_bipush (v := 127) hx hb d_Model_readVarint_54 (by decide) ?_
          refine lv_icmp_le (tgt := 9) hx hb d_Model_readVarint_56 (by decide) (fun hc56 => ?_) (fun hc56 => ?_)
          · have hf := ip hc56 hf
            exact ih r24.2 (x1 ||| (((r24.1 &&& 127).toInt64) <<< (((7 : Int32) * x3).toInt64 &&& 63))) (x3 + 1) r24.1 res hf _ _ _ hH (lv_sub hl [3, 1, 0, 2] rfl)
          · have hf := im hc56 hf
            refine lv_aload_n hx hb d_Model_readVarint_59 rfl (lv_at hl 3 rfl) ?_
            refine lv_iconst (v := 3) hx hb d_Model_readVarint_60 (by decide) ?_
            refine lv_aload_n hx hb d_Model_readVarint_61 rfl (lv_at hl 3 rfl) ?_
            refine gt (ci := 6) (v := .int r24.2.2.2.2.2.2.2.1) C hH (iwT iw_Model) 0 rfl rfl 19 (by decide) (.tail _ wd_615) rfl d_Model_readVarint_62 ?_
            refine lv_iconst (v := 1) hx hb d_Model_readVarint_65 (by decide) ?_
            refine lv_isub hx hb d_Model_readVarint_66 ?_
            obtain ⟨r67, hr67, hf⟩ := lb hf
            refine fnV (rest := []) (wr := []) (w2 := [(h, .inr (6, [.int r67.1, .int r67.2.1.2.2.2.2, .ref h_kind, .ref h_b, .ref h_difference, .ref h_a, .int r67.2.2.1.2.2.2.2, .ref h_newKind, .ref h_newB, .ref h_newDifference, .ref h_newA, .int r67.2.2.2.1.2, .ref h_log, .ref h_packed, .int r67.2.2.2.2.1.2, .int r67.2.2.2.2.2.1.1, .int r67.2.2.2.2.2.1.2.1, .int r67.2.2.2.2.2.1.2.2.1, .int r67.2.2.2.2.2.1.2.2.2, .int r67.2.2.2.2.2.2.1, .int r67.2.2.2.2.2.2.2])), (h_kind, .inl (cI, 300, .inl r67.2.1.1)), (h_b, .inl (cI, 300, .inl r67.2.1.2.2.2.1)), (h_difference, .inl (cL, 300, .inr (.inl r67.2.1.2.1))), (h_a, .inl (cL, 300, .inr (.inl r67.2.1.2.2.1))), (h_newKind, .inl (cI, 300, .inl r67.2.2.1.1)), (h_newB, .inl (cI, 300, .inl r67.2.2.1.2.2.2.1)), (h_newDifference, .inl (cL, 300, .inr (.inl r67.2.2.1.2.1))), (h_newA, .inl (cL, 300, .inr (.inl r67.2.2.1.2.2.1))), (h_log, .inl (cI, 5000, .inl r67.2.2.2.1.1)), (h_packed, .inl (cI, 5000, .inl r67.2.2.2.2.1.1))]) (st2 := []) C (c_Model_meet l D cI cL h h_kind h_b h_difference h_a h_newKind h_newB h_newDifference h_newA h_log h_packed r24.2 3 (r24.2.2.2.2.2.2.2.1 - 1) r67 hr67) (cV hts kV_Model_meet wd_747 ⟨Nat.le_of_ble_eq_true rfl, Nat.le_of_ble_eq_true rfl⟩) hH [0, 1, 2, 3, 4, 5, 6, 7, 8, 9, 10] [] [0, 1, 2, 3, 4, 5, 6, 7, 8, 9, 10] rfl rfl rfl rfl (by decide) rfl rfl 0 rfl rfl rfl hl.1 rfl (Nat.le_of_ble_eq_true rfl) d_Model_readVarint_67 ⟨Nat.le_of_ble_eq_true rfl, Nat.le_of_ble_eq_true rfl⟩ rfl (fun H locs hH => ?_)
            refine lv_goto (tgt := 9) hx hb d_Model_readVarint_70 (by decide) ?_
            exact ih r67 (x1 ||| (((r24.1 &&& 127).toInt64) <<< (((7 : Int32) * x3).toInt64 &&& 63))) (x3 + 1) r24.1 res hf _ _ _ hH (lv_sub hl [3, 1, 0, 2] rfl)
def f_Model_readVarint (st : S_Model)  : Option (Int64 × S_Model) :=
  f_Model_readVarint_b9 400 st 0 0 128
set_option maxRecDepth 100000 in
set_option maxHeartbeats 4000000 in
theorem c_Model_readVarint (l : Launch) (D : va_G) (cI cL : ClassId) (h h_kind h_b h_difference h_a h_newKind h_newB h_newDifference h_newA h_log h_packed : Nat) (st : S_Model)  (res : Int64 × S_Model) (hf : f_Model_readVarint st = some res) :
    Fn l D vwCl [(cI, .int), (cL, .long)] y_Model_readVarint ws_Model_readVarint { frames := 2, cells := 0, slots := 0, locals := 42 } [.ref h] [(h, .inr (6, [.int st.1, .int st.2.1.2.2.2.2, .ref h_kind, .ref h_b, .ref h_difference, .ref h_a, .int st.2.2.1.2.2.2.2, .ref h_newKind, .ref h_newB, .ref h_newDifference, .ref h_newA, .int st.2.2.2.1.2, .ref h_log, .ref h_packed, .int st.2.2.2.2.1.2, .int st.2.2.2.2.2.1.1, .int st.2.2.2.2.2.1.2.1, .int st.2.2.2.2.2.1.2.2.1, .int st.2.2.2.2.2.1.2.2.2, .int st.2.2.2.2.2.2.1, .int st.2.2.2.2.2.2.2])), (h_kind, .inl (cI, 300, .inl st.2.1.1)), (h_b, .inl (cI, 300, .inl st.2.1.2.2.2.1)), (h_difference, .inl (cL, 300, .inr (.inl st.2.1.2.1))), (h_a, .inl (cL, 300, .inr (.inl st.2.1.2.2.1))), (h_newKind, .inl (cI, 300, .inl st.2.2.1.1)), (h_newB, .inl (cI, 300, .inl st.2.2.1.2.2.2.1)), (h_newDifference, .inl (cL, 300, .inr (.inl st.2.2.1.2.1))), (h_newA, .inl (cL, 300, .inr (.inl st.2.2.1.2.2.1))), (h_log, .inl (cI, 5000, .inl st.2.2.2.1.1)), (h_packed, .inl (cI, 5000, .inl st.2.2.2.2.1.1))] (some (.long res.1)) [(h, .inr (6, [.int res.2.1, .int res.2.2.1.2.2.2.2, .ref h_kind, .ref h_b, .ref h_difference, .ref h_a, .int res.2.2.2.1.2.2.2.2, .ref h_newKind, .ref h_newB, .ref h_newDifference, .ref h_newA, .int res.2.2.2.2.1.2, .ref h_log, .ref h_packed, .int res.2.2.2.2.2.1.2, .int res.2.2.2.2.2.2.1.1, .int res.2.2.2.2.2.2.1.2.1, .int res.2.2.2.2.2.2.1.2.2.1, .int res.2.2.2.2.2.2.1.2.2.2, .int res.2.2.2.2.2.2.2.1, .int res.2.2.2.2.2.2.2.2])), (h_kind, .inl (cI, 300, .inl res.2.2.1.1)), (h_b, .inl (cI, 300, .inl res.2.2.1.2.2.2.1)), (h_difference, .inl (cL, 300, .inr (.inl res.2.2.1.2.1))), (h_a, .inl (cL, 300, .inr (.inl res.2.2.1.2.2.1))), (h_newKind, .inl (cI, 300, .inl res.2.2.2.1.1)), (h_newB, .inl (cI, 300, .inl res.2.2.2.1.2.2.2.1)), (h_newDifference, .inl (cL, 300, .inr (.inl res.2.2.2.1.2.1))), (h_newA, .inl (cL, 300, .inr (.inl res.2.2.2.1.2.2.1))), (h_log, .inl (cI, 5000, .inl res.2.2.2.2.1.1)), (h_packed, .inl (cI, 5000, .inl res.2.2.2.2.2.1.1))] := by
  refine Fn.ofW (cc := b_Model_readVarint) (maxL := 5) (ret := (some .long)) (by decide) rfl (Nat.le_of_ble_eq_true rfl) ?_
  intro p e s m below meth c A ls C hH hinit hl
  have hl : lv_has ls 5 [(0, .ref h)] := hl
  obtain ⟨hx, hb, hr, hml, hown, hts, hlk, hK, hA⟩ := id C
  unfold f_Model_readVarint at hf
  refine lv_lconst (v := 0) hx hb d_Model_readVarint_0 (by decide) ?_
  refine lv_lstore_n (lv' := [(1, .long 0), (0, .ref h)]) hx hb d_Model_readVarint_1 rfl hl (by decide) rfl (fun ls hl => ?_)
  refine lv_iconst (v := 0) hx hb d_Model_readVarint_2 (by decide) ?_
  refine lv_istore_n (lv' := [(3, .int 0), (1, .long 0), (0, .ref h)]) hx hb d_Model_readVarint_3 rfl hl (by decide) rfl (fun ls hl => ?_)
  refine lv_sipush (v := 128) hx hb d_Model_readVarint_4 (by decide) ?_
  refine lv_istore (lv' := [(4, .int 128), (3, .int 0), (1, .long 0), (0, .ref h)]) hx hb d_Model_readVarint_7 hl (by decide) rfl (fun ls hl => ?_)
  exact w_Model_readVarint_b9 l D cI cL h h_kind h_b h_difference h_a h_newKind h_newB h_newDifference h_newA h_log h_packed C 400 st 0 0 128 res hf _ _ _ hH (lv_sub hl [3, 2, 1, 0] rfl)
def f_Model_take (st : S_Model) (x1 : Int32) (x2 : Int64) (x4 : Int64) (x6 : Int32) : Option (S_Model) :=
  if st.2.2.1.2.2.2.2 < 0 ∨ 300 ≤ st.2.2.1.2.2.2.2.toNatClampNeg then none else if st.2.2.1.2.2.2.2 < 0 ∨ 300 ≤ st.2.2.1.2.2.2.2.toNatClampNeg then none else if st.2.2.1.2.2.2.2 < 0 ∨ 300 ≤ st.2.2.1.2.2.2.2.toNatClampNeg then none else if st.2.2.1.2.2.2.2 < 0 ∨ 300 ≤ st.2.2.1.2.2.2.2.toNatClampNeg then none else some ((st.1, st.2.1, (upd st.2.2.1.1 st.2.2.1.2.2.2.2.toNatClampNeg x1, vp_updL st.2.2.1.2.1 st.2.2.1.2.2.2.2.toNatClampNeg x2, vp_updL st.2.2.1.2.2.1 st.2.2.1.2.2.2.2.toNatClampNeg x4, upd st.2.2.1.2.2.2.1 st.2.2.1.2.2.2.2.toNatClampNeg x6, st.2.2.1.2.2.2.2 + 1), st.2.2.2.1, st.2.2.2.2.1, st.2.2.2.2.2.1, st.2.2.2.2.2.2.1, st.2.2.2.2.2.2.2))
set_option maxRecDepth 100000 in
set_option maxHeartbeats 4000000 in
theorem c_Model_take (l : Launch) (D : va_G) (cI cL : ClassId) (h h_kind h_b h_difference h_a h_newKind h_newB h_newDifference h_newA h_log h_packed : Nat) (st : S_Model) (x1 : Int32) (x2 : Int64) (x4 : Int64) (x6 : Int32) (res : S_Model) (hf : f_Model_take st x1 x2 x4 x6 = some res) :
    Fn l D vwCl [(cI, .int), (cL, .long)] y_Model_take ws_Model_take { frames := 0, cells := 0, slots := 0, locals := 0 } [.ref h, .int x1, .long x2, .long x4, .int x6] [(h, .inr (6, [.int st.1, .int st.2.1.2.2.2.2, .ref h_kind, .ref h_b, .ref h_difference, .ref h_a, .int st.2.2.1.2.2.2.2, .ref h_newKind, .ref h_newB, .ref h_newDifference, .ref h_newA, .int st.2.2.2.1.2, .ref h_log, .ref h_packed, .int st.2.2.2.2.1.2, .int st.2.2.2.2.2.1.1, .int st.2.2.2.2.2.1.2.1, .int st.2.2.2.2.2.1.2.2.1, .int st.2.2.2.2.2.1.2.2.2, .int st.2.2.2.2.2.2.1, .int st.2.2.2.2.2.2.2])), (h_kind, .inl (cI, 300, .inl st.2.1.1)), (h_b, .inl (cI, 300, .inl st.2.1.2.2.2.1)), (h_difference, .inl (cL, 300, .inr (.inl st.2.1.2.1))), (h_a, .inl (cL, 300, .inr (.inl st.2.1.2.2.1))), (h_newKind, .inl (cI, 300, .inl st.2.2.1.1)), (h_newB, .inl (cI, 300, .inl st.2.2.1.2.2.2.1)), (h_newDifference, .inl (cL, 300, .inr (.inl st.2.2.1.2.1))), (h_newA, .inl (cL, 300, .inr (.inl st.2.2.1.2.2.1))), (h_log, .inl (cI, 5000, .inl st.2.2.2.1.1)), (h_packed, .inl (cI, 5000, .inl st.2.2.2.2.1.1))] (none) [(h, .inr (6, [.int res.1, .int res.2.1.2.2.2.2, .ref h_kind, .ref h_b, .ref h_difference, .ref h_a, .int res.2.2.1.2.2.2.2, .ref h_newKind, .ref h_newB, .ref h_newDifference, .ref h_newA, .int res.2.2.2.1.2, .ref h_log, .ref h_packed, .int res.2.2.2.2.1.2, .int res.2.2.2.2.2.1.1, .int res.2.2.2.2.2.1.2.1, .int res.2.2.2.2.2.1.2.2.1, .int res.2.2.2.2.2.1.2.2.2, .int res.2.2.2.2.2.2.1, .int res.2.2.2.2.2.2.2])), (h_kind, .inl (cI, 300, .inl res.2.1.1)), (h_b, .inl (cI, 300, .inl res.2.1.2.2.2.1)), (h_difference, .inl (cL, 300, .inr (.inl res.2.1.2.1))), (h_a, .inl (cL, 300, .inr (.inl res.2.1.2.2.1))), (h_newKind, .inl (cI, 300, .inl res.2.2.1.1)), (h_newB, .inl (cI, 300, .inl res.2.2.1.2.2.2.1)), (h_newDifference, .inl (cL, 300, .inr (.inl res.2.2.1.2.1))), (h_newA, .inl (cL, 300, .inr (.inl res.2.2.1.2.2.1))), (h_log, .inl (cI, 5000, .inl res.2.2.2.1.1)), (h_packed, .inl (cI, 5000, .inl res.2.2.2.2.1.1))] := by
  refine Fn.ofW (cc := b_Model_take) (maxL := 7) (ret := none) (by decide) rfl (Nat.le_of_ble_eq_true rfl) ?_
  intro p e s m below meth c A ls C hH hinit hl
  have hl : lv_has ls 7 [(0, .ref h), (1, .int x1), (2, .long x2), (4, .long x4), (6, .int x6)] := hl
  obtain ⟨hx, hb, hr, hml, hown, hts, hlk, hK, hA⟩ := id C
  unfold f_Model_take at hf
  refine lv_aload_n hx hb d_Model_take_0 rfl (lv_at hl 0 rfl) ?_
  refine gt (ci := 6) (v := .ref h_newKind) C hH (iwT iw_Model) 0 rfl rfl 7 (by decide) (.tail _ wd_603) rfl d_Model_take_1 ?_
  refine lv_aload_n hx hb d_Model_take_4 rfl (lv_at hl 0 rfl) ?_
  refine gt (ci := 6) (v := .int st.2.2.1.2.2.2.2) C hH (iwT iw_Model) 0 rfl rfl 6 (by decide) (.tail _ wd_602) rfl d_Model_take_5 ?_
  refine lv_iload_n hx hb d_Model_take_8 rfl (lv_at hl 1 rfl) ?_
  obtain ⟨hin9, hf⟩ := oa hf
  refine asi C hH 5 0 rfl rfl (hin9) d_Model_take_9 [(h, .inr (6, [.int st.1, .int st.2.1.2.2.2.2, .ref h_kind, .ref h_b, .ref h_difference, .ref h_a, .int st.2.2.1.2.2.2.2, .ref h_newKind, .ref h_newB, .ref h_newDifference, .ref h_newA, .int st.2.2.2.1.2, .ref h_log, .ref h_packed, .int st.2.2.2.2.1.2, .int st.2.2.2.2.2.1.1, .int st.2.2.2.2.2.1.2.1, .int st.2.2.2.2.2.1.2.2.1, .int st.2.2.2.2.2.1.2.2.2, .int st.2.2.2.2.2.2.1, .int st.2.2.2.2.2.2.2])), (h_kind, .inl (cI, 300, .inl st.2.1.1)), (h_b, .inl (cI, 300, .inl st.2.1.2.2.2.1)), (h_difference, .inl (cL, 300, .inr (.inl st.2.1.2.1))), (h_a, .inl (cL, 300, .inr (.inl st.2.1.2.2.1))), (h_newKind, .inl (cI, 300, .inl (upd st.2.2.1.1 st.2.2.1.2.2.2.2.toNatClampNeg x1))), (h_newB, .inl (cI, 300, .inl st.2.2.1.2.2.2.1)), (h_newDifference, .inl (cL, 300, .inr (.inl st.2.2.1.2.1))), (h_newA, .inl (cL, 300, .inr (.inl st.2.2.1.2.2.1))), (h_log, .inl (cI, 5000, .inl st.2.2.2.1.1)), (h_packed, .inl (cI, 5000, .inl st.2.2.2.2.1.1))] rfl (fun H locs hH => ?_)
  refine lv_aload_n hx hb d_Model_take_10 rfl (lv_at hl 0 rfl) ?_
  refine gt (ci := 6) (v := .ref h_newDifference) C hH (iwT iw_Model) 0 rfl rfl 9 (by decide) (.tail _ wd_605) rfl d_Model_take_11 ?_
  refine lv_aload_n hx hb d_Model_take_14 rfl (lv_at hl 0 rfl) ?_
  refine gt (ci := 6) (v := .int st.2.2.1.2.2.2.2) C hH (iwT iw_Model) 0 rfl rfl 6 (by decide) (.tail _ wd_602) rfl d_Model_take_15 ?_
  refine lv_lload_n hx hb d_Model_take_18 rfl (lv_at hl 2 rfl) ?_
  obtain ⟨hin19, hf⟩ := oa hf
  refine asl C hH 7 1 rfl rfl (hin19) d_Model_take_19 [(h, .inr (6, [.int st.1, .int st.2.1.2.2.2.2, .ref h_kind, .ref h_b, .ref h_difference, .ref h_a, .int st.2.2.1.2.2.2.2, .ref h_newKind, .ref h_newB, .ref h_newDifference, .ref h_newA, .int st.2.2.2.1.2, .ref h_log, .ref h_packed, .int st.2.2.2.2.1.2, .int st.2.2.2.2.2.1.1, .int st.2.2.2.2.2.1.2.1, .int st.2.2.2.2.2.1.2.2.1, .int st.2.2.2.2.2.1.2.2.2, .int st.2.2.2.2.2.2.1, .int st.2.2.2.2.2.2.2])), (h_kind, .inl (cI, 300, .inl st.2.1.1)), (h_b, .inl (cI, 300, .inl st.2.1.2.2.2.1)), (h_difference, .inl (cL, 300, .inr (.inl st.2.1.2.1))), (h_a, .inl (cL, 300, .inr (.inl st.2.1.2.2.1))), (h_newKind, .inl (cI, 300, .inl (upd st.2.2.1.1 st.2.2.1.2.2.2.2.toNatClampNeg x1))), (h_newB, .inl (cI, 300, .inl st.2.2.1.2.2.2.1)), (h_newDifference, .inl (cL, 300, .inr (.inl (vp_updL st.2.2.1.2.1 st.2.2.1.2.2.2.2.toNatClampNeg x2)))), (h_newA, .inl (cL, 300, .inr (.inl st.2.2.1.2.2.1))), (h_log, .inl (cI, 5000, .inl st.2.2.2.1.1)), (h_packed, .inl (cI, 5000, .inl st.2.2.2.2.1.1))] rfl (fun H locs hH => ?_)
  refine lv_aload_n hx hb d_Model_take_20 rfl (lv_at hl 0 rfl) ?_
  refine gt (ci := 6) (v := .ref h_newA) C hH (iwT iw_Model) 0 rfl rfl 10 (by decide) (.tail _ wd_606) rfl d_Model_take_21 ?_
  refine lv_aload_n hx hb d_Model_take_24 rfl (lv_at hl 0 rfl) ?_
  refine gt (ci := 6) (v := .int st.2.2.1.2.2.2.2) C hH (iwT iw_Model) 0 rfl rfl 6 (by decide) (.tail _ wd_602) rfl d_Model_take_25 ?_
  refine lv_lload hx hb d_Model_take_28 (lv_at hl 3 rfl) ?_
  obtain ⟨hin30, hf⟩ := oa hf
  refine asl C hH 8 1 rfl rfl (hin30) d_Model_take_30 [(h, .inr (6, [.int st.1, .int st.2.1.2.2.2.2, .ref h_kind, .ref h_b, .ref h_difference, .ref h_a, .int st.2.2.1.2.2.2.2, .ref h_newKind, .ref h_newB, .ref h_newDifference, .ref h_newA, .int st.2.2.2.1.2, .ref h_log, .ref h_packed, .int st.2.2.2.2.1.2, .int st.2.2.2.2.2.1.1, .int st.2.2.2.2.2.1.2.1, .int st.2.2.2.2.2.1.2.2.1, .int st.2.2.2.2.2.1.2.2.2, .int st.2.2.2.2.2.2.1, .int st.2.2.2.2.2.2.2])), (h_kind, .inl (cI, 300, .inl st.2.1.1)), (h_b, .inl (cI, 300, .inl st.2.1.2.2.2.1)), (h_difference, .inl (cL, 300, .inr (.inl st.2.1.2.1))), (h_a, .inl (cL, 300, .inr (.inl st.2.1.2.2.1))), (h_newKind, .inl (cI, 300, .inl (upd st.2.2.1.1 st.2.2.1.2.2.2.2.toNatClampNeg x1))), (h_newB, .inl (cI, 300, .inl st.2.2.1.2.2.2.1)), (h_newDifference, .inl (cL, 300, .inr (.inl (vp_updL st.2.2.1.2.1 st.2.2.1.2.2.2.2.toNatClampNeg x2)))), (h_newA, .inl (cL, 300, .inr (.inl (vp_updL st.2.2.1.2.2.1 st.2.2.1.2.2.2.2.toNatClampNeg x4)))), (h_log, .inl (cI, 5000, .inl st.2.2.2.1.1)), (h_packed, .inl (cI, 5000, .inl st.2.2.2.2.1.1))] rfl (fun H locs hH => ?_)
  refine lv_aload_n hx hb d_Model_take_31 rfl (lv_at hl 0 rfl) ?_
  refine gt (ci := 6) (v := .ref h_newB) C hH (iwT iw_Model) 0 rfl rfl 8 (by decide) (.tail _ wd_604) rfl d_Model_take_32 ?_
  refine lv_aload_n hx hb d_Model_take_35 rfl (lv_at hl 0 rfl) ?_
  refine gt (ci := 6) (v := .int st.2.2.1.2.2.2.2) C hH (iwT iw_Model) 0 rfl rfl 6 (by decide) (.tail _ wd_602) rfl d_Model_take_36 ?_
  refine lv_iload hx hb d_Model_take_39 (lv_at hl 4 rfl) ?_
  obtain ⟨hin41, hf⟩ := oa hf
  refine asi C hH 6 0 rfl rfl (hin41) d_Model_take_41 [(h, .inr (6, [.int st.1, .int st.2.1.2.2.2.2, .ref h_kind, .ref h_b, .ref h_difference, .ref h_a, .int st.2.2.1.2.2.2.2, .ref h_newKind, .ref h_newB, .ref h_newDifference, .ref h_newA, .int st.2.2.2.1.2, .ref h_log, .ref h_packed, .int st.2.2.2.2.1.2, .int st.2.2.2.2.2.1.1, .int st.2.2.2.2.2.1.2.1, .int st.2.2.2.2.2.1.2.2.1, .int st.2.2.2.2.2.1.2.2.2, .int st.2.2.2.2.2.2.1, .int st.2.2.2.2.2.2.2])), (h_kind, .inl (cI, 300, .inl st.2.1.1)), (h_b, .inl (cI, 300, .inl st.2.1.2.2.2.1)), (h_difference, .inl (cL, 300, .inr (.inl st.2.1.2.1))), (h_a, .inl (cL, 300, .inr (.inl st.2.1.2.2.1))), (h_newKind, .inl (cI, 300, .inl (upd st.2.2.1.1 st.2.2.1.2.2.2.2.toNatClampNeg x1))), (h_newB, .inl (cI, 300, .inl (upd st.2.2.1.2.2.2.1 st.2.2.1.2.2.2.2.toNatClampNeg x6))), (h_newDifference, .inl (cL, 300, .inr (.inl (vp_updL st.2.2.1.2.1 st.2.2.1.2.2.2.2.toNatClampNeg x2)))), (h_newA, .inl (cL, 300, .inr (.inl (vp_updL st.2.2.1.2.2.1 st.2.2.1.2.2.2.2.toNatClampNeg x4)))), (h_log, .inl (cI, 5000, .inl st.2.2.2.1.1)), (h_packed, .inl (cI, 5000, .inl st.2.2.2.2.1.1))] rfl (fun H locs hH => ?_)
  refine lv_aload_n hx hb d_Model_take_42 rfl (lv_at hl 0 rfl) ?_
  refine lv_dup hx hb d_Model_take_43 rfl ?_
  refine gt (ci := 6) (v := .int st.2.2.1.2.2.2.2) C hH (iwT iw_Model) 0 rfl rfl 6 (by decide) (.tail _ wd_602) rfl d_Model_take_44 ?_
  refine lv_iconst (v := 1) hx hb d_Model_take_47 (by decide) ?_
  refine lv_iadd hx hb d_Model_take_48 ?_
  refine pt (ci := 6) (v := .int (st.2.2.1.2.2.2.2 + 1)) C hH (iwT iw_Model) ty_Model tyok_Model nm_Model 0 rfl rfl 6 (by decide) (.tail _ wd_602) rfl rfl rfl (Nat.le_of_ble_eq_true rfl) d_Model_take_49 [(h, .inr (6, [.int st.1, .int st.2.1.2.2.2.2, .ref h_kind, .ref h_b, .ref h_difference, .ref h_a, .int (st.2.2.1.2.2.2.2 + 1), .ref h_newKind, .ref h_newB, .ref h_newDifference, .ref h_newA, .int st.2.2.2.1.2, .ref h_log, .ref h_packed, .int st.2.2.2.2.1.2, .int st.2.2.2.2.2.1.1, .int st.2.2.2.2.2.1.2.1, .int st.2.2.2.2.2.1.2.2.1, .int st.2.2.2.2.2.1.2.2.2, .int st.2.2.2.2.2.2.1, .int st.2.2.2.2.2.2.2])), (h_kind, .inl (cI, 300, .inl st.2.1.1)), (h_b, .inl (cI, 300, .inl st.2.1.2.2.2.1)), (h_difference, .inl (cL, 300, .inr (.inl st.2.1.2.1))), (h_a, .inl (cL, 300, .inr (.inl st.2.1.2.2.1))), (h_newKind, .inl (cI, 300, .inl (upd st.2.2.1.1 st.2.2.1.2.2.2.2.toNatClampNeg x1))), (h_newB, .inl (cI, 300, .inl (upd st.2.2.1.2.2.2.1 st.2.2.1.2.2.2.2.toNatClampNeg x6))), (h_newDifference, .inl (cL, 300, .inr (.inl (vp_updL st.2.2.1.2.1 st.2.2.1.2.2.2.2.toNatClampNeg x2)))), (h_newA, .inl (cL, 300, .inr (.inl (vp_updL st.2.2.1.2.2.1 st.2.2.1.2.2.2.2.toNatClampNeg x4)))), (h_log, .inl (cI, 5000, .inl st.2.2.2.1.1)), (h_packed, .inl (cI, 5000, .inl st.2.2.2.2.1.1))] rfl (fun H locs hH => ?_)
  have hf := Option.some.inj hf
  subst hf
  exact rV C hH d_Model_take_52
def f_Model_before_b11 : Nat → S_Model → Int32 → Int64 → Int32 → Option (Int32)
  | 0, _, _, _, _ => none
  | n + 1, st, x1, x4, x6 =>
  if x6 < 0 then (some ((-1))) else (if x6 < 0 ∨ 300 ≤ x6.toNatClampNeg then none else if (st.2.2.1.1 x6.toNatClampNeg) = x1 then (if x6 < 0 ∨ 300 ≤ x6.toNatClampNeg then none else if (st.2.2.1.1 x6.toNatClampNeg) = x1 then (if (lg_cmp (x4 - 1) 0) = 0 then (some x6) else (f_Model_before_b11 n st x1 (x4 - 1) (x6 + (-1)))) else (f_Model_before_b11 n st x1 (x4 - 1) (x6 + (-1)))) else (if x6 < 0 ∨ 300 ≤ x6.toNatClampNeg then none else if (st.2.2.1.1 x6.toNatClampNeg) = x1 then (if (lg_cmp x4 0) = 0 then (some x6) else (f_Model_before_b11 n st x1 x4 (x6 + (-1)))) else (f_Model_before_b11 n st x1 x4 (x6 + (-1)))))
set_option maxRecDepth 100000 in
set_option maxHeartbeats 4000000 in
theorem w_Model_before_b11 (l : Launch) (D : va_G) (cI cL : ClassId) (h h_kind h_b h_difference h_a h_newKind h_newB h_newDifference h_newA h_log h_packed : Nat) {p : Program} {e : Env} {s : State} {m : MethodId} {args : Array Value} {below : List Frame} {meth : Method} {c : Code} {A : Nat → Prop} (C : Cx p s m args meth c D vwCl [(cI, .int), (cL, .long)] A b_Model_before 7 (some .int) ws_Model_before y_Model_before.cls) : ∀ (n : Nat) (st : S_Model) (x1 : Int32) (x4 : Int64) (x6 : Int32) (res : Int32), f_Model_before_b11 n st x1 x4 x6 = some res → ∀ (H : Heap) (locs : List Loc) (ls : Array Slot), Hp D vwCl (fun _ => True) A s.heap H locs [(h, .inr (6, [.int st.1, .int st.2.1.2.2.2.2, .ref h_kind, .ref h_b, .ref h_difference, .ref h_a, .int st.2.2.1.2.2.2.2, .ref h_newKind, .ref h_newB, .ref h_newDifference, .ref h_newA, .int st.2.2.2.1.2, .ref h_log, .ref h_packed, .int st.2.2.2.2.1.2, .int st.2.2.2.2.2.1.1, .int st.2.2.2.2.2.1.2.1, .int st.2.2.2.2.2.1.2.2.1, .int st.2.2.2.2.2.1.2.2.2, .int st.2.2.2.2.2.2.1, .int st.2.2.2.2.2.2.2])), (h_kind, .inl (cI, 300, .inl st.2.1.1)), (h_b, .inl (cI, 300, .inl st.2.1.2.2.2.1)), (h_difference, .inl (cL, 300, .inr (.inl st.2.1.2.1))), (h_a, .inl (cL, 300, .inr (.inl st.2.1.2.2.1))), (h_newKind, .inl (cI, 300, .inl st.2.2.1.1)), (h_newB, .inl (cI, 300, .inl st.2.2.1.2.2.2.1)), (h_newDifference, .inl (cL, 300, .inr (.inl st.2.2.1.2.1))), (h_newA, .inl (cL, 300, .inr (.inl st.2.2.1.2.2.1))), (h_log, .inl (cI, 5000, .inl st.2.2.2.1.1)), (h_packed, .inl (cI, 5000, .inl st.2.2.2.2.1.1))] → lv_has ls 7 [(0, .ref h), (1, .int x1), (4, .long x4), (6, .int x6)] → W p l e { frames := 0, cells := 0, slots := 0, locals := 0 } s m args below meth c H locs 0 0 (MQ below (QR (some (.int res)) A) args s 0 0 A) (F0 m 11 ls []) := by
  obtain ⟨hx, hb, hr, hml, hown, hts, hlk, hK, hA⟩ := id C
  intro n
  induction n with
  | zero => intro st x1 x4 x6 res hf; cases hf
  | succ n ih =>
    intro st x1 x4 x6 res hf H locs ls hH hl
    rw [f_Model_before_b11] at hf
    refine lv_iload hx hb d_Model_before_11 (lv_at hl 3 rfl) ?_
    refine lv_if_lt (tgt := 65) hx hb d_Model_before_13 (by decide) (fun hc13 => ?_) (fun hc13 => ?_)
    · have hf := ip hc13 hf
      refine lv_iconst (v := (-1)) hx hb d_Model_before_65 (by decide) ?_
      have hf := Option.some.inj hf
      subst hf
      exact rIR (v := (-1)) C hH d_Model_before_66
    · have hf := im hc13 hf
      refine lv_aload_n hx hb d_Model_before_16 rfl (lv_at hl 0 rfl) ?_
      refine gt (ci := 6) (v := .ref h_newKind) C hH (iwT iw_Model) 0 rfl rfl 7 (by decide) (.tail _ wd_603) rfl d_Model_before_17 ?_
      refine lv_iload hx hb d_Model_before_20 (lv_at hl 3 rfl) ?_
      obtain ⟨hin22, hf⟩ := oa hf
      refine ali C hH 5 0 rfl rfl (hin22) d_Model_before_22 ?_
      refine lv_iload_n hx hb d_Model_before_23 rfl (lv_at hl 1 rfl) ?_
      refine lv_icmp_ne (tgt := 34) hx hb d_Model_before_24 (by decide) (fun hc24 => ?_) (fun hc24 => ?_)
      · have hf := im hc24 hf
        refine lv_lload hx hb d_Model_before_34 (lv_at hl 2 rfl) ?_
        refine lv_lstore (lv' := [(4, .long x4), (0, .ref h), (1, .int x1), (6, .int x6)]) hx hb d_Model_before_36 hl (by decide) rfl (fun ls hl => ?_)
        refine lv_aload_n hx hb d_Model_before_38 rfl (lv_at hl 1 rfl) ?_
        refine gt (ci := 6) (v := .ref h_newKind) C hH (iwT iw_Model) 0 rfl rfl 7 (by decide) (.tail _ wd_603) rfl d_Model_before_39 ?_
        refine lv_iload hx hb d_Model_before_42 (lv_at hl 3 rfl) ?_
        obtain ⟨hin44, hf⟩ := oa hf
        refine ali C hH 5 0 rfl rfl (hin44) d_Model_before_44 ?_
        refine lv_iload_n hx hb d_Model_before_45 rfl (lv_at hl 2 rfl) ?_
        refine lv_icmp_ne (tgt := 59) hx hb d_Model_before_46 (by decide) (fun hc46 => ?_) (fun hc46 => ?_)
        · have hf := im hc46 hf
          refine lv_iinc (v := x6 + (-1)) (lv' := [(6, .int (x6 + (-1))), (4, .long x4), (0, .ref h), (1, .int x1)]) hx hb d_Model_before_59 hl (k := 3) rfl rfl (by decide) rfl (fun ls hl => ?_)
          refine lv_goto (tgt := 11) hx hb d_Model_before_62 (by decide) ?_
          exact ih st x1 x4 (x6 + (-1)) res hf _ _ _ hH (lv_sub hl [2, 3, 1, 0] rfl)
        · have hf := ip hc46 hf
          refine lv_lload hx hb d_Model_before_49 (lv_at hl 0 rfl) ?_
          refine lv_lconst (v := 0) hx hb d_Model_before_51 (by decide) ?_
          refine W.lcmp hx hb d_Model_before_52 ?_
          refine lv_if_ne (tgt := 59) hx hb d_Model_before_53 (by decide) (fun hc53 => ?_) (fun hc53 => ?_)
          · have hf := im hc53 hf
            refine lv_iinc (v := x6 + (-1)) (lv' := [(6, .int (x6 + (-1))), (4, .long x4), (0, .ref h), (1, .int x1)]) hx hb d_Model_before_59 hl (k := 3) rfl rfl (by decide) rfl (fun ls hl => ?_)
            refine lv_goto (tgt := 11) hx hb d_Model_before_62 (by decide) ?_
            exact ih st x1 x4 (x6 + (-1)) res hf _ _ _ hH (lv_sub hl [2, 3, 1, 0] rfl)
          · have hf := ip hc53 hf
            refine lv_iload hx hb d_Model_before_56 (lv_at hl 3 rfl) ?_
            have hf := Option.some.inj hf
            subst hf
            exact rIR (v := x6) C hH d_Model_before_58
      · have hf := ip hc24 hf
        refine lv_lload hx hb d_Model_before_27 (lv_at hl 2 rfl) ?_
        refine lv_lconst (v := 1) hx hb d_Model_before_29 (by decide) ?_
        refine lv_lsub hx hb d_Model_before_30 ?_
        refine lv_goto (tgt := 36) hx hb d_Model_before_31 (by decide) ?_
        refine lv_lstore (lv' := [(4, .long (x4 - 1)), (0, .ref h), (1, .int x1), (6, .int x6)]) hx hb d_Model_before_36 hl (by decide) rfl (fun ls hl => ?_)
        refine lv_aload_n hx hb d_Model_before_38 rfl (lv_at hl 1 rfl) ?_
        refine gt (ci := 6) (v := .ref h_newKind) C hH (iwT iw_Model) 0 rfl rfl 7 (by decide) (.tail _ wd_603) rfl d_Model_before_39 ?_
        refine lv_iload hx hb d_Model_before_42 (lv_at hl 3 rfl) ?_
        obtain ⟨hin44, hf⟩ := oa hf
        refine ali C hH 5 0 rfl rfl (hin44) d_Model_before_44 ?_
        refine lv_iload_n hx hb d_Model_before_45 rfl (lv_at hl 2 rfl) ?_
        refine lv_icmp_ne (tgt := 59) hx hb d_Model_before_46 (by decide) (fun hc46 => ?_) (fun hc46 => ?_)
        · have hf := im hc46 hf
          refine lv_iinc (v := x6 + (-1)) (lv' := [(6, .int (x6 + (-1))), (4, .long (x4 - 1)), (0, .ref h), (1, .int x1)]) hx hb d_Model_before_59 hl (k := 3) rfl rfl (by decide) rfl (fun ls hl => ?_)
          refine lv_goto (tgt := 11) hx hb d_Model_before_62 (by decide) ?_
          exact ih st x1 (x4 - 1) (x6 + (-1)) res hf _ _ _ hH (lv_sub hl [2, 3, 1, 0] rfl)
        · have hf := ip hc46 hf
          refine lv_lload hx hb d_Model_before_49 (lv_at hl 0 rfl) ?_
          refine lv_lconst (v := 0) hx hb d_Model_before_51 (by decide) ?_
          refine W.lcmp hx hb d_Model_before_52 ?_
          refine lv_if_ne (tgt := 59) hx hb d_Model_before_53 (by decide) (fun hc53 => ?_) (fun hc53 => ?_)
          · have hf := im hc53 hf
            refine lv_iinc (v := x6 + (-1)) (lv' := [(6, .int (x6 + (-1))), (4, .long (x4 - 1)), (0, .ref h), (1, .int x1)]) hx hb d_Model_before_59 hl (k := 3) rfl rfl (by decide) rfl (fun ls hl => ?_)
            refine lv_goto (tgt := 11) hx hb d_Model_before_62 (by decide) ?_
            exact ih st x1 (x4 - 1) (x6 + (-1)) res hf _ _ _ hH (lv_sub hl [2, 3, 1, 0] rfl)
          · have hf := ip hc53 hf
            refine lv_iload hx hb d_Model_before_56 (lv_at hl 3 rfl) ?_
            have hf := Option.some.inj hf
            subst hf
            exact rIR (v := x6) C hH d_Model_before_58
def f_Model_before (st : S_Model) (x1 : Int32) (x2 : Int64) : Option (Int32) :=
  f_Model_before_b11 400 st x1 x2 (st.2.2.1.2.2.2.2 - 1)
set_option maxRecDepth 100000 in
set_option maxHeartbeats 4000000 in
theorem c_Model_before (l : Launch) (D : va_G) (cI cL : ClassId) (h h_kind h_b h_difference h_a h_newKind h_newB h_newDifference h_newA h_log h_packed : Nat) (st : S_Model) (x1 : Int32) (x2 : Int64) (res : Int32) (hf : f_Model_before st x1 x2 = some res) :
    FnR l D vwCl [(cI, .int), (cL, .long)] y_Model_before ws_Model_before { frames := 0, cells := 0, slots := 0, locals := 0 } [.ref h, .int x1, .long x2] [(h, .inr (6, [.int st.1, .int st.2.1.2.2.2.2, .ref h_kind, .ref h_b, .ref h_difference, .ref h_a, .int st.2.2.1.2.2.2.2, .ref h_newKind, .ref h_newB, .ref h_newDifference, .ref h_newA, .int st.2.2.2.1.2, .ref h_log, .ref h_packed, .int st.2.2.2.2.1.2, .int st.2.2.2.2.2.1.1, .int st.2.2.2.2.2.1.2.1, .int st.2.2.2.2.2.1.2.2.1, .int st.2.2.2.2.2.1.2.2.2, .int st.2.2.2.2.2.2.1, .int st.2.2.2.2.2.2.2])), (h_kind, .inl (cI, 300, .inl st.2.1.1)), (h_b, .inl (cI, 300, .inl st.2.1.2.2.2.1)), (h_difference, .inl (cL, 300, .inr (.inl st.2.1.2.1))), (h_a, .inl (cL, 300, .inr (.inl st.2.1.2.2.1))), (h_newKind, .inl (cI, 300, .inl st.2.2.1.1)), (h_newB, .inl (cI, 300, .inl st.2.2.1.2.2.2.1)), (h_newDifference, .inl (cL, 300, .inr (.inl st.2.2.1.2.1))), (h_newA, .inl (cL, 300, .inr (.inl st.2.2.1.2.2.1))), (h_log, .inl (cI, 5000, .inl st.2.2.2.1.1)), (h_packed, .inl (cI, 5000, .inl st.2.2.2.2.1.1))] (some (.int res)) := by
  refine FnR.ofW (cc := b_Model_before) (maxL := 7) (ret := (some .int)) (by decide) rfl (Nat.le_of_ble_eq_true rfl) ?_
  intro p e s m below meth c A ls C hH hl
  have hl : lv_has ls 7 [(0, .ref h), (1, .int x1), (2, .long x2)] := hl
  obtain ⟨hx, hb, hr, hml, hown, hts, hlk, hK, hA⟩ := id C
  unfold f_Model_before at hf
  refine lv_lload_n hx hb d_Model_before_0 rfl (lv_at hl 2 rfl) ?_
  refine lv_lstore (lv' := [(4, .long x2), (0, .ref h), (1, .int x1), (2, .long x2)]) hx hb d_Model_before_1 hl (by decide) rfl (fun ls hl => ?_)
  refine lv_aload_n hx hb d_Model_before_3 rfl (lv_at hl 1 rfl) ?_
  refine gt (ci := 6) (v := .int st.2.2.1.2.2.2.2) C hH (iwT iw_Model) 0 rfl rfl 6 (by decide) (.tail _ wd_602) rfl d_Model_before_4 ?_
  refine lv_iconst (v := 1) hx hb d_Model_before_7 (by decide) ?_
  refine lv_isub hx hb d_Model_before_8 ?_
  refine lv_istore (lv' := [(6, .int (st.2.2.1.2.2.2.2 - 1)), (4, .long x2), (0, .ref h), (1, .int x1), (2, .long x2)]) hx hb d_Model_before_9 hl (by decide) rfl (fun ls hl => ?_)
  exact w_Model_before_b11 l D cI cL h h_kind h_b h_difference h_a h_newKind h_newB h_newDifference h_newA h_log h_packed C 400 st x1 x2 (st.2.2.1.2.2.2.2 - 1) res hf _ _ _ hH (lv_sub hl [2, 3, 1, 0] rfl)
def f_Model_readCount (st : S_Model)  : Option (Int64 × S_Model) :=
  (f_Model_readVarint st).bind (fun r6 => if r6.2.2.2.2.2.2.2.2 = 0 then (if (lg_cmp r6.1 0) = 0 then (lt1 (f_Model_meet r6.2 5 st.2.2.2.2.2.2.1) (fun r26 => some ((r6.1, r26)))) else (some ((r6.1, r6.2)))) else (some ((r6.1, r6.2))))
set_option maxRecDepth 100000 in
set_option maxHeartbeats 4000000 in
theorem c_Model_readCount (l : Launch) (D : va_G) (cI cL : ClassId) (h h_kind h_b h_difference h_a h_newKind h_newB h_newDifference h_newA h_log h_packed : Nat) (st : S_Model)  (res : Int64 × S_Model) (hf : f_Model_readCount st = some res) :
    Fn l D vwCl [(cI, .int), (cL, .long)] y_Model_readCount ws_Model_readCount { frames := 3, cells := 0, slots := 0, locals := 66 } [.ref h] [(h, .inr (6, [.int st.1, .int st.2.1.2.2.2.2, .ref h_kind, .ref h_b, .ref h_difference, .ref h_a, .int st.2.2.1.2.2.2.2, .ref h_newKind, .ref h_newB, .ref h_newDifference, .ref h_newA, .int st.2.2.2.1.2, .ref h_log, .ref h_packed, .int st.2.2.2.2.1.2, .int st.2.2.2.2.2.1.1, .int st.2.2.2.2.2.1.2.1, .int st.2.2.2.2.2.1.2.2.1, .int st.2.2.2.2.2.1.2.2.2, .int st.2.2.2.2.2.2.1, .int st.2.2.2.2.2.2.2])), (h_kind, .inl (cI, 300, .inl st.2.1.1)), (h_b, .inl (cI, 300, .inl st.2.1.2.2.2.1)), (h_difference, .inl (cL, 300, .inr (.inl st.2.1.2.1))), (h_a, .inl (cL, 300, .inr (.inl st.2.1.2.2.1))), (h_newKind, .inl (cI, 300, .inl st.2.2.1.1)), (h_newB, .inl (cI, 300, .inl st.2.2.1.2.2.2.1)), (h_newDifference, .inl (cL, 300, .inr (.inl st.2.2.1.2.1))), (h_newA, .inl (cL, 300, .inr (.inl st.2.2.1.2.2.1))), (h_log, .inl (cI, 5000, .inl st.2.2.2.1.1)), (h_packed, .inl (cI, 5000, .inl st.2.2.2.2.1.1))] (some (.long res.1)) [(h, .inr (6, [.int res.2.1, .int res.2.2.1.2.2.2.2, .ref h_kind, .ref h_b, .ref h_difference, .ref h_a, .int res.2.2.2.1.2.2.2.2, .ref h_newKind, .ref h_newB, .ref h_newDifference, .ref h_newA, .int res.2.2.2.2.1.2, .ref h_log, .ref h_packed, .int res.2.2.2.2.2.1.2, .int res.2.2.2.2.2.2.1.1, .int res.2.2.2.2.2.2.1.2.1, .int res.2.2.2.2.2.2.1.2.2.1, .int res.2.2.2.2.2.2.1.2.2.2, .int res.2.2.2.2.2.2.2.1, .int res.2.2.2.2.2.2.2.2])), (h_kind, .inl (cI, 300, .inl res.2.2.1.1)), (h_b, .inl (cI, 300, .inl res.2.2.1.2.2.2.1)), (h_difference, .inl (cL, 300, .inr (.inl res.2.2.1.2.1))), (h_a, .inl (cL, 300, .inr (.inl res.2.2.1.2.2.1))), (h_newKind, .inl (cI, 300, .inl res.2.2.2.1.1)), (h_newB, .inl (cI, 300, .inl res.2.2.2.1.2.2.2.1)), (h_newDifference, .inl (cL, 300, .inr (.inl res.2.2.2.1.2.1))), (h_newA, .inl (cL, 300, .inr (.inl res.2.2.2.1.2.2.1))), (h_log, .inl (cI, 5000, .inl res.2.2.2.2.1.1)), (h_packed, .inl (cI, 5000, .inl res.2.2.2.2.2.1.1))] := by
  refine Fn.ofW (cc := b_Model_readCount) (maxL := 4) (ret := (some .long)) (by decide) rfl (Nat.le_of_ble_eq_true rfl) ?_
  intro p e s m below meth c A ls C hH hinit hl
  have hl : lv_has ls 4 [(0, .ref h)] := hl
  obtain ⟨hx, hb, hr, hml, hown, hts, hlk, hK, hA⟩ := id C
  unfold f_Model_readCount at hf
  refine lv_aload_n hx hb d_Model_readCount_0 rfl (lv_at hl 0 rfl) ?_
  refine gt (ci := 6) (v := .int st.2.2.2.2.2.2.1) C hH (iwT iw_Model) 0 rfl rfl 19 (by decide) (.tail _ wd_615) rfl d_Model_readCount_1 ?_
  refine lv_istore_n (lv' := [(1, .int st.2.2.2.2.2.2.1), (0, .ref h)]) hx hb d_Model_readCount_4 rfl hl (by decide) rfl (fun ls hl => ?_)
  refine lv_aload_n hx hb d_Model_readCount_5 rfl (lv_at hl 1 rfl) ?_
  obtain ⟨r6, hr6, hf⟩ := ob hf
  refine fnV (rest := []) (wr := []) (w2 := [(h, .inr (6, [.int r6.2.1, .int r6.2.2.1.2.2.2.2, .ref h_kind, .ref h_b, .ref h_difference, .ref h_a, .int r6.2.2.2.1.2.2.2.2, .ref h_newKind, .ref h_newB, .ref h_newDifference, .ref h_newA, .int r6.2.2.2.2.1.2, .ref h_log, .ref h_packed, .int r6.2.2.2.2.2.1.2, .int r6.2.2.2.2.2.2.1.1, .int r6.2.2.2.2.2.2.1.2.1, .int r6.2.2.2.2.2.2.1.2.2.1, .int r6.2.2.2.2.2.2.1.2.2.2, .int r6.2.2.2.2.2.2.2.1, .int r6.2.2.2.2.2.2.2.2])), (h_kind, .inl (cI, 300, .inl r6.2.2.1.1)), (h_b, .inl (cI, 300, .inl r6.2.2.1.2.2.2.1)), (h_difference, .inl (cL, 300, .inr (.inl r6.2.2.1.2.1))), (h_a, .inl (cL, 300, .inr (.inl r6.2.2.1.2.2.1))), (h_newKind, .inl (cI, 300, .inl r6.2.2.2.1.1)), (h_newB, .inl (cI, 300, .inl r6.2.2.2.1.2.2.2.1)), (h_newDifference, .inl (cL, 300, .inr (.inl r6.2.2.2.1.2.1))), (h_newA, .inl (cL, 300, .inr (.inl r6.2.2.2.1.2.2.1))), (h_log, .inl (cI, 5000, .inl r6.2.2.2.2.1.1)), (h_packed, .inl (cI, 5000, .inl r6.2.2.2.2.2.1.1))]) (st2 := [.long r6.1]) C (c_Model_readVarint l D cI cL h h_kind h_b h_difference h_a h_newKind h_newB h_newDifference h_newA h_log h_packed st r6 hr6) (cV hts kV_Model_readVarint wd_739 ⟨Nat.le_of_ble_eq_true rfl, Nat.le_of_ble_eq_true rfl⟩) hH [0, 1, 2, 3, 4, 5, 6, 7, 8, 9, 10] [] [0, 1, 2, 3, 4, 5, 6, 7, 8, 9, 10] rfl rfl rfl rfl (by decide) rfl rfl 0 rfl rfl rfl hl.1 rfl (Nat.le_of_ble_eq_true rfl) d_Model_readCount_6 ⟨Nat.le_of_ble_eq_true rfl, Nat.le_of_ble_eq_true rfl⟩ rfl (fun H locs hH => ?_)
  refine lv_lstore_n (lv' := [(2, .long r6.1), (1, .int st.2.2.2.2.2.2.1), (0, .ref h)]) hx hb d_Model_readCount_9 rfl hl (by decide) rfl (fun ls hl => ?_)
  refine lv_aload_n hx hb d_Model_readCount_10 rfl (lv_at hl 2 rfl) ?_
  refine gt (ci := 6) (v := .int r6.2.2.2.2.2.2.2.2) C hH (iwT iw_Model) 0 rfl rfl 20 (by decide) (.tail _ wd_616) rfl d_Model_readCount_11 ?_
  refine lv_if_ne (tgt := 29) hx hb d_Model_readCount_14 (by decide) (fun hc14 => ?_) (fun hc14 => ?_)
  · have hf := im hc14 hf
    refine lv_lload_n hx hb d_Model_readCount_29 rfl (lv_at hl 0 rfl) ?_
    have hf := Option.some.inj hf
    subst hf
    exact rJ (v := r6.1) C hH d_Model_readCount_30
  · have hf := ip hc14 hf
    refine lv_lload_n hx hb d_Model_readCount_17 rfl (lv_at hl 0 rfl) ?_
    refine lv_lconst (v := 0) hx hb d_Model_readCount_18 (by decide) ?_
    refine W.lcmp hx hb d_Model_readCount_19 ?_
    refine lv_if_ne (tgt := 29) hx hb d_Model_readCount_20 (by decide) (fun hc20 => ?_) (fun hc20 => ?_)
    · have hf := im hc20 hf
      refine lv_lload_n hx hb d_Model_readCount_29 rfl (lv_at hl 0 rfl) ?_
      have hf := Option.some.inj hf
      subst hf
      exact rJ (v := r6.1) C hH d_Model_readCount_30
    · have hf := ip hc20 hf
      refine lv_aload_n hx hb d_Model_readCount_23 rfl (lv_at hl 2 rfl) ?_
      refine lv_iconst (v := 5) hx hb d_Model_readCount_24 (by decide) ?_
      refine lv_iload_n hx hb d_Model_readCount_25 rfl (lv_at hl 1 rfl) ?_
      obtain ⟨r26, hr26, hf⟩ := lb hf
      refine fnV (rest := []) (wr := []) (w2 := [(h, .inr (6, [.int r26.1, .int r26.2.1.2.2.2.2, .ref h_kind, .ref h_b, .ref h_difference, .ref h_a, .int r26.2.2.1.2.2.2.2, .ref h_newKind, .ref h_newB, .ref h_newDifference, .ref h_newA, .int r26.2.2.2.1.2, .ref h_log, .ref h_packed, .int r26.2.2.2.2.1.2, .int r26.2.2.2.2.2.1.1, .int r26.2.2.2.2.2.1.2.1, .int r26.2.2.2.2.2.1.2.2.1, .int r26.2.2.2.2.2.1.2.2.2, .int r26.2.2.2.2.2.2.1, .int r26.2.2.2.2.2.2.2])), (h_kind, .inl (cI, 300, .inl r26.2.1.1)), (h_b, .inl (cI, 300, .inl r26.2.1.2.2.2.1)), (h_difference, .inl (cL, 300, .inr (.inl r26.2.1.2.1))), (h_a, .inl (cL, 300, .inr (.inl r26.2.1.2.2.1))), (h_newKind, .inl (cI, 300, .inl r26.2.2.1.1)), (h_newB, .inl (cI, 300, .inl r26.2.2.1.2.2.2.1)), (h_newDifference, .inl (cL, 300, .inr (.inl r26.2.2.1.2.1))), (h_newA, .inl (cL, 300, .inr (.inl r26.2.2.1.2.2.1))), (h_log, .inl (cI, 5000, .inl r26.2.2.2.1.1)), (h_packed, .inl (cI, 5000, .inl r26.2.2.2.2.1.1))]) (st2 := []) C (c_Model_meet l D cI cL h h_kind h_b h_difference h_a h_newKind h_newB h_newDifference h_newA h_log h_packed r6.2 5 st.2.2.2.2.2.2.1 r26 hr26) (cV hts kV_Model_meet wd_747 ⟨Nat.le_of_ble_eq_true rfl, Nat.le_of_ble_eq_true rfl⟩) hH [0, 1, 2, 3, 4, 5, 6, 7, 8, 9, 10] [] [0, 1, 2, 3, 4, 5, 6, 7, 8, 9, 10] rfl rfl rfl rfl (by decide) rfl rfl 0 rfl rfl rfl hl.1 rfl (Nat.le_of_ble_eq_true rfl) d_Model_readCount_26 ⟨Nat.le_of_ble_eq_true rfl, Nat.le_of_ble_eq_true rfl⟩ rfl (fun H locs hH => ?_)
      refine lv_lload_n hx hb d_Model_readCount_29 rfl (lv_at hl 0 rfl) ?_
      have hf := Option.some.inj hf
      subst hf
      exact rJ (v := r6.1) C hH d_Model_readCount_30
def f_Model_readRun_b84 : Nat → S_Model → Int64 → Int64 → Option (S_Model)
  | 0, _, _, _ => none
  | n + 1, st, x4, x6 =>
  if 0 ≤ (lg_cmp x6 x4) then (some st) else (if st.2.2.2.2.2.2.2 = 0 then (if (st.2.2.1.2.2.2.2 - 1) < 0 ∨ 300 ≤ (st.2.2.1.2.2.2.2 - 1).toNatClampNeg then none else if (st.2.2.1.2.2.2.2 - 1) < 0 ∨ 300 ≤ (st.2.2.1.2.2.2.2 - 1).toNatClampNeg then none else if (st.2.2.1.2.2.2.2 - 1) < 0 ∨ 300 ≤ (st.2.2.1.2.2.2.2 - 1).toNatClampNeg then none else if (st.2.2.1.2.2.2.2 - 1) < 0 ∨ 300 ≤ (st.2.2.1.2.2.2.2 - 1).toNatClampNeg then none else (f_Model_take st (st.2.2.1.1 (st.2.2.1.2.2.2.2 - 1).toNatClampNeg) (st.2.2.1.2.1 (st.2.2.1.2.2.2.2 - 1).toNatClampNeg) (st.2.2.1.2.2.1 (st.2.2.1.2.2.2.2 - 1).toNatClampNeg) (st.2.2.1.2.2.2.1 (st.2.2.1.2.2.2.2 - 1).toNatClampNeg)).bind (fun r144 => f_Model_readRun_b84 n r144 x4 (x6 + 1))) else (some st))
set_option maxRecDepth 100000 in
set_option maxHeartbeats 4000000 in
theorem w_Model_readRun_b84 (l : Launch) (D : va_G) (cI cL : ClassId) (h h_kind h_b h_difference h_a h_newKind h_newB h_newDifference h_newA h_log h_packed : Nat) {p : Program} {e : Env} {s : State} {m : MethodId} {args : Array Value} {below : List Frame} {meth : Method} {c : Code} {A : Nat → Prop} (C : Cx p s m args meth c D vwCl [(cI, .int), (cL, .long)] A b_Model_readRun 8 none ws_Model_readRun y_Model_readRun.cls) : ∀ (n : Nat) (st : S_Model) (x4 : Int64) (x6 : Int64) (res : S_Model), f_Model_readRun_b84 n st x4 x6 = some res → ∀ (H : Heap) (locs : List Loc) (ls : Array Slot), Hp D vwCl A A s.heap H locs [(h, .inr (6, [.int st.1, .int st.2.1.2.2.2.2, .ref h_kind, .ref h_b, .ref h_difference, .ref h_a, .int st.2.2.1.2.2.2.2, .ref h_newKind, .ref h_newB, .ref h_newDifference, .ref h_newA, .int st.2.2.2.1.2, .ref h_log, .ref h_packed, .int st.2.2.2.2.1.2, .int st.2.2.2.2.2.1.1, .int st.2.2.2.2.2.1.2.1, .int st.2.2.2.2.2.1.2.2.1, .int st.2.2.2.2.2.1.2.2.2, .int st.2.2.2.2.2.2.1, .int st.2.2.2.2.2.2.2])), (h_kind, .inl (cI, 300, .inl st.2.1.1)), (h_b, .inl (cI, 300, .inl st.2.1.2.2.2.1)), (h_difference, .inl (cL, 300, .inr (.inl st.2.1.2.1))), (h_a, .inl (cL, 300, .inr (.inl st.2.1.2.2.1))), (h_newKind, .inl (cI, 300, .inl st.2.2.1.1)), (h_newB, .inl (cI, 300, .inl st.2.2.1.2.2.2.1)), (h_newDifference, .inl (cL, 300, .inr (.inl st.2.2.1.2.1))), (h_newA, .inl (cL, 300, .inr (.inl st.2.2.1.2.2.1))), (h_log, .inl (cI, 5000, .inl st.2.2.2.1.1)), (h_packed, .inl (cI, 5000, .inl st.2.2.2.2.1.1))] → lv_has ls 8 [(0, .ref h), (4, .long x4), (6, .long x6)] → W p l e { frames := 4, cells := 0, slots := 0, locals := 89 } s m args below meth c H locs 0 0 (MQ below (Qw D vwCl [(cI, .int), (cL, .long)] (none) A [(h, .inr (6, [.int res.1, .int res.2.1.2.2.2.2, .ref h_kind, .ref h_b, .ref h_difference, .ref h_a, .int res.2.2.1.2.2.2.2, .ref h_newKind, .ref h_newB, .ref h_newDifference, .ref h_newA, .int res.2.2.2.1.2, .ref h_log, .ref h_packed, .int res.2.2.2.2.1.2, .int res.2.2.2.2.2.1.1, .int res.2.2.2.2.2.1.2.1, .int res.2.2.2.2.2.1.2.2.1, .int res.2.2.2.2.2.1.2.2.2, .int res.2.2.2.2.2.2.1, .int res.2.2.2.2.2.2.2])), (h_kind, .inl (cI, 300, .inl res.2.1.1)), (h_b, .inl (cI, 300, .inl res.2.1.2.2.2.1)), (h_difference, .inl (cL, 300, .inr (.inl res.2.1.2.1))), (h_a, .inl (cL, 300, .inr (.inl res.2.1.2.2.1))), (h_newKind, .inl (cI, 300, .inl res.2.2.1.1)), (h_newB, .inl (cI, 300, .inl res.2.2.1.2.2.2.1)), (h_newDifference, .inl (cL, 300, .inr (.inl res.2.2.1.2.1))), (h_newA, .inl (cL, 300, .inr (.inl res.2.2.1.2.2.1))), (h_log, .inl (cI, 5000, .inl res.2.2.2.1.1)), (h_packed, .inl (cI, 5000, .inl res.2.2.2.2.1.1))]) args s 0 0 A) (F0 m 84 ls []) := by
  obtain ⟨hx, hb, hr, hml, hown, hts, hlk, hK, hA⟩ := id C
  intro n
  induction n with
  | zero => intro st x4 x6 res hf; cases hf
  | succ n ih =>
    intro st x4 x6 res hf H locs ls hH hl
    rw [f_Model_readRun_b84] at hf
    refine lv_lload hx hb d_Model_readRun_84 (lv_at hl 2 rfl) ?_
    refine lv_lload hx hb d_Model_readRun_86 (lv_at hl 1 rfl) ?_
    refine W.lcmp hx hb d_Model_readRun_88 ?_
    refine lv_if_ge (tgt := 156) hx hb d_Model_readRun_89 (by decide) (fun hc89 => ?_) (fun hc89 => ?_)
    · have hf := ip hc89 hf
      have hf := Option.some.inj hf
      subst hf
      exact rV C hH d_Model_readRun_156
    · have hf := im hc89 hf
      refine lv_aload_n hx hb d_Model_readRun_92 rfl (lv_at hl 0 rfl) ?_
      refine gt (ci := 6) (v := .int st.2.2.2.2.2.2.2) C hH (iwT iw_Model) 0 rfl rfl 20 (by decide) (.tail _ wd_616) rfl d_Model_readRun_93 ?_
      refine lv_if_ne (tgt := 156) hx hb d_Model_readRun_96 (by decide) (fun hc96 => ?_) (fun hc96 => ?_)
      · have hf := im hc96 hf
        have hf := Option.some.inj hf
        subst hf
        exact rV C hH d_Model_readRun_156
      · have hf := ip hc96 hf
        refine lv_aload_n hx hb d_Model_readRun_99 rfl (lv_at hl 0 rfl) ?_
        refine lv_aload_n hx hb d_Model_readRun_100 rfl (lv_at hl 0 rfl) ?_
        refine gt (ci := 6) (v := .ref h_newKind) C hH (iwT iw_Model) 0 rfl rfl 7 (by decide) (.tail _ wd_603) rfl d_Model_readRun_101 ?_
        refine lv_aload_n hx hb d_Model_readRun_104 rfl (lv_at hl 0 rfl) ?_
        refine gt (ci := 6) (v := .int st.2.2.1.2.2.2.2) C hH (iwT iw_Model) 0 rfl rfl 6 (by decide) (.tail _ wd_602) rfl d_Model_readRun_105 ?_
        refine lv_iconst (v := 1) hx hb d_Model_readRun_108 (by decide) ?_
        refine lv_isub hx hb d_Model_readRun_109 ?_
        obtain ⟨hin110, hf⟩ := oa hf
        refine ali C hH 5 0 rfl rfl (hin110) d_Model_readRun_110 ?_
        refine lv_aload_n hx hb d_Model_readRun_111 rfl (lv_at hl 0 rfl) ?_
        refine gt (ci := 6) (v := .ref h_newDifference) C hH (iwT iw_Model) 0 rfl rfl 9 (by decide) (.tail _ wd_605) rfl d_Model_readRun_112 ?_
        refine lv_aload_n hx hb d_Model_readRun_115 rfl (lv_at hl 0 rfl) ?_
        refine gt (ci := 6) (v := .int st.2.2.1.2.2.2.2) C hH (iwT iw_Model) 0 rfl rfl 6 (by decide) (.tail _ wd_602) rfl d_Model_readRun_116 ?_
        refine lv_iconst (v := 1) hx hb d_Model_readRun_119 (by decide) ?_
        refine lv_isub hx hb d_Model_readRun_120 ?_
        obtain ⟨hin121, hf⟩ := oa hf
        refine all_ C hH 7 1 rfl rfl (hin121) d_Model_readRun_121 ?_
        refine lv_aload_n hx hb d_Model_readRun_122 rfl (lv_at hl 0 rfl) ?_
        refine gt (ci := 6) (v := .ref h_newA) C hH (iwT iw_Model) 0 rfl rfl 10 (by decide) (.tail _ wd_606) rfl d_Model_readRun_123 ?_
        refine lv_aload_n hx hb d_Model_readRun_126 rfl (lv_at hl 0 rfl) ?_
        refine gt (ci := 6) (v := .int st.2.2.1.2.2.2.2) C hH (iwT iw_Model) 0 rfl rfl 6 (by decide) (.tail _ wd_602) rfl d_Model_readRun_127 ?_
        refine lv_iconst (v := 1) hx hb d_Model_readRun_130 (by decide) ?_
        refine lv_isub hx hb d_Model_readRun_131 ?_
        obtain ⟨hin132, hf⟩ := oa hf
        refine all_ C hH 8 1 rfl rfl (hin132) d_Model_readRun_132 ?_
        refine lv_aload_n hx hb d_Model_readRun_133 rfl (lv_at hl 0 rfl) ?_
        refine gt (ci := 6) (v := .ref h_newB) C hH (iwT iw_Model) 0 rfl rfl 8 (by decide) (.tail _ wd_604) rfl d_Model_readRun_134 ?_
        refine lv_aload_n hx hb d_Model_readRun_137 rfl (lv_at hl 0 rfl) ?_
        refine gt (ci := 6) (v := .int st.2.2.1.2.2.2.2) C hH (iwT iw_Model) 0 rfl rfl 6 (by decide) (.tail _ wd_602) rfl d_Model_readRun_138 ?_
        refine lv_iconst (v := 1) hx hb d_Model_readRun_141 (by decide) ?_
        refine lv_isub hx hb d_Model_readRun_142 ?_
        obtain ⟨hin143, hf⟩ := oa hf
        refine ali C hH 6 0 rfl rfl (hin143) d_Model_readRun_143 ?_
        obtain ⟨r144, hr144, hf⟩ := ob hf
        refine fnV (rest := []) (wr := []) (w2 := [(h, .inr (6, [.int r144.1, .int r144.2.1.2.2.2.2, .ref h_kind, .ref h_b, .ref h_difference, .ref h_a, .int r144.2.2.1.2.2.2.2, .ref h_newKind, .ref h_newB, .ref h_newDifference, .ref h_newA, .int r144.2.2.2.1.2, .ref h_log, .ref h_packed, .int r144.2.2.2.2.1.2, .int r144.2.2.2.2.2.1.1, .int r144.2.2.2.2.2.1.2.1, .int r144.2.2.2.2.2.1.2.2.1, .int r144.2.2.2.2.2.1.2.2.2, .int r144.2.2.2.2.2.2.1, .int r144.2.2.2.2.2.2.2])), (h_kind, .inl (cI, 300, .inl r144.2.1.1)), (h_b, .inl (cI, 300, .inl r144.2.1.2.2.2.1)), (h_difference, .inl (cL, 300, .inr (.inl r144.2.1.2.1))), (h_a, .inl (cL, 300, .inr (.inl r144.2.1.2.2.1))), (h_newKind, .inl (cI, 300, .inl r144.2.2.1.1)), (h_newB, .inl (cI, 300, .inl r144.2.2.1.2.2.2.1)), (h_newDifference, .inl (cL, 300, .inr (.inl r144.2.2.1.2.1))), (h_newA, .inl (cL, 300, .inr (.inl r144.2.2.1.2.2.1))), (h_log, .inl (cI, 5000, .inl r144.2.2.2.1.1)), (h_packed, .inl (cI, 5000, .inl r144.2.2.2.2.1.1))]) (st2 := []) C (c_Model_take l D cI cL h h_kind h_b h_difference h_a h_newKind h_newB h_newDifference h_newA h_log h_packed st (st.2.2.1.1 (st.2.2.1.2.2.2.2 - 1).toNatClampNeg) (st.2.2.1.2.1 (st.2.2.1.2.2.2.2 - 1).toNatClampNeg) (st.2.2.1.2.2.1 (st.2.2.1.2.2.2.2 - 1).toNatClampNeg) (st.2.2.1.2.2.2.1 (st.2.2.1.2.2.2.2 - 1).toNatClampNeg) r144 hr144) (cV hts kV_Model_take wd_760 ⟨Nat.le_of_ble_eq_true rfl, Nat.le_of_ble_eq_true rfl⟩) hH [0, 1, 2, 3, 4, 5, 6, 7, 8, 9, 10] [] [0, 1, 2, 3, 4, 5, 6, 7, 8, 9, 10] rfl rfl rfl rfl (by decide) rfl rfl 0 rfl rfl rfl hl.1 rfl (Nat.le_of_ble_eq_true rfl) d_Model_readRun_144 ⟨Nat.le_of_ble_eq_true rfl, Nat.le_of_ble_eq_true rfl⟩ rfl (fun H locs hH => ?_)
        refine lv_lload hx hb d_Model_readRun_147 (lv_at hl 2 rfl) ?_
        refine lv_lconst (v := 1) hx hb d_Model_readRun_149 (by decide) ?_
        refine lv_ladd hx hb d_Model_readRun_150 ?_
        refine lv_lstore (lv' := [(6, .long (x6 + 1)), (0, .ref h), (4, .long x4)]) hx hb d_Model_readRun_151 hl (by decide) rfl (fun ls hl => ?_)
        refine lv_goto (tgt := 84) hx hb d_Model_readRun_153 (by decide) ?_
        exact ih r144 x4 (x6 + 1) res hf _ _ _ hH (lv_sub hl [1, 2, 0] rfl)
def f_Model_readRun_b51 (st : S_Model) (x2 : Int32) (x3 : Int32) (z0 : Int64) : Option (S_Model) :=
  if st.2.2.2.2.2.2.2 = 0 then (if (lg_cmp (st.2.2.1.2.2.2.2.toInt64 + z0) x3.toInt64) ≤ 0 then (f_Model_readRun_b84 400 st z0 0) else (lt1 (f_Model_meet st 6 x2) (fun r78 => f_Model_readRun_b84 400 r78 z0 0))) else (f_Model_readRun_b84 400 st z0 0)
set_option maxRecDepth 100000 in
set_option maxHeartbeats 4000000 in
theorem w_Model_readRun_b51 (l : Launch) (D : va_G) (cI cL : ClassId) (h h_kind h_b h_difference h_a h_newKind h_newB h_newDifference h_newA h_log h_packed : Nat) {p : Program} {e : Env} {s : State} {m : MethodId} {args : Array Value} {below : List Frame} {meth : Method} {c : Code} {A : Nat → Prop} (C : Cx p s m args meth c D vwCl [(cI, .int), (cL, .long)] A b_Model_readRun 8 none ws_Model_readRun y_Model_readRun.cls) : ∀ (st : S_Model) (x2 : Int32) (x3 : Int32) (z0 : Int64) (res : S_Model), f_Model_readRun_b51 st x2 x3 z0 = some res → ∀ (H : Heap) (locs : List Loc) (ls : Array Slot), Hp D vwCl A A s.heap H locs [(h, .inr (6, [.int st.1, .int st.2.1.2.2.2.2, .ref h_kind, .ref h_b, .ref h_difference, .ref h_a, .int st.2.2.1.2.2.2.2, .ref h_newKind, .ref h_newB, .ref h_newDifference, .ref h_newA, .int st.2.2.2.1.2, .ref h_log, .ref h_packed, .int st.2.2.2.2.1.2, .int st.2.2.2.2.2.1.1, .int st.2.2.2.2.2.1.2.1, .int st.2.2.2.2.2.1.2.2.1, .int st.2.2.2.2.2.1.2.2.2, .int st.2.2.2.2.2.2.1, .int st.2.2.2.2.2.2.2])), (h_kind, .inl (cI, 300, .inl st.2.1.1)), (h_b, .inl (cI, 300, .inl st.2.1.2.2.2.1)), (h_difference, .inl (cL, 300, .inr (.inl st.2.1.2.1))), (h_a, .inl (cL, 300, .inr (.inl st.2.1.2.2.1))), (h_newKind, .inl (cI, 300, .inl st.2.2.1.1)), (h_newB, .inl (cI, 300, .inl st.2.2.1.2.2.2.1)), (h_newDifference, .inl (cL, 300, .inr (.inl st.2.2.1.2.1))), (h_newA, .inl (cL, 300, .inr (.inl st.2.2.1.2.2.1))), (h_log, .inl (cI, 5000, .inl st.2.2.2.1.1)), (h_packed, .inl (cI, 5000, .inl st.2.2.2.2.1.1))] → lv_has ls 8 [(0, .ref h), (2, .int x2), (3, .int x3)] → W p l e { frames := 4, cells := 0, slots := 0, locals := 89 } s m args below meth c H locs 0 0 (MQ below (Qw D vwCl [(cI, .int), (cL, .long)] (none) A [(h, .inr (6, [.int res.1, .int res.2.1.2.2.2.2, .ref h_kind, .ref h_b, .ref h_difference, .ref h_a, .int res.2.2.1.2.2.2.2, .ref h_newKind, .ref h_newB, .ref h_newDifference, .ref h_newA, .int res.2.2.2.1.2, .ref h_log, .ref h_packed, .int res.2.2.2.2.1.2, .int res.2.2.2.2.2.1.1, .int res.2.2.2.2.2.1.2.1, .int res.2.2.2.2.2.1.2.2.1, .int res.2.2.2.2.2.1.2.2.2, .int res.2.2.2.2.2.2.1, .int res.2.2.2.2.2.2.2])), (h_kind, .inl (cI, 300, .inl res.2.1.1)), (h_b, .inl (cI, 300, .inl res.2.1.2.2.2.1)), (h_difference, .inl (cL, 300, .inr (.inl res.2.1.2.1))), (h_a, .inl (cL, 300, .inr (.inl res.2.1.2.2.1))), (h_newKind, .inl (cI, 300, .inl res.2.2.1.1)), (h_newB, .inl (cI, 300, .inl res.2.2.1.2.2.2.1)), (h_newDifference, .inl (cL, 300, .inr (.inl res.2.2.1.2.1))), (h_newA, .inl (cL, 300, .inr (.inl res.2.2.1.2.2.1))), (h_log, .inl (cI, 5000, .inl res.2.2.2.1.1)), (h_packed, .inl (cI, 5000, .inl res.2.2.2.2.1.1))]) args s 0 0 A) (F0 m 51 ls [.long z0]) := by
  obtain ⟨hx, hb, hr, hml, hown, hts, hlk, hK, hA⟩ := id C
  intro st x2 x3 z0 res hf H locs ls hH hl
  unfold f_Model_readRun_b51 at hf
  refine lv_lstore (lv' := [(4, .long z0), (0, .ref h), (2, .int x2), (3, .int x3)]) hx hb d_Model_readRun_51 hl (by decide) rfl (fun ls hl => ?_)
  refine lv_aload_n hx hb d_Model_readRun_53 rfl (lv_at hl 1 rfl) ?_
  refine gt (ci := 6) (v := .int st.2.2.2.2.2.2.2) C hH (iwT iw_Model) 0 rfl rfl 20 (by decide) (.tail _ wd_616) rfl d_Model_readRun_54 ?_
  refine lv_if_ne (tgt := 81) hx hb d_Model_readRun_57 (by decide) (fun hc57 => ?_) (fun hc57 => ?_)
  · have hf := im hc57 hf
    refine lv_lconst (v := 0) hx hb d_Model_readRun_81 (by decide) ?_
    refine lv_lstore (lv' := [(6, .long 0), (4, .long z0), (0, .ref h), (2, .int x2), (3, .int x3)]) hx hb d_Model_readRun_82 hl (by decide) rfl (fun ls hl => ?_)
    exact w_Model_readRun_b84 l D cI cL h h_kind h_b h_difference h_a h_newKind h_newB h_newDifference h_newA h_log h_packed C 400 st z0 0 res hf _ _ _ hH (lv_sub hl [2, 1, 0] rfl)
  · have hf := ip hc57 hf
    refine lv_aload_n hx hb d_Model_readRun_60 rfl (lv_at hl 1 rfl) ?_
    refine gt (ci := 6) (v := .int st.2.2.1.2.2.2.2) C hH (iwT iw_Model) 0 rfl rfl 6 (by decide) (.tail _ wd_602) rfl d_Model_readRun_61 ?_
    refine lv_i2l (v := st.2.2.1.2.2.2.2.toInt64) hx hb d_Model_readRun_64 rfl ?_
    refine lv_lload hx hb d_Model_readRun_65 (lv_at hl 0 rfl) ?_
    refine lv_ladd hx hb d_Model_readRun_67 ?_
    refine lv_iload_n hx hb d_Model_readRun_68 rfl (lv_at hl 3 rfl) ?_
    refine lv_i2l (v := x3.toInt64) hx hb d_Model_readRun_69 rfl ?_
    refine W.lcmp hx hb d_Model_readRun_70 ?_
    refine lv_if_le (tgt := 81) hx hb d_Model_readRun_71 (by decide) (fun hc71 => ?_) (fun hc71 => ?_)
    · have hf := ip hc71 hf
      refine lv_lconst (v := 0) hx hb d_Model_readRun_81 (by decide) ?_
      refine lv_lstore (lv' := [(6, .long 0), (4, .long z0), (0, .ref h), (2, .int x2), (3, .int x3)]) hx hb d_Model_readRun_82 hl (by decide) rfl (fun ls hl => ?_)
      exact w_Model_readRun_b84 l D cI cL h h_kind h_b h_difference h_a h_newKind h_newB h_newDifference h_newA h_log h_packed C 400 st z0 0 res hf _ _ _ hH (lv_sub hl [2, 1, 0] rfl)
    · have hf := im hc71 hf
      refine lv_aload_n hx hb d_Model_readRun_74 rfl (lv_at hl 1 rfl) ?_
      refine lv_bipush (v := 6) hx hb d_Model_readRun_75 (by decide) ?_
      refine lv_iload_n hx hb d_Model_readRun_77 rfl (lv_at hl 2 rfl) ?_
      obtain ⟨r78, hr78, hf⟩ := lb hf
      refine fnV (rest := []) (wr := []) (w2 := [(h, .inr (6, [.int r78.1, .int r78.2.1.2.2.2.2, .ref h_kind, .ref h_b, .ref h_difference, .ref h_a, .int r78.2.2.1.2.2.2.2, .ref h_newKind, .ref h_newB, .ref h_newDifference, .ref h_newA, .int r78.2.2.2.1.2, .ref h_log, .ref h_packed, .int r78.2.2.2.2.1.2, .int r78.2.2.2.2.2.1.1, .int r78.2.2.2.2.2.1.2.1, .int r78.2.2.2.2.2.1.2.2.1, .int r78.2.2.2.2.2.1.2.2.2, .int r78.2.2.2.2.2.2.1, .int r78.2.2.2.2.2.2.2])), (h_kind, .inl (cI, 300, .inl r78.2.1.1)), (h_b, .inl (cI, 300, .inl r78.2.1.2.2.2.1)), (h_difference, .inl (cL, 300, .inr (.inl r78.2.1.2.1))), (h_a, .inl (cL, 300, .inr (.inl r78.2.1.2.2.1))), (h_newKind, .inl (cI, 300, .inl r78.2.2.1.1)), (h_newB, .inl (cI, 300, .inl r78.2.2.1.2.2.2.1)), (h_newDifference, .inl (cL, 300, .inr (.inl r78.2.2.1.2.1))), (h_newA, .inl (cL, 300, .inr (.inl r78.2.2.1.2.2.1))), (h_log, .inl (cI, 5000, .inl r78.2.2.2.1.1)), (h_packed, .inl (cI, 5000, .inl r78.2.2.2.2.1.1))]) (st2 := []) C (c_Model_meet l D cI cL h h_kind h_b h_difference h_a h_newKind h_newB h_newDifference h_newA h_log h_packed st 6 x2 r78 hr78) (cV hts kV_Model_meet wd_747 ⟨Nat.le_of_ble_eq_true rfl, Nat.le_of_ble_eq_true rfl⟩) hH [0, 1, 2, 3, 4, 5, 6, 7, 8, 9, 10] [] [0, 1, 2, 3, 4, 5, 6, 7, 8, 9, 10] rfl rfl rfl rfl (by decide) rfl rfl 0 rfl rfl rfl hl.1 rfl (Nat.le_of_ble_eq_true rfl) d_Model_readRun_78 ⟨Nat.le_of_ble_eq_true rfl, Nat.le_of_ble_eq_true rfl⟩ rfl (fun H locs hH => ?_)
      refine lv_lconst (v := 0) hx hb d_Model_readRun_81 (by decide) ?_
      refine lv_lstore (lv' := [(6, .long 0), (4, .long z0), (0, .ref h), (2, .int x2), (3, .int x3)]) hx hb d_Model_readRun_82 hl (by decide) rfl (fun ls hl => ?_)
      exact w_Model_readRun_b84 l D cI cL h h_kind h_b h_difference h_a h_newKind h_newB h_newDifference h_newA h_log h_packed C 400 r78 z0 0 res hf _ _ _ hH (lv_sub hl [2, 1, 0] rfl)
def f_Model_readRun_b26 (st : S_Model) (x1 : Int32) (x2 : Int32) (x3 : Int32) : Option (S_Model) :=
  if st.2.2.2.2.2.2.2 ≤ 0 then (if (x1 >>> (4 &&& 31)) ≤ 0 then ((f_Model_readCount st).bind (fun r48 => f_Model_readRun_b51 r48.2 x2 x3 r48.1)) else (f_Model_readRun_b51 st x2 x3 ((x1 >>> (4 &&& 31)).toInt64))) else (some st)
set_option maxRecDepth 100000 in
set_option maxHeartbeats 4000000 in
theorem w_Model_readRun_b26 (l : Launch) (D : va_G) (cI cL : ClassId) (h h_kind h_b h_difference h_a h_newKind h_newB h_newDifference h_newA h_log h_packed : Nat) {p : Program} {e : Env} {s : State} {m : MethodId} {args : Array Value} {below : List Frame} {meth : Method} {c : Code} {A : Nat → Prop} (C : Cx p s m args meth c D vwCl [(cI, .int), (cL, .long)] A b_Model_readRun 8 none ws_Model_readRun y_Model_readRun.cls) : ∀ (st : S_Model) (x1 : Int32) (x2 : Int32) (x3 : Int32) (res : S_Model), f_Model_readRun_b26 st x1 x2 x3 = some res → ∀ (H : Heap) (locs : List Loc) (ls : Array Slot), Hp D vwCl A A s.heap H locs [(h, .inr (6, [.int st.1, .int st.2.1.2.2.2.2, .ref h_kind, .ref h_b, .ref h_difference, .ref h_a, .int st.2.2.1.2.2.2.2, .ref h_newKind, .ref h_newB, .ref h_newDifference, .ref h_newA, .int st.2.2.2.1.2, .ref h_log, .ref h_packed, .int st.2.2.2.2.1.2, .int st.2.2.2.2.2.1.1, .int st.2.2.2.2.2.1.2.1, .int st.2.2.2.2.2.1.2.2.1, .int st.2.2.2.2.2.1.2.2.2, .int st.2.2.2.2.2.2.1, .int st.2.2.2.2.2.2.2])), (h_kind, .inl (cI, 300, .inl st.2.1.1)), (h_b, .inl (cI, 300, .inl st.2.1.2.2.2.1)), (h_difference, .inl (cL, 300, .inr (.inl st.2.1.2.1))), (h_a, .inl (cL, 300, .inr (.inl st.2.1.2.2.1))), (h_newKind, .inl (cI, 300, .inl st.2.2.1.1)), (h_newB, .inl (cI, 300, .inl st.2.2.1.2.2.2.1)), (h_newDifference, .inl (cL, 300, .inr (.inl st.2.2.1.2.1))), (h_newA, .inl (cL, 300, .inr (.inl st.2.2.1.2.2.1))), (h_log, .inl (cI, 5000, .inl st.2.2.2.1.1)), (h_packed, .inl (cI, 5000, .inl st.2.2.2.2.1.1))] → lv_has ls 8 [(0, .ref h), (1, .int x1), (2, .int x2), (3, .int x3)] → W p l e { frames := 4, cells := 0, slots := 0, locals := 89 } s m args below meth c H locs 0 0 (MQ below (Qw D vwCl [(cI, .int), (cL, .long)] (none) A [(h, .inr (6, [.int res.1, .int res.2.1.2.2.2.2, .ref h_kind, .ref h_b, .ref h_difference, .ref h_a, .int res.2.2.1.2.2.2.2, .ref h_newKind, .ref h_newB, .ref h_newDifference, .ref h_newA, .int res.2.2.2.1.2, .ref h_log, .ref h_packed, .int res.2.2.2.2.1.2, .int res.2.2.2.2.2.1.1, .int res.2.2.2.2.2.1.2.1, .int res.2.2.2.2.2.1.2.2.1, .int res.2.2.2.2.2.1.2.2.2, .int res.2.2.2.2.2.2.1, .int res.2.2.2.2.2.2.2])), (h_kind, .inl (cI, 300, .inl res.2.1.1)), (h_b, .inl (cI, 300, .inl res.2.1.2.2.2.1)), (h_difference, .inl (cL, 300, .inr (.inl res.2.1.2.1))), (h_a, .inl (cL, 300, .inr (.inl res.2.1.2.2.1))), (h_newKind, .inl (cI, 300, .inl res.2.2.1.1)), (h_newB, .inl (cI, 300, .inl res.2.2.1.2.2.2.1)), (h_newDifference, .inl (cL, 300, .inr (.inl res.2.2.1.2.1))), (h_newA, .inl (cL, 300, .inr (.inl res.2.2.1.2.2.1))), (h_log, .inl (cI, 5000, .inl res.2.2.2.1.1)), (h_packed, .inl (cI, 5000, .inl res.2.2.2.2.1.1))]) args s 0 0 A) (F0 m 26 ls []) := by
  obtain ⟨hx, hb, hr, hml, hown, hts, hlk, hK, hA⟩ := id C
  intro st x1 x2 x3 res hf H locs ls hH hl
  unfold f_Model_readRun_b26 at hf
  refine lv_aload_n hx hb d_Model_readRun_26 rfl (lv_at hl 0 rfl) ?_
  refine gt (ci := 6) (v := .int st.2.2.2.2.2.2.2) C hH (iwT iw_Model) 0 rfl rfl 20 (by decide) (.tail _ wd_616) rfl d_Model_readRun_27 ?_
  refine lv_if_le (tgt := 34) hx hb d_Model_readRun_30 (by decide) (fun hc30 => ?_) (fun hc30 => ?_)
  · have hf := ip hc30 hf
    refine lv_iload_n hx hb d_Model_readRun_34 rfl (lv_at hl 1 rfl) ?_
    refine lv_iconst (v := 4) hx hb d_Model_readRun_35 (by decide) ?_
    refine lv_ishr hx hb d_Model_readRun_36 ?_
    refine lv_if_le (tgt := 47) hx hb d_Model_readRun_37 (by decide) (fun hc37 => ?_) (fun hc37 => ?_)
    · have hf := ip hc37 hf
      refine lv_aload_n hx hb d_Model_readRun_47 rfl (lv_at hl 0 rfl) ?_
      obtain ⟨r48, hr48, hf⟩ := ob hf
      refine fnV (rest := []) (wr := []) (w2 := [(h, .inr (6, [.int r48.2.1, .int r48.2.2.1.2.2.2.2, .ref h_kind, .ref h_b, .ref h_difference, .ref h_a, .int r48.2.2.2.1.2.2.2.2, .ref h_newKind, .ref h_newB, .ref h_newDifference, .ref h_newA, .int r48.2.2.2.2.1.2, .ref h_log, .ref h_packed, .int r48.2.2.2.2.2.1.2, .int r48.2.2.2.2.2.2.1.1, .int r48.2.2.2.2.2.2.1.2.1, .int r48.2.2.2.2.2.2.1.2.2.1, .int r48.2.2.2.2.2.2.1.2.2.2, .int r48.2.2.2.2.2.2.2.1, .int r48.2.2.2.2.2.2.2.2])), (h_kind, .inl (cI, 300, .inl r48.2.2.1.1)), (h_b, .inl (cI, 300, .inl r48.2.2.1.2.2.2.1)), (h_difference, .inl (cL, 300, .inr (.inl r48.2.2.1.2.1))), (h_a, .inl (cL, 300, .inr (.inl r48.2.2.1.2.2.1))), (h_newKind, .inl (cI, 300, .inl r48.2.2.2.1.1)), (h_newB, .inl (cI, 300, .inl r48.2.2.2.1.2.2.2.1)), (h_newDifference, .inl (cL, 300, .inr (.inl r48.2.2.2.1.2.1))), (h_newA, .inl (cL, 300, .inr (.inl r48.2.2.2.1.2.2.1))), (h_log, .inl (cI, 5000, .inl r48.2.2.2.2.1.1)), (h_packed, .inl (cI, 5000, .inl r48.2.2.2.2.2.1.1))]) (st2 := [.long r48.1]) C (c_Model_readCount l D cI cL h h_kind h_b h_difference h_a h_newKind h_newB h_newDifference h_newA h_log h_packed st r48 hr48) (cV hts kV_Model_readCount wd_756 ⟨Nat.le_of_ble_eq_true rfl, Nat.le_of_ble_eq_true rfl⟩) hH [0, 1, 2, 3, 4, 5, 6, 7, 8, 9, 10] [] [0, 1, 2, 3, 4, 5, 6, 7, 8, 9, 10] rfl rfl rfl rfl (by decide) rfl rfl 0 rfl rfl rfl hl.1 rfl (Nat.le_of_ble_eq_true rfl) d_Model_readRun_48 ⟨Nat.le_of_ble_eq_true rfl, Nat.le_of_ble_eq_true rfl⟩ rfl (fun H locs hH => ?_)
      exact w_Model_readRun_b51 l D cI cL h h_kind h_b h_difference h_a h_newKind h_newB h_newDifference h_newA h_log h_packed C r48.2 x2 x3 r48.1 res hf _ _ _ hH (lv_sub hl [0, 2, 3] rfl)
    · have hf := im hc37 hf
      refine lv_iload_n hx hb d_Model_readRun_40 rfl (lv_at hl 1 rfl) ?_
      refine lv_iconst (v := 4) hx hb d_Model_readRun_41 (by decide) ?_
      refine lv_ishr hx hb d_Model_readRun_42 ?_
      refine lv_i2l (v := (x1 >>> (4 &&& 31)).toInt64) hx hb d_Model_readRun_43 rfl ?_
      refine lv_goto (tgt := 51) hx hb d_Model_readRun_44 (by decide) ?_
      exact w_Model_readRun_b51 l D cI cL h h_kind h_b h_difference h_a h_newKind h_newB h_newDifference h_newA h_log h_packed C st x2 x3 ((x1 >>> (4 &&& 31)).toInt64) res hf _ _ _ hH (lv_sub hl [0, 2, 3] rfl)
  · have hf := im hc30 hf
    have hf := Option.some.inj hf
    subst hf
    exact rV C hH d_Model_readRun_33
def f_Model_readRun_b13 (st : S_Model) (x1 : Int32) (x2 : Int32) (x3 : Int32) : Option (S_Model) :=
  if st.2.2.1.2.2.2.2 = 0 then (lt1 (f_Model_meet st 4 x2) (fun r23 => f_Model_readRun_b26 r23 x1 x2 x3)) else (f_Model_readRun_b26 st x1 x2 x3)
set_option maxRecDepth 100000 in
set_option maxHeartbeats 4000000 in
theorem w_Model_readRun_b13 (l : Launch) (D : va_G) (cI cL : ClassId) (h h_kind h_b h_difference h_a h_newKind h_newB h_newDifference h_newA h_log h_packed : Nat) {p : Program} {e : Env} {s : State} {m : MethodId} {args : Array Value} {below : List Frame} {meth : Method} {c : Code} {A : Nat → Prop} (C : Cx p s m args meth c D vwCl [(cI, .int), (cL, .long)] A b_Model_readRun 8 none ws_Model_readRun y_Model_readRun.cls) : ∀ (st : S_Model) (x1 : Int32) (x2 : Int32) (x3 : Int32) (res : S_Model), f_Model_readRun_b13 st x1 x2 x3 = some res → ∀ (H : Heap) (locs : List Loc) (ls : Array Slot), Hp D vwCl A A s.heap H locs [(h, .inr (6, [.int st.1, .int st.2.1.2.2.2.2, .ref h_kind, .ref h_b, .ref h_difference, .ref h_a, .int st.2.2.1.2.2.2.2, .ref h_newKind, .ref h_newB, .ref h_newDifference, .ref h_newA, .int st.2.2.2.1.2, .ref h_log, .ref h_packed, .int st.2.2.2.2.1.2, .int st.2.2.2.2.2.1.1, .int st.2.2.2.2.2.1.2.1, .int st.2.2.2.2.2.1.2.2.1, .int st.2.2.2.2.2.1.2.2.2, .int st.2.2.2.2.2.2.1, .int st.2.2.2.2.2.2.2])), (h_kind, .inl (cI, 300, .inl st.2.1.1)), (h_b, .inl (cI, 300, .inl st.2.1.2.2.2.1)), (h_difference, .inl (cL, 300, .inr (.inl st.2.1.2.1))), (h_a, .inl (cL, 300, .inr (.inl st.2.1.2.2.1))), (h_newKind, .inl (cI, 300, .inl st.2.2.1.1)), (h_newB, .inl (cI, 300, .inl st.2.2.1.2.2.2.1)), (h_newDifference, .inl (cL, 300, .inr (.inl st.2.2.1.2.1))), (h_newA, .inl (cL, 300, .inr (.inl st.2.2.1.2.2.1))), (h_log, .inl (cI, 5000, .inl st.2.2.2.1.1)), (h_packed, .inl (cI, 5000, .inl st.2.2.2.2.1.1))] → lv_has ls 8 [(0, .ref h), (1, .int x1), (2, .int x2), (3, .int x3)] → W p l e { frames := 4, cells := 0, slots := 0, locals := 89 } s m args below meth c H locs 0 0 (MQ below (Qw D vwCl [(cI, .int), (cL, .long)] (none) A [(h, .inr (6, [.int res.1, .int res.2.1.2.2.2.2, .ref h_kind, .ref h_b, .ref h_difference, .ref h_a, .int res.2.2.1.2.2.2.2, .ref h_newKind, .ref h_newB, .ref h_newDifference, .ref h_newA, .int res.2.2.2.1.2, .ref h_log, .ref h_packed, .int res.2.2.2.2.1.2, .int res.2.2.2.2.2.1.1, .int res.2.2.2.2.2.1.2.1, .int res.2.2.2.2.2.1.2.2.1, .int res.2.2.2.2.2.1.2.2.2, .int res.2.2.2.2.2.2.1, .int res.2.2.2.2.2.2.2])), (h_kind, .inl (cI, 300, .inl res.2.1.1)), (h_b, .inl (cI, 300, .inl res.2.1.2.2.2.1)), (h_difference, .inl (cL, 300, .inr (.inl res.2.1.2.1))), (h_a, .inl (cL, 300, .inr (.inl res.2.1.2.2.1))), (h_newKind, .inl (cI, 300, .inl res.2.2.1.1)), (h_newB, .inl (cI, 300, .inl res.2.2.1.2.2.2.1)), (h_newDifference, .inl (cL, 300, .inr (.inl res.2.2.1.2.1))), (h_newA, .inl (cL, 300, .inr (.inl res.2.2.1.2.2.1))), (h_log, .inl (cI, 5000, .inl res.2.2.2.1.1)), (h_packed, .inl (cI, 5000, .inl res.2.2.2.2.1.1))]) args s 0 0 A) (F0 m 13 ls []) := by
  obtain ⟨hx, hb, hr, hml, hown, hts, hlk, hK, hA⟩ := id C
  intro st x1 x2 x3 res hf H locs ls hH hl
  unfold f_Model_readRun_b13 at hf
  refine lv_aload_n hx hb d_Model_readRun_13 rfl (lv_at hl 0 rfl) ?_
  refine gt (ci := 6) (v := .int st.2.2.1.2.2.2.2) C hH (iwT iw_Model) 0 rfl rfl 6 (by decide) (.tail _ wd_602) rfl d_Model_readRun_14 ?_
  refine lv_if_ne (tgt := 26) hx hb d_Model_readRun_17 (by decide) (fun hc17 => ?_) (fun hc17 => ?_)
  · have hf := im hc17 hf
    exact w_Model_readRun_b26 l D cI cL h h_kind h_b h_difference h_a h_newKind h_newB h_newDifference h_newA h_log h_packed C st x1 x2 x3 res hf _ _ _ hH (lv_sub hl [0, 1, 2, 3] rfl)
  · have hf := ip hc17 hf
    refine lv_aload_n hx hb d_Model_readRun_20 rfl (lv_at hl 0 rfl) ?_
    refine lv_iconst (v := 4) hx hb d_Model_readRun_21 (by decide) ?_
    refine lv_iload_n hx hb d_Model_readRun_22 rfl (lv_at hl 2 rfl) ?_
    obtain ⟨r23, hr23, hf⟩ := lb hf
    refine fnV (rest := []) (wr := []) (w2 := [(h, .inr (6, [.int r23.1, .int r23.2.1.2.2.2.2, .ref h_kind, .ref h_b, .ref h_difference, .ref h_a, .int r23.2.2.1.2.2.2.2, .ref h_newKind, .ref h_newB, .ref h_newDifference, .ref h_newA, .int r23.2.2.2.1.2, .ref h_log, .ref h_packed, .int r23.2.2.2.2.1.2, .int r23.2.2.2.2.2.1.1, .int r23.2.2.2.2.2.1.2.1, .int r23.2.2.2.2.2.1.2.2.1, .int r23.2.2.2.2.2.1.2.2.2, .int r23.2.2.2.2.2.2.1, .int r23.2.2.2.2.2.2.2])), (h_kind, .inl (cI, 300, .inl r23.2.1.1)), (h_b, .inl (cI, 300, .inl r23.2.1.2.2.2.1)), (h_difference, .inl (cL, 300, .inr (.inl r23.2.1.2.1))), (h_a, .inl (cL, 300, .inr (.inl r23.2.1.2.2.1))), (h_newKind, .inl (cI, 300, .inl r23.2.2.1.1)), (h_newB, .inl (cI, 300, .inl r23.2.2.1.2.2.2.1)), (h_newDifference, .inl (cL, 300, .inr (.inl r23.2.2.1.2.1))), (h_newA, .inl (cL, 300, .inr (.inl r23.2.2.1.2.2.1))), (h_log, .inl (cI, 5000, .inl r23.2.2.2.1.1)), (h_packed, .inl (cI, 5000, .inl r23.2.2.2.2.1.1))]) (st2 := []) C (c_Model_meet l D cI cL h h_kind h_b h_difference h_a h_newKind h_newB h_newDifference h_newA h_log h_packed st 4 x2 r23 hr23) (cV hts kV_Model_meet wd_747 ⟨Nat.le_of_ble_eq_true rfl, Nat.le_of_ble_eq_true rfl⟩) hH [0, 1, 2, 3, 4, 5, 6, 7, 8, 9, 10] [] [0, 1, 2, 3, 4, 5, 6, 7, 8, 9, 10] rfl rfl rfl rfl (by decide) rfl rfl 0 rfl rfl rfl hl.1 rfl (Nat.le_of_ble_eq_true rfl) d_Model_readRun_23 ⟨Nat.le_of_ble_eq_true rfl, Nat.le_of_ble_eq_true rfl⟩ rfl (fun H locs hH => ?_)
    exact w_Model_readRun_b26 l D cI cL h h_kind h_b h_difference h_a h_newKind h_newB h_newDifference h_newA h_log h_packed C r23 x1 x2 x3 res hf _ _ _ hH (lv_sub hl [0, 1, 2, 3] rfl)
def f_Model_readRun (st : S_Model) (x1 : Int32) (x2 : Int32) (x3 : Int32) : Option (S_Model) :=
  if (x1 &&& 8) ≤ 0 then (f_Model_readRun_b13 st x1 x2 x3) else (lt1 (f_Model_meet st 1 x2) (fun r10 => f_Model_readRun_b13 r10 x1 x2 x3))
set_option maxRecDepth 100000 in
set_option maxHeartbeats 4000000 in
theorem c_Model_readRun (l : Launch) (D : va_G) (cI cL : ClassId) (h h_kind h_b h_difference h_a h_newKind h_newB h_newDifference h_newA h_log h_packed : Nat) (st : S_Model) (x1 : Int32) (x2 : Int32) (x3 : Int32) (res : S_Model) (hf : f_Model_readRun st x1 x2 x3 = some res) :
    Fn l D vwCl [(cI, .int), (cL, .long)] y_Model_readRun ws_Model_readRun { frames := 4, cells := 0, slots := 0, locals := 89 } [.ref h, .int x1, .int x2, .int x3] [(h, .inr (6, [.int st.1, .int st.2.1.2.2.2.2, .ref h_kind, .ref h_b, .ref h_difference, .ref h_a, .int st.2.2.1.2.2.2.2, .ref h_newKind, .ref h_newB, .ref h_newDifference, .ref h_newA, .int st.2.2.2.1.2, .ref h_log, .ref h_packed, .int st.2.2.2.2.1.2, .int st.2.2.2.2.2.1.1, .int st.2.2.2.2.2.1.2.1, .int st.2.2.2.2.2.1.2.2.1, .int st.2.2.2.2.2.1.2.2.2, .int st.2.2.2.2.2.2.1, .int st.2.2.2.2.2.2.2])), (h_kind, .inl (cI, 300, .inl st.2.1.1)), (h_b, .inl (cI, 300, .inl st.2.1.2.2.2.1)), (h_difference, .inl (cL, 300, .inr (.inl st.2.1.2.1))), (h_a, .inl (cL, 300, .inr (.inl st.2.1.2.2.1))), (h_newKind, .inl (cI, 300, .inl st.2.2.1.1)), (h_newB, .inl (cI, 300, .inl st.2.2.1.2.2.2.1)), (h_newDifference, .inl (cL, 300, .inr (.inl st.2.2.1.2.1))), (h_newA, .inl (cL, 300, .inr (.inl st.2.2.1.2.2.1))), (h_log, .inl (cI, 5000, .inl st.2.2.2.1.1)), (h_packed, .inl (cI, 5000, .inl st.2.2.2.2.1.1))] (none) [(h, .inr (6, [.int res.1, .int res.2.1.2.2.2.2, .ref h_kind, .ref h_b, .ref h_difference, .ref h_a, .int res.2.2.1.2.2.2.2, .ref h_newKind, .ref h_newB, .ref h_newDifference, .ref h_newA, .int res.2.2.2.1.2, .ref h_log, .ref h_packed, .int res.2.2.2.2.1.2, .int res.2.2.2.2.2.1.1, .int res.2.2.2.2.2.1.2.1, .int res.2.2.2.2.2.1.2.2.1, .int res.2.2.2.2.2.1.2.2.2, .int res.2.2.2.2.2.2.1, .int res.2.2.2.2.2.2.2])), (h_kind, .inl (cI, 300, .inl res.2.1.1)), (h_b, .inl (cI, 300, .inl res.2.1.2.2.2.1)), (h_difference, .inl (cL, 300, .inr (.inl res.2.1.2.1))), (h_a, .inl (cL, 300, .inr (.inl res.2.1.2.2.1))), (h_newKind, .inl (cI, 300, .inl res.2.2.1.1)), (h_newB, .inl (cI, 300, .inl res.2.2.1.2.2.2.1)), (h_newDifference, .inl (cL, 300, .inr (.inl res.2.2.1.2.1))), (h_newA, .inl (cL, 300, .inr (.inl res.2.2.1.2.2.1))), (h_log, .inl (cI, 5000, .inl res.2.2.2.1.1)), (h_packed, .inl (cI, 5000, .inl res.2.2.2.2.1.1))] := by
  refine Fn.ofW (cc := b_Model_readRun) (maxL := 8) (ret := none) (by decide) rfl (Nat.le_of_ble_eq_true rfl) ?_
  intro p e s m below meth c A ls C hH hinit hl
  have hl : lv_has ls 8 [(0, .ref h), (1, .int x1), (2, .int x2), (3, .int x3)] := hl
  obtain ⟨hx, hb, hr, hml, hown, hts, hlk, hK, hA⟩ := id C
  unfold f_Model_readRun at hf
  refine lv_iload_n hx hb d_Model_readRun_0 rfl (lv_at hl 1 rfl) ?_
  refine lv_bipush (v := 8) hx hb d_Model_readRun_1 (by decide) ?_
  refine lv_iand hx hb d_Model_readRun_3 ?_
  refine lv_if_le (tgt := 13) hx hb d_Model_readRun_4 (by decide) (fun hc4 => ?_) (fun hc4 => ?_)
  · have hf := ip hc4 hf
    exact w_Model_readRun_b13 l D cI cL h h_kind h_b h_difference h_a h_newKind h_newB h_newDifference h_newA h_log h_packed C st x1 x2 x3 res hf _ _ _ hH (lv_sub hl [0, 1, 2, 3] rfl)
  · have hf := im hc4 hf
    refine lv_aload_n hx hb d_Model_readRun_7 rfl (lv_at hl 0 rfl) ?_
    refine lv_iconst (v := 1) hx hb d_Model_readRun_8 (by decide) ?_
    refine lv_iload_n hx hb d_Model_readRun_9 rfl (lv_at hl 2 rfl) ?_
    obtain ⟨r10, hr10, hf⟩ := lb hf
    refine fnV (rest := []) (wr := []) (w2 := [(h, .inr (6, [.int r10.1, .int r10.2.1.2.2.2.2, .ref h_kind, .ref h_b, .ref h_difference, .ref h_a, .int r10.2.2.1.2.2.2.2, .ref h_newKind, .ref h_newB, .ref h_newDifference, .ref h_newA, .int r10.2.2.2.1.2, .ref h_log, .ref h_packed, .int r10.2.2.2.2.1.2, .int r10.2.2.2.2.2.1.1, .int r10.2.2.2.2.2.1.2.1, .int r10.2.2.2.2.2.1.2.2.1, .int r10.2.2.2.2.2.1.2.2.2, .int r10.2.2.2.2.2.2.1, .int r10.2.2.2.2.2.2.2])), (h_kind, .inl (cI, 300, .inl r10.2.1.1)), (h_b, .inl (cI, 300, .inl r10.2.1.2.2.2.1)), (h_difference, .inl (cL, 300, .inr (.inl r10.2.1.2.1))), (h_a, .inl (cL, 300, .inr (.inl r10.2.1.2.2.1))), (h_newKind, .inl (cI, 300, .inl r10.2.2.1.1)), (h_newB, .inl (cI, 300, .inl r10.2.2.1.2.2.2.1)), (h_newDifference, .inl (cL, 300, .inr (.inl r10.2.2.1.2.1))), (h_newA, .inl (cL, 300, .inr (.inl r10.2.2.1.2.2.1))), (h_log, .inl (cI, 5000, .inl r10.2.2.2.1.1)), (h_packed, .inl (cI, 5000, .inl r10.2.2.2.2.1.1))]) (st2 := []) C (c_Model_meet l D cI cL h h_kind h_b h_difference h_a h_newKind h_newB h_newDifference h_newA h_log h_packed st 1 x2 r10 hr10) (cV hts kV_Model_meet wd_747 ⟨Nat.le_of_ble_eq_true rfl, Nat.le_of_ble_eq_true rfl⟩) hH [0, 1, 2, 3, 4, 5, 6, 7, 8, 9, 10] [] [0, 1, 2, 3, 4, 5, 6, 7, 8, 9, 10] rfl rfl rfl rfl (by decide) rfl rfl 0 rfl rfl rfl hl.1 rfl (Nat.le_of_ble_eq_true rfl) d_Model_readRun_10 ⟨Nat.le_of_ble_eq_true rfl, Nat.le_of_ble_eq_true rfl⟩ rfl (fun H locs hH => ?_)
    exact w_Model_readRun_b13 l D cI cL h h_kind h_b h_difference h_a h_newKind h_newB h_newDifference h_newA h_log h_packed C r10 x1 x2 x3 res hf _ _ _ hH (lv_sub hl [0, 1, 2, 3] rfl)
def f_Model_readBytes_b5 : Nat → S_Model → Int32 → Int64 → Int32 → Option (Int64 × S_Model)
  | 0, _, _, _, _ => none
  | n + 1, st, x1, x2, x4 =>
  if x1 ≤ x4 then (some ((x2, st))) else ((f_Model_next st).bind (fun r16 => f_Model_readBytes_b5 n r16.2 x1 ((x2 <<< ((8 : Int32).toInt64 &&& 63)) ||| r16.1.toInt64) (x4 + 1)))
set_option maxRecDepth 100000 in
set_option maxHeartbeats 4000000 in
theorem w_Model_readBytes_b5 (l : Launch) (D : va_G) (cI cL : ClassId) (h h_kind h_b h_difference h_a h_newKind h_newB h_newDifference h_newA h_log h_packed : Nat) {p : Program} {e : Env} {s : State} {m : MethodId} {args : Array Value} {below : List Frame} {meth : Method} {c : Code} {A : Nat → Prop} (C : Cx p s m args meth c D vwCl [(cI, .int), (cL, .long)] A b_Model_readBytes 5 (some .long) ws_Model_readBytes y_Model_readBytes.cls) : ∀ (n : Nat) (st : S_Model) (x1 : Int32) (x2 : Int64) (x4 : Int32) (res : Int64 × S_Model), f_Model_readBytes_b5 n st x1 x2 x4 = some res → ∀ (H : Heap) (locs : List Loc) (ls : Array Slot), Hp D vwCl A A s.heap H locs [(h, .inr (6, [.int st.1, .int st.2.1.2.2.2.2, .ref h_kind, .ref h_b, .ref h_difference, .ref h_a, .int st.2.2.1.2.2.2.2, .ref h_newKind, .ref h_newB, .ref h_newDifference, .ref h_newA, .int st.2.2.2.1.2, .ref h_log, .ref h_packed, .int st.2.2.2.2.1.2, .int st.2.2.2.2.2.1.1, .int st.2.2.2.2.2.1.2.1, .int st.2.2.2.2.2.1.2.2.1, .int st.2.2.2.2.2.1.2.2.2, .int st.2.2.2.2.2.2.1, .int st.2.2.2.2.2.2.2])), (h_kind, .inl (cI, 300, .inl st.2.1.1)), (h_b, .inl (cI, 300, .inl st.2.1.2.2.2.1)), (h_difference, .inl (cL, 300, .inr (.inl st.2.1.2.1))), (h_a, .inl (cL, 300, .inr (.inl st.2.1.2.2.1))), (h_newKind, .inl (cI, 300, .inl st.2.2.1.1)), (h_newB, .inl (cI, 300, .inl st.2.2.1.2.2.2.1)), (h_newDifference, .inl (cL, 300, .inr (.inl st.2.2.1.2.1))), (h_newA, .inl (cL, 300, .inr (.inl st.2.2.1.2.2.1))), (h_log, .inl (cI, 5000, .inl st.2.2.2.1.1)), (h_packed, .inl (cI, 5000, .inl st.2.2.2.2.1.1))] → lv_has ls 5 [(0, .ref h), (1, .int x1), (2, .long x2), (4, .int x4)] → W p l e { frames := 2, cells := 0, slots := 0, locals := 42 } s m args below meth c H locs 0 0 (MQ below (Qw D vwCl [(cI, .int), (cL, .long)] (some (.long res.1)) A [(h, .inr (6, [.int res.2.1, .int res.2.2.1.2.2.2.2, .ref h_kind, .ref h_b, .ref h_difference, .ref h_a, .int res.2.2.2.1.2.2.2.2, .ref h_newKind, .ref h_newB, .ref h_newDifference, .ref h_newA, .int res.2.2.2.2.1.2, .ref h_log, .ref h_packed, .int res.2.2.2.2.2.1.2, .int res.2.2.2.2.2.2.1.1, .int res.2.2.2.2.2.2.1.2.1, .int res.2.2.2.2.2.2.1.2.2.1, .int res.2.2.2.2.2.2.1.2.2.2, .int res.2.2.2.2.2.2.2.1, .int res.2.2.2.2.2.2.2.2])), (h_kind, .inl (cI, 300, .inl res.2.2.1.1)), (h_b, .inl (cI, 300, .inl res.2.2.1.2.2.2.1)), (h_difference, .inl (cL, 300, .inr (.inl res.2.2.1.2.1))), (h_a, .inl (cL, 300, .inr (.inl res.2.2.1.2.2.1))), (h_newKind, .inl (cI, 300, .inl res.2.2.2.1.1)), (h_newB, .inl (cI, 300, .inl res.2.2.2.1.2.2.2.1)), (h_newDifference, .inl (cL, 300, .inr (.inl res.2.2.2.1.2.1))), (h_newA, .inl (cL, 300, .inr (.inl res.2.2.2.1.2.2.1))), (h_log, .inl (cI, 5000, .inl res.2.2.2.2.1.1)), (h_packed, .inl (cI, 5000, .inl res.2.2.2.2.2.1.1))]) args s 0 0 A) (F0 m 5 ls []) := by
  obtain ⟨hx, hb, hr, hml, hown, hts, hlk, hK, hA⟩ := id C
  intro n
  induction n with
  | zero => intro st x1 x2 x4 res hf; cases hf
  | succ n ih =>
    intro st x1 x2 x4 res hf H locs ls hH hl
    rw [f_Model_readBytes_b5] at hf
    refine lv_iload hx hb d_Model_readBytes_5 (lv_at hl 3 rfl) ?_
    refine lv_iload_n hx hb d_Model_readBytes_7 rfl (lv_at hl 1 rfl) ?_
    refine lv_icmp_ge (tgt := 28) hx hb d_Model_readBytes_8 (by decide) (fun hc8 => ?_) (fun hc8 => ?_)
    · have hf := ip hc8 hf
      refine lv_lload_n hx hb d_Model_readBytes_28 rfl (lv_at hl 2 rfl) ?_
      have hf := Option.some.inj hf
      subst hf
      exact rJ (v := x2) C hH d_Model_readBytes_29
    · have hf := im hc8 hf
      refine lv_lload_n hx hb d_Model_readBytes_11 rfl (lv_at hl 2 rfl) ?_
      refine lv_bipush (v := 8) hx hb d_Model_readBytes_12 (by decide) ?_
      refine lv_lshl (v := x2 <<< ((8 : Int32).toInt64 &&& 63)) hx hb d_Model_readBytes_14 rfl ?_
      refine lv_aload_n hx hb d_Model_readBytes_15 rfl (lv_at hl 0 rfl) ?_
      obtain ⟨r16, hr16, hf⟩ := ob hf
      refine fnV (rest := [.long (x2 <<< ((8 : Int32).toInt64 &&& 63))]) (wr := []) (w2 := [(h, .inr (6, [.int r16.2.1, .int r16.2.2.1.2.2.2.2, .ref h_kind, .ref h_b, .ref h_difference, .ref h_a, .int r16.2.2.2.1.2.2.2.2, .ref h_newKind, .ref h_newB, .ref h_newDifference, .ref h_newA, .int r16.2.2.2.2.1.2, .ref h_log, .ref h_packed, .int r16.2.2.2.2.2.1.2, .int r16.2.2.2.2.2.2.1.1, .int r16.2.2.2.2.2.2.1.2.1, .int r16.2.2.2.2.2.2.1.2.2.1, .int r16.2.2.2.2.2.2.1.2.2.2, .int r16.2.2.2.2.2.2.2.1, .int r16.2.2.2.2.2.2.2.2])), (h_kind, .inl (cI, 300, .inl r16.2.2.1.1)), (h_b, .inl (cI, 300, .inl r16.2.2.1.2.2.2.1)), (h_difference, .inl (cL, 300, .inr (.inl r16.2.2.1.2.1))), (h_a, .inl (cL, 300, .inr (.inl r16.2.2.1.2.2.1))), (h_newKind, .inl (cI, 300, .inl r16.2.2.2.1.1)), (h_newB, .inl (cI, 300, .inl r16.2.2.2.1.2.2.2.1)), (h_newDifference, .inl (cL, 300, .inr (.inl r16.2.2.2.1.2.1))), (h_newA, .inl (cL, 300, .inr (.inl r16.2.2.2.1.2.2.1))), (h_log, .inl (cI, 5000, .inl r16.2.2.2.2.1.1)), (h_packed, .inl (cI, 5000, .inl r16.2.2.2.2.2.1.1))]) (st2 := [.int r16.1, .long (x2 <<< ((8 : Int32).toInt64 &&& 63))]) C (c_Model_next l D cI cL h h_kind h_b h_difference h_a h_newKind h_newB h_newDifference h_newA h_log h_packed st r16 hr16) (cV hts kV_Model_next wd_743 ⟨Nat.le_of_ble_eq_true rfl, Nat.le_of_ble_eq_true rfl⟩) hH [0, 1, 2, 3, 4, 5, 6, 7, 8, 9, 10] [] [0, 1, 2, 3, 4, 5, 6, 7, 8, 9, 10] rfl rfl rfl rfl (by decide) rfl rfl 0 rfl rfl rfl hl.1 rfl (Nat.le_of_ble_eq_true rfl) d_Model_readBytes_16 ⟨Nat.le_of_ble_eq_true rfl, Nat.le_of_ble_eq_true rfl⟩ rfl (fun H locs hH => ?_)
      refine lv_i2l (v := r16.1.toInt64) hx hb d_Model_readBytes_19 rfl ?_
      refine lv_lor hx hb d_Model_readBytes_20 ?_
      refine lv_lstore_n (lv' := [(2, .long ((x2 <<< ((8 : Int32).toInt64 &&& 63)) ||| r16.1.toInt64)), (0, .ref h), (1, .int x1), (4, .int x4)]) hx hb d_Model_readBytes_21 rfl hl (by decide) rfl (fun ls hl => ?_)
      refine lv_iinc (v := x4 + 1) (lv' := [(4, .int (x4 + 1)), (2, .long ((x2 <<< ((8 : Int32).toInt64 &&& 63)) ||| r16.1.toInt64)), (0, .ref h), (1, .int x1)]) hx hb d_Model_readBytes_22 hl (k := 3) rfl rfl (by decide) rfl (fun ls hl => ?_)
      refine lv_goto (tgt := 5) hx hb d_Model_readBytes_25 (by decide) ?_
      exact ih r16.2 x1 ((x2 <<< ((8 : Int32).toInt64 &&& 63)) ||| r16.1.toInt64) (x4 + 1) res hf _ _ _ hH (lv_sub hl [2, 3, 1, 0] rfl)
def f_Model_readBytes (st : S_Model) (x1 : Int32) : Option (Int64 × S_Model) :=
  f_Model_readBytes_b5 400 st x1 0 0
set_option maxRecDepth 100000 in
set_option maxHeartbeats 4000000 in
theorem c_Model_readBytes (l : Launch) (D : va_G) (cI cL : ClassId) (h h_kind h_b h_difference h_a h_newKind h_newB h_newDifference h_newA h_log h_packed : Nat) (st : S_Model) (x1 : Int32) (res : Int64 × S_Model) (hf : f_Model_readBytes st x1 = some res) :
    Fn l D vwCl [(cI, .int), (cL, .long)] y_Model_readBytes ws_Model_readBytes { frames := 2, cells := 0, slots := 0, locals := 42 } [.ref h, .int x1] [(h, .inr (6, [.int st.1, .int st.2.1.2.2.2.2, .ref h_kind, .ref h_b, .ref h_difference, .ref h_a, .int st.2.2.1.2.2.2.2, .ref h_newKind, .ref h_newB, .ref h_newDifference, .ref h_newA, .int st.2.2.2.1.2, .ref h_log, .ref h_packed, .int st.2.2.2.2.1.2, .int st.2.2.2.2.2.1.1, .int st.2.2.2.2.2.1.2.1, .int st.2.2.2.2.2.1.2.2.1, .int st.2.2.2.2.2.1.2.2.2, .int st.2.2.2.2.2.2.1, .int st.2.2.2.2.2.2.2])), (h_kind, .inl (cI, 300, .inl st.2.1.1)), (h_b, .inl (cI, 300, .inl st.2.1.2.2.2.1)), (h_difference, .inl (cL, 300, .inr (.inl st.2.1.2.1))), (h_a, .inl (cL, 300, .inr (.inl st.2.1.2.2.1))), (h_newKind, .inl (cI, 300, .inl st.2.2.1.1)), (h_newB, .inl (cI, 300, .inl st.2.2.1.2.2.2.1)), (h_newDifference, .inl (cL, 300, .inr (.inl st.2.2.1.2.1))), (h_newA, .inl (cL, 300, .inr (.inl st.2.2.1.2.2.1))), (h_log, .inl (cI, 5000, .inl st.2.2.2.1.1)), (h_packed, .inl (cI, 5000, .inl st.2.2.2.2.1.1))] (some (.long res.1)) [(h, .inr (6, [.int res.2.1, .int res.2.2.1.2.2.2.2, .ref h_kind, .ref h_b, .ref h_difference, .ref h_a, .int res.2.2.2.1.2.2.2.2, .ref h_newKind, .ref h_newB, .ref h_newDifference, .ref h_newA, .int res.2.2.2.2.1.2, .ref h_log, .ref h_packed, .int res.2.2.2.2.2.1.2, .int res.2.2.2.2.2.2.1.1, .int res.2.2.2.2.2.2.1.2.1, .int res.2.2.2.2.2.2.1.2.2.1, .int res.2.2.2.2.2.2.1.2.2.2, .int res.2.2.2.2.2.2.2.1, .int res.2.2.2.2.2.2.2.2])), (h_kind, .inl (cI, 300, .inl res.2.2.1.1)), (h_b, .inl (cI, 300, .inl res.2.2.1.2.2.2.1)), (h_difference, .inl (cL, 300, .inr (.inl res.2.2.1.2.1))), (h_a, .inl (cL, 300, .inr (.inl res.2.2.1.2.2.1))), (h_newKind, .inl (cI, 300, .inl res.2.2.2.1.1)), (h_newB, .inl (cI, 300, .inl res.2.2.2.1.2.2.2.1)), (h_newDifference, .inl (cL, 300, .inr (.inl res.2.2.2.1.2.1))), (h_newA, .inl (cL, 300, .inr (.inl res.2.2.2.1.2.2.1))), (h_log, .inl (cI, 5000, .inl res.2.2.2.2.1.1)), (h_packed, .inl (cI, 5000, .inl res.2.2.2.2.2.1.1))] := by
  refine Fn.ofW (cc := b_Model_readBytes) (maxL := 5) (ret := (some .long)) (by decide) rfl (Nat.le_of_ble_eq_true rfl) ?_
  intro p e s m below meth c A ls C hH hinit hl
  have hl : lv_has ls 5 [(0, .ref h), (1, .int x1)] := hl
  obtain ⟨hx, hb, hr, hml, hown, hts, hlk, hK, hA⟩ := id C
  unfold f_Model_readBytes at hf
  refine lv_lconst (v := 0) hx hb d_Model_readBytes_0 (by decide) ?_
  refine lv_lstore_n (lv' := [(2, .long 0), (0, .ref h), (1, .int x1)]) hx hb d_Model_readBytes_1 rfl hl (by decide) rfl (fun ls hl => ?_)
  refine lv_iconst (v := 0) hx hb d_Model_readBytes_2 (by decide) ?_
  refine lv_istore (lv' := [(4, .int 0), (2, .long 0), (0, .ref h), (1, .int x1)]) hx hb d_Model_readBytes_3 hl (by decide) rfl (fun ls hl => ?_)
  exact w_Model_readBytes_b5 l D cI cL h h_kind h_b h_difference h_a h_newKind h_newB h_newDifference h_newA h_log h_packed C 400 st x1 0 0 res hf _ _ _ hH (lv_sub hl [2, 3, 1, 0] rfl)
def f_Model_readEntry_b332 (st : S_Model) (x3 : Int32) (x6 : Int64) (x8 : Int64) (x10 : Int32) : Option (S_Model) :=
  if st.2.2.2.2.2.2.2 = 0 then ((f_Model_take st x3 x6 x8 x10).bind (fun r347 => some r347)) else (some st)
set_option maxRecDepth 100000 in
set_option maxHeartbeats 4000000 in
theorem w_Model_readEntry_b332 (l : Launch) (D : va_G) (cI cL : ClassId) (h h_kind h_b h_difference h_a h_newKind h_newB h_newDifference h_newA h_log h_packed : Nat) {p : Program} {e : Env} {s : State} {m : MethodId} {args : Array Value} {below : List Frame} {meth : Method} {c : Code} {A : Nat → Prop} (C : Cx p s m args meth c D vwCl [(cI, .int), (cL, .long)] A b_Model_readEntry 12 none ws_Model_readEntry y_Model_readEntry.cls) : ∀ (st : S_Model) (x3 : Int32) (x6 : Int64) (x8 : Int64) (x10 : Int32) (res : S_Model), f_Model_readEntry_b332 st x3 x6 x8 x10 = some res → ∀ (H : Heap) (locs : List Loc) (ls : Array Slot), Hp D vwCl A A s.heap H locs [(h, .inr (6, [.int st.1, .int st.2.1.2.2.2.2, .ref h_kind, .ref h_b, .ref h_difference, .ref h_a, .int st.2.2.1.2.2.2.2, .ref h_newKind, .ref h_newB, .ref h_newDifference, .ref h_newA, .int st.2.2.2.1.2, .ref h_log, .ref h_packed, .int st.2.2.2.2.1.2, .int st.2.2.2.2.2.1.1, .int st.2.2.2.2.2.1.2.1, .int st.2.2.2.2.2.1.2.2.1, .int st.2.2.2.2.2.1.2.2.2, .int st.2.2.2.2.2.2.1, .int st.2.2.2.2.2.2.2])), (h_kind, .inl (cI, 300, .inl st.2.1.1)), (h_b, .inl (cI, 300, .inl st.2.1.2.2.2.1)), (h_difference, .inl (cL, 300, .inr (.inl st.2.1.2.1))), (h_a, .inl (cL, 300, .inr (.inl st.2.1.2.2.1))), (h_newKind, .inl (cI, 300, .inl st.2.2.1.1)), (h_newB, .inl (cI, 300, .inl st.2.2.1.2.2.2.1)), (h_newDifference, .inl (cL, 300, .inr (.inl st.2.2.1.2.1))), (h_newA, .inl (cL, 300, .inr (.inl st.2.2.1.2.2.1))), (h_log, .inl (cI, 5000, .inl st.2.2.2.1.1)), (h_packed, .inl (cI, 5000, .inl st.2.2.2.2.1.1))] → lv_has ls 12 [(0, .ref h), (3, .int x3), (6, .long x6), (8, .long x8), (10, .int x10)] → W p l e { frames := 4, cells := 0, slots := 0, locals := 89 } s m args below meth c H locs 0 0 (MQ below (Qw D vwCl [(cI, .int), (cL, .long)] (none) A [(h, .inr (6, [.int res.1, .int res.2.1.2.2.2.2, .ref h_kind, .ref h_b, .ref h_difference, .ref h_a, .int res.2.2.1.2.2.2.2, .ref h_newKind, .ref h_newB, .ref h_newDifference, .ref h_newA, .int res.2.2.2.1.2, .ref h_log, .ref h_packed, .int res.2.2.2.2.1.2, .int res.2.2.2.2.2.1.1, .int res.2.2.2.2.2.1.2.1, .int res.2.2.2.2.2.1.2.2.1, .int res.2.2.2.2.2.1.2.2.2, .int res.2.2.2.2.2.2.1, .int res.2.2.2.2.2.2.2])), (h_kind, .inl (cI, 300, .inl res.2.1.1)), (h_b, .inl (cI, 300, .inl res.2.1.2.2.2.1)), (h_difference, .inl (cL, 300, .inr (.inl res.2.1.2.1))), (h_a, .inl (cL, 300, .inr (.inl res.2.1.2.2.1))), (h_newKind, .inl (cI, 300, .inl res.2.2.1.1)), (h_newB, .inl (cI, 300, .inl res.2.2.1.2.2.2.1)), (h_newDifference, .inl (cL, 300, .inr (.inl res.2.2.1.2.1))), (h_newA, .inl (cL, 300, .inr (.inl res.2.2.1.2.2.1))), (h_log, .inl (cI, 5000, .inl res.2.2.2.1.1)), (h_packed, .inl (cI, 5000, .inl res.2.2.2.2.1.1))]) args s 0 0 A) (F0 m 332 ls []) := by
  obtain ⟨hx, hb, hr, hml, hown, hts, hlk, hK, hA⟩ := id C
  intro st x3 x6 x8 x10 res hf H locs ls hH hl
  unfold f_Model_readEntry_b332 at hf
  refine lv_aload_n hx hb d_Model_readEntry_332 rfl (lv_at hl 0 rfl) ?_
  refine gt (ci := 6) (v := .int st.2.2.2.2.2.2.2) C hH (iwT iw_Model) 0 rfl rfl 20 (by decide) (.tail _ wd_616) rfl d_Model_readEntry_333 ?_
  refine lv_if_ne (tgt := 350) hx hb d_Model_readEntry_336 (by decide) (fun hc336 => ?_) (fun hc336 => ?_)
  · have hf := im hc336 hf
    have hf := Option.some.inj hf
    subst hf
    exact rV C hH d_Model_readEntry_350
  · have hf := ip hc336 hf
    refine lv_aload_n hx hb d_Model_readEntry_339 rfl (lv_at hl 0 rfl) ?_
    refine lv_iload_n hx hb d_Model_readEntry_340 rfl (lv_at hl 1 rfl) ?_
    refine lv_lload hx hb d_Model_readEntry_341 (lv_at hl 2 rfl) ?_
    refine lv_lload hx hb d_Model_readEntry_343 (lv_at hl 3 rfl) ?_
    refine lv_iload hx hb d_Model_readEntry_345 (lv_at hl 4 rfl) ?_
    obtain ⟨r347, hr347, hf⟩ := ob hf
    refine fnV (rest := []) (wr := []) (w2 := [(h, .inr (6, [.int r347.1, .int r347.2.1.2.2.2.2, .ref h_kind, .ref h_b, .ref h_difference, .ref h_a, .int r347.2.2.1.2.2.2.2, .ref h_newKind, .ref h_newB, .ref h_newDifference, .ref h_newA, .int r347.2.2.2.1.2, .ref h_log, .ref h_packed, .int r347.2.2.2.2.1.2, .int r347.2.2.2.2.2.1.1, .int r347.2.2.2.2.2.1.2.1, .int r347.2.2.2.2.2.1.2.2.1, .int r347.2.2.2.2.2.1.2.2.2, .int r347.2.2.2.2.2.2.1, .int r347.2.2.2.2.2.2.2])), (h_kind, .inl (cI, 300, .inl r347.2.1.1)), (h_b, .inl (cI, 300, .inl r347.2.1.2.2.2.1)), (h_difference, .inl (cL, 300, .inr (.inl r347.2.1.2.1))), (h_a, .inl (cL, 300, .inr (.inl r347.2.1.2.2.1))), (h_newKind, .inl (cI, 300, .inl r347.2.2.1.1)), (h_newB, .inl (cI, 300, .inl r347.2.2.1.2.2.2.1)), (h_newDifference, .inl (cL, 300, .inr (.inl r347.2.2.1.2.1))), (h_newA, .inl (cL, 300, .inr (.inl r347.2.2.1.2.2.1))), (h_log, .inl (cI, 5000, .inl r347.2.2.2.1.1)), (h_packed, .inl (cI, 5000, .inl r347.2.2.2.2.1.1))]) (st2 := []) C (c_Model_take l D cI cL h h_kind h_b h_difference h_a h_newKind h_newB h_newDifference h_newA h_log h_packed st x3 x6 x8 x10 r347 hr347) (cV hts kV_Model_take wd_760 ⟨Nat.le_of_ble_eq_true rfl, Nat.le_of_ble_eq_true rfl⟩) hH [0, 1, 2, 3, 4, 5, 6, 7, 8, 9, 10] [] [0, 1, 2, 3, 4, 5, 6, 7, 8, 9, 10] rfl rfl rfl rfl (by decide) rfl rfl 0 rfl rfl rfl hl.1 rfl (Nat.le_of_ble_eq_true rfl) d_Model_readEntry_347 ⟨Nat.le_of_ble_eq_true rfl, Nat.le_of_ble_eq_true rfl⟩ rfl (fun H locs hH => ?_)
    have hf := Option.some.inj hf
    subst hf
    exact rV C hH d_Model_readEntry_350
def f_Model_readEntry_b321 (st : S_Model) (x3 : Int32) (x6 : Int64) (x8 : Int64) (x10 : Int32) : Option (S_Model) :=
  lt1 (f_Model_meet st 5 (st.2.2.2.2.2.2.1 - 1)) (fun r329 => f_Model_readEntry_b332 r329 x3 x6 x8 x10)
set_option maxRecDepth 100000 in
set_option maxHeartbeats 4000000 in
theorem w_Model_readEntry_b321 (l : Launch) (D : va_G) (cI cL : ClassId) (h h_kind h_b h_difference h_a h_newKind h_newB h_newDifference h_newA h_log h_packed : Nat) {p : Program} {e : Env} {s : State} {m : MethodId} {args : Array Value} {below : List Frame} {meth : Method} {c : Code} {A : Nat → Prop} (C : Cx p s m args meth c D vwCl [(cI, .int), (cL, .long)] A b_Model_readEntry 12 none ws_Model_readEntry y_Model_readEntry.cls) : ∀ (st : S_Model) (x3 : Int32) (x6 : Int64) (x8 : Int64) (x10 : Int32) (res : S_Model), f_Model_readEntry_b321 st x3 x6 x8 x10 = some res → ∀ (H : Heap) (locs : List Loc) (ls : Array Slot), Hp D vwCl A A s.heap H locs [(h, .inr (6, [.int st.1, .int st.2.1.2.2.2.2, .ref h_kind, .ref h_b, .ref h_difference, .ref h_a, .int st.2.2.1.2.2.2.2, .ref h_newKind, .ref h_newB, .ref h_newDifference, .ref h_newA, .int st.2.2.2.1.2, .ref h_log, .ref h_packed, .int st.2.2.2.2.1.2, .int st.2.2.2.2.2.1.1, .int st.2.2.2.2.2.1.2.1, .int st.2.2.2.2.2.1.2.2.1, .int st.2.2.2.2.2.1.2.2.2, .int st.2.2.2.2.2.2.1, .int st.2.2.2.2.2.2.2])), (h_kind, .inl (cI, 300, .inl st.2.1.1)), (h_b, .inl (cI, 300, .inl st.2.1.2.2.2.1)), (h_difference, .inl (cL, 300, .inr (.inl st.2.1.2.1))), (h_a, .inl (cL, 300, .inr (.inl st.2.1.2.2.1))), (h_newKind, .inl (cI, 300, .inl st.2.2.1.1)), (h_newB, .inl (cI, 300, .inl st.2.2.1.2.2.2.1)), (h_newDifference, .inl (cL, 300, .inr (.inl st.2.2.1.2.1))), (h_newA, .inl (cL, 300, .inr (.inl st.2.2.1.2.2.1))), (h_log, .inl (cI, 5000, .inl st.2.2.2.1.1)), (h_packed, .inl (cI, 5000, .inl st.2.2.2.2.1.1))] → lv_has ls 12 [(0, .ref h), (3, .int x3), (6, .long x6), (8, .long x8), (10, .int x10)] → W p l e { frames := 4, cells := 0, slots := 0, locals := 89 } s m args below meth c H locs 0 0 (MQ below (Qw D vwCl [(cI, .int), (cL, .long)] (none) A [(h, .inr (6, [.int res.1, .int res.2.1.2.2.2.2, .ref h_kind, .ref h_b, .ref h_difference, .ref h_a, .int res.2.2.1.2.2.2.2, .ref h_newKind, .ref h_newB, .ref h_newDifference, .ref h_newA, .int res.2.2.2.1.2, .ref h_log, .ref h_packed, .int res.2.2.2.2.1.2, .int res.2.2.2.2.2.1.1, .int res.2.2.2.2.2.1.2.1, .int res.2.2.2.2.2.1.2.2.1, .int res.2.2.2.2.2.1.2.2.2, .int res.2.2.2.2.2.2.1, .int res.2.2.2.2.2.2.2])), (h_kind, .inl (cI, 300, .inl res.2.1.1)), (h_b, .inl (cI, 300, .inl res.2.1.2.2.2.1)), (h_difference, .inl (cL, 300, .inr (.inl res.2.1.2.1))), (h_a, .inl (cL, 300, .inr (.inl res.2.1.2.2.1))), (h_newKind, .inl (cI, 300, .inl res.2.2.1.1)), (h_newB, .inl (cI, 300, .inl res.2.2.1.2.2.2.1)), (h_newDifference, .inl (cL, 300, .inr (.inl res.2.2.1.2.1))), (h_newA, .inl (cL, 300, .inr (.inl res.2.2.1.2.2.1))), (h_log, .inl (cI, 5000, .inl res.2.2.2.1.1)), (h_packed, .inl (cI, 5000, .inl res.2.2.2.2.1.1))]) args s 0 0 A) (F0 m 321 ls []) := by
  obtain ⟨hx, hb, hr, hml, hown, hts, hlk, hK, hA⟩ := id C
  intro st x3 x6 x8 x10 res hf H locs ls hH hl
  unfold f_Model_readEntry_b321 at hf
  refine lv_aload_n hx hb d_Model_readEntry_321 rfl (lv_at hl 0 rfl) ?_
  refine lv_iconst (v := 5) hx hb d_Model_readEntry_322 (by decide) ?_
  refine lv_aload_n hx hb d_Model_readEntry_323 rfl (lv_at hl 0 rfl) ?_
  refine gt (ci := 6) (v := .int st.2.2.2.2.2.2.1) C hH (iwT iw_Model) 0 rfl rfl 19 (by decide) (.tail _ wd_615) rfl d_Model_readEntry_324 ?_
  refine lv_iconst (v := 1) hx hb d_Model_readEntry_327 (by decide) ?_
  refine lv_isub hx hb d_Model_readEntry_328 ?_
  obtain ⟨r329, hr329, hf⟩ := lb hf
  refine fnV (rest := []) (wr := []) (w2 := [(h, .inr (6, [.int r329.1, .int r329.2.1.2.2.2.2, .ref h_kind, .ref h_b, .ref h_difference, .ref h_a, .int r329.2.2.1.2.2.2.2, .ref h_newKind, .ref h_newB, .ref h_newDifference, .ref h_newA, .int r329.2.2.2.1.2, .ref h_log, .ref h_packed, .int r329.2.2.2.2.1.2, .int r329.2.2.2.2.2.1.1, .int r329.2.2.2.2.2.1.2.1, .int r329.2.2.2.2.2.1.2.2.1, .int r329.2.2.2.2.2.1.2.2.2, .int r329.2.2.2.2.2.2.1, .int r329.2.2.2.2.2.2.2])), (h_kind, .inl (cI, 300, .inl r329.2.1.1)), (h_b, .inl (cI, 300, .inl r329.2.1.2.2.2.1)), (h_difference, .inl (cL, 300, .inr (.inl r329.2.1.2.1))), (h_a, .inl (cL, 300, .inr (.inl r329.2.1.2.2.1))), (h_newKind, .inl (cI, 300, .inl r329.2.2.1.1)), (h_newB, .inl (cI, 300, .inl r329.2.2.1.2.2.2.1)), (h_newDifference, .inl (cL, 300, .inr (.inl r329.2.2.1.2.1))), (h_newA, .inl (cL, 300, .inr (.inl r329.2.2.1.2.2.1))), (h_log, .inl (cI, 5000, .inl r329.2.2.2.1.1)), (h_packed, .inl (cI, 5000, .inl r329.2.2.2.2.1.1))]) (st2 := []) C (c_Model_meet l D cI cL h h_kind h_b h_difference h_a h_newKind h_newB h_newDifference h_newA h_log h_packed st 5 (st.2.2.2.2.2.2.1 - 1) r329 hr329) (cV hts kV_Model_meet wd_747 ⟨Nat.le_of_ble_eq_true rfl, Nat.le_of_ble_eq_true rfl⟩) hH [0, 1, 2, 3, 4, 5, 6, 7, 8, 9, 10] [] [0, 1, 2, 3, 4, 5, 6, 7, 8, 9, 10] rfl rfl rfl rfl (by decide) rfl rfl 0 rfl rfl rfl hl.1 rfl (Nat.le_of_ble_eq_true rfl) d_Model_readEntry_329 ⟨Nat.le_of_ble_eq_true rfl, Nat.le_of_ble_eq_true rfl⟩ rfl (fun H locs hH => ?_)
  exact w_Model_readEntry_b332 l D cI cL h h_kind h_b h_difference h_a h_newKind h_newB h_newDifference h_newA h_log h_packed C r329 x3 x6 x8 x10 res hf _ _ _ hH (lv_sub hl [0, 1, 2, 3, 4] rfl)
def f_Model_readEntry_b283 (st : S_Model) (x3 : Int32) (x6 : Int64) (x8 : Int64) (x10 : Int32) : Option (S_Model) :=
  if x3 = (2 : Int32) then (if st.2.2.2.2.2.2.2 = 0 then ((f_Model_next st).bind (fun r296 => if r296.2.2.2.2.2.2.2.2 = 0 then (if r296.1 < (1 : Int32) then (f_Model_readEntry_b321 r296.2 x3 x6 x8 r296.1) else (if r296.1 ≤ (31 : Int32) then (f_Model_readEntry_b332 r296.2 x3 x6 x8 r296.1) else (f_Model_readEntry_b321 r296.2 x3 x6 x8 r296.1))) else (f_Model_readEntry_b332 r296.2 x3 x6 x8 r296.1))) else (f_Model_readEntry_b332 st x3 x6 x8 x10)) else (f_Model_readEntry_b332 st x3 x6 x8 x10)
set_option maxRecDepth 100000 in
set_option maxHeartbeats 4000000 in
theorem w_Model_readEntry_b283 (l : Launch) (D : va_G) (cI cL : ClassId) (h h_kind h_b h_difference h_a h_newKind h_newB h_newDifference h_newA h_log h_packed : Nat) {p : Program} {e : Env} {s : State} {m : MethodId} {args : Array Value} {below : List Frame} {meth : Method} {c : Code} {A : Nat → Prop} (C : Cx p s m args meth c D vwCl [(cI, .int), (cL, .long)] A b_Model_readEntry 12 none ws_Model_readEntry y_Model_readEntry.cls) : ∀ (st : S_Model) (x3 : Int32) (x6 : Int64) (x8 : Int64) (x10 : Int32) (res : S_Model), f_Model_readEntry_b283 st x3 x6 x8 x10 = some res → ∀ (H : Heap) (locs : List Loc) (ls : Array Slot), Hp D vwCl A A s.heap H locs [(h, .inr (6, [.int st.1, .int st.2.1.2.2.2.2, .ref h_kind, .ref h_b, .ref h_difference, .ref h_a, .int st.2.2.1.2.2.2.2, .ref h_newKind, .ref h_newB, .ref h_newDifference, .ref h_newA, .int st.2.2.2.1.2, .ref h_log, .ref h_packed, .int st.2.2.2.2.1.2, .int st.2.2.2.2.2.1.1, .int st.2.2.2.2.2.1.2.1, .int st.2.2.2.2.2.1.2.2.1, .int st.2.2.2.2.2.1.2.2.2, .int st.2.2.2.2.2.2.1, .int st.2.2.2.2.2.2.2])), (h_kind, .inl (cI, 300, .inl st.2.1.1)), (h_b, .inl (cI, 300, .inl st.2.1.2.2.2.1)), (h_difference, .inl (cL, 300, .inr (.inl st.2.1.2.1))), (h_a, .inl (cL, 300, .inr (.inl st.2.1.2.2.1))), (h_newKind, .inl (cI, 300, .inl st.2.2.1.1)), (h_newB, .inl (cI, 300, .inl st.2.2.1.2.2.2.1)), (h_newDifference, .inl (cL, 300, .inr (.inl st.2.2.1.2.1))), (h_newA, .inl (cL, 300, .inr (.inl st.2.2.1.2.2.1))), (h_log, .inl (cI, 5000, .inl st.2.2.2.1.1)), (h_packed, .inl (cI, 5000, .inl st.2.2.2.2.1.1))] → lv_has ls 12 [(0, .ref h), (3, .int x3), (6, .long x6), (8, .long x8), (10, .int x10)] → W p l e { frames := 4, cells := 0, slots := 0, locals := 89 } s m args below meth c H locs 0 0 (MQ below (Qw D vwCl [(cI, .int), (cL, .long)] (none) A [(h, .inr (6, [.int res.1, .int res.2.1.2.2.2.2, .ref h_kind, .ref h_b, .ref h_difference, .ref h_a, .int res.2.2.1.2.2.2.2, .ref h_newKind, .ref h_newB, .ref h_newDifference, .ref h_newA, .int res.2.2.2.1.2, .ref h_log, .ref h_packed, .int res.2.2.2.2.1.2, .int res.2.2.2.2.2.1.1, .int res.2.2.2.2.2.1.2.1, .int res.2.2.2.2.2.1.2.2.1, .int res.2.2.2.2.2.1.2.2.2, .int res.2.2.2.2.2.2.1, .int res.2.2.2.2.2.2.2])), (h_kind, .inl (cI, 300, .inl res.2.1.1)), (h_b, .inl (cI, 300, .inl res.2.1.2.2.2.1)), (h_difference, .inl (cL, 300, .inr (.inl res.2.1.2.1))), (h_a, .inl (cL, 300, .inr (.inl res.2.1.2.2.1))), (h_newKind, .inl (cI, 300, .inl res.2.2.1.1)), (h_newB, .inl (cI, 300, .inl res.2.2.1.2.2.2.1)), (h_newDifference, .inl (cL, 300, .inr (.inl res.2.2.1.2.1))), (h_newA, .inl (cL, 300, .inr (.inl res.2.2.1.2.2.1))), (h_log, .inl (cI, 5000, .inl res.2.2.2.1.1)), (h_packed, .inl (cI, 5000, .inl res.2.2.2.2.1.1))]) args s 0 0 A) (F0 m 283 ls []) := by
  obtain ⟨hx, hb, hr, hml, hown, hts, hlk, hK, hA⟩ := id C
  intro st x3 x6 x8 x10 res hf H locs ls hH hl
  unfold f_Model_readEntry_b283 at hf
  refine lv_iload_n hx hb d_Model_readEntry_283 rfl (lv_at hl 1 rfl) ?_
  refine lv_iconst (v := 2) hx hb d_Model_readEntry_284 (by decide) ?_
  refine lv_icmp_ne (tgt := 332) hx hb d_Model_readEntry_285 (by decide) (fun hc285 => ?_) (fun hc285 => ?_)
  · have hf := im hc285 hf
    exact w_Model_readEntry_b332 l D cI cL h h_kind h_b h_difference h_a h_newKind h_newB h_newDifference h_newA h_log h_packed C st x3 x6 x8 x10 res hf _ _ _ hH (lv_sub hl [0, 1, 2, 3, 4] rfl)
  · have hf := ip hc285 hf
    refine lv_aload_n hx hb d_Model_readEntry_288 rfl (lv_at hl 0 rfl) ?_
    refine gt (ci := 6) (v := .int st.2.2.2.2.2.2.2) C hH (iwT iw_Model) 0 rfl rfl 20 (by decide) (.tail _ wd_616) rfl d_Model_readEntry_289 ?_
    refine lv_if_ne (tgt := 332) hx hb d_Model_readEntry_292 (by decide) (fun hc292 => ?_) (fun hc292 => ?_)
    · have hf := im hc292 hf
      exact w_Model_readEntry_b332 l D cI cL h h_kind h_b h_difference h_a h_newKind h_newB h_newDifference h_newA h_log h_packed C st x3 x6 x8 x10 res hf _ _ _ hH (lv_sub hl [0, 1, 2, 3, 4] rfl)
    · have hf := ip hc292 hf
      refine lv_aload_n hx hb d_Model_readEntry_295 rfl (lv_at hl 0 rfl) ?_
      obtain ⟨r296, hr296, hf⟩ := ob hf
      refine fnV (rest := []) (wr := []) (w2 := [(h, .inr (6, [.int r296.2.1, .int r296.2.2.1.2.2.2.2, .ref h_kind, .ref h_b, .ref h_difference, .ref h_a, .int r296.2.2.2.1.2.2.2.2, .ref h_newKind, .ref h_newB, .ref h_newDifference, .ref h_newA, .int r296.2.2.2.2.1.2, .ref h_log, .ref h_packed, .int r296.2.2.2.2.2.1.2, .int r296.2.2.2.2.2.2.1.1, .int r296.2.2.2.2.2.2.1.2.1, .int r296.2.2.2.2.2.2.1.2.2.1, .int r296.2.2.2.2.2.2.1.2.2.2, .int r296.2.2.2.2.2.2.2.1, .int r296.2.2.2.2.2.2.2.2])), (h_kind, .inl (cI, 300, .inl r296.2.2.1.1)), (h_b, .inl (cI, 300, .inl r296.2.2.1.2.2.2.1)), (h_difference, .inl (cL, 300, .inr (.inl r296.2.2.1.2.1))), (h_a, .inl (cL, 300, .inr (.inl r296.2.2.1.2.2.1))), (h_newKind, .inl (cI, 300, .inl r296.2.2.2.1.1)), (h_newB, .inl (cI, 300, .inl r296.2.2.2.1.2.2.2.1)), (h_newDifference, .inl (cL, 300, .inr (.inl r296.2.2.2.1.2.1))), (h_newA, .inl (cL, 300, .inr (.inl r296.2.2.2.1.2.2.1))), (h_log, .inl (cI, 5000, .inl r296.2.2.2.2.1.1)), (h_packed, .inl (cI, 5000, .inl r296.2.2.2.2.2.1.1))]) (st2 := [.int r296.1]) C (c_Model_next l D cI cL h h_kind h_b h_difference h_a h_newKind h_newB h_newDifference h_newA h_log h_packed st r296 hr296) (cV hts kV_Model_next wd_743 ⟨Nat.le_of_ble_eq_true rfl, Nat.le_of_ble_eq_true rfl⟩) hH [0, 1, 2, 3, 4, 5, 6, 7, 8, 9, 10] [] [0, 1, 2, 3, 4, 5, 6, 7, 8, 9, 10] rfl rfl rfl rfl (by decide) rfl rfl 0 rfl rfl rfl hl.1 rfl (Nat.le_of_ble_eq_true rfl) d_Model_readEntry_296 ⟨Nat.le_of_ble_eq_true rfl, Nat.le_of_ble_eq_true rfl⟩ rfl (fun H locs hH => ?_)
      refine lv_istore (lv' := [(10, .int r296.1), (0, .ref h), (3, .int x3), (6, .long x6), (8, .long x8)]) hx hb d_Model_readEntry_299 hl (by decide) rfl (fun ls hl => ?_)
      refine lv_aload_n hx hb d_Model_readEntry_301 rfl (lv_at hl 1 rfl) ?_
      refine gt (ci := 6) (v := .int r296.2.2.2.2.2.2.2.2) C hH (iwT iw_Model) 0 rfl rfl 20 (by decide) (.tail _ wd_616) rfl d_Model_readEntry_302 ?_
      refine lv_if_ne (tgt := 332) hx hb d_Model_readEntry_305 (by decide) (fun hc305 => ?_) (fun hc305 => ?_)
      · have hf := im hc305 hf
        exact w_Model_readEntry_b332 l D cI cL h h_kind h_b h_difference h_a h_newKind h_newB h_newDifference h_newA h_log h_packed C r296.2 x3 x6 x8 r296.1 res hf _ _ _ hH (lv_sub hl [1, 2, 3, 4, 0] rfl)
      · have hf := ip hc305 hf
        refine lv_iload hx hb d_Model_readEntry_308 (lv_at hl 0 rfl) ?_
        refine lv_iconst (v := 1) hx hb d_Model_readEntry_310 (by decide) ?_
        refine lv_icmp_lt (tgt := 321) hx hb d_Model_readEntry_311 (by decide) (fun hc311 => ?_) (fun hc311 => ?_)
        · have hf := ip hc311 hf
          exact w_Model_readEntry_b321 l D cI cL h h_kind h_b h_difference h_a h_newKind h_newB h_newDifference h_newA h_log h_packed C r296.2 x3 x6 x8 r296.1 res hf _ _ _ hH (lv_sub hl [1, 2, 3, 4, 0] rfl)
        · have hf := im hc311 hf
          refine lv_iload hx hb d_Model_readEntry_314 (lv_at hl 0 rfl) ?_
          refine lv_bipush (v := 31) hx hb d_Model_readEntry_316 (by decide) ?_
          refine lv_icmp_le (tgt := 332) hx hb d_Model_readEntry_318 (by decide) (fun hc318 => ?_) (fun hc318 => ?_)
          · have hf := ip hc318 hf
            exact w_Model_readEntry_b332 l D cI cL h h_kind h_b h_difference h_a h_newKind h_newB h_newDifference h_newA h_log h_packed C r296.2 x3 x6 x8 r296.1 res hf _ _ _ hH (lv_sub hl [1, 2, 3, 4, 0] rfl)
          · have hf := im hc318 hf
            exact w_Model_readEntry_b321 l D cI cL h h_kind h_b h_difference h_a h_newKind h_newB h_newDifference h_newA h_log h_packed C r296.2 x3 x6 x8 r296.1 res hf _ _ _ hH (lv_sub hl [1, 2, 3, 4, 0] rfl)
def f_Model_readEntry_b281 (st : S_Model) (x3 : Int32) (x6 : Int64) (x8 : Int64) (z0 : Int32) : Option (S_Model) :=
  f_Model_readEntry_b283 st x3 x6 x8 z0
set_option maxRecDepth 100000 in
set_option maxHeartbeats 4000000 in
theorem w_Model_readEntry_b281 (l : Launch) (D : va_G) (cI cL : ClassId) (h h_kind h_b h_difference h_a h_newKind h_newB h_newDifference h_newA h_log h_packed : Nat) {p : Program} {e : Env} {s : State} {m : MethodId} {args : Array Value} {below : List Frame} {meth : Method} {c : Code} {A : Nat → Prop} (C : Cx p s m args meth c D vwCl [(cI, .int), (cL, .long)] A b_Model_readEntry 12 none ws_Model_readEntry y_Model_readEntry.cls) : ∀ (st : S_Model) (x3 : Int32) (x6 : Int64) (x8 : Int64) (z0 : Int32) (res : S_Model), f_Model_readEntry_b281 st x3 x6 x8 z0 = some res → ∀ (H : Heap) (locs : List Loc) (ls : Array Slot), Hp D vwCl A A s.heap H locs [(h, .inr (6, [.int st.1, .int st.2.1.2.2.2.2, .ref h_kind, .ref h_b, .ref h_difference, .ref h_a, .int st.2.2.1.2.2.2.2, .ref h_newKind, .ref h_newB, .ref h_newDifference, .ref h_newA, .int st.2.2.2.1.2, .ref h_log, .ref h_packed, .int st.2.2.2.2.1.2, .int st.2.2.2.2.2.1.1, .int st.2.2.2.2.2.1.2.1, .int st.2.2.2.2.2.1.2.2.1, .int st.2.2.2.2.2.1.2.2.2, .int st.2.2.2.2.2.2.1, .int st.2.2.2.2.2.2.2])), (h_kind, .inl (cI, 300, .inl st.2.1.1)), (h_b, .inl (cI, 300, .inl st.2.1.2.2.2.1)), (h_difference, .inl (cL, 300, .inr (.inl st.2.1.2.1))), (h_a, .inl (cL, 300, .inr (.inl st.2.1.2.2.1))), (h_newKind, .inl (cI, 300, .inl st.2.2.1.1)), (h_newB, .inl (cI, 300, .inl st.2.2.1.2.2.2.1)), (h_newDifference, .inl (cL, 300, .inr (.inl st.2.2.1.2.1))), (h_newA, .inl (cL, 300, .inr (.inl st.2.2.1.2.2.1))), (h_log, .inl (cI, 5000, .inl st.2.2.2.1.1)), (h_packed, .inl (cI, 5000, .inl st.2.2.2.2.1.1))] → lv_has ls 12 [(0, .ref h), (3, .int x3), (6, .long x6), (8, .long x8)] → W p l e { frames := 4, cells := 0, slots := 0, locals := 89 } s m args below meth c H locs 0 0 (MQ below (Qw D vwCl [(cI, .int), (cL, .long)] (none) A [(h, .inr (6, [.int res.1, .int res.2.1.2.2.2.2, .ref h_kind, .ref h_b, .ref h_difference, .ref h_a, .int res.2.2.1.2.2.2.2, .ref h_newKind, .ref h_newB, .ref h_newDifference, .ref h_newA, .int res.2.2.2.1.2, .ref h_log, .ref h_packed, .int res.2.2.2.2.1.2, .int res.2.2.2.2.2.1.1, .int res.2.2.2.2.2.1.2.1, .int res.2.2.2.2.2.1.2.2.1, .int res.2.2.2.2.2.1.2.2.2, .int res.2.2.2.2.2.2.1, .int res.2.2.2.2.2.2.2])), (h_kind, .inl (cI, 300, .inl res.2.1.1)), (h_b, .inl (cI, 300, .inl res.2.1.2.2.2.1)), (h_difference, .inl (cL, 300, .inr (.inl res.2.1.2.1))), (h_a, .inl (cL, 300, .inr (.inl res.2.1.2.2.1))), (h_newKind, .inl (cI, 300, .inl res.2.2.1.1)), (h_newB, .inl (cI, 300, .inl res.2.2.1.2.2.2.1)), (h_newDifference, .inl (cL, 300, .inr (.inl res.2.2.1.2.1))), (h_newA, .inl (cL, 300, .inr (.inl res.2.2.1.2.2.1))), (h_log, .inl (cI, 5000, .inl res.2.2.2.1.1)), (h_packed, .inl (cI, 5000, .inl res.2.2.2.2.1.1))]) args s 0 0 A) (F0 m 281 ls [.int z0]) := by
  obtain ⟨hx, hb, hr, hml, hown, hts, hlk, hK, hA⟩ := id C
  intro st x3 x6 x8 z0 res hf H locs ls hH hl
  unfold f_Model_readEntry_b281 at hf
  refine lv_istore (lv' := [(10, .int z0), (0, .ref h), (3, .int x3), (6, .long x6), (8, .long x8)]) hx hb d_Model_readEntry_281 hl (by decide) rfl (fun ls hl => ?_)
  exact w_Model_readEntry_b283 l D cI cL h h_kind h_b h_difference h_a h_newKind h_newB h_newDifference h_newA h_log h_packed C st x3 x6 x8 z0 res hf _ _ _ hH (lv_sub hl [1, 2, 3, 4, 0] rfl)
def f_Model_readEntry_b263 (st : S_Model) (x3 : Int32) (x6 : Int64) (x11 : Int32) (z0 : Int64) : Option (S_Model) :=
  if 0 ≤ x11 then (if x11 < 0 ∨ 300 ≤ x11.toNatClampNeg then none else f_Model_readEntry_b281 st x3 x6 z0 (st.2.2.1.2.2.2.1 x11.toNatClampNeg)) else (f_Model_readEntry_b281 st x3 x6 z0 0)
set_option maxRecDepth 100000 in
set_option maxHeartbeats 4000000 in
theorem w_Model_readEntry_b263 (l : Launch) (D : va_G) (cI cL : ClassId) (h h_kind h_b h_difference h_a h_newKind h_newB h_newDifference h_newA h_log h_packed : Nat) {p : Program} {e : Env} {s : State} {m : MethodId} {args : Array Value} {below : List Frame} {meth : Method} {c : Code} {A : Nat → Prop} (C : Cx p s m args meth c D vwCl [(cI, .int), (cL, .long)] A b_Model_readEntry 12 none ws_Model_readEntry y_Model_readEntry.cls) : ∀ (st : S_Model) (x3 : Int32) (x6 : Int64) (x11 : Int32) (z0 : Int64) (res : S_Model), f_Model_readEntry_b263 st x3 x6 x11 z0 = some res → ∀ (H : Heap) (locs : List Loc) (ls : Array Slot), Hp D vwCl A A s.heap H locs [(h, .inr (6, [.int st.1, .int st.2.1.2.2.2.2, .ref h_kind, .ref h_b, .ref h_difference, .ref h_a, .int st.2.2.1.2.2.2.2, .ref h_newKind, .ref h_newB, .ref h_newDifference, .ref h_newA, .int st.2.2.2.1.2, .ref h_log, .ref h_packed, .int st.2.2.2.2.1.2, .int st.2.2.2.2.2.1.1, .int st.2.2.2.2.2.1.2.1, .int st.2.2.2.2.2.1.2.2.1, .int st.2.2.2.2.2.1.2.2.2, .int st.2.2.2.2.2.2.1, .int st.2.2.2.2.2.2.2])), (h_kind, .inl (cI, 300, .inl st.2.1.1)), (h_b, .inl (cI, 300, .inl st.2.1.2.2.2.1)), (h_difference, .inl (cL, 300, .inr (.inl st.2.1.2.1))), (h_a, .inl (cL, 300, .inr (.inl st.2.1.2.2.1))), (h_newKind, .inl (cI, 300, .inl st.2.2.1.1)), (h_newB, .inl (cI, 300, .inl st.2.2.1.2.2.2.1)), (h_newDifference, .inl (cL, 300, .inr (.inl st.2.2.1.2.1))), (h_newA, .inl (cL, 300, .inr (.inl st.2.2.1.2.2.1))), (h_log, .inl (cI, 5000, .inl st.2.2.2.1.1)), (h_packed, .inl (cI, 5000, .inl st.2.2.2.2.1.1))] → lv_has ls 12 [(0, .ref h), (3, .int x3), (6, .long x6), (11, .int x11)] → W p l e { frames := 4, cells := 0, slots := 0, locals := 89 } s m args below meth c H locs 0 0 (MQ below (Qw D vwCl [(cI, .int), (cL, .long)] (none) A [(h, .inr (6, [.int res.1, .int res.2.1.2.2.2.2, .ref h_kind, .ref h_b, .ref h_difference, .ref h_a, .int res.2.2.1.2.2.2.2, .ref h_newKind, .ref h_newB, .ref h_newDifference, .ref h_newA, .int res.2.2.2.1.2, .ref h_log, .ref h_packed, .int res.2.2.2.2.1.2, .int res.2.2.2.2.2.1.1, .int res.2.2.2.2.2.1.2.1, .int res.2.2.2.2.2.1.2.2.1, .int res.2.2.2.2.2.1.2.2.2, .int res.2.2.2.2.2.2.1, .int res.2.2.2.2.2.2.2])), (h_kind, .inl (cI, 300, .inl res.2.1.1)), (h_b, .inl (cI, 300, .inl res.2.1.2.2.2.1)), (h_difference, .inl (cL, 300, .inr (.inl res.2.1.2.1))), (h_a, .inl (cL, 300, .inr (.inl res.2.1.2.2.1))), (h_newKind, .inl (cI, 300, .inl res.2.2.1.1)), (h_newB, .inl (cI, 300, .inl res.2.2.1.2.2.2.1)), (h_newDifference, .inl (cL, 300, .inr (.inl res.2.2.1.2.1))), (h_newA, .inl (cL, 300, .inr (.inl res.2.2.1.2.2.1))), (h_log, .inl (cI, 5000, .inl res.2.2.2.1.1)), (h_packed, .inl (cI, 5000, .inl res.2.2.2.2.1.1))]) args s 0 0 A) (F0 m 263 ls [.long z0]) := by
  obtain ⟨hx, hb, hr, hml, hown, hts, hlk, hK, hA⟩ := id C
  intro st x3 x6 x11 z0 res hf H locs ls hH hl
  unfold f_Model_readEntry_b263 at hf
  refine lv_lstore (lv' := [(8, .long z0), (0, .ref h), (3, .int x3), (6, .long x6), (11, .int x11)]) hx hb d_Model_readEntry_263 hl (by decide) rfl (fun ls hl => ?_)
  refine lv_iload hx hb d_Model_readEntry_265 (lv_at hl 4 rfl) ?_
  refine lv_if_ge (tgt := 274) hx hb d_Model_readEntry_267 (by decide) (fun hc267 => ?_) (fun hc267 => ?_)
  · have hf := ip hc267 hf
    refine lv_aload_n hx hb d_Model_readEntry_274 rfl (lv_at hl 1 rfl) ?_
    refine gt (ci := 6) (v := .ref h_newB) C hH (iwT iw_Model) 0 rfl rfl 8 (by decide) (.tail _ wd_604) rfl d_Model_readEntry_275 ?_
    refine lv_iload hx hb d_Model_readEntry_278 (lv_at hl 4 rfl) ?_
    obtain ⟨hin280, hf⟩ := oa hf
    refine ali C hH 6 0 rfl rfl (hin280) d_Model_readEntry_280 ?_
    exact w_Model_readEntry_b281 l D cI cL h h_kind h_b h_difference h_a h_newKind h_newB h_newDifference h_newA h_log h_packed C st x3 x6 z0 (st.2.2.1.2.2.2.1 x11.toNatClampNeg) res hf _ _ _ hH (lv_sub hl [1, 2, 3, 0] rfl)
  · have hf := im hc267 hf
    refine lv_iconst (v := 0) hx hb d_Model_readEntry_270 (by decide) ?_
    refine lv_goto (tgt := 281) hx hb d_Model_readEntry_271 (by decide) ?_
    exact w_Model_readEntry_b281 l D cI cL h h_kind h_b h_difference h_a h_newKind h_newB h_newDifference h_newA h_log h_packed C st x3 x6 z0 0 res hf _ _ _ hH (lv_sub hl [1, 2, 3, 0] rfl)
def f_Model_readEntry_b247 (st : S_Model) (x3 : Int32) (x6 : Int64) (x11 : Int32) : Option (S_Model) :=
  if 0 ≤ x11 then (if x11 < 0 ∨ 300 ≤ x11.toNatClampNeg then none else f_Model_readEntry_b263 st x3 x6 x11 (st.2.2.1.2.2.1 x11.toNatClampNeg)) else (f_Model_readEntry_b263 st x3 x6 x11 0)
set_option maxRecDepth 100000 in
set_option maxHeartbeats 4000000 in
theorem w_Model_readEntry_b247 (l : Launch) (D : va_G) (cI cL : ClassId) (h h_kind h_b h_difference h_a h_newKind h_newB h_newDifference h_newA h_log h_packed : Nat) {p : Program} {e : Env} {s : State} {m : MethodId} {args : Array Value} {below : List Frame} {meth : Method} {c : Code} {A : Nat → Prop} (C : Cx p s m args meth c D vwCl [(cI, .int), (cL, .long)] A b_Model_readEntry 12 none ws_Model_readEntry y_Model_readEntry.cls) : ∀ (st : S_Model) (x3 : Int32) (x6 : Int64) (x11 : Int32) (res : S_Model), f_Model_readEntry_b247 st x3 x6 x11 = some res → ∀ (H : Heap) (locs : List Loc) (ls : Array Slot), Hp D vwCl A A s.heap H locs [(h, .inr (6, [.int st.1, .int st.2.1.2.2.2.2, .ref h_kind, .ref h_b, .ref h_difference, .ref h_a, .int st.2.2.1.2.2.2.2, .ref h_newKind, .ref h_newB, .ref h_newDifference, .ref h_newA, .int st.2.2.2.1.2, .ref h_log, .ref h_packed, .int st.2.2.2.2.1.2, .int st.2.2.2.2.2.1.1, .int st.2.2.2.2.2.1.2.1, .int st.2.2.2.2.2.1.2.2.1, .int st.2.2.2.2.2.1.2.2.2, .int st.2.2.2.2.2.2.1, .int st.2.2.2.2.2.2.2])), (h_kind, .inl (cI, 300, .inl st.2.1.1)), (h_b, .inl (cI, 300, .inl st.2.1.2.2.2.1)), (h_difference, .inl (cL, 300, .inr (.inl st.2.1.2.1))), (h_a, .inl (cL, 300, .inr (.inl st.2.1.2.2.1))), (h_newKind, .inl (cI, 300, .inl st.2.2.1.1)), (h_newB, .inl (cI, 300, .inl st.2.2.1.2.2.2.1)), (h_newDifference, .inl (cL, 300, .inr (.inl st.2.2.1.2.1))), (h_newA, .inl (cL, 300, .inr (.inl st.2.2.1.2.2.1))), (h_log, .inl (cI, 5000, .inl st.2.2.2.1.1)), (h_packed, .inl (cI, 5000, .inl st.2.2.2.2.1.1))] → lv_has ls 12 [(0, .ref h), (3, .int x3), (6, .long x6), (11, .int x11)] → W p l e { frames := 4, cells := 0, slots := 0, locals := 89 } s m args below meth c H locs 0 0 (MQ below (Qw D vwCl [(cI, .int), (cL, .long)] (none) A [(h, .inr (6, [.int res.1, .int res.2.1.2.2.2.2, .ref h_kind, .ref h_b, .ref h_difference, .ref h_a, .int res.2.2.1.2.2.2.2, .ref h_newKind, .ref h_newB, .ref h_newDifference, .ref h_newA, .int res.2.2.2.1.2, .ref h_log, .ref h_packed, .int res.2.2.2.2.1.2, .int res.2.2.2.2.2.1.1, .int res.2.2.2.2.2.1.2.1, .int res.2.2.2.2.2.1.2.2.1, .int res.2.2.2.2.2.1.2.2.2, .int res.2.2.2.2.2.2.1, .int res.2.2.2.2.2.2.2])), (h_kind, .inl (cI, 300, .inl res.2.1.1)), (h_b, .inl (cI, 300, .inl res.2.1.2.2.2.1)), (h_difference, .inl (cL, 300, .inr (.inl res.2.1.2.1))), (h_a, .inl (cL, 300, .inr (.inl res.2.1.2.2.1))), (h_newKind, .inl (cI, 300, .inl res.2.2.1.1)), (h_newB, .inl (cI, 300, .inl res.2.2.1.2.2.2.1)), (h_newDifference, .inl (cL, 300, .inr (.inl res.2.2.1.2.1))), (h_newA, .inl (cL, 300, .inr (.inl res.2.2.1.2.2.1))), (h_log, .inl (cI, 5000, .inl res.2.2.2.1.1)), (h_packed, .inl (cI, 5000, .inl res.2.2.2.2.1.1))]) args s 0 0 A) (F0 m 247 ls []) := by
  obtain ⟨hx, hb, hr, hml, hown, hts, hlk, hK, hA⟩ := id C
  intro st x3 x6 x11 res hf H locs ls hH hl
  unfold f_Model_readEntry_b247 at hf
  refine lv_iload hx hb d_Model_readEntry_247 (lv_at hl 3 rfl) ?_
  refine lv_if_ge (tgt := 256) hx hb d_Model_readEntry_249 (by decide) (fun hc249 => ?_) (fun hc249 => ?_)
  · have hf := ip hc249 hf
    refine lv_aload_n hx hb d_Model_readEntry_256 rfl (lv_at hl 0 rfl) ?_
    refine gt (ci := 6) (v := .ref h_newA) C hH (iwT iw_Model) 0 rfl rfl 10 (by decide) (.tail _ wd_606) rfl d_Model_readEntry_257 ?_
    refine lv_iload hx hb d_Model_readEntry_260 (lv_at hl 3 rfl) ?_
    obtain ⟨hin262, hf⟩ := oa hf
    refine all_ C hH 8 1 rfl rfl (hin262) d_Model_readEntry_262 ?_
    exact w_Model_readEntry_b263 l D cI cL h h_kind h_b h_difference h_a h_newKind h_newB h_newDifference h_newA h_log h_packed C st x3 x6 x11 (st.2.2.1.2.2.1 x11.toNatClampNeg) res hf _ _ _ hH (lv_sub hl [0, 1, 2, 3] rfl)
  · have hf := im hc249 hf
    refine lv_lconst (v := 0) hx hb d_Model_readEntry_252 (by decide) ?_
    refine lv_goto (tgt := 263) hx hb d_Model_readEntry_253 (by decide) ?_
    exact w_Model_readEntry_b263 l D cI cL h h_kind h_b h_difference h_a h_newKind h_newB h_newDifference h_newA h_log h_packed C st x3 x6 x11 0 res hf _ _ _ hH (lv_sub hl [0, 1, 2, 3] rfl)
def f_Model_readEntry_b213 (st : S_Model) (x2 : Int32) (x3 : Int32) (x4 : Int32) (x6 : Int64) (x8 : Int64) (z0 : Int32) : Option (S_Model) :=
  if x3 = (1 : Int32) then (if x4 = 0 then ((f_Model_readCount st).bind (fun r228 => (f_Model_before r228.2 1 r228.1).bind (fun r231 => if 0 ≤ r231 then (f_Model_readEntry_b247 r228.2 x3 x6 r231) else (lt1 (f_Model_meet r228.2 4 x2) (fun r244 => f_Model_readEntry_b247 r244 x3 x6 r231))))) else (f_Model_readEntry_b283 st x3 x6 x8 z0)) else (f_Model_readEntry_b283 st x3 x6 x8 z0)
set_option maxRecDepth 100000 in
set_option maxHeartbeats 4000000 in
theorem w_Model_readEntry_b213 (l : Launch) (D : va_G) (cI cL : ClassId) (h h_kind h_b h_difference h_a h_newKind h_newB h_newDifference h_newA h_log h_packed : Nat) {p : Program} {e : Env} {s : State} {m : MethodId} {args : Array Value} {below : List Frame} {meth : Method} {c : Code} {A : Nat → Prop} (C : Cx p s m args meth c D vwCl [(cI, .int), (cL, .long)] A b_Model_readEntry 12 none ws_Model_readEntry y_Model_readEntry.cls) : ∀ (st : S_Model) (x2 : Int32) (x3 : Int32) (x4 : Int32) (x6 : Int64) (x8 : Int64) (z0 : Int32) (res : S_Model), f_Model_readEntry_b213 st x2 x3 x4 x6 x8 z0 = some res → ∀ (H : Heap) (locs : List Loc) (ls : Array Slot), Hp D vwCl A A s.heap H locs [(h, .inr (6, [.int st.1, .int st.2.1.2.2.2.2, .ref h_kind, .ref h_b, .ref h_difference, .ref h_a, .int st.2.2.1.2.2.2.2, .ref h_newKind, .ref h_newB, .ref h_newDifference, .ref h_newA, .int st.2.2.2.1.2, .ref h_log, .ref h_packed, .int st.2.2.2.2.1.2, .int st.2.2.2.2.2.1.1, .int st.2.2.2.2.2.1.2.1, .int st.2.2.2.2.2.1.2.2.1, .int st.2.2.2.2.2.1.2.2.2, .int st.2.2.2.2.2.2.1, .int st.2.2.2.2.2.2.2])), (h_kind, .inl (cI, 300, .inl st.2.1.1)), (h_b, .inl (cI, 300, .inl st.2.1.2.2.2.1)), (h_difference, .inl (cL, 300, .inr (.inl st.2.1.2.1))), (h_a, .inl (cL, 300, .inr (.inl st.2.1.2.2.1))), (h_newKind, .inl (cI, 300, .inl st.2.2.1.1)), (h_newB, .inl (cI, 300, .inl st.2.2.1.2.2.2.1)), (h_newDifference, .inl (cL, 300, .inr (.inl st.2.2.1.2.1))), (h_newA, .inl (cL, 300, .inr (.inl st.2.2.1.2.2.1))), (h_log, .inl (cI, 5000, .inl st.2.2.2.1.1)), (h_packed, .inl (cI, 5000, .inl st.2.2.2.2.1.1))] → lv_has ls 12 [(0, .ref h), (2, .int x2), (3, .int x3), (4, .int x4), (6, .long x6), (8, .long x8)] → W p l e { frames := 4, cells := 0, slots := 0, locals := 89 } s m args below meth c H locs 0 0 (MQ below (Qw D vwCl [(cI, .int), (cL, .long)] (none) A [(h, .inr (6, [.int res.1, .int res.2.1.2.2.2.2, .ref h_kind, .ref h_b, .ref h_difference, .ref h_a, .int res.2.2.1.2.2.2.2, .ref h_newKind, .ref h_newB, .ref h_newDifference, .ref h_newA, .int res.2.2.2.1.2, .ref h_log, .ref h_packed, .int res.2.2.2.2.1.2, .int res.2.2.2.2.2.1.1, .int res.2.2.2.2.2.1.2.1, .int res.2.2.2.2.2.1.2.2.1, .int res.2.2.2.2.2.1.2.2.2, .int res.2.2.2.2.2.2.1, .int res.2.2.2.2.2.2.2])), (h_kind, .inl (cI, 300, .inl res.2.1.1)), (h_b, .inl (cI, 300, .inl res.2.1.2.2.2.1)), (h_difference, .inl (cL, 300, .inr (.inl res.2.1.2.1))), (h_a, .inl (cL, 300, .inr (.inl res.2.1.2.2.1))), (h_newKind, .inl (cI, 300, .inl res.2.2.1.1)), (h_newB, .inl (cI, 300, .inl res.2.2.1.2.2.2.1)), (h_newDifference, .inl (cL, 300, .inr (.inl res.2.2.1.2.1))), (h_newA, .inl (cL, 300, .inr (.inl res.2.2.1.2.2.1))), (h_log, .inl (cI, 5000, .inl res.2.2.2.1.1)), (h_packed, .inl (cI, 5000, .inl res.2.2.2.2.1.1))]) args s 0 0 A) (F0 m 213 ls [.int z0]) := by
  obtain ⟨hx, hb, hr, hml, hown, hts, hlk, hK, hA⟩ := id C
  intro st x2 x3 x4 x6 x8 z0 res hf H locs ls hH hl
  unfold f_Model_readEntry_b213 at hf
  refine lv_istore (lv' := [(10, .int z0), (0, .ref h), (2, .int x2), (3, .int x3), (4, .int x4), (6, .long x6), (8, .long x8)]) hx hb d_Model_readEntry_213 hl (by decide) rfl (fun ls hl => ?_)
  refine lv_iload_n hx hb d_Model_readEntry_215 rfl (lv_at hl 3 rfl) ?_
  refine lv_iconst (v := 1) hx hb d_Model_readEntry_216 (by decide) ?_
  refine lv_icmp_ne (tgt := 283) hx hb d_Model_readEntry_217 (by decide) (fun hc217 => ?_) (fun hc217 => ?_)
  · have hf := im hc217 hf
    exact w_Model_readEntry_b283 l D cI cL h h_kind h_b h_difference h_a h_newKind h_newB h_newDifference h_newA h_log h_packed C st x3 x6 x8 z0 res hf _ _ _ hH (lv_sub hl [1, 3, 5, 6, 0] rfl)
  · have hf := ip hc217 hf
    refine lv_iload hx hb d_Model_readEntry_220 (lv_at hl 4 rfl) ?_
    refine lv_if_ne (tgt := 283) hx hb d_Model_readEntry_222 (by decide) (fun hc222 => ?_) (fun hc222 => ?_)
    · have hf := im hc222 hf
      exact w_Model_readEntry_b283 l D cI cL h h_kind h_b h_difference h_a h_newKind h_newB h_newDifference h_newA h_log h_packed C st x3 x6 x8 z0 res hf _ _ _ hH (lv_sub hl [1, 3, 5, 6, 0] rfl)
    · have hf := ip hc222 hf
      refine lv_aload_n hx hb d_Model_readEntry_225 rfl (lv_at hl 1 rfl) ?_
      refine lv_iconst (v := 1) hx hb d_Model_readEntry_226 (by decide) ?_
      refine lv_aload_n hx hb d_Model_readEntry_227 rfl (lv_at hl 1 rfl) ?_
      obtain ⟨r228, hr228, hf⟩ := ob hf
      refine fnV (rest := [.int 1, .ref h]) (wr := []) (w2 := [(h, .inr (6, [.int r228.2.1, .int r228.2.2.1.2.2.2.2, .ref h_kind, .ref h_b, .ref h_difference, .ref h_a, .int r228.2.2.2.1.2.2.2.2, .ref h_newKind, .ref h_newB, .ref h_newDifference, .ref h_newA, .int r228.2.2.2.2.1.2, .ref h_log, .ref h_packed, .int r228.2.2.2.2.2.1.2, .int r228.2.2.2.2.2.2.1.1, .int r228.2.2.2.2.2.2.1.2.1, .int r228.2.2.2.2.2.2.1.2.2.1, .int r228.2.2.2.2.2.2.1.2.2.2, .int r228.2.2.2.2.2.2.2.1, .int r228.2.2.2.2.2.2.2.2])), (h_kind, .inl (cI, 300, .inl r228.2.2.1.1)), (h_b, .inl (cI, 300, .inl r228.2.2.1.2.2.2.1)), (h_difference, .inl (cL, 300, .inr (.inl r228.2.2.1.2.1))), (h_a, .inl (cL, 300, .inr (.inl r228.2.2.1.2.2.1))), (h_newKind, .inl (cI, 300, .inl r228.2.2.2.1.1)), (h_newB, .inl (cI, 300, .inl r228.2.2.2.1.2.2.2.1)), (h_newDifference, .inl (cL, 300, .inr (.inl r228.2.2.2.1.2.1))), (h_newA, .inl (cL, 300, .inr (.inl r228.2.2.2.1.2.2.1))), (h_log, .inl (cI, 5000, .inl r228.2.2.2.2.1.1)), (h_packed, .inl (cI, 5000, .inl r228.2.2.2.2.2.1.1))]) (st2 := [.long r228.1, .int 1, .ref h]) C (c_Model_readCount l D cI cL h h_kind h_b h_difference h_a h_newKind h_newB h_newDifference h_newA h_log h_packed st r228 hr228) (cV hts kV_Model_readCount wd_756 ⟨Nat.le_of_ble_eq_true rfl, Nat.le_of_ble_eq_true rfl⟩) hH [0, 1, 2, 3, 4, 5, 6, 7, 8, 9, 10] [] [0, 1, 2, 3, 4, 5, 6, 7, 8, 9, 10] rfl rfl rfl rfl (by decide) rfl rfl 0 rfl rfl rfl hl.1 rfl (Nat.le_of_ble_eq_true rfl) d_Model_readEntry_228 ⟨Nat.le_of_ble_eq_true rfl, Nat.le_of_ble_eq_true rfl⟩ rfl (fun H locs hH => ?_)
      obtain ⟨r231, hr231, hf⟩ := ob hf
      refine fnVR (rest := []) (st2 := [.int r231]) C (c_Model_before l D cI cL h h_kind h_b h_difference h_a h_newKind h_newB h_newDifference h_newA h_log h_packed r228.2 1 r228.1 r231 hr231) (cV hts kV_Model_before wd_768 ⟨Nat.le_of_ble_eq_true rfl, Nat.le_of_ble_eq_true rfl⟩) hH [0, 1, 2, 3, 4, 5, 6, 7, 8, 9, 10] rfl rfl 0 rfl rfl rfl hl.1 rfl (Nat.le_of_ble_eq_true rfl) d_Model_readEntry_231 ⟨Nat.le_of_ble_eq_true rfl, Nat.le_of_ble_eq_true rfl⟩ rfl (fun H locs hH => ?_)
      refine lv_istore (lv' := [(11, .int r231), (10, .int z0), (0, .ref h), (2, .int x2), (3, .int x3), (4, .int x4), (6, .long x6), (8, .long x8)]) hx hb d_Model_readEntry_234 hl (by decide) rfl (fun ls hl => ?_)
      refine lv_iload hx hb d_Model_readEntry_236 (lv_at hl 0 rfl) ?_
      refine lv_if_ge (tgt := 247) hx hb d_Model_readEntry_238 (by decide) (fun hc238 => ?_) (fun hc238 => ?_)
      · have hf := ip hc238 hf
        exact w_Model_readEntry_b247 l D cI cL h h_kind h_b h_difference h_a h_newKind h_newB h_newDifference h_newA h_log h_packed C r228.2 x3 x6 r231 res hf _ _ _ hH (lv_sub hl [2, 4, 6, 0] rfl)
      · have hf := im hc238 hf
        refine lv_aload_n hx hb d_Model_readEntry_241 rfl (lv_at hl 2 rfl) ?_
        refine lv_iconst (v := 4) hx hb d_Model_readEntry_242 (by decide) ?_
        refine lv_iload_n hx hb d_Model_readEntry_243 rfl (lv_at hl 3 rfl) ?_
        obtain ⟨r244, hr244, hf⟩ := lb hf
        refine fnV (rest := []) (wr := []) (w2 := [(h, .inr (6, [.int r244.1, .int r244.2.1.2.2.2.2, .ref h_kind, .ref h_b, .ref h_difference, .ref h_a, .int r244.2.2.1.2.2.2.2, .ref h_newKind, .ref h_newB, .ref h_newDifference, .ref h_newA, .int r244.2.2.2.1.2, .ref h_log, .ref h_packed, .int r244.2.2.2.2.1.2, .int r244.2.2.2.2.2.1.1, .int r244.2.2.2.2.2.1.2.1, .int r244.2.2.2.2.2.1.2.2.1, .int r244.2.2.2.2.2.1.2.2.2, .int r244.2.2.2.2.2.2.1, .int r244.2.2.2.2.2.2.2])), (h_kind, .inl (cI, 300, .inl r244.2.1.1)), (h_b, .inl (cI, 300, .inl r244.2.1.2.2.2.1)), (h_difference, .inl (cL, 300, .inr (.inl r244.2.1.2.1))), (h_a, .inl (cL, 300, .inr (.inl r244.2.1.2.2.1))), (h_newKind, .inl (cI, 300, .inl r244.2.2.1.1)), (h_newB, .inl (cI, 300, .inl r244.2.2.1.2.2.2.1)), (h_newDifference, .inl (cL, 300, .inr (.inl r244.2.2.1.2.1))), (h_newA, .inl (cL, 300, .inr (.inl r244.2.2.1.2.2.1))), (h_log, .inl (cI, 5000, .inl r244.2.2.2.1.1)), (h_packed, .inl (cI, 5000, .inl r244.2.2.2.2.1.1))]) (st2 := []) C (c_Model_meet l D cI cL h h_kind h_b h_difference h_a h_newKind h_newB h_newDifference h_newA h_log h_packed r228.2 4 x2 r244 hr244) (cV hts kV_Model_meet wd_747 ⟨Nat.le_of_ble_eq_true rfl, Nat.le_of_ble_eq_true rfl⟩) hH [0, 1, 2, 3, 4, 5, 6, 7, 8, 9, 10] [] [0, 1, 2, 3, 4, 5, 6, 7, 8, 9, 10] rfl rfl rfl rfl (by decide) rfl rfl 0 rfl rfl rfl hl.1 rfl (Nat.le_of_ble_eq_true rfl) d_Model_readEntry_244 ⟨Nat.le_of_ble_eq_true rfl, Nat.le_of_ble_eq_true rfl⟩ rfl (fun H locs hH => ?_)
        exact w_Model_readEntry_b247 l D cI cL h h_kind h_b h_difference h_a h_newKind h_newB h_newDifference h_newA h_log h_packed C r244 x3 x6 r231 res hf _ _ _ hH (lv_sub hl [2, 4, 6, 0] rfl)
def f_Model_readEntry_b200 (st : S_Model) (x2 : Int32) (x3 : Int32) (x4 : Int32) (x6 : Int64) (z0 : Int64) : Option (S_Model) :=
  if x3 = (1 : Int32) then (f_Model_readEntry_b213 st x2 x3 x4 x6 z0 x4) else (f_Model_readEntry_b213 st x2 x3 x4 x6 z0 0)
set_option maxRecDepth 100000 in
set_option maxHeartbeats 4000000 in
theorem w_Model_readEntry_b200 (l : Launch) (D : va_G) (cI cL : ClassId) (h h_kind h_b h_difference h_a h_newKind h_newB h_newDifference h_newA h_log h_packed : Nat) {p : Program} {e : Env} {s : State} {m : MethodId} {args : Array Value} {below : List Frame} {meth : Method} {c : Code} {A : Nat → Prop} (C : Cx p s m args meth c D vwCl [(cI, .int), (cL, .long)] A b_Model_readEntry 12 none ws_Model_readEntry y_Model_readEntry.cls) : ∀ (st : S_Model) (x2 : Int32) (x3 : Int32) (x4 : Int32) (x6 : Int64) (z0 : Int64) (res : S_Model), f_Model_readEntry_b200 st x2 x3 x4 x6 z0 = some res → ∀ (H : Heap) (locs : List Loc) (ls : Array Slot), Hp D vwCl A A s.heap H locs [(h, .inr (6, [.int st.1, .int st.2.1.2.2.2.2, .ref h_kind, .ref h_b, .ref h_difference, .ref h_a, .int st.2.2.1.2.2.2.2, .ref h_newKind, .ref h_newB, .ref h_newDifference, .ref h_newA, .int st.2.2.2.1.2, .ref h_log, .ref h_packed, .int st.2.2.2.2.1.2, .int st.2.2.2.2.2.1.1, .int st.2.2.2.2.2.1.2.1, .int st.2.2.2.2.2.1.2.2.1, .int st.2.2.2.2.2.1.2.2.2, .int st.2.2.2.2.2.2.1, .int st.2.2.2.2.2.2.2])), (h_kind, .inl (cI, 300, .inl st.2.1.1)), (h_b, .inl (cI, 300, .inl st.2.1.2.2.2.1)), (h_difference, .inl (cL, 300, .inr (.inl st.2.1.2.1))), (h_a, .inl (cL, 300, .inr (.inl st.2.1.2.2.1))), (h_newKind, .inl (cI, 300, .inl st.2.2.1.1)), (h_newB, .inl (cI, 300, .inl st.2.2.1.2.2.2.1)), (h_newDifference, .inl (cL, 300, .inr (.inl st.2.2.1.2.1))), (h_newA, .inl (cL, 300, .inr (.inl st.2.2.1.2.2.1))), (h_log, .inl (cI, 5000, .inl st.2.2.2.1.1)), (h_packed, .inl (cI, 5000, .inl st.2.2.2.2.1.1))] → lv_has ls 12 [(0, .ref h), (2, .int x2), (3, .int x3), (4, .int x4), (6, .long x6)] → W p l e { frames := 4, cells := 0, slots := 0, locals := 89 } s m args below meth c H locs 0 0 (MQ below (Qw D vwCl [(cI, .int), (cL, .long)] (none) A [(h, .inr (6, [.int res.1, .int res.2.1.2.2.2.2, .ref h_kind, .ref h_b, .ref h_difference, .ref h_a, .int res.2.2.1.2.2.2.2, .ref h_newKind, .ref h_newB, .ref h_newDifference, .ref h_newA, .int res.2.2.2.1.2, .ref h_log, .ref h_packed, .int res.2.2.2.2.1.2, .int res.2.2.2.2.2.1.1, .int res.2.2.2.2.2.1.2.1, .int res.2.2.2.2.2.1.2.2.1, .int res.2.2.2.2.2.1.2.2.2, .int res.2.2.2.2.2.2.1, .int res.2.2.2.2.2.2.2])), (h_kind, .inl (cI, 300, .inl res.2.1.1)), (h_b, .inl (cI, 300, .inl res.2.1.2.2.2.1)), (h_difference, .inl (cL, 300, .inr (.inl res.2.1.2.1))), (h_a, .inl (cL, 300, .inr (.inl res.2.1.2.2.1))), (h_newKind, .inl (cI, 300, .inl res.2.2.1.1)), (h_newB, .inl (cI, 300, .inl res.2.2.1.2.2.2.1)), (h_newDifference, .inl (cL, 300, .inr (.inl res.2.2.1.2.1))), (h_newA, .inl (cL, 300, .inr (.inl res.2.2.1.2.2.1))), (h_log, .inl (cI, 5000, .inl res.2.2.2.1.1)), (h_packed, .inl (cI, 5000, .inl res.2.2.2.2.1.1))]) args s 0 0 A) (F0 m 200 ls [.long z0]) := by
  obtain ⟨hx, hb, hr, hml, hown, hts, hlk, hK, hA⟩ := id C
  intro st x2 x3 x4 x6 z0 res hf H locs ls hH hl
  unfold f_Model_readEntry_b200 at hf
  refine lv_lstore (lv' := [(8, .long z0), (0, .ref h), (2, .int x2), (3, .int x3), (4, .int x4), (6, .long x6)]) hx hb d_Model_readEntry_200 hl (by decide) rfl (fun ls hl => ?_)
  refine lv_iload_n hx hb d_Model_readEntry_202 rfl (lv_at hl 3 rfl) ?_
  refine lv_iconst (v := 1) hx hb d_Model_readEntry_203 (by decide) ?_
  refine lv_icmp_ne (tgt := 212) hx hb d_Model_readEntry_204 (by decide) (fun hc204 => ?_) (fun hc204 => ?_)
  · have hf := im hc204 hf
    refine lv_iconst (v := 0) hx hb d_Model_readEntry_212 (by decide) ?_
    exact w_Model_readEntry_b213 l D cI cL h h_kind h_b h_difference h_a h_newKind h_newB h_newDifference h_newA h_log h_packed C st x2 x3 x4 x6 z0 0 res hf _ _ _ hH (lv_sub hl [1, 2, 3, 4, 5, 0] rfl)
  · have hf := ip hc204 hf
    refine lv_iload hx hb d_Model_readEntry_207 (lv_at hl 4 rfl) ?_
    refine lv_goto (tgt := 213) hx hb d_Model_readEntry_209 (by decide) ?_
    exact w_Model_readEntry_b213 l D cI cL h h_kind h_b h_difference h_a h_newKind h_newB h_newDifference h_newA h_log h_packed C st x2 x3 x4 x6 z0 x4 res hf _ _ _ hH (lv_sub hl [1, 2, 3, 4, 5, 0] rfl)
def f_Model_readEntry_b147 (st : S_Model) (x2 : Int32) (x3 : Int32) (x4 : Int32) (x6 : Int64) : Option (S_Model) :=
  f_Model_readEntry_b200 st x2 x3 x4 x6 x4.toInt64
set_option maxRecDepth 100000 in
set_option maxHeartbeats 4000000 in
theorem w_Model_readEntry_b147 (l : Launch) (D : va_G) (cI cL : ClassId) (h h_kind h_b h_difference h_a h_newKind h_newB h_newDifference h_newA h_log h_packed : Nat) {p : Program} {e : Env} {s : State} {m : MethodId} {args : Array Value} {below : List Frame} {meth : Method} {c : Code} {A : Nat → Prop} (C : Cx p s m args meth c D vwCl [(cI, .int), (cL, .long)] A b_Model_readEntry 12 none ws_Model_readEntry y_Model_readEntry.cls) : ∀ (st : S_Model) (x2 : Int32) (x3 : Int32) (x4 : Int32) (x6 : Int64) (res : S_Model), f_Model_readEntry_b147 st x2 x3 x4 x6 = some res → ∀ (H : Heap) (locs : List Loc) (ls : Array Slot), Hp D vwCl A A s.heap H locs [(h, .inr (6, [.int st.1, .int st.2.1.2.2.2.2, .ref h_kind, .ref h_b, .ref h_difference, .ref h_a, .int st.2.2.1.2.2.2.2, .ref h_newKind, .ref h_newB, .ref h_newDifference, .ref h_newA, .int st.2.2.2.1.2, .ref h_log, .ref h_packed, .int st.2.2.2.2.1.2, .int st.2.2.2.2.2.1.1, .int st.2.2.2.2.2.1.2.1, .int st.2.2.2.2.2.1.2.2.1, .int st.2.2.2.2.2.1.2.2.2, .int st.2.2.2.2.2.2.1, .int st.2.2.2.2.2.2.2])), (h_kind, .inl (cI, 300, .inl st.2.1.1)), (h_b, .inl (cI, 300, .inl st.2.1.2.2.2.1)), (h_difference, .inl (cL, 300, .inr (.inl st.2.1.2.1))), (h_a, .inl (cL, 300, .inr (.inl st.2.1.2.2.1))), (h_newKind, .inl (cI, 300, .inl st.2.2.1.1)), (h_newB, .inl (cI, 300, .inl st.2.2.1.2.2.2.1)), (h_newDifference, .inl (cL, 300, .inr (.inl st.2.2.1.2.1))), (h_newA, .inl (cL, 300, .inr (.inl st.2.2.1.2.2.1))), (h_log, .inl (cI, 5000, .inl st.2.2.2.1.1)), (h_packed, .inl (cI, 5000, .inl st.2.2.2.2.1.1))] → lv_has ls 12 [(0, .ref h), (2, .int x2), (3, .int x3), (4, .int x4), (6, .long x6)] → W p l e { frames := 4, cells := 0, slots := 0, locals := 89 } s m args below meth c H locs 0 0 (MQ below (Qw D vwCl [(cI, .int), (cL, .long)] (none) A [(h, .inr (6, [.int res.1, .int res.2.1.2.2.2.2, .ref h_kind, .ref h_b, .ref h_difference, .ref h_a, .int res.2.2.1.2.2.2.2, .ref h_newKind, .ref h_newB, .ref h_newDifference, .ref h_newA, .int res.2.2.2.1.2, .ref h_log, .ref h_packed, .int res.2.2.2.2.1.2, .int res.2.2.2.2.2.1.1, .int res.2.2.2.2.2.1.2.1, .int res.2.2.2.2.2.1.2.2.1, .int res.2.2.2.2.2.1.2.2.2, .int res.2.2.2.2.2.2.1, .int res.2.2.2.2.2.2.2])), (h_kind, .inl (cI, 300, .inl res.2.1.1)), (h_b, .inl (cI, 300, .inl res.2.1.2.2.2.1)), (h_difference, .inl (cL, 300, .inr (.inl res.2.1.2.1))), (h_a, .inl (cL, 300, .inr (.inl res.2.1.2.2.1))), (h_newKind, .inl (cI, 300, .inl res.2.2.1.1)), (h_newB, .inl (cI, 300, .inl res.2.2.1.2.2.2.1)), (h_newDifference, .inl (cL, 300, .inr (.inl res.2.2.1.2.1))), (h_newA, .inl (cL, 300, .inr (.inl res.2.2.1.2.2.1))), (h_log, .inl (cI, 5000, .inl res.2.2.2.1.1)), (h_packed, .inl (cI, 5000, .inl res.2.2.2.2.1.1))]) args s 0 0 A) (F0 m 147 ls []) := by
  obtain ⟨hx, hb, hr, hml, hown, hts, hlk, hK, hA⟩ := id C
  intro st x2 x3 x4 x6 res hf H locs ls hH hl
  unfold f_Model_readEntry_b147 at hf
  refine lv_iload hx hb d_Model_readEntry_147 (lv_at hl 3 rfl) ?_
  refine lv_i2l (v := x4.toInt64) hx hb d_Model_readEntry_149 rfl ?_
  refine lv_goto (tgt := 200) hx hb d_Model_readEntry_150 (by decide) ?_
  exact w_Model_readEntry_b200 l D cI cL h h_kind h_b h_difference h_a h_newKind h_newB h_newDifference h_newA h_log h_packed C st x2 x3 x4 x6 x4.toInt64 res hf _ _ _ hH (lv_sub hl [0, 1, 2, 3, 4] rfl)
def f_Model_readEntry_b130 (st : S_Model) (x2 : Int32) (x3 : Int32) (x4 : Int32) (x5 : Int32) (x6 : Int64) : Option (S_Model) :=
  if st.2.2.2.2.2.2.2 ≤ 0 then (if x3 = 0 then (f_Model_readEntry_b147 st x2 x3 x4 x6) else (if x3 = (2 : Int32) then (f_Model_readEntry_b147 st x2 x3 x4 x6) else (if x3 = (4 : Int32) then ((f_Model_readBytes st 4).bind (fun r160 => f_Model_readEntry_b200 r160.2 x2 x3 x4 x6 r160.1)) else (if x3 = (1 : Int32) then ((f_Model_readBytes st x4).bind (fun r174 => f_Model_readEntry_b200 r174.2 x2 x3 x4 x6 r174.1)) else (if x4 = (1 : Int32) then (if x5 < 0 ∨ 300 ≤ x5.toNatClampNeg then none else f_Model_readEntry_b200 st x2 x3 x4 x6 (st.2.2.1.2.2.1 x5.toNatClampNeg)) else ((f_Model_readVarint st).bind (fun r197 => f_Model_readEntry_b200 r197.2 x2 x3 x4 x6 r197.1))))))) else (some st)
set_option maxRecDepth 100000 in
set_option maxHeartbeats 4000000 in
theorem w_Model_readEntry_b130 (l : Launch) (D : va_G) (cI cL : ClassId) (h h_kind h_b h_difference h_a h_newKind h_newB h_newDifference h_newA h_log h_packed : Nat) {p : Program} {e : Env} {s : State} {m : MethodId} {args : Array Value} {below : List Frame} {meth : Method} {c : Code} {A : Nat → Prop} (C : Cx p s m args meth c D vwCl [(cI, .int), (cL, .long)] A b_Model_readEntry 12 none ws_Model_readEntry y_Model_readEntry.cls) : ∀ (st : S_Model) (x2 : Int32) (x3 : Int32) (x4 : Int32) (x5 : Int32) (x6 : Int64) (res : S_Model), f_Model_readEntry_b130 st x2 x3 x4 x5 x6 = some res → ∀ (H : Heap) (locs : List Loc) (ls : Array Slot), Hp D vwCl A A s.heap H locs [(h, .inr (6, [.int st.1, .int st.2.1.2.2.2.2, .ref h_kind, .ref h_b, .ref h_difference, .ref h_a, .int st.2.2.1.2.2.2.2, .ref h_newKind, .ref h_newB, .ref h_newDifference, .ref h_newA, .int st.2.2.2.1.2, .ref h_log, .ref h_packed, .int st.2.2.2.2.1.2, .int st.2.2.2.2.2.1.1, .int st.2.2.2.2.2.1.2.1, .int st.2.2.2.2.2.1.2.2.1, .int st.2.2.2.2.2.1.2.2.2, .int st.2.2.2.2.2.2.1, .int st.2.2.2.2.2.2.2])), (h_kind, .inl (cI, 300, .inl st.2.1.1)), (h_b, .inl (cI, 300, .inl st.2.1.2.2.2.1)), (h_difference, .inl (cL, 300, .inr (.inl st.2.1.2.1))), (h_a, .inl (cL, 300, .inr (.inl st.2.1.2.2.1))), (h_newKind, .inl (cI, 300, .inl st.2.2.1.1)), (h_newB, .inl (cI, 300, .inl st.2.2.1.2.2.2.1)), (h_newDifference, .inl (cL, 300, .inr (.inl st.2.2.1.2.1))), (h_newA, .inl (cL, 300, .inr (.inl st.2.2.1.2.2.1))), (h_log, .inl (cI, 5000, .inl st.2.2.2.1.1)), (h_packed, .inl (cI, 5000, .inl st.2.2.2.2.1.1))] → lv_has ls 12 [(0, .ref h), (2, .int x2), (3, .int x3), (4, .int x4), (5, .int x5), (6, .long x6)] → W p l e { frames := 4, cells := 0, slots := 0, locals := 89 } s m args below meth c H locs 0 0 (MQ below (Qw D vwCl [(cI, .int), (cL, .long)] (none) A [(h, .inr (6, [.int res.1, .int res.2.1.2.2.2.2, .ref h_kind, .ref h_b, .ref h_difference, .ref h_a, .int res.2.2.1.2.2.2.2, .ref h_newKind, .ref h_newB, .ref h_newDifference, .ref h_newA, .int res.2.2.2.1.2, .ref h_log, .ref h_packed, .int res.2.2.2.2.1.2, .int res.2.2.2.2.2.1.1, .int res.2.2.2.2.2.1.2.1, .int res.2.2.2.2.2.1.2.2.1, .int res.2.2.2.2.2.1.2.2.2, .int res.2.2.2.2.2.2.1, .int res.2.2.2.2.2.2.2])), (h_kind, .inl (cI, 300, .inl res.2.1.1)), (h_b, .inl (cI, 300, .inl res.2.1.2.2.2.1)), (h_difference, .inl (cL, 300, .inr (.inl res.2.1.2.1))), (h_a, .inl (cL, 300, .inr (.inl res.2.1.2.2.1))), (h_newKind, .inl (cI, 300, .inl res.2.2.1.1)), (h_newB, .inl (cI, 300, .inl res.2.2.1.2.2.2.1)), (h_newDifference, .inl (cL, 300, .inr (.inl res.2.2.1.2.1))), (h_newA, .inl (cL, 300, .inr (.inl res.2.2.1.2.2.1))), (h_log, .inl (cI, 5000, .inl res.2.2.2.1.1)), (h_packed, .inl (cI, 5000, .inl res.2.2.2.2.1.1))]) args s 0 0 A) (F0 m 130 ls []) := by
  obtain ⟨hx, hb, hr, hml, hown, hts, hlk, hK, hA⟩ := id C
  intro st x2 x3 x4 x5 x6 res hf H locs ls hH hl
  unfold f_Model_readEntry_b130 at hf
  refine lv_aload_n hx hb d_Model_readEntry_130 rfl (lv_at hl 0 rfl) ?_
  refine gt (ci := 6) (v := .int st.2.2.2.2.2.2.2) C hH (iwT iw_Model) 0 rfl rfl 20 (by decide) (.tail _ wd_616) rfl d_Model_readEntry_131 ?_
  refine lv_if_le (tgt := 138) hx hb d_Model_readEntry_134 (by decide) (fun hc134 => ?_) (fun hc134 => ?_)
  · have hf := ip hc134 hf
    refine lv_iload_n hx hb d_Model_readEntry_138 rfl (lv_at hl 2 rfl) ?_
    refine lv_if_eq (tgt := 147) hx hb d_Model_readEntry_139 (by decide) (fun hc139 => ?_) (fun hc139 => ?_)
    · have hf := ip hc139 hf
      exact w_Model_readEntry_b147 l D cI cL h h_kind h_b h_difference h_a h_newKind h_newB h_newDifference h_newA h_log h_packed C st x2 x3 x4 x6 res hf _ _ _ hH (lv_sub hl [0, 1, 2, 3, 5] rfl)
    · have hf := im hc139 hf
      refine lv_iload_n hx hb d_Model_readEntry_142 rfl (lv_at hl 2 rfl) ?_
      refine lv_iconst (v := 2) hx hb d_Model_readEntry_143 (by decide) ?_
      refine lv_icmp_ne (tgt := 153) hx hb d_Model_readEntry_144 (by decide) (fun hc144 => ?_) (fun hc144 => ?_)
      · have hf := im hc144 hf
        refine lv_iload_n hx hb d_Model_readEntry_153 rfl (lv_at hl 2 rfl) ?_
        refine lv_iconst (v := 4) hx hb d_Model_readEntry_154 (by decide) ?_
        refine lv_icmp_ne (tgt := 166) hx hb d_Model_readEntry_155 (by decide) (fun hc155 => ?_) (fun hc155 => ?_)
        · have hf := im hc155 hf
          refine lv_iload_n hx hb d_Model_readEntry_166 rfl (lv_at hl 2 rfl) ?_
          refine lv_iconst (v := 1) hx hb d_Model_readEntry_167 (by decide) ?_
          refine lv_icmp_ne (tgt := 180) hx hb d_Model_readEntry_168 (by decide) (fun hc168 => ?_) (fun hc168 => ?_)
          · have hf := im hc168 hf
            refine lv_iload hx hb d_Model_readEntry_180 (lv_at hl 3 rfl) ?_
            refine lv_iconst (v := 1) hx hb d_Model_readEntry_182 (by decide) ?_
            refine lv_icmp_ne (tgt := 196) hx hb d_Model_readEntry_183 (by decide) (fun hc183 => ?_) (fun hc183 => ?_)
            · have hf := im hc183 hf
              refine lv_aload_n hx hb d_Model_readEntry_196 rfl (lv_at hl 0 rfl) ?_
              obtain ⟨r197, hr197, hf⟩ := ob hf
              refine fnV (rest := []) (wr := []) (w2 := [(h, .inr (6, [.int r197.2.1, .int r197.2.2.1.2.2.2.2, .ref h_kind, .ref h_b, .ref h_difference, .ref h_a, .int r197.2.2.2.1.2.2.2.2, .ref h_newKind, .ref h_newB, .ref h_newDifference, .ref h_newA, .int r197.2.2.2.2.1.2, .ref h_log, .ref h_packed, .int r197.2.2.2.2.2.1.2, .int r197.2.2.2.2.2.2.1.1, .int r197.2.2.2.2.2.2.1.2.1, .int r197.2.2.2.2.2.2.1.2.2.1, .int r197.2.2.2.2.2.2.1.2.2.2, .int r197.2.2.2.2.2.2.2.1, .int r197.2.2.2.2.2.2.2.2])), (h_kind, .inl (cI, 300, .inl r197.2.2.1.1)), (h_b, .inl (cI, 300, .inl r197.2.2.1.2.2.2.1)), (h_difference, .inl (cL, 300, .inr (.inl r197.2.2.1.2.1))), (h_a, .inl (cL, 300, .inr (.inl r197.2.2.1.2.2.1))), (h_newKind, .inl (cI, 300, .inl r197.2.2.2.1.1)), (h_newB, .inl (cI, 300, .inl r197.2.2.2.1.2.2.2.1)), (h_newDifference, .inl (cL, 300, .inr (.inl r197.2.2.2.1.2.1))), (h_newA, .inl (cL, 300, .inr (.inl r197.2.2.2.1.2.2.1))), (h_log, .inl (cI, 5000, .inl r197.2.2.2.2.1.1)), (h_packed, .inl (cI, 5000, .inl r197.2.2.2.2.2.1.1))]) (st2 := [.long r197.1]) C (c_Model_readVarint l D cI cL h h_kind h_b h_difference h_a h_newKind h_newB h_newDifference h_newA h_log h_packed st r197 hr197) (cV hts kV_Model_readVarint wd_739 ⟨Nat.le_of_ble_eq_true rfl, Nat.le_of_ble_eq_true rfl⟩) hH [0, 1, 2, 3, 4, 5, 6, 7, 8, 9, 10] [] [0, 1, 2, 3, 4, 5, 6, 7, 8, 9, 10] rfl rfl rfl rfl (by decide) rfl rfl 0 rfl rfl rfl hl.1 rfl (Nat.le_of_ble_eq_true rfl) d_Model_readEntry_197 ⟨Nat.le_of_ble_eq_true rfl, Nat.le_of_ble_eq_true rfl⟩ rfl (fun H locs hH => ?_)
              exact w_Model_readEntry_b200 l D cI cL h h_kind h_b h_difference h_a h_newKind h_newB h_newDifference h_newA h_log h_packed C r197.2 x2 x3 x4 x6 r197.1 res hf _ _ _ hH (lv_sub hl [0, 1, 2, 3, 5] rfl)
            · have hf := ip hc183 hf
              refine lv_aload_n hx hb d_Model_readEntry_186 rfl (lv_at hl 0 rfl) ?_
              refine gt (ci := 6) (v := .ref h_newA) C hH (iwT iw_Model) 0 rfl rfl 10 (by decide) (.tail _ wd_606) rfl d_Model_readEntry_187 ?_
              refine lv_iload hx hb d_Model_readEntry_190 (lv_at hl 4 rfl) ?_
              obtain ⟨hin192, hf⟩ := oa hf
              refine all_ C hH 8 1 rfl rfl (hin192) d_Model_readEntry_192 ?_
              refine lv_goto (tgt := 200) hx hb d_Model_readEntry_193 (by decide) ?_
              exact w_Model_readEntry_b200 l D cI cL h h_kind h_b h_difference h_a h_newKind h_newB h_newDifference h_newA h_log h_packed C st x2 x3 x4 x6 (st.2.2.1.2.2.1 x5.toNatClampNeg) res hf _ _ _ hH (lv_sub hl [0, 1, 2, 3, 5] rfl)
          · have hf := ip hc168 hf
            refine lv_aload_n hx hb d_Model_readEntry_171 rfl (lv_at hl 0 rfl) ?_
            refine lv_iload hx hb d_Model_readEntry_172 (lv_at hl 3 rfl) ?_
            obtain ⟨r174, hr174, hf⟩ := ob hf
            refine fnV (rest := []) (wr := []) (w2 := [(h, .inr (6, [.int r174.2.1, .int r174.2.2.1.2.2.2.2, .ref h_kind, .ref h_b, .ref h_difference, .ref h_a, .int r174.2.2.2.1.2.2.2.2, .ref h_newKind, .ref h_newB, .ref h_newDifference, .ref h_newA, .int r174.2.2.2.2.1.2, .ref h_log, .ref h_packed, .int r174.2.2.2.2.2.1.2, .int r174.2.2.2.2.2.2.1.1, .int r174.2.2.2.2.2.2.1.2.1, .int r174.2.2.2.2.2.2.1.2.2.1, .int r174.2.2.2.2.2.2.1.2.2.2, .int r174.2.2.2.2.2.2.2.1, .int r174.2.2.2.2.2.2.2.2])), (h_kind, .inl (cI, 300, .inl r174.2.2.1.1)), (h_b, .inl (cI, 300, .inl r174.2.2.1.2.2.2.1)), (h_difference, .inl (cL, 300, .inr (.inl r174.2.2.1.2.1))), (h_a, .inl (cL, 300, .inr (.inl r174.2.2.1.2.2.1))), (h_newKind, .inl (cI, 300, .inl r174.2.2.2.1.1)), (h_newB, .inl (cI, 300, .inl r174.2.2.2.1.2.2.2.1)), (h_newDifference, .inl (cL, 300, .inr (.inl r174.2.2.2.1.2.1))), (h_newA, .inl (cL, 300, .inr (.inl r174.2.2.2.1.2.2.1))), (h_log, .inl (cI, 5000, .inl r174.2.2.2.2.1.1)), (h_packed, .inl (cI, 5000, .inl r174.2.2.2.2.2.1.1))]) (st2 := [.long r174.1]) C (c_Model_readBytes l D cI cL h h_kind h_b h_difference h_a h_newKind h_newB h_newDifference h_newA h_log h_packed st x4 r174 hr174) (cV hts kV_Model_readBytes wd_772 ⟨Nat.le_of_ble_eq_true rfl, Nat.le_of_ble_eq_true rfl⟩) hH [0, 1, 2, 3, 4, 5, 6, 7, 8, 9, 10] [] [0, 1, 2, 3, 4, 5, 6, 7, 8, 9, 10] rfl rfl rfl rfl (by decide) rfl rfl 0 rfl rfl rfl hl.1 rfl (Nat.le_of_ble_eq_true rfl) d_Model_readEntry_174 ⟨Nat.le_of_ble_eq_true rfl, Nat.le_of_ble_eq_true rfl⟩ rfl (fun H locs hH => ?_)
            refine lv_goto (tgt := 200) hx hb d_Model_readEntry_177 (by decide) ?_
            exact w_Model_readEntry_b200 l D cI cL h h_kind h_b h_difference h_a h_newKind h_newB h_newDifference h_newA h_log h_packed C r174.2 x2 x3 x4 x6 r174.1 res hf _ _ _ hH (lv_sub hl [0, 1, 2, 3, 5] rfl)
        · have hf := ip hc155 hf
          refine lv_aload_n hx hb d_Model_readEntry_158 rfl (lv_at hl 0 rfl) ?_
          refine lv_iconst (v := 4) hx hb d_Model_readEntry_159 (by decide) ?_
          obtain ⟨r160, hr160, hf⟩ := ob hf
          refine fnV (rest := []) (wr := []) (w2 := [(h, .inr (6, [.int r160.2.1, .int r160.2.2.1.2.2.2.2, .ref h_kind, .ref h_b, .ref h_difference, .ref h_a, .int r160.2.2.2.1.2.2.2.2, .ref h_newKind, .ref h_newB, .ref h_newDifference, .ref h_newA, .int r160.2.2.2.2.1.2, .ref h_log, .ref h_packed, .int r160.2.2.2.2.2.1.2, .int r160.2.2.2.2.2.2.1.1, .int r160.2.2.2.2.2.2.1.2.1, .int r160.2.2.2.2.2.2.1.2.2.1, .int r160.2.2.2.2.2.2.1.2.2.2, .int r160.2.2.2.2.2.2.2.1, .int r160.2.2.2.2.2.2.2.2])), (h_kind, .inl (cI, 300, .inl r160.2.2.1.1)), (h_b, .inl (cI, 300, .inl r160.2.2.1.2.2.2.1)), (h_difference, .inl (cL, 300, .inr (.inl r160.2.2.1.2.1))), (h_a, .inl (cL, 300, .inr (.inl r160.2.2.1.2.2.1))), (h_newKind, .inl (cI, 300, .inl r160.2.2.2.1.1)), (h_newB, .inl (cI, 300, .inl r160.2.2.2.1.2.2.2.1)), (h_newDifference, .inl (cL, 300, .inr (.inl r160.2.2.2.1.2.1))), (h_newA, .inl (cL, 300, .inr (.inl r160.2.2.2.1.2.2.1))), (h_log, .inl (cI, 5000, .inl r160.2.2.2.2.1.1)), (h_packed, .inl (cI, 5000, .inl r160.2.2.2.2.2.1.1))]) (st2 := [.long r160.1]) C (c_Model_readBytes l D cI cL h h_kind h_b h_difference h_a h_newKind h_newB h_newDifference h_newA h_log h_packed st 4 r160 hr160) (cV hts kV_Model_readBytes wd_772 ⟨Nat.le_of_ble_eq_true rfl, Nat.le_of_ble_eq_true rfl⟩) hH [0, 1, 2, 3, 4, 5, 6, 7, 8, 9, 10] [] [0, 1, 2, 3, 4, 5, 6, 7, 8, 9, 10] rfl rfl rfl rfl (by decide) rfl rfl 0 rfl rfl rfl hl.1 rfl (Nat.le_of_ble_eq_true rfl) d_Model_readEntry_160 ⟨Nat.le_of_ble_eq_true rfl, Nat.le_of_ble_eq_true rfl⟩ rfl (fun H locs hH => ?_)
          refine lv_goto (tgt := 200) hx hb d_Model_readEntry_163 (by decide) ?_
          exact w_Model_readEntry_b200 l D cI cL h h_kind h_b h_difference h_a h_newKind h_newB h_newDifference h_newA h_log h_packed C r160.2 x2 x3 x4 x6 r160.1 res hf _ _ _ hH (lv_sub hl [0, 1, 2, 3, 5] rfl)
      · have hf := ip hc144 hf
        exact w_Model_readEntry_b147 l D cI cL h h_kind h_b h_difference h_a h_newKind h_newB h_newDifference h_newA h_log h_packed C st x2 x3 x4 x6 res hf _ _ _ hH (lv_sub hl [0, 1, 2, 3, 5] rfl)
  · have hf := im hc134 hf
    have hf := Option.some.inj hf
    subst hf
    exact rV C hH d_Model_readEntry_137
def f_Model_readEntry_b106 (st : S_Model) (x2 : Int32) (x3 : Int32) (x4 : Int32) (x5 : Int32) (z0 : Int64) : Option (S_Model) :=
  if x3 = (3 : Int32) then (if x4 = (1 : Int32) then (if 0 ≤ x5 then (f_Model_readEntry_b130 st x2 x3 x4 x5 z0) else (lt1 (f_Model_meet st 4 x2) (fun r127 => f_Model_readEntry_b130 r127 x2 x3 x4 x5 z0))) else (f_Model_readEntry_b130 st x2 x3 x4 x5 z0)) else (f_Model_readEntry_b130 st x2 x3 x4 x5 z0)
set_option maxRecDepth 100000 in
set_option maxHeartbeats 4000000 in
theorem w_Model_readEntry_b106 (l : Launch) (D : va_G) (cI cL : ClassId) (h h_kind h_b h_difference h_a h_newKind h_newB h_newDifference h_newA h_log h_packed : Nat) {p : Program} {e : Env} {s : State} {m : MethodId} {args : Array Value} {below : List Frame} {meth : Method} {c : Code} {A : Nat → Prop} (C : Cx p s m args meth c D vwCl [(cI, .int), (cL, .long)] A b_Model_readEntry 12 none ws_Model_readEntry y_Model_readEntry.cls) : ∀ (st : S_Model) (x2 : Int32) (x3 : Int32) (x4 : Int32) (x5 : Int32) (z0 : Int64) (res : S_Model), f_Model_readEntry_b106 st x2 x3 x4 x5 z0 = some res → ∀ (H : Heap) (locs : List Loc) (ls : Array Slot), Hp D vwCl A A s.heap H locs [(h, .inr (6, [.int st.1, .int st.2.1.2.2.2.2, .ref h_kind, .ref h_b, .ref h_difference, .ref h_a, .int st.2.2.1.2.2.2.2, .ref h_newKind, .ref h_newB, .ref h_newDifference, .ref h_newA, .int st.2.2.2.1.2, .ref h_log, .ref h_packed, .int st.2.2.2.2.1.2, .int st.2.2.2.2.2.1.1, .int st.2.2.2.2.2.1.2.1, .int st.2.2.2.2.2.1.2.2.1, .int st.2.2.2.2.2.1.2.2.2, .int st.2.2.2.2.2.2.1, .int st.2.2.2.2.2.2.2])), (h_kind, .inl (cI, 300, .inl st.2.1.1)), (h_b, .inl (cI, 300, .inl st.2.1.2.2.2.1)), (h_difference, .inl (cL, 300, .inr (.inl st.2.1.2.1))), (h_a, .inl (cL, 300, .inr (.inl st.2.1.2.2.1))), (h_newKind, .inl (cI, 300, .inl st.2.2.1.1)), (h_newB, .inl (cI, 300, .inl st.2.2.1.2.2.2.1)), (h_newDifference, .inl (cL, 300, .inr (.inl st.2.2.1.2.1))), (h_newA, .inl (cL, 300, .inr (.inl st.2.2.1.2.2.1))), (h_log, .inl (cI, 5000, .inl st.2.2.2.1.1)), (h_packed, .inl (cI, 5000, .inl st.2.2.2.2.1.1))] → lv_has ls 12 [(0, .ref h), (2, .int x2), (3, .int x3), (4, .int x4), (5, .int x5)] → W p l e { frames := 4, cells := 0, slots := 0, locals := 89 } s m args below meth c H locs 0 0 (MQ below (Qw D vwCl [(cI, .int), (cL, .long)] (none) A [(h, .inr (6, [.int res.1, .int res.2.1.2.2.2.2, .ref h_kind, .ref h_b, .ref h_difference, .ref h_a, .int res.2.2.1.2.2.2.2, .ref h_newKind, .ref h_newB, .ref h_newDifference, .ref h_newA, .int res.2.2.2.1.2, .ref h_log, .ref h_packed, .int res.2.2.2.2.1.2, .int res.2.2.2.2.2.1.1, .int res.2.2.2.2.2.1.2.1, .int res.2.2.2.2.2.1.2.2.1, .int res.2.2.2.2.2.1.2.2.2, .int res.2.2.2.2.2.2.1, .int res.2.2.2.2.2.2.2])), (h_kind, .inl (cI, 300, .inl res.2.1.1)), (h_b, .inl (cI, 300, .inl res.2.1.2.2.2.1)), (h_difference, .inl (cL, 300, .inr (.inl res.2.1.2.1))), (h_a, .inl (cL, 300, .inr (.inl res.2.1.2.2.1))), (h_newKind, .inl (cI, 300, .inl res.2.2.1.1)), (h_newB, .inl (cI, 300, .inl res.2.2.1.2.2.2.1)), (h_newDifference, .inl (cL, 300, .inr (.inl res.2.2.1.2.1))), (h_newA, .inl (cL, 300, .inr (.inl res.2.2.1.2.2.1))), (h_log, .inl (cI, 5000, .inl res.2.2.2.1.1)), (h_packed, .inl (cI, 5000, .inl res.2.2.2.2.1.1))]) args s 0 0 A) (F0 m 106 ls [.long z0]) := by
  obtain ⟨hx, hb, hr, hml, hown, hts, hlk, hK, hA⟩ := id C
  intro st x2 x3 x4 x5 z0 res hf H locs ls hH hl
  unfold f_Model_readEntry_b106 at hf
  refine lv_lstore (lv' := [(6, .long z0), (0, .ref h), (2, .int x2), (3, .int x3), (4, .int x4), (5, .int x5)]) hx hb d_Model_readEntry_106 hl (by decide) rfl (fun ls hl => ?_)
  refine lv_iload_n hx hb d_Model_readEntry_108 rfl (lv_at hl 3 rfl) ?_
  refine lv_iconst (v := 3) hx hb d_Model_readEntry_109 (by decide) ?_
  refine lv_icmp_ne (tgt := 130) hx hb d_Model_readEntry_110 (by decide) (fun hc110 => ?_) (fun hc110 => ?_)
  · have hf := im hc110 hf
    exact w_Model_readEntry_b130 l D cI cL h h_kind h_b h_difference h_a h_newKind h_newB h_newDifference h_newA h_log h_packed C st x2 x3 x4 x5 z0 res hf _ _ _ hH (lv_sub hl [1, 2, 3, 4, 5, 0] rfl)
  · have hf := ip hc110 hf
    refine lv_iload hx hb d_Model_readEntry_113 (lv_at hl 4 rfl) ?_
    refine lv_iconst (v := 1) hx hb d_Model_readEntry_115 (by decide) ?_
    refine lv_icmp_ne (tgt := 130) hx hb d_Model_readEntry_116 (by decide) (fun hc116 => ?_) (fun hc116 => ?_)
    · have hf := im hc116 hf
      exact w_Model_readEntry_b130 l D cI cL h h_kind h_b h_difference h_a h_newKind h_newB h_newDifference h_newA h_log h_packed C st x2 x3 x4 x5 z0 res hf _ _ _ hH (lv_sub hl [1, 2, 3, 4, 5, 0] rfl)
    · have hf := ip hc116 hf
      refine lv_iload hx hb d_Model_readEntry_119 (lv_at hl 5 rfl) ?_
      refine lv_if_ge (tgt := 130) hx hb d_Model_readEntry_121 (by decide) (fun hc121 => ?_) (fun hc121 => ?_)
      · have hf := ip hc121 hf
        exact w_Model_readEntry_b130 l D cI cL h h_kind h_b h_difference h_a h_newKind h_newB h_newDifference h_newA h_log h_packed C st x2 x3 x4 x5 z0 res hf _ _ _ hH (lv_sub hl [1, 2, 3, 4, 5, 0] rfl)
      · have hf := im hc121 hf
        refine lv_aload_n hx hb d_Model_readEntry_124 rfl (lv_at hl 1 rfl) ?_
        refine lv_iconst (v := 4) hx hb d_Model_readEntry_125 (by decide) ?_
        refine lv_iload_n hx hb d_Model_readEntry_126 rfl (lv_at hl 2 rfl) ?_
        obtain ⟨r127, hr127, hf⟩ := lb hf
        refine fnV (rest := []) (wr := []) (w2 := [(h, .inr (6, [.int r127.1, .int r127.2.1.2.2.2.2, .ref h_kind, .ref h_b, .ref h_difference, .ref h_a, .int r127.2.2.1.2.2.2.2, .ref h_newKind, .ref h_newB, .ref h_newDifference, .ref h_newA, .int r127.2.2.2.1.2, .ref h_log, .ref h_packed, .int r127.2.2.2.2.1.2, .int r127.2.2.2.2.2.1.1, .int r127.2.2.2.2.2.1.2.1, .int r127.2.2.2.2.2.1.2.2.1, .int r127.2.2.2.2.2.1.2.2.2, .int r127.2.2.2.2.2.2.1, .int r127.2.2.2.2.2.2.2])), (h_kind, .inl (cI, 300, .inl r127.2.1.1)), (h_b, .inl (cI, 300, .inl r127.2.1.2.2.2.1)), (h_difference, .inl (cL, 300, .inr (.inl r127.2.1.2.1))), (h_a, .inl (cL, 300, .inr (.inl r127.2.1.2.2.1))), (h_newKind, .inl (cI, 300, .inl r127.2.2.1.1)), (h_newB, .inl (cI, 300, .inl r127.2.2.1.2.2.2.1)), (h_newDifference, .inl (cL, 300, .inr (.inl r127.2.2.1.2.1))), (h_newA, .inl (cL, 300, .inr (.inl r127.2.2.1.2.2.1))), (h_log, .inl (cI, 5000, .inl r127.2.2.2.1.1)), (h_packed, .inl (cI, 5000, .inl r127.2.2.2.2.1.1))]) (st2 := []) C (c_Model_meet l D cI cL h h_kind h_b h_difference h_a h_newKind h_newB h_newDifference h_newA h_log h_packed st 4 x2 r127 hr127) (cV hts kV_Model_meet wd_747 ⟨Nat.le_of_ble_eq_true rfl, Nat.le_of_ble_eq_true rfl⟩) hH [0, 1, 2, 3, 4, 5, 6, 7, 8, 9, 10] [] [0, 1, 2, 3, 4, 5, 6, 7, 8, 9, 10] rfl rfl rfl rfl (by decide) rfl rfl 0 rfl rfl rfl hl.1 rfl (Nat.le_of_ble_eq_true rfl) d_Model_readEntry_127 ⟨Nat.le_of_ble_eq_true rfl, Nat.le_of_ble_eq_true rfl⟩ rfl (fun H locs hH => ?_)
        exact w_Model_readEntry_b130 l D cI cL h h_kind h_b h_difference h_a h_newKind h_newB h_newDifference h_newA h_log h_packed C r127 x2 x3 x4 x5 z0 res hf _ _ _ hH (lv_sub hl [1, 2, 3, 4, 5, 0] rfl)
def f_Model_readEntry_b54 (st : S_Model) (x1 : Int32) (x2 : Int32) (x3 : Int32) (x4 : Int32) : Option (S_Model) :=
  if st.2.2.2.2.2.2.2 ≤ 0 then ((f_Model_before st 3 1).bind (fun r65 => if (x1 &&& 8) = 0 then ((f_Model_readVarint st).bind (fun r78 => f_Model_readEntry_b106 r78.2 x2 x3 x4 r65 r78.1)) else (if st.2.2.1.2.2.2.2 = 0 then (f_Model_readEntry_b106 st x2 x3 x4 r65 0) else (if (st.2.2.1.2.2.2.2 - 1) < 0 ∨ 300 ≤ (st.2.2.1.2.2.2.2 - 1).toNatClampNeg then none else f_Model_readEntry_b106 st x2 x3 x4 r65 (st.2.2.1.2.1 (st.2.2.1.2.2.2.2 - 1).toNatClampNeg))))) else (some st)
set_option maxRecDepth 100000 in
set_option maxHeartbeats 4000000 in
theorem w_Model_readEntry_b54 (l : Launch) (D : va_G) (cI cL : ClassId) (h h_kind h_b h_difference h_a h_newKind h_newB h_newDifference h_newA h_log h_packed : Nat) {p : Program} {e : Env} {s : State} {m : MethodId} {args : Array Value} {below : List Frame} {meth : Method} {c : Code} {A : Nat → Prop} (C : Cx p s m args meth c D vwCl [(cI, .int), (cL, .long)] A b_Model_readEntry 12 none ws_Model_readEntry y_Model_readEntry.cls) : ∀ (st : S_Model) (x1 : Int32) (x2 : Int32) (x3 : Int32) (x4 : Int32) (res : S_Model), f_Model_readEntry_b54 st x1 x2 x3 x4 = some res → ∀ (H : Heap) (locs : List Loc) (ls : Array Slot), Hp D vwCl A A s.heap H locs [(h, .inr (6, [.int st.1, .int st.2.1.2.2.2.2, .ref h_kind, .ref h_b, .ref h_difference, .ref h_a, .int st.2.2.1.2.2.2.2, .ref h_newKind, .ref h_newB, .ref h_newDifference, .ref h_newA, .int st.2.2.2.1.2, .ref h_log, .ref h_packed, .int st.2.2.2.2.1.2, .int st.2.2.2.2.2.1.1, .int st.2.2.2.2.2.1.2.1, .int st.2.2.2.2.2.1.2.2.1, .int st.2.2.2.2.2.1.2.2.2, .int st.2.2.2.2.2.2.1, .int st.2.2.2.2.2.2.2])), (h_kind, .inl (cI, 300, .inl st.2.1.1)), (h_b, .inl (cI, 300, .inl st.2.1.2.2.2.1)), (h_difference, .inl (cL, 300, .inr (.inl st.2.1.2.1))), (h_a, .inl (cL, 300, .inr (.inl st.2.1.2.2.1))), (h_newKind, .inl (cI, 300, .inl st.2.2.1.1)), (h_newB, .inl (cI, 300, .inl st.2.2.1.2.2.2.1)), (h_newDifference, .inl (cL, 300, .inr (.inl st.2.2.1.2.1))), (h_newA, .inl (cL, 300, .inr (.inl st.2.2.1.2.2.1))), (h_log, .inl (cI, 5000, .inl st.2.2.2.1.1)), (h_packed, .inl (cI, 5000, .inl st.2.2.2.2.1.1))] → lv_has ls 12 [(0, .ref h), (1, .int x1), (2, .int x2), (3, .int x3), (4, .int x4)] → W p l e { frames := 4, cells := 0, slots := 0, locals := 89 } s m args below meth c H locs 0 0 (MQ below (Qw D vwCl [(cI, .int), (cL, .long)] (none) A [(h, .inr (6, [.int res.1, .int res.2.1.2.2.2.2, .ref h_kind, .ref h_b, .ref h_difference, .ref h_a, .int res.2.2.1.2.2.2.2, .ref h_newKind, .ref h_newB, .ref h_newDifference, .ref h_newA, .int res.2.2.2.1.2, .ref h_log, .ref h_packed, .int res.2.2.2.2.1.2, .int res.2.2.2.2.2.1.1, .int res.2.2.2.2.2.1.2.1, .int res.2.2.2.2.2.1.2.2.1, .int res.2.2.2.2.2.1.2.2.2, .int res.2.2.2.2.2.2.1, .int res.2.2.2.2.2.2.2])), (h_kind, .inl (cI, 300, .inl res.2.1.1)), (h_b, .inl (cI, 300, .inl res.2.1.2.2.2.1)), (h_difference, .inl (cL, 300, .inr (.inl res.2.1.2.1))), (h_a, .inl (cL, 300, .inr (.inl res.2.1.2.2.1))), (h_newKind, .inl (cI, 300, .inl res.2.2.1.1)), (h_newB, .inl (cI, 300, .inl res.2.2.1.2.2.2.1)), (h_newDifference, .inl (cL, 300, .inr (.inl res.2.2.1.2.1))), (h_newA, .inl (cL, 300, .inr (.inl res.2.2.1.2.2.1))), (h_log, .inl (cI, 5000, .inl res.2.2.2.1.1)), (h_packed, .inl (cI, 5000, .inl res.2.2.2.2.1.1))]) args s 0 0 A) (F0 m 54 ls []) := by
  obtain ⟨hx, hb, hr, hml, hown, hts, hlk, hK, hA⟩ := id C
  intro st x1 x2 x3 x4 res hf H locs ls hH hl
  unfold f_Model_readEntry_b54 at hf
  refine lv_aload_n hx hb d_Model_readEntry_54 rfl (lv_at hl 0 rfl) ?_
  refine gt (ci := 6) (v := .int st.2.2.2.2.2.2.2) C hH (iwT iw_Model) 0 rfl rfl 20 (by decide) (.tail _ wd_616) rfl d_Model_readEntry_55 ?_
  refine lv_if_le (tgt := 62) hx hb d_Model_readEntry_58 (by decide) (fun hc58 => ?_) (fun hc58 => ?_)
  · have hf := ip hc58 hf
    refine lv_aload_n hx hb d_Model_readEntry_62 rfl (lv_at hl 0 rfl) ?_
    refine lv_iconst (v := 3) hx hb d_Model_readEntry_63 (by decide) ?_
    refine lv_lconst (v := 1) hx hb d_Model_readEntry_64 (by decide) ?_
    obtain ⟨r65, hr65, hf⟩ := ob hf
    refine fnVR (rest := []) (st2 := [.int r65]) C (c_Model_before l D cI cL h h_kind h_b h_difference h_a h_newKind h_newB h_newDifference h_newA h_log h_packed st 3 1 r65 hr65) (cV hts kV_Model_before wd_768 ⟨Nat.le_of_ble_eq_true rfl, Nat.le_of_ble_eq_true rfl⟩) hH [0, 1, 2, 3, 4, 5, 6, 7, 8, 9, 10] rfl rfl 0 rfl rfl rfl hl.1 rfl (Nat.le_of_ble_eq_true rfl) d_Model_readEntry_65 ⟨Nat.le_of_ble_eq_true rfl, Nat.le_of_ble_eq_true rfl⟩ rfl (fun H locs hH => ?_)
    refine lv_istore (lv' := [(5, .int r65), (0, .ref h), (1, .int x1), (2, .int x2), (3, .int x3), (4, .int x4)]) hx hb d_Model_readEntry_68 hl (by decide) rfl (fun ls hl => ?_)
    refine lv_iload_n hx hb d_Model_readEntry_70 rfl (lv_at hl 2 rfl) ?_
    refine lv_bipush (v := 8) hx hb d_Model_readEntry_71 (by decide) ?_
    refine lv_iand hx hb d_Model_readEntry_73 ?_
    refine lv_if_ne (tgt := 84) hx hb d_Model_readEntry_74 (by decide) (fun hc74 => ?_) (fun hc74 => ?_)
    · have hf := im hc74 hf
      refine lv_aload_n hx hb d_Model_readEntry_84 rfl (lv_at hl 1 rfl) ?_
      refine gt (ci := 6) (v := .int st.2.2.1.2.2.2.2) C hH (iwT iw_Model) 0 rfl rfl 6 (by decide) (.tail _ wd_602) rfl d_Model_readEntry_85 ?_
      refine lv_if_ne (tgt := 95) hx hb d_Model_readEntry_88 (by decide) (fun hc88 => ?_) (fun hc88 => ?_)
      · have hf := im hc88 hf
        refine lv_aload_n hx hb d_Model_readEntry_95 rfl (lv_at hl 1 rfl) ?_
        refine gt (ci := 6) (v := .ref h_newDifference) C hH (iwT iw_Model) 0 rfl rfl 9 (by decide) (.tail _ wd_605) rfl d_Model_readEntry_96 ?_
        refine lv_aload_n hx hb d_Model_readEntry_99 rfl (lv_at hl 1 rfl) ?_
        refine gt (ci := 6) (v := .int st.2.2.1.2.2.2.2) C hH (iwT iw_Model) 0 rfl rfl 6 (by decide) (.tail _ wd_602) rfl d_Model_readEntry_100 ?_
        refine lv_iconst (v := 1) hx hb d_Model_readEntry_103 (by decide) ?_
        refine lv_isub hx hb d_Model_readEntry_104 ?_
        obtain ⟨hin105, hf⟩ := oa hf
        refine all_ C hH 7 1 rfl rfl (hin105) d_Model_readEntry_105 ?_
        exact w_Model_readEntry_b106 l D cI cL h h_kind h_b h_difference h_a h_newKind h_newB h_newDifference h_newA h_log h_packed C st x2 x3 x4 r65 (st.2.2.1.2.1 (st.2.2.1.2.2.2.2 - 1).toNatClampNeg) res hf _ _ _ hH (lv_sub hl [1, 3, 4, 5, 0] rfl)
      · have hf := ip hc88 hf
        refine lv_lconst (v := 0) hx hb d_Model_readEntry_91 (by decide) ?_
        refine lv_goto (tgt := 106) hx hb d_Model_readEntry_92 (by decide) ?_
        exact w_Model_readEntry_b106 l D cI cL h h_kind h_b h_difference h_a h_newKind h_newB h_newDifference h_newA h_log h_packed C st x2 x3 x4 r65 0 res hf _ _ _ hH (lv_sub hl [1, 3, 4, 5, 0] rfl)
    · have hf := ip hc74 hf
      refine lv_aload_n hx hb d_Model_readEntry_77 rfl (lv_at hl 1 rfl) ?_
      obtain ⟨r78, hr78, hf⟩ := ob hf
      refine fnV (rest := []) (wr := []) (w2 := [(h, .inr (6, [.int r78.2.1, .int r78.2.2.1.2.2.2.2, .ref h_kind, .ref h_b, .ref h_difference, .ref h_a, .int r78.2.2.2.1.2.2.2.2, .ref h_newKind, .ref h_newB, .ref h_newDifference, .ref h_newA, .int r78.2.2.2.2.1.2, .ref h_log, .ref h_packed, .int r78.2.2.2.2.2.1.2, .int r78.2.2.2.2.2.2.1.1, .int r78.2.2.2.2.2.2.1.2.1, .int r78.2.2.2.2.2.2.1.2.2.1, .int r78.2.2.2.2.2.2.1.2.2.2, .int r78.2.2.2.2.2.2.2.1, .int r78.2.2.2.2.2.2.2.2])), (h_kind, .inl (cI, 300, .inl r78.2.2.1.1)), (h_b, .inl (cI, 300, .inl r78.2.2.1.2.2.2.1)), (h_difference, .inl (cL, 300, .inr (.inl r78.2.2.1.2.1))), (h_a, .inl (cL, 300, .inr (.inl r78.2.2.1.2.2.1))), (h_newKind, .inl (cI, 300, .inl r78.2.2.2.1.1)), (h_newB, .inl (cI, 300, .inl r78.2.2.2.1.2.2.2.1)), (h_newDifference, .inl (cL, 300, .inr (.inl r78.2.2.2.1.2.1))), (h_newA, .inl (cL, 300, .inr (.inl r78.2.2.2.1.2.2.1))), (h_log, .inl (cI, 5000, .inl r78.2.2.2.2.1.1)), (h_packed, .inl (cI, 5000, .inl r78.2.2.2.2.2.1.1))]) (st2 := [.long r78.1]) C (c_Model_readVarint l D cI cL h h_kind h_b h_difference h_a h_newKind h_newB h_newDifference h_newA h_log h_packed st r78 hr78) (cV hts kV_Model_readVarint wd_739 ⟨Nat.le_of_ble_eq_true rfl, Nat.le_of_ble_eq_true rfl⟩) hH [0, 1, 2, 3, 4, 5, 6, 7, 8, 9, 10] [] [0, 1, 2, 3, 4, 5, 6, 7, 8, 9, 10] rfl rfl rfl rfl (by decide) rfl rfl 0 rfl rfl rfl hl.1 rfl (Nat.le_of_ble_eq_true rfl) d_Model_readEntry_78 ⟨Nat.le_of_ble_eq_true rfl, Nat.le_of_ble_eq_true rfl⟩ rfl (fun H locs hH => ?_)
      refine lv_goto (tgt := 106) hx hb d_Model_readEntry_81 (by decide) ?_
      exact w_Model_readEntry_b106 l D cI cL h h_kind h_b h_difference h_a h_newKind h_newB h_newDifference h_newA h_log h_packed C r78.2 x2 x3 x4 r65 r78.1 res hf _ _ _ hH (lv_sub hl [1, 3, 4, 5, 0] rfl)
  · have hf := im hc58 hf
    have hf := Option.some.inj hf
    subst hf
    exact rV C hH d_Model_readEntry_61
def f_Model_readEntry_b48 (st : S_Model) (x1 : Int32) (x2 : Int32) (x3 : Int32) (x4 : Int32) : Option (S_Model) :=
  lt1 (f_Model_meet st 1 x2) (fun r51 => f_Model_readEntry_b54 r51 x1 x2 x3 x4)
set_option maxRecDepth 100000 in
set_option maxHeartbeats 4000000 in
theorem w_Model_readEntry_b48 (l : Launch) (D : va_G) (cI cL : ClassId) (h h_kind h_b h_difference h_a h_newKind h_newB h_newDifference h_newA h_log h_packed : Nat) {p : Program} {e : Env} {s : State} {m : MethodId} {args : Array Value} {below : List Frame} {meth : Method} {c : Code} {A : Nat → Prop} (C : Cx p s m args meth c D vwCl [(cI, .int), (cL, .long)] A b_Model_readEntry 12 none ws_Model_readEntry y_Model_readEntry.cls) : ∀ (st : S_Model) (x1 : Int32) (x2 : Int32) (x3 : Int32) (x4 : Int32) (res : S_Model), f_Model_readEntry_b48 st x1 x2 x3 x4 = some res → ∀ (H : Heap) (locs : List Loc) (ls : Array Slot), Hp D vwCl A A s.heap H locs [(h, .inr (6, [.int st.1, .int st.2.1.2.2.2.2, .ref h_kind, .ref h_b, .ref h_difference, .ref h_a, .int st.2.2.1.2.2.2.2, .ref h_newKind, .ref h_newB, .ref h_newDifference, .ref h_newA, .int st.2.2.2.1.2, .ref h_log, .ref h_packed, .int st.2.2.2.2.1.2, .int st.2.2.2.2.2.1.1, .int st.2.2.2.2.2.1.2.1, .int st.2.2.2.2.2.1.2.2.1, .int st.2.2.2.2.2.1.2.2.2, .int st.2.2.2.2.2.2.1, .int st.2.2.2.2.2.2.2])), (h_kind, .inl (cI, 300, .inl st.2.1.1)), (h_b, .inl (cI, 300, .inl st.2.1.2.2.2.1)), (h_difference, .inl (cL, 300, .inr (.inl st.2.1.2.1))), (h_a, .inl (cL, 300, .inr (.inl st.2.1.2.2.1))), (h_newKind, .inl (cI, 300, .inl st.2.2.1.1)), (h_newB, .inl (cI, 300, .inl st.2.2.1.2.2.2.1)), (h_newDifference, .inl (cL, 300, .inr (.inl st.2.2.1.2.1))), (h_newA, .inl (cL, 300, .inr (.inl st.2.2.1.2.2.1))), (h_log, .inl (cI, 5000, .inl st.2.2.2.1.1)), (h_packed, .inl (cI, 5000, .inl st.2.2.2.2.1.1))] → lv_has ls 12 [(0, .ref h), (1, .int x1), (2, .int x2), (3, .int x3), (4, .int x4)] → W p l e { frames := 4, cells := 0, slots := 0, locals := 89 } s m args below meth c H locs 0 0 (MQ below (Qw D vwCl [(cI, .int), (cL, .long)] (none) A [(h, .inr (6, [.int res.1, .int res.2.1.2.2.2.2, .ref h_kind, .ref h_b, .ref h_difference, .ref h_a, .int res.2.2.1.2.2.2.2, .ref h_newKind, .ref h_newB, .ref h_newDifference, .ref h_newA, .int res.2.2.2.1.2, .ref h_log, .ref h_packed, .int res.2.2.2.2.1.2, .int res.2.2.2.2.2.1.1, .int res.2.2.2.2.2.1.2.1, .int res.2.2.2.2.2.1.2.2.1, .int res.2.2.2.2.2.1.2.2.2, .int res.2.2.2.2.2.2.1, .int res.2.2.2.2.2.2.2])), (h_kind, .inl (cI, 300, .inl res.2.1.1)), (h_b, .inl (cI, 300, .inl res.2.1.2.2.2.1)), (h_difference, .inl (cL, 300, .inr (.inl res.2.1.2.1))), (h_a, .inl (cL, 300, .inr (.inl res.2.1.2.2.1))), (h_newKind, .inl (cI, 300, .inl res.2.2.1.1)), (h_newB, .inl (cI, 300, .inl res.2.2.1.2.2.2.1)), (h_newDifference, .inl (cL, 300, .inr (.inl res.2.2.1.2.1))), (h_newA, .inl (cL, 300, .inr (.inl res.2.2.1.2.2.1))), (h_log, .inl (cI, 5000, .inl res.2.2.2.1.1)), (h_packed, .inl (cI, 5000, .inl res.2.2.2.2.1.1))]) args s 0 0 A) (F0 m 48 ls []) := by
  obtain ⟨hx, hb, hr, hml, hown, hts, hlk, hK, hA⟩ := id C
  intro st x1 x2 x3 x4 res hf H locs ls hH hl
  unfold f_Model_readEntry_b48 at hf
  refine lv_aload_n hx hb d_Model_readEntry_48 rfl (lv_at hl 0 rfl) ?_
  refine lv_iconst (v := 1) hx hb d_Model_readEntry_49 (by decide) ?_
  refine lv_iload_n hx hb d_Model_readEntry_50 rfl (lv_at hl 2 rfl) ?_
  obtain ⟨r51, hr51, hf⟩ := lb hf
  refine fnV (rest := []) (wr := []) (w2 := [(h, .inr (6, [.int r51.1, .int r51.2.1.2.2.2.2, .ref h_kind, .ref h_b, .ref h_difference, .ref h_a, .int r51.2.2.1.2.2.2.2, .ref h_newKind, .ref h_newB, .ref h_newDifference, .ref h_newA, .int r51.2.2.2.1.2, .ref h_log, .ref h_packed, .int r51.2.2.2.2.1.2, .int r51.2.2.2.2.2.1.1, .int r51.2.2.2.2.2.1.2.1, .int r51.2.2.2.2.2.1.2.2.1, .int r51.2.2.2.2.2.1.2.2.2, .int r51.2.2.2.2.2.2.1, .int r51.2.2.2.2.2.2.2])), (h_kind, .inl (cI, 300, .inl r51.2.1.1)), (h_b, .inl (cI, 300, .inl r51.2.1.2.2.2.1)), (h_difference, .inl (cL, 300, .inr (.inl r51.2.1.2.1))), (h_a, .inl (cL, 300, .inr (.inl r51.2.1.2.2.1))), (h_newKind, .inl (cI, 300, .inl r51.2.2.1.1)), (h_newB, .inl (cI, 300, .inl r51.2.2.1.2.2.2.1)), (h_newDifference, .inl (cL, 300, .inr (.inl r51.2.2.1.2.1))), (h_newA, .inl (cL, 300, .inr (.inl r51.2.2.1.2.2.1))), (h_log, .inl (cI, 5000, .inl r51.2.2.2.1.1)), (h_packed, .inl (cI, 5000, .inl r51.2.2.2.2.1.1))]) (st2 := []) C (c_Model_meet l D cI cL h h_kind h_b h_difference h_a h_newKind h_newB h_newDifference h_newA h_log h_packed st 1 x2 r51 hr51) (cV hts kV_Model_meet wd_747 ⟨Nat.le_of_ble_eq_true rfl, Nat.le_of_ble_eq_true rfl⟩) hH [0, 1, 2, 3, 4, 5, 6, 7, 8, 9, 10] [] [0, 1, 2, 3, 4, 5, 6, 7, 8, 9, 10] rfl rfl rfl rfl (by decide) rfl rfl 0 rfl rfl rfl hl.1 rfl (Nat.le_of_ble_eq_true rfl) d_Model_readEntry_51 ⟨Nat.le_of_ble_eq_true rfl, Nat.le_of_ble_eq_true rfl⟩ rfl (fun H locs hH => ?_)
  exact w_Model_readEntry_b54 l D cI cL h h_kind h_b h_difference h_a h_newKind h_newB h_newDifference h_newA h_log h_packed C r51 x1 x2 x3 x4 res hf _ _ _ hH (lv_sub hl [0, 1, 2, 3, 4] rfl)
def f_Model_readEntry_b38 (st : S_Model) (x1 : Int32) (x2 : Int32) (x3 : Int32) (x4 : Int32) : Option (S_Model) :=
  if x3 = (4 : Int32) then (if x4 ≤ 0 then (f_Model_readEntry_b54 st x1 x2 x3 x4) else (f_Model_readEntry_b48 st x1 x2 x3 x4)) else (f_Model_readEntry_b54 st x1 x2 x3 x4)
set_option maxRecDepth 100000 in
set_option maxHeartbeats 4000000 in
theorem w_Model_readEntry_b38 (l : Launch) (D : va_G) (cI cL : ClassId) (h h_kind h_b h_difference h_a h_newKind h_newB h_newDifference h_newA h_log h_packed : Nat) {p : Program} {e : Env} {s : State} {m : MethodId} {args : Array Value} {below : List Frame} {meth : Method} {c : Code} {A : Nat → Prop} (C : Cx p s m args meth c D vwCl [(cI, .int), (cL, .long)] A b_Model_readEntry 12 none ws_Model_readEntry y_Model_readEntry.cls) : ∀ (st : S_Model) (x1 : Int32) (x2 : Int32) (x3 : Int32) (x4 : Int32) (res : S_Model), f_Model_readEntry_b38 st x1 x2 x3 x4 = some res → ∀ (H : Heap) (locs : List Loc) (ls : Array Slot), Hp D vwCl A A s.heap H locs [(h, .inr (6, [.int st.1, .int st.2.1.2.2.2.2, .ref h_kind, .ref h_b, .ref h_difference, .ref h_a, .int st.2.2.1.2.2.2.2, .ref h_newKind, .ref h_newB, .ref h_newDifference, .ref h_newA, .int st.2.2.2.1.2, .ref h_log, .ref h_packed, .int st.2.2.2.2.1.2, .int st.2.2.2.2.2.1.1, .int st.2.2.2.2.2.1.2.1, .int st.2.2.2.2.2.1.2.2.1, .int st.2.2.2.2.2.1.2.2.2, .int st.2.2.2.2.2.2.1, .int st.2.2.2.2.2.2.2])), (h_kind, .inl (cI, 300, .inl st.2.1.1)), (h_b, .inl (cI, 300, .inl st.2.1.2.2.2.1)), (h_difference, .inl (cL, 300, .inr (.inl st.2.1.2.1))), (h_a, .inl (cL, 300, .inr (.inl st.2.1.2.2.1))), (h_newKind, .inl (cI, 300, .inl st.2.2.1.1)), (h_newB, .inl (cI, 300, .inl st.2.2.1.2.2.2.1)), (h_newDifference, .inl (cL, 300, .inr (.inl st.2.2.1.2.1))), (h_newA, .inl (cL, 300, .inr (.inl st.2.2.1.2.2.1))), (h_log, .inl (cI, 5000, .inl st.2.2.2.1.1)), (h_packed, .inl (cI, 5000, .inl st.2.2.2.2.1.1))] → lv_has ls 12 [(0, .ref h), (1, .int x1), (2, .int x2), (3, .int x3), (4, .int x4)] → W p l e { frames := 4, cells := 0, slots := 0, locals := 89 } s m args below meth c H locs 0 0 (MQ below (Qw D vwCl [(cI, .int), (cL, .long)] (none) A [(h, .inr (6, [.int res.1, .int res.2.1.2.2.2.2, .ref h_kind, .ref h_b, .ref h_difference, .ref h_a, .int res.2.2.1.2.2.2.2, .ref h_newKind, .ref h_newB, .ref h_newDifference, .ref h_newA, .int res.2.2.2.1.2, .ref h_log, .ref h_packed, .int res.2.2.2.2.1.2, .int res.2.2.2.2.2.1.1, .int res.2.2.2.2.2.1.2.1, .int res.2.2.2.2.2.1.2.2.1, .int res.2.2.2.2.2.1.2.2.2, .int res.2.2.2.2.2.2.1, .int res.2.2.2.2.2.2.2])), (h_kind, .inl (cI, 300, .inl res.2.1.1)), (h_b, .inl (cI, 300, .inl res.2.1.2.2.2.1)), (h_difference, .inl (cL, 300, .inr (.inl res.2.1.2.1))), (h_a, .inl (cL, 300, .inr (.inl res.2.1.2.2.1))), (h_newKind, .inl (cI, 300, .inl res.2.2.1.1)), (h_newB, .inl (cI, 300, .inl res.2.2.1.2.2.2.1)), (h_newDifference, .inl (cL, 300, .inr (.inl res.2.2.1.2.1))), (h_newA, .inl (cL, 300, .inr (.inl res.2.2.1.2.2.1))), (h_log, .inl (cI, 5000, .inl res.2.2.2.1.1)), (h_packed, .inl (cI, 5000, .inl res.2.2.2.2.1.1))]) args s 0 0 A) (F0 m 38 ls []) := by
  obtain ⟨hx, hb, hr, hml, hown, hts, hlk, hK, hA⟩ := id C
  intro st x1 x2 x3 x4 res hf H locs ls hH hl
  unfold f_Model_readEntry_b38 at hf
  refine lv_iload_n hx hb d_Model_readEntry_38 rfl (lv_at hl 3 rfl) ?_
  refine lv_iconst (v := 4) hx hb d_Model_readEntry_39 (by decide) ?_
  refine lv_icmp_ne (tgt := 54) hx hb d_Model_readEntry_40 (by decide) (fun hc40 => ?_) (fun hc40 => ?_)
  · have hf := im hc40 hf
    exact w_Model_readEntry_b54 l D cI cL h h_kind h_b h_difference h_a h_newKind h_newB h_newDifference h_newA h_log h_packed C st x1 x2 x3 x4 res hf _ _ _ hH (lv_sub hl [0, 1, 2, 3, 4] rfl)
  · have hf := ip hc40 hf
    refine lv_iload hx hb d_Model_readEntry_43 (lv_at hl 4 rfl) ?_
    refine lv_if_le (tgt := 54) hx hb d_Model_readEntry_45 (by decide) (fun hc45 => ?_) (fun hc45 => ?_)
    · have hf := ip hc45 hf
      exact w_Model_readEntry_b54 l D cI cL h h_kind h_b h_difference h_a h_newKind h_newB h_newDifference h_newA h_log h_packed C st x1 x2 x3 x4 res hf _ _ _ hH (lv_sub hl [0, 1, 2, 3, 4] rfl)
    · have hf := im hc45 hf
      exact w_Model_readEntry_b48 l D cI cL h h_kind h_b h_difference h_a h_newKind h_newB h_newDifference h_newA h_log h_packed C st x1 x2 x3 x4 res hf _ _ _ hH (lv_sub hl [0, 1, 2, 3, 4] rfl)
def f_Model_readEntry_b27 (st : S_Model) (x1 : Int32) (x2 : Int32) (x3 : Int32) (x4 : Int32) : Option (S_Model) :=
  if x3 = (3 : Int32) then (if (1 : Int32) < x4 then (f_Model_readEntry_b48 st x1 x2 x3 x4) else (f_Model_readEntry_b38 st x1 x2 x3 x4)) else (f_Model_readEntry_b38 st x1 x2 x3 x4)
set_option maxRecDepth 100000 in
set_option maxHeartbeats 4000000 in
theorem w_Model_readEntry_b27 (l : Launch) (D : va_G) (cI cL : ClassId) (h h_kind h_b h_difference h_a h_newKind h_newB h_newDifference h_newA h_log h_packed : Nat) {p : Program} {e : Env} {s : State} {m : MethodId} {args : Array Value} {below : List Frame} {meth : Method} {c : Code} {A : Nat → Prop} (C : Cx p s m args meth c D vwCl [(cI, .int), (cL, .long)] A b_Model_readEntry 12 none ws_Model_readEntry y_Model_readEntry.cls) : ∀ (st : S_Model) (x1 : Int32) (x2 : Int32) (x3 : Int32) (x4 : Int32) (res : S_Model), f_Model_readEntry_b27 st x1 x2 x3 x4 = some res → ∀ (H : Heap) (locs : List Loc) (ls : Array Slot), Hp D vwCl A A s.heap H locs [(h, .inr (6, [.int st.1, .int st.2.1.2.2.2.2, .ref h_kind, .ref h_b, .ref h_difference, .ref h_a, .int st.2.2.1.2.2.2.2, .ref h_newKind, .ref h_newB, .ref h_newDifference, .ref h_newA, .int st.2.2.2.1.2, .ref h_log, .ref h_packed, .int st.2.2.2.2.1.2, .int st.2.2.2.2.2.1.1, .int st.2.2.2.2.2.1.2.1, .int st.2.2.2.2.2.1.2.2.1, .int st.2.2.2.2.2.1.2.2.2, .int st.2.2.2.2.2.2.1, .int st.2.2.2.2.2.2.2])), (h_kind, .inl (cI, 300, .inl st.2.1.1)), (h_b, .inl (cI, 300, .inl st.2.1.2.2.2.1)), (h_difference, .inl (cL, 300, .inr (.inl st.2.1.2.1))), (h_a, .inl (cL, 300, .inr (.inl st.2.1.2.2.1))), (h_newKind, .inl (cI, 300, .inl st.2.2.1.1)), (h_newB, .inl (cI, 300, .inl st.2.2.1.2.2.2.1)), (h_newDifference, .inl (cL, 300, .inr (.inl st.2.2.1.2.1))), (h_newA, .inl (cL, 300, .inr (.inl st.2.2.1.2.2.1))), (h_log, .inl (cI, 5000, .inl st.2.2.2.1.1)), (h_packed, .inl (cI, 5000, .inl st.2.2.2.2.1.1))] → lv_has ls 12 [(0, .ref h), (1, .int x1), (2, .int x2), (3, .int x3), (4, .int x4)] → W p l e { frames := 4, cells := 0, slots := 0, locals := 89 } s m args below meth c H locs 0 0 (MQ below (Qw D vwCl [(cI, .int), (cL, .long)] (none) A [(h, .inr (6, [.int res.1, .int res.2.1.2.2.2.2, .ref h_kind, .ref h_b, .ref h_difference, .ref h_a, .int res.2.2.1.2.2.2.2, .ref h_newKind, .ref h_newB, .ref h_newDifference, .ref h_newA, .int res.2.2.2.1.2, .ref h_log, .ref h_packed, .int res.2.2.2.2.1.2, .int res.2.2.2.2.2.1.1, .int res.2.2.2.2.2.1.2.1, .int res.2.2.2.2.2.1.2.2.1, .int res.2.2.2.2.2.1.2.2.2, .int res.2.2.2.2.2.2.1, .int res.2.2.2.2.2.2.2])), (h_kind, .inl (cI, 300, .inl res.2.1.1)), (h_b, .inl (cI, 300, .inl res.2.1.2.2.2.1)), (h_difference, .inl (cL, 300, .inr (.inl res.2.1.2.1))), (h_a, .inl (cL, 300, .inr (.inl res.2.1.2.2.1))), (h_newKind, .inl (cI, 300, .inl res.2.2.1.1)), (h_newB, .inl (cI, 300, .inl res.2.2.1.2.2.2.1)), (h_newDifference, .inl (cL, 300, .inr (.inl res.2.2.1.2.1))), (h_newA, .inl (cL, 300, .inr (.inl res.2.2.1.2.2.1))), (h_log, .inl (cI, 5000, .inl res.2.2.2.1.1)), (h_packed, .inl (cI, 5000, .inl res.2.2.2.2.1.1))]) args s 0 0 A) (F0 m 27 ls []) := by
  obtain ⟨hx, hb, hr, hml, hown, hts, hlk, hK, hA⟩ := id C
  intro st x1 x2 x3 x4 res hf H locs ls hH hl
  unfold f_Model_readEntry_b27 at hf
  refine lv_iload_n hx hb d_Model_readEntry_27 rfl (lv_at hl 3 rfl) ?_
  refine lv_iconst (v := 3) hx hb d_Model_readEntry_28 (by decide) ?_
  refine lv_icmp_ne (tgt := 38) hx hb d_Model_readEntry_29 (by decide) (fun hc29 => ?_) (fun hc29 => ?_)
  · have hf := im hc29 hf
    exact w_Model_readEntry_b38 l D cI cL h h_kind h_b h_difference h_a h_newKind h_newB h_newDifference h_newA h_log h_packed C st x1 x2 x3 x4 res hf _ _ _ hH (lv_sub hl [0, 1, 2, 3, 4] rfl)
  · have hf := ip hc29 hf
    refine lv_iload hx hb d_Model_readEntry_32 (lv_at hl 4 rfl) ?_
    refine lv_iconst (v := 1) hx hb d_Model_readEntry_34 (by decide) ?_
    refine lv_icmp_gt (tgt := 48) hx hb d_Model_readEntry_35 (by decide) (fun hc35 => ?_) (fun hc35 => ?_)
    · have hf := ip hc35 hf
      exact w_Model_readEntry_b48 l D cI cL h h_kind h_b h_difference h_a h_newKind h_newB h_newDifference h_newA h_log h_packed C st x1 x2 x3 x4 res hf _ _ _ hH (lv_sub hl [0, 1, 2, 3, 4] rfl)
    · have hf := im hc35 hf
      exact w_Model_readEntry_b38 l D cI cL h h_kind h_b h_difference h_a h_newKind h_newB h_newDifference h_newA h_log h_packed C st x1 x2 x3 x4 res hf _ _ _ hH (lv_sub hl [0, 1, 2, 3, 4] rfl)
def f_Model_readEntry (st : S_Model) (x1 : Int32) (x2 : Int32) : Option (S_Model) :=
  if (5 : Int32) < (x1 &&& 7) then (f_Model_readEntry_b48 st x1 x2 (x1 &&& 7) (x1 >>> (4 &&& 31))) else (if (x1 &&& 7) = (1 : Int32) then (if (8 : Int32) < (x1 >>> (4 &&& 31)) then (f_Model_readEntry_b48 st x1 x2 (x1 &&& 7) (x1 >>> (4 &&& 31))) else (f_Model_readEntry_b27 st x1 x2 (x1 &&& 7) (x1 >>> (4 &&& 31)))) else (f_Model_readEntry_b27 st x1 x2 (x1 &&& 7) (x1 >>> (4 &&& 31))))
set_option maxRecDepth 100000 in
set_option maxHeartbeats 4000000 in
theorem c_Model_readEntry (l : Launch) (D : va_G) (cI cL : ClassId) (h h_kind h_b h_difference h_a h_newKind h_newB h_newDifference h_newA h_log h_packed : Nat) (st : S_Model) (x1 : Int32) (x2 : Int32) (res : S_Model) (hf : f_Model_readEntry st x1 x2 = some res) :
    Fn l D vwCl [(cI, .int), (cL, .long)] y_Model_readEntry ws_Model_readEntry { frames := 4, cells := 0, slots := 0, locals := 89 } [.ref h, .int x1, .int x2] [(h, .inr (6, [.int st.1, .int st.2.1.2.2.2.2, .ref h_kind, .ref h_b, .ref h_difference, .ref h_a, .int st.2.2.1.2.2.2.2, .ref h_newKind, .ref h_newB, .ref h_newDifference, .ref h_newA, .int st.2.2.2.1.2, .ref h_log, .ref h_packed, .int st.2.2.2.2.1.2, .int st.2.2.2.2.2.1.1, .int st.2.2.2.2.2.1.2.1, .int st.2.2.2.2.2.1.2.2.1, .int st.2.2.2.2.2.1.2.2.2, .int st.2.2.2.2.2.2.1, .int st.2.2.2.2.2.2.2])), (h_kind, .inl (cI, 300, .inl st.2.1.1)), (h_b, .inl (cI, 300, .inl st.2.1.2.2.2.1)), (h_difference, .inl (cL, 300, .inr (.inl st.2.1.2.1))), (h_a, .inl (cL, 300, .inr (.inl st.2.1.2.2.1))), (h_newKind, .inl (cI, 300, .inl st.2.2.1.1)), (h_newB, .inl (cI, 300, .inl st.2.2.1.2.2.2.1)), (h_newDifference, .inl (cL, 300, .inr (.inl st.2.2.1.2.1))), (h_newA, .inl (cL, 300, .inr (.inl st.2.2.1.2.2.1))), (h_log, .inl (cI, 5000, .inl st.2.2.2.1.1)), (h_packed, .inl (cI, 5000, .inl st.2.2.2.2.1.1))] (none) [(h, .inr (6, [.int res.1, .int res.2.1.2.2.2.2, .ref h_kind, .ref h_b, .ref h_difference, .ref h_a, .int res.2.2.1.2.2.2.2, .ref h_newKind, .ref h_newB, .ref h_newDifference, .ref h_newA, .int res.2.2.2.1.2, .ref h_log, .ref h_packed, .int res.2.2.2.2.1.2, .int res.2.2.2.2.2.1.1, .int res.2.2.2.2.2.1.2.1, .int res.2.2.2.2.2.1.2.2.1, .int res.2.2.2.2.2.1.2.2.2, .int res.2.2.2.2.2.2.1, .int res.2.2.2.2.2.2.2])), (h_kind, .inl (cI, 300, .inl res.2.1.1)), (h_b, .inl (cI, 300, .inl res.2.1.2.2.2.1)), (h_difference, .inl (cL, 300, .inr (.inl res.2.1.2.1))), (h_a, .inl (cL, 300, .inr (.inl res.2.1.2.2.1))), (h_newKind, .inl (cI, 300, .inl res.2.2.1.1)), (h_newB, .inl (cI, 300, .inl res.2.2.1.2.2.2.1)), (h_newDifference, .inl (cL, 300, .inr (.inl res.2.2.1.2.1))), (h_newA, .inl (cL, 300, .inr (.inl res.2.2.1.2.2.1))), (h_log, .inl (cI, 5000, .inl res.2.2.2.1.1)), (h_packed, .inl (cI, 5000, .inl res.2.2.2.2.1.1))] := by
  refine Fn.ofW (cc := b_Model_readEntry) (maxL := 12) (ret := none) (by decide) rfl (Nat.le_of_ble_eq_true rfl) ?_
  intro p e s m below meth c A ls C hH hinit hl
  have hl : lv_has ls 12 [(0, .ref h), (1, .int x1), (2, .int x2)] := hl
  obtain ⟨hx, hb, hr, hml, hown, hts, hlk, hK, hA⟩ := id C
  unfold f_Model_readEntry at hf
  refine lv_iload_n hx hb d_Model_readEntry_0 rfl (lv_at hl 1 rfl) ?_
  refine lv_bipush (v := 7) hx hb d_Model_readEntry_1 (by decide) ?_
  refine lv_iand hx hb d_Model_readEntry_3 ?_
  refine lv_istore_n (lv' := [(3, .int (x1 &&& 7)), (0, .ref h), (1, .int x1), (2, .int x2)]) hx hb d_Model_readEntry_4 rfl hl (by decide) rfl (fun ls hl => ?_)
  refine lv_iload_n hx hb d_Model_readEntry_5 rfl (lv_at hl 2 rfl) ?_
  refine lv_iconst (v := 4) hx hb d_Model_readEntry_6 (by decide) ?_
  refine lv_ishr hx hb d_Model_readEntry_7 ?_
  refine lv_istore (lv' := [(4, .int (x1 >>> (4 &&& 31))), (3, .int (x1 &&& 7)), (0, .ref h), (1, .int x1), (2, .int x2)]) hx hb d_Model_readEntry_8 hl (by decide) rfl (fun ls hl => ?_)
  refine lv_iload_n hx hb d_Model_readEntry_10 rfl (lv_at hl 1 rfl) ?_
  refine lv_iconst (v := 5) hx hb d_Model_readEntry_11 (by decide) ?_
  refine lv_icmp_gt (tgt := 48) hx hb d_Model_readEntry_12 (by decide) (fun hc12 => ?_) (fun hc12 => ?_)
  · have hf := ip hc12 hf
    exact w_Model_readEntry_b48 l D cI cL h h_kind h_b h_difference h_a h_newKind h_newB h_newDifference h_newA h_log h_packed C st x1 x2 (x1 &&& 7) (x1 >>> (4 &&& 31)) res hf _ _ _ hH (lv_sub hl [2, 3, 4, 1, 0] rfl)
  · have hf := im hc12 hf
    refine lv_iload_n hx hb d_Model_readEntry_15 rfl (lv_at hl 1 rfl) ?_
    refine lv_iconst (v := 1) hx hb d_Model_readEntry_16 (by decide) ?_
    refine lv_icmp_ne (tgt := 27) hx hb d_Model_readEntry_17 (by decide) (fun hc17 => ?_) (fun hc17 => ?_)
    · have hf := im hc17 hf
      exact w_Model_readEntry_b27 l D cI cL h h_kind h_b h_difference h_a h_newKind h_newB h_newDifference h_newA h_log h_packed C st x1 x2 (x1 &&& 7) (x1 >>> (4 &&& 31)) res hf _ _ _ hH (lv_sub hl [2, 3, 4, 1, 0] rfl)
    · have hf := ip hc17 hf
      refine lv_iload hx hb d_Model_readEntry_20 (lv_at hl 0 rfl) ?_
      refine lv_bipush (v := 8) hx hb d_Model_readEntry_22 (by decide) ?_
      refine lv_icmp_gt (tgt := 48) hx hb d_Model_readEntry_24 (by decide) (fun hc24 => ?_) (fun hc24 => ?_)
      · have hf := ip hc24 hf
        exact w_Model_readEntry_b48 l D cI cL h h_kind h_b h_difference h_a h_newKind h_newB h_newDifference h_newA h_log h_packed C st x1 x2 (x1 &&& 7) (x1 >>> (4 &&& 31)) res hf _ _ _ hH (lv_sub hl [2, 3, 4, 1, 0] rfl)
      · have hf := im hc24 hf
        exact w_Model_readEntry_b27 l D cI cL h h_kind h_b h_difference h_a h_newKind h_newB h_newDifference h_newA h_log h_packed C st x1 x2 (x1 &&& 7) (x1 >>> (4 &&& 31)) res hf _ _ _ hH (lv_sub hl [2, 3, 4, 1, 0] rfl)
def f_Model_read_b161 : Nat → S_Model → Int32 → Option (Int32 × S_Model)
  | 0, _, _ => none
  | n + 1, st, x3 =>
  if st.2.1.2.2.2.2 ≤ x3 then (some ((st.2.1.2.2.2.2, st))) else (if x3 < 0 ∨ 300 ≤ x3.toNatClampNeg then none else if x3 < 0 ∨ 300 ≤ x3.toNatClampNeg then none else if x3 < 0 ∨ 300 ≤ x3.toNatClampNeg then none else if x3 < 0 ∨ 300 ≤ x3.toNatClampNeg then none else if x3 < 0 ∨ 300 ≤ x3.toNatClampNeg then none else if x3 < 0 ∨ 300 ≤ x3.toNatClampNeg then none else if x3 < 0 ∨ 300 ≤ x3.toNatClampNeg then none else if x3 < 0 ∨ 300 ≤ x3.toNatClampNeg then none else f_Model_read_b161 n ((st.1, (upd st.2.1.1 x3.toNatClampNeg (st.2.2.1.1 x3.toNatClampNeg), vp_updL st.2.1.2.1 x3.toNatClampNeg (st.2.2.1.2.1 x3.toNatClampNeg), vp_updL st.2.1.2.2.1 x3.toNatClampNeg (st.2.2.1.2.2.1 x3.toNatClampNeg), upd st.2.1.2.2.2.1 x3.toNatClampNeg (st.2.2.1.2.2.2.1 x3.toNatClampNeg), st.2.1.2.2.2.2), st.2.2.1, st.2.2.2.1, st.2.2.2.2.1, st.2.2.2.2.2.1, st.2.2.2.2.2.2.1, st.2.2.2.2.2.2.2)) (x3 + 1))
set_option maxRecDepth 100000 in
set_option maxHeartbeats 4000000 in
theorem w_Model_read_b161 (l : Launch) (D : va_G) (cI cL : ClassId) (h h_kind h_b h_difference h_a h_newKind h_newB h_newDifference h_newA h_log h_packed : Nat) {p : Program} {e : Env} {s : State} {m : MethodId} {args : Array Value} {below : List Frame} {meth : Method} {c : Code} {A : Nat → Prop} (C : Cx p s m args meth c D vwCl [(cI, .int), (cL, .long)] A b_Model_read 5 (some .int) ws_Model_read y_Model_read.cls) : ∀ (n : Nat) (st : S_Model) (x3 : Int32) (res : Int32 × S_Model), f_Model_read_b161 n st x3 = some res → ∀ (H : Heap) (locs : List Loc) (ls : Array Slot), Hp D vwCl A A s.heap H locs [(h, .inr (6, [.int st.1, .int st.2.1.2.2.2.2, .ref h_kind, .ref h_b, .ref h_difference, .ref h_a, .int st.2.2.1.2.2.2.2, .ref h_newKind, .ref h_newB, .ref h_newDifference, .ref h_newA, .int st.2.2.2.1.2, .ref h_log, .ref h_packed, .int st.2.2.2.2.1.2, .int st.2.2.2.2.2.1.1, .int st.2.2.2.2.2.1.2.1, .int st.2.2.2.2.2.1.2.2.1, .int st.2.2.2.2.2.1.2.2.2, .int st.2.2.2.2.2.2.1, .int st.2.2.2.2.2.2.2])), (h_kind, .inl (cI, 300, .inl st.2.1.1)), (h_b, .inl (cI, 300, .inl st.2.1.2.2.2.1)), (h_difference, .inl (cL, 300, .inr (.inl st.2.1.2.1))), (h_a, .inl (cL, 300, .inr (.inl st.2.1.2.2.1))), (h_newKind, .inl (cI, 300, .inl st.2.2.1.1)), (h_newB, .inl (cI, 300, .inl st.2.2.1.2.2.2.1)), (h_newDifference, .inl (cL, 300, .inr (.inl st.2.2.1.2.1))), (h_newA, .inl (cL, 300, .inr (.inl st.2.2.1.2.2.1))), (h_log, .inl (cI, 5000, .inl st.2.2.2.1.1)), (h_packed, .inl (cI, 5000, .inl st.2.2.2.2.1.1))] → lv_has ls 5 [(0, .ref h), (3, .int x3)] → W p l e { frames := 5, cells := 0, slots := 0, locals := 120 } s m args below meth c H locs 0 0 (MQ below (Qw D vwCl [(cI, .int), (cL, .long)] (some (.int res.1)) A [(h, .inr (6, [.int res.2.1, .int res.2.2.1.2.2.2.2, .ref h_kind, .ref h_b, .ref h_difference, .ref h_a, .int res.2.2.2.1.2.2.2.2, .ref h_newKind, .ref h_newB, .ref h_newDifference, .ref h_newA, .int res.2.2.2.2.1.2, .ref h_log, .ref h_packed, .int res.2.2.2.2.2.1.2, .int res.2.2.2.2.2.2.1.1, .int res.2.2.2.2.2.2.1.2.1, .int res.2.2.2.2.2.2.1.2.2.1, .int res.2.2.2.2.2.2.1.2.2.2, .int res.2.2.2.2.2.2.2.1, .int res.2.2.2.2.2.2.2.2])), (h_kind, .inl (cI, 300, .inl res.2.2.1.1)), (h_b, .inl (cI, 300, .inl res.2.2.1.2.2.2.1)), (h_difference, .inl (cL, 300, .inr (.inl res.2.2.1.2.1))), (h_a, .inl (cL, 300, .inr (.inl res.2.2.1.2.2.1))), (h_newKind, .inl (cI, 300, .inl res.2.2.2.1.1)), (h_newB, .inl (cI, 300, .inl res.2.2.2.1.2.2.2.1)), (h_newDifference, .inl (cL, 300, .inr (.inl res.2.2.2.1.2.1))), (h_newA, .inl (cL, 300, .inr (.inl res.2.2.2.1.2.2.1))), (h_log, .inl (cI, 5000, .inl res.2.2.2.2.1.1)), (h_packed, .inl (cI, 5000, .inl res.2.2.2.2.2.1.1))]) args s 0 0 A) (F0 m 161 ls []) := by
  obtain ⟨hx, hb, hr, hml, hown, hts, hlk, hK, hA⟩ := id C
  intro n
  induction n with
  | zero => intro st x3 res hf; cases hf
  | succ n ih =>
    intro st x3 res hf H locs ls hH hl
    rw [f_Model_read_b161] at hf
    refine lv_iload_n hx hb d_Model_read_161 rfl (lv_at hl 1 rfl) ?_
    refine lv_aload_n hx hb d_Model_read_162 rfl (lv_at hl 0 rfl) ?_
    refine gt (ci := 6) (v := .int st.2.1.2.2.2.2) C hH (iwT iw_Model) 0 rfl rfl 1 (by decide) (.tail _ wd_597) rfl d_Model_read_163 ?_
    refine lv_icmp_ge (tgt := 223) hx hb d_Model_read_166 (by decide) (fun hc166 => ?_) (fun hc166 => ?_)
    · have hf := ip hc166 hf
      refine lv_aload_n hx hb d_Model_read_223 rfl (lv_at hl 0 rfl) ?_
      refine gt (ci := 6) (v := .int st.2.1.2.2.2.2) C hH (iwT iw_Model) 0 rfl rfl 1 (by decide) (.tail _ wd_597) rfl d_Model_read_224 ?_
      have hf := Option.some.inj hf
      subst hf
      exact rI (v := st.2.1.2.2.2.2) C hH d_Model_read_227
    · have hf := im hc166 hf
      refine lv_aload_n hx hb d_Model_read_169 rfl (lv_at hl 0 rfl) ?_
      refine gt (ci := 6) (v := .ref h_kind) C hH (iwT iw_Model) 0 rfl rfl 2 (by decide) (.tail _ wd_598) rfl d_Model_read_170 ?_
      refine lv_iload_n hx hb d_Model_read_173 rfl (lv_at hl 1 rfl) ?_
      refine lv_aload_n hx hb d_Model_read_174 rfl (lv_at hl 0 rfl) ?_
      refine gt (ci := 6) (v := .ref h_newKind) C hH (iwT iw_Model) 0 rfl rfl 7 (by decide) (.tail _ wd_603) rfl d_Model_read_175 ?_
      refine lv_iload_n hx hb d_Model_read_178 rfl (lv_at hl 1 rfl) ?_
      obtain ⟨hin179, hf⟩ := oa hf
      refine ali C hH 5 0 rfl rfl (hin179) d_Model_read_179 ?_
      obtain ⟨hin180, hf⟩ := oa hf
      refine asi C hH 1 0 rfl rfl (hin180) d_Model_read_180 [(h, .inr (6, [.int st.1, .int st.2.1.2.2.2.2, .ref h_kind, .ref h_b, .ref h_difference, .ref h_a, .int st.2.2.1.2.2.2.2, .ref h_newKind, .ref h_newB, .ref h_newDifference, .ref h_newA, .int st.2.2.2.1.2, .ref h_log, .ref h_packed, .int st.2.2.2.2.1.2, .int st.2.2.2.2.2.1.1, .int st.2.2.2.2.2.1.2.1, .int st.2.2.2.2.2.1.2.2.1, .int st.2.2.2.2.2.1.2.2.2, .int st.2.2.2.2.2.2.1, .int st.2.2.2.2.2.2.2])), (h_kind, .inl (cI, 300, .inl (upd st.2.1.1 x3.toNatClampNeg (st.2.2.1.1 x3.toNatClampNeg)))), (h_b, .inl (cI, 300, .inl st.2.1.2.2.2.1)), (h_difference, .inl (cL, 300, .inr (.inl st.2.1.2.1))), (h_a, .inl (cL, 300, .inr (.inl st.2.1.2.2.1))), (h_newKind, .inl (cI, 300, .inl st.2.2.1.1)), (h_newB, .inl (cI, 300, .inl st.2.2.1.2.2.2.1)), (h_newDifference, .inl (cL, 300, .inr (.inl st.2.2.1.2.1))), (h_newA, .inl (cL, 300, .inr (.inl st.2.2.1.2.2.1))), (h_log, .inl (cI, 5000, .inl st.2.2.2.1.1)), (h_packed, .inl (cI, 5000, .inl st.2.2.2.2.1.1))] rfl (fun H locs hH => ?_)
      refine lv_aload_n hx hb d_Model_read_181 rfl (lv_at hl 0 rfl) ?_
      refine gt (ci := 6) (v := .ref h_difference) C hH (iwT iw_Model) 0 rfl rfl 4 (by decide) (.tail _ wd_600) rfl d_Model_read_182 ?_
      refine lv_iload_n hx hb d_Model_read_185 rfl (lv_at hl 1 rfl) ?_
      refine lv_aload_n hx hb d_Model_read_186 rfl (lv_at hl 0 rfl) ?_
      refine gt (ci := 6) (v := .ref h_newDifference) C hH (iwT iw_Model) 0 rfl rfl 9 (by decide) (.tail _ wd_605) rfl d_Model_read_187 ?_
      refine lv_iload_n hx hb d_Model_read_190 rfl (lv_at hl 1 rfl) ?_
      obtain ⟨hin191, hf⟩ := oa hf
      refine all_ C hH 7 1 rfl rfl (hin191) d_Model_read_191 ?_
      obtain ⟨hin192, hf⟩ := oa hf
      refine asl C hH 3 1 rfl rfl (hin192) d_Model_read_192 [(h, .inr (6, [.int st.1, .int st.2.1.2.2.2.2, .ref h_kind, .ref h_b, .ref h_difference, .ref h_a, .int st.2.2.1.2.2.2.2, .ref h_newKind, .ref h_newB, .ref h_newDifference, .ref h_newA, .int st.2.2.2.1.2, .ref h_log, .ref h_packed, .int st.2.2.2.2.1.2, .int st.2.2.2.2.2.1.1, .int st.2.2.2.2.2.1.2.1, .int st.2.2.2.2.2.1.2.2.1, .int st.2.2.2.2.2.1.2.2.2, .int st.2.2.2.2.2.2.1, .int st.2.2.2.2.2.2.2])), (h_kind, .inl (cI, 300, .inl (upd st.2.1.1 x3.toNatClampNeg (st.2.2.1.1 x3.toNatClampNeg)))), (h_b, .inl (cI, 300, .inl st.2.1.2.2.2.1)), (h_difference, .inl (cL, 300, .inr (.inl (vp_updL st.2.1.2.1 x3.toNatClampNeg (st.2.2.1.2.1 x3.toNatClampNeg))))), (h_a, .inl (cL, 300, .inr (.inl st.2.1.2.2.1))), (h_newKind, .inl (cI, 300, .inl st.2.2.1.1)), (h_newB, .inl (cI, 300, .inl st.2.2.1.2.2.2.1)), (h_newDifference, .inl (cL, 300, .inr (.inl st.2.2.1.2.1))), (h_newA, .inl (cL, 300, .inr (.inl st.2.2.1.2.2.1))), (h_log, .inl (cI, 5000, .inl st.2.2.2.1.1)), (h_packed, .inl (cI, 5000, .inl st.2.2.2.2.1.1))] rfl (fun H locs hH => ?_)
      refine lv_aload_n hx hb d_Model_read_193 rfl (lv_at hl 0 rfl) ?_
      refine gt (ci := 6) (v := .ref h_a) C hH (iwT iw_Model) 0 rfl rfl 5 (by decide) (.tail _ wd_601) rfl d_Model_read_194 ?_
      refine lv_iload_n hx hb d_Model_read_197 rfl (lv_at hl 1 rfl) ?_
      refine lv_aload_n hx hb d_Model_read_198 rfl (lv_at hl 0 rfl) ?_
      refine gt (ci := 6) (v := .ref h_newA) C hH (iwT iw_Model) 0 rfl rfl 10 (by decide) (.tail _ wd_606) rfl d_Model_read_199 ?_
      refine lv_iload_n hx hb d_Model_read_202 rfl (lv_at hl 1 rfl) ?_
      obtain ⟨hin203, hf⟩ := oa hf
      refine all_ C hH 8 1 rfl rfl (hin203) d_Model_read_203 ?_
      obtain ⟨hin204, hf⟩ := oa hf
      refine asl C hH 4 1 rfl rfl (hin204) d_Model_read_204 [(h, .inr (6, [.int st.1, .int st.2.1.2.2.2.2, .ref h_kind, .ref h_b, .ref h_difference, .ref h_a, .int st.2.2.1.2.2.2.2, .ref h_newKind, .ref h_newB, .ref h_newDifference, .ref h_newA, .int st.2.2.2.1.2, .ref h_log, .ref h_packed, .int st.2.2.2.2.1.2, .int st.2.2.2.2.2.1.1, .int st.2.2.2.2.2.1.2.1, .int st.2.2.2.2.2.1.2.2.1, .int st.2.2.2.2.2.1.2.2.2, .int st.2.2.2.2.2.2.1, .int st.2.2.2.2.2.2.2])), (h_kind, .inl (cI, 300, .inl (upd st.2.1.1 x3.toNatClampNeg (st.2.2.1.1 x3.toNatClampNeg)))), (h_b, .inl (cI, 300, .inl st.2.1.2.2.2.1)), (h_difference, .inl (cL, 300, .inr (.inl (vp_updL st.2.1.2.1 x3.toNatClampNeg (st.2.2.1.2.1 x3.toNatClampNeg))))), (h_a, .inl (cL, 300, .inr (.inl (vp_updL st.2.1.2.2.1 x3.toNatClampNeg (st.2.2.1.2.2.1 x3.toNatClampNeg))))), (h_newKind, .inl (cI, 300, .inl st.2.2.1.1)), (h_newB, .inl (cI, 300, .inl st.2.2.1.2.2.2.1)), (h_newDifference, .inl (cL, 300, .inr (.inl st.2.2.1.2.1))), (h_newA, .inl (cL, 300, .inr (.inl st.2.2.1.2.2.1))), (h_log, .inl (cI, 5000, .inl st.2.2.2.1.1)), (h_packed, .inl (cI, 5000, .inl st.2.2.2.2.1.1))] rfl (fun H locs hH => ?_)
      refine lv_aload_n hx hb d_Model_read_205 rfl (lv_at hl 0 rfl) ?_
      refine gt (ci := 6) (v := .ref h_b) C hH (iwT iw_Model) 0 rfl rfl 3 (by decide) (.tail _ wd_599) rfl d_Model_read_206 ?_
      refine lv_iload_n hx hb d_Model_read_209 rfl (lv_at hl 1 rfl) ?_
      refine lv_aload_n hx hb d_Model_read_210 rfl (lv_at hl 0 rfl) ?_
      refine gt (ci := 6) (v := .ref h_newB) C hH (iwT iw_Model) 0 rfl rfl 8 (by decide) (.tail _ wd_604) rfl d_Model_read_211 ?_
      refine lv_iload_n hx hb d_Model_read_214 rfl (lv_at hl 1 rfl) ?_
      obtain ⟨hin215, hf⟩ := oa hf
      refine ali C hH 6 0 rfl rfl (hin215) d_Model_read_215 ?_
      obtain ⟨hin216, hf⟩ := oa hf
      refine asi C hH 2 0 rfl rfl (hin216) d_Model_read_216 [(h, .inr (6, [.int st.1, .int st.2.1.2.2.2.2, .ref h_kind, .ref h_b, .ref h_difference, .ref h_a, .int st.2.2.1.2.2.2.2, .ref h_newKind, .ref h_newB, .ref h_newDifference, .ref h_newA, .int st.2.2.2.1.2, .ref h_log, .ref h_packed, .int st.2.2.2.2.1.2, .int st.2.2.2.2.2.1.1, .int st.2.2.2.2.2.1.2.1, .int st.2.2.2.2.2.1.2.2.1, .int st.2.2.2.2.2.1.2.2.2, .int st.2.2.2.2.2.2.1, .int st.2.2.2.2.2.2.2])), (h_kind, .inl (cI, 300, .inl (upd st.2.1.1 x3.toNatClampNeg (st.2.2.1.1 x3.toNatClampNeg)))), (h_b, .inl (cI, 300, .inl (upd st.2.1.2.2.2.1 x3.toNatClampNeg (st.2.2.1.2.2.2.1 x3.toNatClampNeg)))), (h_difference, .inl (cL, 300, .inr (.inl (vp_updL st.2.1.2.1 x3.toNatClampNeg (st.2.2.1.2.1 x3.toNatClampNeg))))), (h_a, .inl (cL, 300, .inr (.inl (vp_updL st.2.1.2.2.1 x3.toNatClampNeg (st.2.2.1.2.2.1 x3.toNatClampNeg))))), (h_newKind, .inl (cI, 300, .inl st.2.2.1.1)), (h_newB, .inl (cI, 300, .inl st.2.2.1.2.2.2.1)), (h_newDifference, .inl (cL, 300, .inr (.inl st.2.2.1.2.1))), (h_newA, .inl (cL, 300, .inr (.inl st.2.2.1.2.2.1))), (h_log, .inl (cI, 5000, .inl st.2.2.2.1.1)), (h_packed, .inl (cI, 5000, .inl st.2.2.2.2.1.1))] rfl (fun H locs hH => ?_)
      refine lv_iinc (v := x3 + 1) (lv' := [(3, .int (x3 + 1)), (0, .ref h)]) hx hb d_Model_read_217 hl (k := 1) rfl rfl (by decide) rfl (fun ls hl => ?_)
      refine lv_goto (tgt := 161) hx hb d_Model_read_220 (by decide) ?_
      exact ih ((st.1, (upd st.2.1.1 x3.toNatClampNeg (st.2.2.1.1 x3.toNatClampNeg), vp_updL st.2.1.2.1 x3.toNatClampNeg (st.2.2.1.2.1 x3.toNatClampNeg), vp_updL st.2.1.2.2.1 x3.toNatClampNeg (st.2.2.1.2.2.1 x3.toNatClampNeg), upd st.2.1.2.2.2.1 x3.toNatClampNeg (st.2.2.1.2.2.2.1 x3.toNatClampNeg), st.2.1.2.2.2.2), st.2.2.1, st.2.2.2.1, st.2.2.2.2.1, st.2.2.2.2.2.1, st.2.2.2.2.2.2.1, st.2.2.2.2.2.2.2)) (x3 + 1) res hf _ _ _ hH (lv_sub hl [1, 0] rfl)
def f_Model_read_b137 (st : S_Model)  : Option (Int32 × S_Model) :=
  if st.2.2.2.2.2.2.2 ≤ 0 then (f_Model_read_b161 400 ((st.1, (st.2.1.1, st.2.1.2.1, st.2.1.2.2.1, st.2.1.2.2.2.1, st.2.2.1.2.2.2.2), st.2.2.1, st.2.2.2.1, st.2.2.2.2.1, st.2.2.2.2.2.1, st.2.2.2.2.2.2.1, st.2.2.2.2.2.2.2)) 0) else (some ((((-1) : Int32) - st.2.2.2.2.2.2.2, st)))
set_option maxRecDepth 100000 in
set_option maxHeartbeats 4000000 in
theorem w_Model_read_b137 (l : Launch) (D : va_G) (cI cL : ClassId) (h h_kind h_b h_difference h_a h_newKind h_newB h_newDifference h_newA h_log h_packed : Nat) {p : Program} {e : Env} {s : State} {m : MethodId} {args : Array Value} {below : List Frame} {meth : Method} {c : Code} {A : Nat → Prop} (C : Cx p s m args meth c D vwCl [(cI, .int), (cL, .long)] A b_Model_read 5 (some .int) ws_Model_read y_Model_read.cls) : ∀ (st : S_Model)  (res : Int32 × S_Model), f_Model_read_b137 st = some res → ∀ (H : Heap) (locs : List Loc) (ls : Array Slot), Hp D vwCl A A s.heap H locs [(h, .inr (6, [.int st.1, .int st.2.1.2.2.2.2, .ref h_kind, .ref h_b, .ref h_difference, .ref h_a, .int st.2.2.1.2.2.2.2, .ref h_newKind, .ref h_newB, .ref h_newDifference, .ref h_newA, .int st.2.2.2.1.2, .ref h_log, .ref h_packed, .int st.2.2.2.2.1.2, .int st.2.2.2.2.2.1.1, .int st.2.2.2.2.2.1.2.1, .int st.2.2.2.2.2.1.2.2.1, .int st.2.2.2.2.2.1.2.2.2, .int st.2.2.2.2.2.2.1, .int st.2.2.2.2.2.2.2])), (h_kind, .inl (cI, 300, .inl st.2.1.1)), (h_b, .inl (cI, 300, .inl st.2.1.2.2.2.1)), (h_difference, .inl (cL, 300, .inr (.inl st.2.1.2.1))), (h_a, .inl (cL, 300, .inr (.inl st.2.1.2.2.1))), (h_newKind, .inl (cI, 300, .inl st.2.2.1.1)), (h_newB, .inl (cI, 300, .inl st.2.2.1.2.2.2.1)), (h_newDifference, .inl (cL, 300, .inr (.inl st.2.2.1.2.1))), (h_newA, .inl (cL, 300, .inr (.inl st.2.2.1.2.2.1))), (h_log, .inl (cI, 5000, .inl st.2.2.2.1.1)), (h_packed, .inl (cI, 5000, .inl st.2.2.2.2.1.1))] → lv_has ls 5 [(0, .ref h)] → W p l e { frames := 5, cells := 0, slots := 0, locals := 120 } s m args below meth c H locs 0 0 (MQ below (Qw D vwCl [(cI, .int), (cL, .long)] (some (.int res.1)) A [(h, .inr (6, [.int res.2.1, .int res.2.2.1.2.2.2.2, .ref h_kind, .ref h_b, .ref h_difference, .ref h_a, .int res.2.2.2.1.2.2.2.2, .ref h_newKind, .ref h_newB, .ref h_newDifference, .ref h_newA, .int res.2.2.2.2.1.2, .ref h_log, .ref h_packed, .int res.2.2.2.2.2.1.2, .int res.2.2.2.2.2.2.1.1, .int res.2.2.2.2.2.2.1.2.1, .int res.2.2.2.2.2.2.1.2.2.1, .int res.2.2.2.2.2.2.1.2.2.2, .int res.2.2.2.2.2.2.2.1, .int res.2.2.2.2.2.2.2.2])), (h_kind, .inl (cI, 300, .inl res.2.2.1.1)), (h_b, .inl (cI, 300, .inl res.2.2.1.2.2.2.1)), (h_difference, .inl (cL, 300, .inr (.inl res.2.2.1.2.1))), (h_a, .inl (cL, 300, .inr (.inl res.2.2.1.2.2.1))), (h_newKind, .inl (cI, 300, .inl res.2.2.2.1.1)), (h_newB, .inl (cI, 300, .inl res.2.2.2.1.2.2.2.1)), (h_newDifference, .inl (cL, 300, .inr (.inl res.2.2.2.1.2.1))), (h_newA, .inl (cL, 300, .inr (.inl res.2.2.2.1.2.2.1))), (h_log, .inl (cI, 5000, .inl res.2.2.2.2.1.1)), (h_packed, .inl (cI, 5000, .inl res.2.2.2.2.2.1.1))]) args s 0 0 A) (F0 m 137 ls []) := by
  obtain ⟨hx, hb, hr, hml, hown, hts, hlk, hK, hA⟩ := id C
  intro st res hf H locs ls hH hl
  unfold f_Model_read_b137 at hf
  refine lv_aload_n hx hb d_Model_read_137 rfl (lv_at hl 0 rfl) ?_
  refine gt (ci := 6) (v := .int st.2.2.2.2.2.2.2) C hH (iwT iw_Model) 0 rfl rfl 20 (by decide) (.tail _ wd_616) rfl d_Model_read_138 ?_
  refine lv_if_le (tgt := 151) hx hb d_Model_read_141 (by decide) (fun hc141 => ?_) (fun hc141 => ?_)
  · have hf := ip hc141 hf
    refine lv_aload_n hx hb d_Model_read_151 rfl (lv_at hl 0 rfl) ?_
    refine lv_aload_n hx hb d_Model_read_152 rfl (lv_at hl 0 rfl) ?_
    refine gt (ci := 6) (v := .int st.2.2.1.2.2.2.2) C hH (iwT iw_Model) 0 rfl rfl 6 (by decide) (.tail _ wd_602) rfl d_Model_read_153 ?_
    refine pt (ci := 6) (v := .int st.2.2.1.2.2.2.2) C hH (iwT iw_Model) ty_Model tyok_Model nm_Model 0 rfl rfl 1 (by decide) (.tail _ wd_597) rfl rfl rfl (Nat.le_of_ble_eq_true rfl) d_Model_read_156 [(h, .inr (6, [.int st.1, .int st.2.2.1.2.2.2.2, .ref h_kind, .ref h_b, .ref h_difference, .ref h_a, .int st.2.2.1.2.2.2.2, .ref h_newKind, .ref h_newB, .ref h_newDifference, .ref h_newA, .int st.2.2.2.1.2, .ref h_log, .ref h_packed, .int st.2.2.2.2.1.2, .int st.2.2.2.2.2.1.1, .int st.2.2.2.2.2.1.2.1, .int st.2.2.2.2.2.1.2.2.1, .int st.2.2.2.2.2.1.2.2.2, .int st.2.2.2.2.2.2.1, .int st.2.2.2.2.2.2.2])), (h_kind, .inl (cI, 300, .inl st.2.1.1)), (h_b, .inl (cI, 300, .inl st.2.1.2.2.2.1)), (h_difference, .inl (cL, 300, .inr (.inl st.2.1.2.1))), (h_a, .inl (cL, 300, .inr (.inl st.2.1.2.2.1))), (h_newKind, .inl (cI, 300, .inl st.2.2.1.1)), (h_newB, .inl (cI, 300, .inl st.2.2.1.2.2.2.1)), (h_newDifference, .inl (cL, 300, .inr (.inl st.2.2.1.2.1))), (h_newA, .inl (cL, 300, .inr (.inl st.2.2.1.2.2.1))), (h_log, .inl (cI, 5000, .inl st.2.2.2.1.1)), (h_packed, .inl (cI, 5000, .inl st.2.2.2.2.1.1))] rfl (fun H locs hH => ?_)
    refine lv_iconst (v := 0) hx hb d_Model_read_159 (by decide) ?_
    refine lv_istore_n (lv' := [(3, .int 0), (0, .ref h)]) hx hb d_Model_read_160 rfl hl (by decide) rfl (fun ls hl => ?_)
    exact w_Model_read_b161 l D cI cL h h_kind h_b h_difference h_a h_newKind h_newB h_newDifference h_newA h_log h_packed C 400 ((st.1, (st.2.1.1, st.2.1.2.1, st.2.1.2.2.1, st.2.1.2.2.2.1, st.2.2.1.2.2.2.2), st.2.2.1, st.2.2.2.1, st.2.2.2.2.1, st.2.2.2.2.2.1, st.2.2.2.2.2.2.1, st.2.2.2.2.2.2.2)) 0 res hf _ _ _ hH (lv_sub hl [1, 0] rfl)
  · have hf := im hc141 hf
    refine lv_iconst (v := (-1)) hx hb d_Model_read_144 (by decide) ?_
    refine lv_aload_n hx hb d_Model_read_145 rfl (lv_at hl 0 rfl) ?_
    refine gt (ci := 6) (v := .int st.2.2.2.2.2.2.2) C hH (iwT iw_Model) 0 rfl rfl 20 (by decide) (.tail _ wd_616) rfl d_Model_read_146 ?_
    refine lv_isub hx hb d_Model_read_149 ?_
    have hf := Option.some.inj hf
    subst hf
    exact rI (v := ((-1) : Int32) - st.2.2.2.2.2.2.2) C hH d_Model_read_150
def f_Model_read_b109 (st : S_Model)  : Option (Int32 × S_Model) :=
  if st.2.2.2.2.2.2.2 = 0 then (if st.2.2.2.1.2 ≤ st.2.2.2.2.2.2.1 then (f_Model_read_b137 st) else (lt1 (f_Model_meet st 7 st.2.2.2.2.2.2.1) (fun r134 => f_Model_read_b137 r134))) else (f_Model_read_b137 st)
set_option maxRecDepth 100000 in
set_option maxHeartbeats 4000000 in
theorem w_Model_read_b109 (l : Launch) (D : va_G) (cI cL : ClassId) (h h_kind h_b h_difference h_a h_newKind h_newB h_newDifference h_newA h_log h_packed : Nat) {p : Program} {e : Env} {s : State} {m : MethodId} {args : Array Value} {below : List Frame} {meth : Method} {c : Code} {A : Nat → Prop} (C : Cx p s m args meth c D vwCl [(cI, .int), (cL, .long)] A b_Model_read 5 (some .int) ws_Model_read y_Model_read.cls) : ∀ (st : S_Model)  (res : Int32 × S_Model), f_Model_read_b109 st = some res → ∀ (H : Heap) (locs : List Loc) (ls : Array Slot), Hp D vwCl A A s.heap H locs [(h, .inr (6, [.int st.1, .int st.2.1.2.2.2.2, .ref h_kind, .ref h_b, .ref h_difference, .ref h_a, .int st.2.2.1.2.2.2.2, .ref h_newKind, .ref h_newB, .ref h_newDifference, .ref h_newA, .int st.2.2.2.1.2, .ref h_log, .ref h_packed, .int st.2.2.2.2.1.2, .int st.2.2.2.2.2.1.1, .int st.2.2.2.2.2.1.2.1, .int st.2.2.2.2.2.1.2.2.1, .int st.2.2.2.2.2.1.2.2.2, .int st.2.2.2.2.2.2.1, .int st.2.2.2.2.2.2.2])), (h_kind, .inl (cI, 300, .inl st.2.1.1)), (h_b, .inl (cI, 300, .inl st.2.1.2.2.2.1)), (h_difference, .inl (cL, 300, .inr (.inl st.2.1.2.1))), (h_a, .inl (cL, 300, .inr (.inl st.2.1.2.2.1))), (h_newKind, .inl (cI, 300, .inl st.2.2.1.1)), (h_newB, .inl (cI, 300, .inl st.2.2.1.2.2.2.1)), (h_newDifference, .inl (cL, 300, .inr (.inl st.2.2.1.2.1))), (h_newA, .inl (cL, 300, .inr (.inl st.2.2.1.2.2.1))), (h_log, .inl (cI, 5000, .inl st.2.2.2.1.1)), (h_packed, .inl (cI, 5000, .inl st.2.2.2.2.1.1))] → lv_has ls 5 [(0, .ref h)] → W p l e { frames := 5, cells := 0, slots := 0, locals := 120 } s m args below meth c H locs 0 0 (MQ below (Qw D vwCl [(cI, .int), (cL, .long)] (some (.int res.1)) A [(h, .inr (6, [.int res.2.1, .int res.2.2.1.2.2.2.2, .ref h_kind, .ref h_b, .ref h_difference, .ref h_a, .int res.2.2.2.1.2.2.2.2, .ref h_newKind, .ref h_newB, .ref h_newDifference, .ref h_newA, .int res.2.2.2.2.1.2, .ref h_log, .ref h_packed, .int res.2.2.2.2.2.1.2, .int res.2.2.2.2.2.2.1.1, .int res.2.2.2.2.2.2.1.2.1, .int res.2.2.2.2.2.2.1.2.2.1, .int res.2.2.2.2.2.2.1.2.2.2, .int res.2.2.2.2.2.2.2.1, .int res.2.2.2.2.2.2.2.2])), (h_kind, .inl (cI, 300, .inl res.2.2.1.1)), (h_b, .inl (cI, 300, .inl res.2.2.1.2.2.2.1)), (h_difference, .inl (cL, 300, .inr (.inl res.2.2.1.2.1))), (h_a, .inl (cL, 300, .inr (.inl res.2.2.1.2.2.1))), (h_newKind, .inl (cI, 300, .inl res.2.2.2.1.1)), (h_newB, .inl (cI, 300, .inl res.2.2.2.1.2.2.2.1)), (h_newDifference, .inl (cL, 300, .inr (.inl res.2.2.2.1.2.1))), (h_newA, .inl (cL, 300, .inr (.inl res.2.2.2.1.2.2.1))), (h_log, .inl (cI, 5000, .inl res.2.2.2.2.1.1)), (h_packed, .inl (cI, 5000, .inl res.2.2.2.2.2.1.1))]) args s 0 0 A) (F0 m 109 ls []) := by
  obtain ⟨hx, hb, hr, hml, hown, hts, hlk, hK, hA⟩ := id C
  intro st res hf H locs ls hH hl
  unfold f_Model_read_b109 at hf
  refine lv_aload_n hx hb d_Model_read_109 rfl (lv_at hl 0 rfl) ?_
  refine gt (ci := 6) (v := .int st.2.2.2.2.2.2.2) C hH (iwT iw_Model) 0 rfl rfl 20 (by decide) (.tail _ wd_616) rfl d_Model_read_110 ?_
  refine lv_if_ne (tgt := 137) hx hb d_Model_read_113 (by decide) (fun hc113 => ?_) (fun hc113 => ?_)
  · have hf := im hc113 hf
    exact w_Model_read_b137 l D cI cL h h_kind h_b h_difference h_a h_newKind h_newB h_newDifference h_newA h_log h_packed C st res hf _ _ _ hH (lv_sub hl [0] rfl)
  · have hf := ip hc113 hf
    refine lv_aload_n hx hb d_Model_read_116 rfl (lv_at hl 0 rfl) ?_
    refine gt (ci := 6) (v := .int st.2.2.2.2.2.2.1) C hH (iwT iw_Model) 0 rfl rfl 19 (by decide) (.tail _ wd_615) rfl d_Model_read_117 ?_
    refine lv_aload_n hx hb d_Model_read_120 rfl (lv_at hl 0 rfl) ?_
    refine gt (ci := 6) (v := .int st.2.2.2.1.2) C hH (iwT iw_Model) 0 rfl rfl 11 (by decide) (.tail _ wd_607) rfl d_Model_read_121 ?_
    refine lv_icmp_ge (tgt := 137) hx hb d_Model_read_124 (by decide) (fun hc124 => ?_) (fun hc124 => ?_)
    · have hf := ip hc124 hf
      exact w_Model_read_b137 l D cI cL h h_kind h_b h_difference h_a h_newKind h_newB h_newDifference h_newA h_log h_packed C st res hf _ _ _ hH (lv_sub hl [0] rfl)
    · have hf := im hc124 hf
      refine lv_aload_n hx hb d_Model_read_127 rfl (lv_at hl 0 rfl) ?_
      refine lv_bipush (v := 7) hx hb d_Model_read_128 (by decide) ?_
      refine lv_aload_n hx hb d_Model_read_130 rfl (lv_at hl 0 rfl) ?_
      refine gt (ci := 6) (v := .int st.2.2.2.2.2.2.1) C hH (iwT iw_Model) 0 rfl rfl 19 (by decide) (.tail _ wd_615) rfl d_Model_read_131 ?_
      obtain ⟨r134, hr134, hf⟩ := lb hf
      refine fnV (rest := []) (wr := []) (w2 := [(h, .inr (6, [.int r134.1, .int r134.2.1.2.2.2.2, .ref h_kind, .ref h_b, .ref h_difference, .ref h_a, .int r134.2.2.1.2.2.2.2, .ref h_newKind, .ref h_newB, .ref h_newDifference, .ref h_newA, .int r134.2.2.2.1.2, .ref h_log, .ref h_packed, .int r134.2.2.2.2.1.2, .int r134.2.2.2.2.2.1.1, .int r134.2.2.2.2.2.1.2.1, .int r134.2.2.2.2.2.1.2.2.1, .int r134.2.2.2.2.2.1.2.2.2, .int r134.2.2.2.2.2.2.1, .int r134.2.2.2.2.2.2.2])), (h_kind, .inl (cI, 300, .inl r134.2.1.1)), (h_b, .inl (cI, 300, .inl r134.2.1.2.2.2.1)), (h_difference, .inl (cL, 300, .inr (.inl r134.2.1.2.1))), (h_a, .inl (cL, 300, .inr (.inl r134.2.1.2.2.1))), (h_newKind, .inl (cI, 300, .inl r134.2.2.1.1)), (h_newB, .inl (cI, 300, .inl r134.2.2.1.2.2.2.1)), (h_newDifference, .inl (cL, 300, .inr (.inl r134.2.2.1.2.1))), (h_newA, .inl (cL, 300, .inr (.inl r134.2.2.1.2.2.1))), (h_log, .inl (cI, 5000, .inl r134.2.2.2.1.1)), (h_packed, .inl (cI, 5000, .inl r134.2.2.2.2.1.1))]) (st2 := []) C (c_Model_meet l D cI cL h h_kind h_b h_difference h_a h_newKind h_newB h_newDifference h_newA h_log h_packed st 7 st.2.2.2.2.2.2.1 r134 hr134) (cV hts kV_Model_meet wd_747 ⟨Nat.le_of_ble_eq_true rfl, Nat.le_of_ble_eq_true rfl⟩) hH [0, 1, 2, 3, 4, 5, 6, 7, 8, 9, 10] [] [0, 1, 2, 3, 4, 5, 6, 7, 8, 9, 10] rfl rfl rfl rfl (by decide) rfl rfl 0 rfl rfl rfl hl.1 rfl (Nat.le_of_ble_eq_true rfl) d_Model_read_134 ⟨Nat.le_of_ble_eq_true rfl, Nat.le_of_ble_eq_true rfl⟩ rfl (fun H locs hH => ?_)
      exact w_Model_read_b137 l D cI cL h h_kind h_b h_difference h_a h_newKind h_newB h_newDifference h_newA h_log h_packed C r134 res hf _ _ _ hH (lv_sub hl [0] rfl)
def f_Model_read_b40 : Nat → S_Model → Int64 → Option (Int32 × S_Model)
  | 0, _, _ => none
  | n + 1, st, x1 =>
  if st.2.2.2.2.2.2.2 = 0 then (if 0 ≤ (lg_cmp st.2.2.1.2.2.2.2.toInt64 x1) then (f_Model_read_b109 st) else ((f_Model_next st).bind (fun r63 => if r63.2.2.2.2.2.2.2.2 ≤ 0 then (if (r63.1 &&& 7) = (5 : Int32) then ((f_Model_readRun r63.2 r63.1 st.2.2.2.2.2.2.1 x1.toInt32).bind (fun r93 => f_Model_read_b40 n r93 x1)) else ((f_Model_readEntry r63.2 r63.1 st.2.2.2.2.2.2.1).bind (fun r103 => f_Model_read_b40 n r103 x1))) else (f_Model_read_b40 n r63.2 x1)))) else (f_Model_read_b109 st)
set_option maxRecDepth 100000 in
set_option maxHeartbeats 4000000 in
theorem w_Model_read_b40 (l : Launch) (D : va_G) (cI cL : ClassId) (h h_kind h_b h_difference h_a h_newKind h_newB h_newDifference h_newA h_log h_packed : Nat) {p : Program} {e : Env} {s : State} {m : MethodId} {args : Array Value} {below : List Frame} {meth : Method} {c : Code} {A : Nat → Prop} (C : Cx p s m args meth c D vwCl [(cI, .int), (cL, .long)] A b_Model_read 5 (some .int) ws_Model_read y_Model_read.cls) : ∀ (n : Nat) (st : S_Model) (x1 : Int64) (res : Int32 × S_Model), f_Model_read_b40 n st x1 = some res → ∀ (H : Heap) (locs : List Loc) (ls : Array Slot), Hp D vwCl A A s.heap H locs [(h, .inr (6, [.int st.1, .int st.2.1.2.2.2.2, .ref h_kind, .ref h_b, .ref h_difference, .ref h_a, .int st.2.2.1.2.2.2.2, .ref h_newKind, .ref h_newB, .ref h_newDifference, .ref h_newA, .int st.2.2.2.1.2, .ref h_log, .ref h_packed, .int st.2.2.2.2.1.2, .int st.2.2.2.2.2.1.1, .int st.2.2.2.2.2.1.2.1, .int st.2.2.2.2.2.1.2.2.1, .int st.2.2.2.2.2.1.2.2.2, .int st.2.2.2.2.2.2.1, .int st.2.2.2.2.2.2.2])), (h_kind, .inl (cI, 300, .inl st.2.1.1)), (h_b, .inl (cI, 300, .inl st.2.1.2.2.2.1)), (h_difference, .inl (cL, 300, .inr (.inl st.2.1.2.1))), (h_a, .inl (cL, 300, .inr (.inl st.2.1.2.2.1))), (h_newKind, .inl (cI, 300, .inl st.2.2.1.1)), (h_newB, .inl (cI, 300, .inl st.2.2.1.2.2.2.1)), (h_newDifference, .inl (cL, 300, .inr (.inl st.2.2.1.2.1))), (h_newA, .inl (cL, 300, .inr (.inl st.2.2.1.2.2.1))), (h_log, .inl (cI, 5000, .inl st.2.2.2.1.1)), (h_packed, .inl (cI, 5000, .inl st.2.2.2.2.1.1))] → lv_has ls 5 [(0, .ref h), (1, .long x1)] → W p l e { frames := 5, cells := 0, slots := 0, locals := 120 } s m args below meth c H locs 0 0 (MQ below (Qw D vwCl [(cI, .int), (cL, .long)] (some (.int res.1)) A [(h, .inr (6, [.int res.2.1, .int res.2.2.1.2.2.2.2, .ref h_kind, .ref h_b, .ref h_difference, .ref h_a, .int res.2.2.2.1.2.2.2.2, .ref h_newKind, .ref h_newB, .ref h_newDifference, .ref h_newA, .int res.2.2.2.2.1.2, .ref h_log, .ref h_packed, .int res.2.2.2.2.2.1.2, .int res.2.2.2.2.2.2.1.1, .int res.2.2.2.2.2.2.1.2.1, .int res.2.2.2.2.2.2.1.2.2.1, .int res.2.2.2.2.2.2.1.2.2.2, .int res.2.2.2.2.2.2.2.1, .int res.2.2.2.2.2.2.2.2])), (h_kind, .inl (cI, 300, .inl res.2.2.1.1)), (h_b, .inl (cI, 300, .inl res.2.2.1.2.2.2.1)), (h_difference, .inl (cL, 300, .inr (.inl res.2.2.1.2.1))), (h_a, .inl (cL, 300, .inr (.inl res.2.2.1.2.2.1))), (h_newKind, .inl (cI, 300, .inl res.2.2.2.1.1)), (h_newB, .inl (cI, 300, .inl res.2.2.2.1.2.2.2.1)), (h_newDifference, .inl (cL, 300, .inr (.inl res.2.2.2.1.2.1))), (h_newA, .inl (cL, 300, .inr (.inl res.2.2.2.1.2.2.1))), (h_log, .inl (cI, 5000, .inl res.2.2.2.2.1.1)), (h_packed, .inl (cI, 5000, .inl res.2.2.2.2.2.1.1))]) args s 0 0 A) (F0 m 40 ls []) := by
  obtain ⟨hx, hb, hr, hml, hown, hts, hlk, hK, hA⟩ := id C
  intro n
  induction n with
  | zero => intro st x1 res hf; cases hf
  | succ n ih =>
    intro st x1 res hf H locs ls hH hl
    rw [f_Model_read_b40] at hf
    refine lv_aload_n hx hb d_Model_read_40 rfl (lv_at hl 0 rfl) ?_
    refine gt (ci := 6) (v := .int st.2.2.2.2.2.2.2) C hH (iwT iw_Model) 0 rfl rfl 20 (by decide) (.tail _ wd_616) rfl d_Model_read_41 ?_
    refine lv_if_ne (tgt := 109) hx hb d_Model_read_44 (by decide) (fun hc44 => ?_) (fun hc44 => ?_)
    · have hf := im hc44 hf
      exact w_Model_read_b109 l D cI cL h h_kind h_b h_difference h_a h_newKind h_newB h_newDifference h_newA h_log h_packed C st res hf _ _ _ hH (lv_sub hl [0] rfl)
    · have hf := ip hc44 hf
      refine lv_aload_n hx hb d_Model_read_47 rfl (lv_at hl 0 rfl) ?_
      refine gt (ci := 6) (v := .int st.2.2.1.2.2.2.2) C hH (iwT iw_Model) 0 rfl rfl 6 (by decide) (.tail _ wd_602) rfl d_Model_read_48 ?_
      refine lv_i2l (v := st.2.2.1.2.2.2.2.toInt64) hx hb d_Model_read_51 rfl ?_
      refine lv_lload_n hx hb d_Model_read_52 rfl (lv_at hl 1 rfl) ?_
      refine W.lcmp hx hb d_Model_read_53 ?_
      refine lv_if_ge (tgt := 109) hx hb d_Model_read_54 (by decide) (fun hc54 => ?_) (fun hc54 => ?_)
      · have hf := ip hc54 hf
        exact w_Model_read_b109 l D cI cL h h_kind h_b h_difference h_a h_newKind h_newB h_newDifference h_newA h_log h_packed C st res hf _ _ _ hH (lv_sub hl [0] rfl)
      · have hf := im hc54 hf
        refine lv_aload_n hx hb d_Model_read_57 rfl (lv_at hl 0 rfl) ?_
        refine gt (ci := 6) (v := .int st.2.2.2.2.2.2.1) C hH (iwT iw_Model) 0 rfl rfl 19 (by decide) (.tail _ wd_615) rfl d_Model_read_58 ?_
        refine lv_istore_n (lv' := [(3, .int st.2.2.2.2.2.2.1), (0, .ref h), (1, .long x1)]) hx hb d_Model_read_61 rfl hl (by decide) rfl (fun ls hl => ?_)
        refine lv_aload_n hx hb d_Model_read_62 rfl (lv_at hl 1 rfl) ?_
        obtain ⟨r63, hr63, hf⟩ := ob hf
        refine fnV (rest := []) (wr := []) (w2 := [(h, .inr (6, [.int r63.2.1, .int r63.2.2.1.2.2.2.2, .ref h_kind, .ref h_b, .ref h_difference, .ref h_a, .int r63.2.2.2.1.2.2.2.2, .ref h_newKind, .ref h_newB, .ref h_newDifference, .ref h_newA, .int r63.2.2.2.2.1.2, .ref h_log, .ref h_packed, .int r63.2.2.2.2.2.1.2, .int r63.2.2.2.2.2.2.1.1, .int r63.2.2.2.2.2.2.1.2.1, .int r63.2.2.2.2.2.2.1.2.2.1, .int r63.2.2.2.2.2.2.1.2.2.2, .int r63.2.2.2.2.2.2.2.1, .int r63.2.2.2.2.2.2.2.2])), (h_kind, .inl (cI, 300, .inl r63.2.2.1.1)), (h_b, .inl (cI, 300, .inl r63.2.2.1.2.2.2.1)), (h_difference, .inl (cL, 300, .inr (.inl r63.2.2.1.2.1))), (h_a, .inl (cL, 300, .inr (.inl r63.2.2.1.2.2.1))), (h_newKind, .inl (cI, 300, .inl r63.2.2.2.1.1)), (h_newB, .inl (cI, 300, .inl r63.2.2.2.1.2.2.2.1)), (h_newDifference, .inl (cL, 300, .inr (.inl r63.2.2.2.1.2.1))), (h_newA, .inl (cL, 300, .inr (.inl r63.2.2.2.1.2.2.1))), (h_log, .inl (cI, 5000, .inl r63.2.2.2.2.1.1)), (h_packed, .inl (cI, 5000, .inl r63.2.2.2.2.2.1.1))]) (st2 := [.int r63.1]) C (c_Model_next l D cI cL h h_kind h_b h_difference h_a h_newKind h_newB h_newDifference h_newA h_log h_packed st r63 hr63) (cV hts kV_Model_next wd_743 ⟨Nat.le_of_ble_eq_true rfl, Nat.le_of_ble_eq_true rfl⟩) hH [0, 1, 2, 3, 4, 5, 6, 7, 8, 9, 10] [] [0, 1, 2, 3, 4, 5, 6, 7, 8, 9, 10] rfl rfl rfl rfl (by decide) rfl rfl 0 rfl rfl rfl hl.1 rfl (Nat.le_of_ble_eq_true rfl) d_Model_read_63 ⟨Nat.le_of_ble_eq_true rfl, Nat.le_of_ble_eq_true rfl⟩ rfl (fun H locs hH => ?_)
        refine lv_istore (lv' := [(4, .int r63.1), (3, .int st.2.2.2.2.2.2.1), (0, .ref h), (1, .long x1)]) hx hb d_Model_read_66 hl (by decide) rfl (fun ls hl => ?_)
        refine lv_aload_n hx hb d_Model_read_68 rfl (lv_at hl 2 rfl) ?_
        refine gt (ci := 6) (v := .int r63.2.2.2.2.2.2.2.2) C hH (iwT iw_Model) 0 rfl rfl 20 (by decide) (.tail _ wd_616) rfl d_Model_read_69 ?_
        refine lv_if_le (tgt := 78) hx hb d_Model_read_72 (by decide) (fun hc72 => ?_) (fun hc72 => ?_)
        · have hf := ip hc72 hf
          refine lv_iload hx hb d_Model_read_78 (lv_at hl 0 rfl) ?_
          refine lv_bipush (v := 7) hx hb d_Model_read_80 (by decide) ?_
          refine lv_iand hx hb d_Model_read_82 ?_
          refine lv_iconst (v := 5) hx hb d_Model_read_83 (by decide) ?_
          refine lv_icmp_ne (tgt := 99) hx hb d_Model_read_84 (by decide) (fun hc84 => ?_) (fun hc84 => ?_)
          · have hf := im hc84 hf
            refine lv_aload_n hx hb d_Model_read_99 rfl (lv_at hl 2 rfl) ?_
            refine lv_iload hx hb d_Model_read_100 (lv_at hl 0 rfl) ?_
            refine lv_iload_n hx hb d_Model_read_102 rfl (lv_at hl 1 rfl) ?_
            obtain ⟨r103, hr103, hf⟩ := ob hf
            refine fnV (rest := []) (wr := []) (w2 := [(h, .inr (6, [.int r103.1, .int r103.2.1.2.2.2.2, .ref h_kind, .ref h_b, .ref h_difference, .ref h_a, .int r103.2.2.1.2.2.2.2, .ref h_newKind, .ref h_newB, .ref h_newDifference, .ref h_newA, .int r103.2.2.2.1.2, .ref h_log, .ref h_packed, .int r103.2.2.2.2.1.2, .int r103.2.2.2.2.2.1.1, .int r103.2.2.2.2.2.1.2.1, .int r103.2.2.2.2.2.1.2.2.1, .int r103.2.2.2.2.2.1.2.2.2, .int r103.2.2.2.2.2.2.1, .int r103.2.2.2.2.2.2.2])), (h_kind, .inl (cI, 300, .inl r103.2.1.1)), (h_b, .inl (cI, 300, .inl r103.2.1.2.2.2.1)), (h_difference, .inl (cL, 300, .inr (.inl r103.2.1.2.1))), (h_a, .inl (cL, 300, .inr (.inl r103.2.1.2.2.1))), (h_newKind, .inl (cI, 300, .inl r103.2.2.1.1)), (h_newB, .inl (cI, 300, .inl r103.2.2.1.2.2.2.1)), (h_newDifference, .inl (cL, 300, .inr (.inl r103.2.2.1.2.1))), (h_newA, .inl (cL, 300, .inr (.inl r103.2.2.1.2.2.1))), (h_log, .inl (cI, 5000, .inl r103.2.2.2.1.1)), (h_packed, .inl (cI, 5000, .inl r103.2.2.2.2.1.1))]) (st2 := []) C (c_Model_readEntry l D cI cL h h_kind h_b h_difference h_a h_newKind h_newB h_newDifference h_newA h_log h_packed r63.2 r63.1 st.2.2.2.2.2.2.1 r103 hr103) (cV hts kV_Model_readEntry wd_764 ⟨Nat.le_of_ble_eq_true rfl, Nat.le_of_ble_eq_true rfl⟩) hH [0, 1, 2, 3, 4, 5, 6, 7, 8, 9, 10] [] [0, 1, 2, 3, 4, 5, 6, 7, 8, 9, 10] rfl rfl rfl rfl (by decide) rfl rfl 0 rfl rfl rfl hl.1 rfl (Nat.le_of_ble_eq_true rfl) d_Model_read_103 ⟨Nat.le_of_ble_eq_true rfl, Nat.le_of_ble_eq_true rfl⟩ rfl (fun H locs hH => ?_)
            refine lv_goto (tgt := 40) hx hb d_Model_read_106 (by decide) ?_
            exact ih r103 x1 res hf _ _ _ hH (lv_sub hl [2, 3] rfl)
          · have hf := ip hc84 hf
            refine lv_aload_n hx hb d_Model_read_87 rfl (lv_at hl 2 rfl) ?_
            refine lv_iload hx hb d_Model_read_88 (lv_at hl 0 rfl) ?_
            refine lv_iload_n hx hb d_Model_read_90 rfl (lv_at hl 1 rfl) ?_
            refine lv_lload_n hx hb d_Model_read_91 rfl (lv_at hl 3 rfl) ?_
            refine lv_l2i (v := x1.toInt32) hx hb d_Model_read_92 rfl ?_
            obtain ⟨r93, hr93, hf⟩ := ob hf
            refine fnV (rest := []) (wr := []) (w2 := [(h, .inr (6, [.int r93.1, .int r93.2.1.2.2.2.2, .ref h_kind, .ref h_b, .ref h_difference, .ref h_a, .int r93.2.2.1.2.2.2.2, .ref h_newKind, .ref h_newB, .ref h_newDifference, .ref h_newA, .int r93.2.2.2.1.2, .ref h_log, .ref h_packed, .int r93.2.2.2.2.1.2, .int r93.2.2.2.2.2.1.1, .int r93.2.2.2.2.2.1.2.1, .int r93.2.2.2.2.2.1.2.2.1, .int r93.2.2.2.2.2.1.2.2.2, .int r93.2.2.2.2.2.2.1, .int r93.2.2.2.2.2.2.2])), (h_kind, .inl (cI, 300, .inl r93.2.1.1)), (h_b, .inl (cI, 300, .inl r93.2.1.2.2.2.1)), (h_difference, .inl (cL, 300, .inr (.inl r93.2.1.2.1))), (h_a, .inl (cL, 300, .inr (.inl r93.2.1.2.2.1))), (h_newKind, .inl (cI, 300, .inl r93.2.2.1.1)), (h_newB, .inl (cI, 300, .inl r93.2.2.1.2.2.2.1)), (h_newDifference, .inl (cL, 300, .inr (.inl r93.2.2.1.2.1))), (h_newA, .inl (cL, 300, .inr (.inl r93.2.2.1.2.2.1))), (h_log, .inl (cI, 5000, .inl r93.2.2.2.1.1)), (h_packed, .inl (cI, 5000, .inl r93.2.2.2.2.1.1))]) (st2 := []) C (c_Model_readRun l D cI cL h h_kind h_b h_difference h_a h_newKind h_newB h_newDifference h_newA h_log h_packed r63.2 r63.1 st.2.2.2.2.2.2.1 x1.toInt32 r93 hr93) (cV hts kV_Model_readRun wd_752 ⟨Nat.le_of_ble_eq_true rfl, Nat.le_of_ble_eq_true rfl⟩) hH [0, 1, 2, 3, 4, 5, 6, 7, 8, 9, 10] [] [0, 1, 2, 3, 4, 5, 6, 7, 8, 9, 10] rfl rfl rfl rfl (by decide) rfl rfl 0 rfl rfl rfl hl.1 rfl (Nat.le_of_ble_eq_true rfl) d_Model_read_93 ⟨Nat.le_of_ble_eq_true rfl, Nat.le_of_ble_eq_true rfl⟩ rfl (fun H locs hH => ?_)
            refine lv_goto (tgt := 106) hx hb d_Model_read_96 (by decide) ?_
            refine lv_goto (tgt := 40) hx hb d_Model_read_106 (by decide) ?_
            exact ih r93 x1 res hf _ _ _ hH (lv_sub hl [2, 3] rfl)
        · have hf := im hc72 hf
          refine lv_goto (tgt := 40) hx hb d_Model_read_75 (by decide) ?_
          exact ih r63.2 x1 res hf _ _ _ hH (lv_sub hl [2, 3] rfl)
def f_Model_read (st : S_Model)  : Option (Int32 × S_Model) :=
  (f_Model_readVarint ((0, st.2.1, (st.2.2.1.1, st.2.2.1.2.1, st.2.2.1.2.2.1, st.2.2.1.2.2.2.1, 0), st.2.2.2.1, st.2.2.2.2.1, st.2.2.2.2.2.1, 0, 0))).bind (fun r21 => if (lg_cmp r21.1 300) ≤ 0 then (f_Model_read_b40 400 r21.2 r21.1) else (lt1 (f_Model_meet r21.2 6 0) (fun r37 => f_Model_read_b40 400 r37 r21.1)))
set_option maxRecDepth 100000 in
set_option maxHeartbeats 4000000 in
theorem c_Model_read (l : Launch) (D : va_G) (cI cL : ClassId) (h h_kind h_b h_difference h_a h_newKind h_newB h_newDifference h_newA h_log h_packed : Nat) (st : S_Model)  (res : Int32 × S_Model) (hf : f_Model_read st = some res) :
    Fn l D vwCl [(cI, .int), (cL, .long)] y_Model_read ws_Model_read { frames := 5, cells := 0, slots := 0, locals := 120 } [.ref h] [(h, .inr (6, [.int st.1, .int st.2.1.2.2.2.2, .ref h_kind, .ref h_b, .ref h_difference, .ref h_a, .int st.2.2.1.2.2.2.2, .ref h_newKind, .ref h_newB, .ref h_newDifference, .ref h_newA, .int st.2.2.2.1.2, .ref h_log, .ref h_packed, .int st.2.2.2.2.1.2, .int st.2.2.2.2.2.1.1, .int st.2.2.2.2.2.1.2.1, .int st.2.2.2.2.2.1.2.2.1, .int st.2.2.2.2.2.1.2.2.2, .int st.2.2.2.2.2.2.1, .int st.2.2.2.2.2.2.2])), (h_kind, .inl (cI, 300, .inl st.2.1.1)), (h_b, .inl (cI, 300, .inl st.2.1.2.2.2.1)), (h_difference, .inl (cL, 300, .inr (.inl st.2.1.2.1))), (h_a, .inl (cL, 300, .inr (.inl st.2.1.2.2.1))), (h_newKind, .inl (cI, 300, .inl st.2.2.1.1)), (h_newB, .inl (cI, 300, .inl st.2.2.1.2.2.2.1)), (h_newDifference, .inl (cL, 300, .inr (.inl st.2.2.1.2.1))), (h_newA, .inl (cL, 300, .inr (.inl st.2.2.1.2.2.1))), (h_log, .inl (cI, 5000, .inl st.2.2.2.1.1)), (h_packed, .inl (cI, 5000, .inl st.2.2.2.2.1.1))] (some (.int res.1)) [(h, .inr (6, [.int res.2.1, .int res.2.2.1.2.2.2.2, .ref h_kind, .ref h_b, .ref h_difference, .ref h_a, .int res.2.2.2.1.2.2.2.2, .ref h_newKind, .ref h_newB, .ref h_newDifference, .ref h_newA, .int res.2.2.2.2.1.2, .ref h_log, .ref h_packed, .int res.2.2.2.2.2.1.2, .int res.2.2.2.2.2.2.1.1, .int res.2.2.2.2.2.2.1.2.1, .int res.2.2.2.2.2.2.1.2.2.1, .int res.2.2.2.2.2.2.1.2.2.2, .int res.2.2.2.2.2.2.2.1, .int res.2.2.2.2.2.2.2.2])), (h_kind, .inl (cI, 300, .inl res.2.2.1.1)), (h_b, .inl (cI, 300, .inl res.2.2.1.2.2.2.1)), (h_difference, .inl (cL, 300, .inr (.inl res.2.2.1.2.1))), (h_a, .inl (cL, 300, .inr (.inl res.2.2.1.2.2.1))), (h_newKind, .inl (cI, 300, .inl res.2.2.2.1.1)), (h_newB, .inl (cI, 300, .inl res.2.2.2.1.2.2.2.1)), (h_newDifference, .inl (cL, 300, .inr (.inl res.2.2.2.1.2.1))), (h_newA, .inl (cL, 300, .inr (.inl res.2.2.2.1.2.2.1))), (h_log, .inl (cI, 5000, .inl res.2.2.2.2.1.1)), (h_packed, .inl (cI, 5000, .inl res.2.2.2.2.2.1.1))] := by
  refine Fn.ofW (cc := b_Model_read) (maxL := 5) (ret := (some .int)) (by decide) rfl (Nat.le_of_ble_eq_true rfl) ?_
  intro p e s m below meth c A ls C hH hinit hl
  have hl : lv_has ls 5 [(0, .ref h)] := hl
  obtain ⟨hx, hb, hr, hml, hown, hts, hlk, hK, hA⟩ := id C
  unfold f_Model_read at hf
  refine lv_aload_n hx hb d_Model_read_0 rfl (lv_at hl 0 rfl) ?_
  refine lv_iconst (v := 0) hx hb d_Model_read_1 (by decide) ?_
  refine pt (ci := 6) (v := .int 0) C hH (iwT iw_Model) ty_Model tyok_Model nm_Model 0 rfl rfl 0 (by decide) (.tail _ wd_596) rfl rfl rfl (Nat.le_of_ble_eq_true rfl) d_Model_read_2 [(h, .inr (6, [.int 0, .int st.2.1.2.2.2.2, .ref h_kind, .ref h_b, .ref h_difference, .ref h_a, .int st.2.2.1.2.2.2.2, .ref h_newKind, .ref h_newB, .ref h_newDifference, .ref h_newA, .int st.2.2.2.1.2, .ref h_log, .ref h_packed, .int st.2.2.2.2.1.2, .int st.2.2.2.2.2.1.1, .int st.2.2.2.2.2.1.2.1, .int st.2.2.2.2.2.1.2.2.1, .int st.2.2.2.2.2.1.2.2.2, .int st.2.2.2.2.2.2.1, .int st.2.2.2.2.2.2.2])), (h_kind, .inl (cI, 300, .inl st.2.1.1)), (h_b, .inl (cI, 300, .inl st.2.1.2.2.2.1)), (h_difference, .inl (cL, 300, .inr (.inl st.2.1.2.1))), (h_a, .inl (cL, 300, .inr (.inl st.2.1.2.2.1))), (h_newKind, .inl (cI, 300, .inl st.2.2.1.1)), (h_newB, .inl (cI, 300, .inl st.2.2.1.2.2.2.1)), (h_newDifference, .inl (cL, 300, .inr (.inl st.2.2.1.2.1))), (h_newA, .inl (cL, 300, .inr (.inl st.2.2.1.2.2.1))), (h_log, .inl (cI, 5000, .inl st.2.2.2.1.1)), (h_packed, .inl (cI, 5000, .inl st.2.2.2.2.1.1))] rfl (fun H locs hH => ?_)
  refine lv_aload_n hx hb d_Model_read_5 rfl (lv_at hl 0 rfl) ?_
  refine lv_aload_n hx hb d_Model_read_6 rfl (lv_at hl 0 rfl) ?_
  refine lv_aload_n hx hb d_Model_read_7 rfl (lv_at hl 0 rfl) ?_
  refine lv_iconst (v := 0) hx hb d_Model_read_8 (by decide) ?_
  refine lv_dup_x1 hx hb d_Model_read_9 rfl rfl ?_
  refine pt (ci := 6) (v := .int 0) C hH (iwT iw_Model) ty_Model tyok_Model nm_Model 0 rfl rfl 6 (by decide) (.tail _ wd_602) rfl rfl rfl (Nat.le_of_ble_eq_true rfl) d_Model_read_10 [(h, .inr (6, [.int 0, .int st.2.1.2.2.2.2, .ref h_kind, .ref h_b, .ref h_difference, .ref h_a, .int 0, .ref h_newKind, .ref h_newB, .ref h_newDifference, .ref h_newA, .int st.2.2.2.1.2, .ref h_log, .ref h_packed, .int st.2.2.2.2.1.2, .int st.2.2.2.2.2.1.1, .int st.2.2.2.2.2.1.2.1, .int st.2.2.2.2.2.1.2.2.1, .int st.2.2.2.2.2.1.2.2.2, .int st.2.2.2.2.2.2.1, .int st.2.2.2.2.2.2.2])), (h_kind, .inl (cI, 300, .inl st.2.1.1)), (h_b, .inl (cI, 300, .inl st.2.1.2.2.2.1)), (h_difference, .inl (cL, 300, .inr (.inl st.2.1.2.1))), (h_a, .inl (cL, 300, .inr (.inl st.2.1.2.2.1))), (h_newKind, .inl (cI, 300, .inl st.2.2.1.1)), (h_newB, .inl (cI, 300, .inl st.2.2.1.2.2.2.1)), (h_newDifference, .inl (cL, 300, .inr (.inl st.2.2.1.2.1))), (h_newA, .inl (cL, 300, .inr (.inl st.2.2.1.2.2.1))), (h_log, .inl (cI, 5000, .inl st.2.2.2.1.1)), (h_packed, .inl (cI, 5000, .inl st.2.2.2.2.1.1))] rfl (fun H locs hH => ?_)
  refine lv_dup_x1 hx hb d_Model_read_13 rfl rfl ?_
  refine pt (ci := 6) (v := .int 0) C hH (iwT iw_Model) ty_Model tyok_Model nm_Model 0 rfl rfl 20 (by decide) (.tail _ wd_616) rfl rfl rfl (Nat.le_of_ble_eq_true rfl) d_Model_read_14 [(h, .inr (6, [.int 0, .int st.2.1.2.2.2.2, .ref h_kind, .ref h_b, .ref h_difference, .ref h_a, .int 0, .ref h_newKind, .ref h_newB, .ref h_newDifference, .ref h_newA, .int st.2.2.2.1.2, .ref h_log, .ref h_packed, .int st.2.2.2.2.1.2, .int st.2.2.2.2.2.1.1, .int st.2.2.2.2.2.1.2.1, .int st.2.2.2.2.2.1.2.2.1, .int st.2.2.2.2.2.1.2.2.2, .int st.2.2.2.2.2.2.1, .int 0])), (h_kind, .inl (cI, 300, .inl st.2.1.1)), (h_b, .inl (cI, 300, .inl st.2.1.2.2.2.1)), (h_difference, .inl (cL, 300, .inr (.inl st.2.1.2.1))), (h_a, .inl (cL, 300, .inr (.inl st.2.1.2.2.1))), (h_newKind, .inl (cI, 300, .inl st.2.2.1.1)), (h_newB, .inl (cI, 300, .inl st.2.2.1.2.2.2.1)), (h_newDifference, .inl (cL, 300, .inr (.inl st.2.2.1.2.1))), (h_newA, .inl (cL, 300, .inr (.inl st.2.2.1.2.2.1))), (h_log, .inl (cI, 5000, .inl st.2.2.2.1.1)), (h_packed, .inl (cI, 5000, .inl st.2.2.2.2.1.1))] rfl (fun H locs hH => ?_)
  refine pt (ci := 6) (v := .int 0) C hH (iwT iw_Model) ty_Model tyok_Model nm_Model 0 rfl rfl 19 (by decide) (.tail _ wd_615) rfl rfl rfl (Nat.le_of_ble_eq_true rfl) d_Model_read_17 [(h, .inr (6, [.int 0, .int st.2.1.2.2.2.2, .ref h_kind, .ref h_b, .ref h_difference, .ref h_a, .int 0, .ref h_newKind, .ref h_newB, .ref h_newDifference, .ref h_newA, .int st.2.2.2.1.2, .ref h_log, .ref h_packed, .int st.2.2.2.2.1.2, .int st.2.2.2.2.2.1.1, .int st.2.2.2.2.2.1.2.1, .int st.2.2.2.2.2.1.2.2.1, .int st.2.2.2.2.2.1.2.2.2, .int 0, .int 0])), (h_kind, .inl (cI, 300, .inl st.2.1.1)), (h_b, .inl (cI, 300, .inl st.2.1.2.2.2.1)), (h_difference, .inl (cL, 300, .inr (.inl st.2.1.2.1))), (h_a, .inl (cL, 300, .inr (.inl st.2.1.2.2.1))), (h_newKind, .inl (cI, 300, .inl st.2.2.1.1)), (h_newB, .inl (cI, 300, .inl st.2.2.1.2.2.2.1)), (h_newDifference, .inl (cL, 300, .inr (.inl st.2.2.1.2.1))), (h_newA, .inl (cL, 300, .inr (.inl st.2.2.1.2.2.1))), (h_log, .inl (cI, 5000, .inl st.2.2.2.1.1)), (h_packed, .inl (cI, 5000, .inl st.2.2.2.2.1.1))] rfl (fun H locs hH => ?_)
  refine lv_aload_n hx hb d_Model_read_20 rfl (lv_at hl 0 rfl) ?_
  obtain ⟨r21, hr21, hf⟩ := ob hf
  refine fnV (rest := []) (wr := []) (w2 := [(h, .inr (6, [.int r21.2.1, .int r21.2.2.1.2.2.2.2, .ref h_kind, .ref h_b, .ref h_difference, .ref h_a, .int r21.2.2.2.1.2.2.2.2, .ref h_newKind, .ref h_newB, .ref h_newDifference, .ref h_newA, .int r21.2.2.2.2.1.2, .ref h_log, .ref h_packed, .int r21.2.2.2.2.2.1.2, .int r21.2.2.2.2.2.2.1.1, .int r21.2.2.2.2.2.2.1.2.1, .int r21.2.2.2.2.2.2.1.2.2.1, .int r21.2.2.2.2.2.2.1.2.2.2, .int r21.2.2.2.2.2.2.2.1, .int r21.2.2.2.2.2.2.2.2])), (h_kind, .inl (cI, 300, .inl r21.2.2.1.1)), (h_b, .inl (cI, 300, .inl r21.2.2.1.2.2.2.1)), (h_difference, .inl (cL, 300, .inr (.inl r21.2.2.1.2.1))), (h_a, .inl (cL, 300, .inr (.inl r21.2.2.1.2.2.1))), (h_newKind, .inl (cI, 300, .inl r21.2.2.2.1.1)), (h_newB, .inl (cI, 300, .inl r21.2.2.2.1.2.2.2.1)), (h_newDifference, .inl (cL, 300, .inr (.inl r21.2.2.2.1.2.1))), (h_newA, .inl (cL, 300, .inr (.inl r21.2.2.2.1.2.2.1))), (h_log, .inl (cI, 5000, .inl r21.2.2.2.2.1.1)), (h_packed, .inl (cI, 5000, .inl r21.2.2.2.2.2.1.1))]) (st2 := [.long r21.1]) C (c_Model_readVarint l D cI cL h h_kind h_b h_difference h_a h_newKind h_newB h_newDifference h_newA h_log h_packed ((0, st.2.1, (st.2.2.1.1, st.2.2.1.2.1, st.2.2.1.2.2.1, st.2.2.1.2.2.2.1, 0), st.2.2.2.1, st.2.2.2.2.1, st.2.2.2.2.2.1, 0, 0)) r21 hr21) (cV hts kV_Model_readVarint wd_739 ⟨Nat.le_of_ble_eq_true rfl, Nat.le_of_ble_eq_true rfl⟩) hH [0, 1, 2, 3, 4, 5, 6, 7, 8, 9, 10] [] [0, 1, 2, 3, 4, 5, 6, 7, 8, 9, 10] rfl rfl rfl rfl (by decide) rfl rfl 0 rfl rfl rfl hl.1 rfl (Nat.le_of_ble_eq_true rfl) d_Model_read_21 ⟨Nat.le_of_ble_eq_true rfl, Nat.le_of_ble_eq_true rfl⟩ rfl (fun H locs hH => ?_)
  refine lv_lstore_n (lv' := [(1, .long r21.1), (0, .ref h)]) hx hb d_Model_read_24 rfl hl (by decide) rfl (fun ls hl => ?_)
  refine lv_lload_n hx hb d_Model_read_25 rfl (lv_at hl 0 rfl) ?_
  refine lv_ldc2 (v := 300) hx hb hown (hts _ (.tail _ wd_751)) d_Model_read_26 ?_
  refine W.lcmp hx hb d_Model_read_29 ?_
  refine lv_if_le (tgt := 40) hx hb d_Model_read_30 (by decide) (fun hc30 => ?_) (fun hc30 => ?_)
  · have hf := ip hc30 hf
    exact w_Model_read_b40 l D cI cL h h_kind h_b h_difference h_a h_newKind h_newB h_newDifference h_newA h_log h_packed C 400 r21.2 r21.1 res hf _ _ _ hH (lv_sub hl [1, 0] rfl)
  · have hf := im hc30 hf
    refine lv_aload_n hx hb d_Model_read_33 rfl (lv_at hl 1 rfl) ?_
    refine lv_bipush (v := 6) hx hb d_Model_read_34 (by decide) ?_
    refine lv_iconst (v := 0) hx hb d_Model_read_36 (by decide) ?_
    obtain ⟨r37, hr37, hf⟩ := lb hf
    refine fnV (rest := []) (wr := []) (w2 := [(h, .inr (6, [.int r37.1, .int r37.2.1.2.2.2.2, .ref h_kind, .ref h_b, .ref h_difference, .ref h_a, .int r37.2.2.1.2.2.2.2, .ref h_newKind, .ref h_newB, .ref h_newDifference, .ref h_newA, .int r37.2.2.2.1.2, .ref h_log, .ref h_packed, .int r37.2.2.2.2.1.2, .int r37.2.2.2.2.2.1.1, .int r37.2.2.2.2.2.1.2.1, .int r37.2.2.2.2.2.1.2.2.1, .int r37.2.2.2.2.2.1.2.2.2, .int r37.2.2.2.2.2.2.1, .int r37.2.2.2.2.2.2.2])), (h_kind, .inl (cI, 300, .inl r37.2.1.1)), (h_b, .inl (cI, 300, .inl r37.2.1.2.2.2.1)), (h_difference, .inl (cL, 300, .inr (.inl r37.2.1.2.1))), (h_a, .inl (cL, 300, .inr (.inl r37.2.1.2.2.1))), (h_newKind, .inl (cI, 300, .inl r37.2.2.1.1)), (h_newB, .inl (cI, 300, .inl r37.2.2.1.2.2.2.1)), (h_newDifference, .inl (cL, 300, .inr (.inl r37.2.2.1.2.1))), (h_newA, .inl (cL, 300, .inr (.inl r37.2.2.1.2.2.1))), (h_log, .inl (cI, 5000, .inl r37.2.2.2.1.1)), (h_packed, .inl (cI, 5000, .inl r37.2.2.2.2.1.1))]) (st2 := []) C (c_Model_meet l D cI cL h h_kind h_b h_difference h_a h_newKind h_newB h_newDifference h_newA h_log h_packed r21.2 6 0 r37 hr37) (cV hts kV_Model_meet wd_747 ⟨Nat.le_of_ble_eq_true rfl, Nat.le_of_ble_eq_true rfl⟩) hH [0, 1, 2, 3, 4, 5, 6, 7, 8, 9, 10] [] [0, 1, 2, 3, 4, 5, 6, 7, 8, 9, 10] rfl rfl rfl rfl (by decide) rfl rfl 0 rfl rfl rfl hl.1 rfl (Nat.le_of_ble_eq_true rfl) d_Model_read_37 ⟨Nat.le_of_ble_eq_true rfl, Nat.le_of_ble_eq_true rfl⟩ rfl (fun H locs hH => ?_)
    exact w_Model_read_b40 l D cI cL h h_kind h_b h_difference h_a h_newKind h_newB h_newDifference h_newA h_log h_packed C 400 r37 r21.1 res hf _ _ _ hH (lv_sub hl [1, 0] rfl)
def f_Model_poke_b57 (st : S_Model) (x1 : Int32) (x2 : Int32) (z0 : Bool) (z1 : Bool) (z2 : Bool) : Option (S_Model) :=
  lt1 (f_Model_fails st z2 z1 z0) (fun r57 => if (bI r57.1) = 0 then (if x1 < 0 ∨ 5000 ≤ x1.toNatClampNeg then none else if x1 = r57.2.2.2.2.1.2 then (some ((r57.2.1, r57.2.2.1, r57.2.2.2.1, (upd r57.2.2.2.2.1.1 x1.toNatClampNeg x2, r57.2.2.2.2.1.2 + 1), r57.2.2.2.2.2.1, r57.2.2.2.2.2.2.1, r57.2.2.2.2.2.2.2.1, r57.2.2.2.2.2.2.2.2))) else (some ((r57.2.1, r57.2.2.1, r57.2.2.2.1, (upd r57.2.2.2.2.1.1 x1.toNatClampNeg x2, r57.2.2.2.2.1.2), r57.2.2.2.2.2.1, r57.2.2.2.2.2.2.1, r57.2.2.2.2.2.2.2.1, r57.2.2.2.2.2.2.2.2)))) else (some r57.2))
set_option maxRecDepth 100000 in
set_option maxHeartbeats 4000000 in
theorem w_Model_poke_b57 (l : Launch) (D : va_G) (cI cL : ClassId) (h h_kind h_b h_difference h_a h_newKind h_newB h_newDifference h_newA h_log h_packed : Nat) {p : Program} {e : Env} {s : State} {m : MethodId} {args : Array Value} {below : List Frame} {meth : Method} {c : Code} {A : Nat → Prop} (C : Cx p s m args meth c D vwCl [(cI, .int), (cL, .long)] A b_Model_poke 4 none ws_Model_poke y_Model_poke.cls) : ∀ (st : S_Model) (x1 : Int32) (x2 : Int32) (z0 : Bool) (z1 : Bool) (z2 : Bool) (res : S_Model), f_Model_poke_b57 st x1 x2 z0 z1 z2 = some res → ∀ (H : Heap) (locs : List Loc) (ls : Array Slot), Hp D vwCl A A s.heap H locs [(h, .inr (6, [.int st.1, .int st.2.1.2.2.2.2, .ref h_kind, .ref h_b, .ref h_difference, .ref h_a, .int st.2.2.1.2.2.2.2, .ref h_newKind, .ref h_newB, .ref h_newDifference, .ref h_newA, .int st.2.2.2.1.2, .ref h_log, .ref h_packed, .int st.2.2.2.2.1.2, .int st.2.2.2.2.2.1.1, .int st.2.2.2.2.2.1.2.1, .int st.2.2.2.2.2.1.2.2.1, .int st.2.2.2.2.2.1.2.2.2, .int st.2.2.2.2.2.2.1, .int st.2.2.2.2.2.2.2])), (h_kind, .inl (cI, 300, .inl st.2.1.1)), (h_b, .inl (cI, 300, .inl st.2.1.2.2.2.1)), (h_difference, .inl (cL, 300, .inr (.inl st.2.1.2.1))), (h_a, .inl (cL, 300, .inr (.inl st.2.1.2.2.1))), (h_newKind, .inl (cI, 300, .inl st.2.2.1.1)), (h_newB, .inl (cI, 300, .inl st.2.2.1.2.2.2.1)), (h_newDifference, .inl (cL, 300, .inr (.inl st.2.2.1.2.1))), (h_newA, .inl (cL, 300, .inr (.inl st.2.2.1.2.2.1))), (h_log, .inl (cI, 5000, .inl st.2.2.2.1.1)), (h_packed, .inl (cI, 5000, .inl st.2.2.2.2.1.1))] → lv_has ls 4 [(0, .ref h), (1, .int x1), (2, .int x2)] → W p l e { frames := 1, cells := 0, slots := 0, locals := 25 } s m args below meth c H locs 0 0 (MQ below (Qw D vwCl [(cI, .int), (cL, .long)] (none) A [(h, .inr (6, [.int res.1, .int res.2.1.2.2.2.2, .ref h_kind, .ref h_b, .ref h_difference, .ref h_a, .int res.2.2.1.2.2.2.2, .ref h_newKind, .ref h_newB, .ref h_newDifference, .ref h_newA, .int res.2.2.2.1.2, .ref h_log, .ref h_packed, .int res.2.2.2.2.1.2, .int res.2.2.2.2.2.1.1, .int res.2.2.2.2.2.1.2.1, .int res.2.2.2.2.2.1.2.2.1, .int res.2.2.2.2.2.1.2.2.2, .int res.2.2.2.2.2.2.1, .int res.2.2.2.2.2.2.2])), (h_kind, .inl (cI, 300, .inl res.2.1.1)), (h_b, .inl (cI, 300, .inl res.2.1.2.2.2.1)), (h_difference, .inl (cL, 300, .inr (.inl res.2.1.2.1))), (h_a, .inl (cL, 300, .inr (.inl res.2.1.2.2.1))), (h_newKind, .inl (cI, 300, .inl res.2.2.1.1)), (h_newB, .inl (cI, 300, .inl res.2.2.1.2.2.2.1)), (h_newDifference, .inl (cL, 300, .inr (.inl res.2.2.1.2.1))), (h_newA, .inl (cL, 300, .inr (.inl res.2.2.1.2.2.1))), (h_log, .inl (cI, 5000, .inl res.2.2.2.1.1)), (h_packed, .inl (cI, 5000, .inl res.2.2.2.2.1.1))]) args s 0 0 A) (F0 m 57 ls [.int (bI z0), .int (bI z1), .int (bI z2), .ref h]) := by
  obtain ⟨hx, hb, hr, hml, hown, hts, hlk, hK, hA⟩ := id C
  intro st x1 x2 z0 z1 z2 res hf H locs ls hH hl
  unfold f_Model_poke_b57 at hf
  obtain ⟨r57, hr57, hf⟩ := lb hf
  refine fnV (rest := []) (wr := []) (w2 := [(h, .inr (6, [.int r57.2.1, .int r57.2.2.1.2.2.2.2, .ref h_kind, .ref h_b, .ref h_difference, .ref h_a, .int r57.2.2.2.1.2.2.2.2, .ref h_newKind, .ref h_newB, .ref h_newDifference, .ref h_newA, .int r57.2.2.2.2.1.2, .ref h_log, .ref h_packed, .int r57.2.2.2.2.2.1.2, .int r57.2.2.2.2.2.2.1.1, .int r57.2.2.2.2.2.2.1.2.1, .int r57.2.2.2.2.2.2.1.2.2.1, .int r57.2.2.2.2.2.2.1.2.2.2, .int r57.2.2.2.2.2.2.2.1, .int r57.2.2.2.2.2.2.2.2])), (h_kind, .inl (cI, 300, .inl r57.2.2.1.1)), (h_b, .inl (cI, 300, .inl r57.2.2.1.2.2.2.1)), (h_difference, .inl (cL, 300, .inr (.inl r57.2.2.1.2.1))), (h_a, .inl (cL, 300, .inr (.inl r57.2.2.1.2.2.1))), (h_newKind, .inl (cI, 300, .inl r57.2.2.2.1.1)), (h_newB, .inl (cI, 300, .inl r57.2.2.2.1.2.2.2.1)), (h_newDifference, .inl (cL, 300, .inr (.inl r57.2.2.2.1.2.1))), (h_newA, .inl (cL, 300, .inr (.inl r57.2.2.2.1.2.2.1))), (h_log, .inl (cI, 5000, .inl r57.2.2.2.2.1.1)), (h_packed, .inl (cI, 5000, .inl r57.2.2.2.2.2.1.1))]) (st2 := [.int (bI r57.1)]) C (c_Model_fails l D cI cL h h_kind h_b h_difference h_a h_newKind h_newB h_newDifference h_newA h_log h_packed st z2 z1 z0 r57 hr57) (cV hts kV_Model_fails wd_679 ⟨Nat.le_of_ble_eq_true rfl, Nat.le_of_ble_eq_true rfl⟩) hH [0, 1, 2, 3, 4, 5, 6, 7, 8, 9, 10] [] [0, 1, 2, 3, 4, 5, 6, 7, 8, 9, 10] rfl rfl rfl rfl (by decide) rfl rfl 0 rfl rfl rfl hl.1 rfl (Nat.le_of_ble_eq_true rfl) d_Model_poke_57 ⟨Nat.le_of_ble_eq_true rfl, Nat.le_of_ble_eq_true rfl⟩ rfl (fun H locs hH => ?_)
  refine lv_if_eq (tgt := 64) hx hb d_Model_poke_60 (by decide) (fun hc60 => ?_) (fun hc60 => ?_)
  · have hf := ip hc60 hf
    refine lv_aload_n hx hb d_Model_poke_64 rfl (lv_at hl 0 rfl) ?_
    refine gt (ci := 6) (v := .ref h_log) C hH (iwT iw_Model) 0 rfl rfl 12 (by decide) (.tail _ wd_608) rfl d_Model_poke_65 ?_
    refine lv_iload_n hx hb d_Model_poke_68 rfl (lv_at hl 1 rfl) ?_
    refine lv_iload_n hx hb d_Model_poke_69 rfl (lv_at hl 2 rfl) ?_
    obtain ⟨hin70, hf⟩ := oa hf
    refine asi C hH 9 0 rfl rfl (hin70) d_Model_poke_70 [(h, .inr (6, [.int r57.2.1, .int r57.2.2.1.2.2.2.2, .ref h_kind, .ref h_b, .ref h_difference, .ref h_a, .int r57.2.2.2.1.2.2.2.2, .ref h_newKind, .ref h_newB, .ref h_newDifference, .ref h_newA, .int r57.2.2.2.2.1.2, .ref h_log, .ref h_packed, .int r57.2.2.2.2.2.1.2, .int r57.2.2.2.2.2.2.1.1, .int r57.2.2.2.2.2.2.1.2.1, .int r57.2.2.2.2.2.2.1.2.2.1, .int r57.2.2.2.2.2.2.1.2.2.2, .int r57.2.2.2.2.2.2.2.1, .int r57.2.2.2.2.2.2.2.2])), (h_kind, .inl (cI, 300, .inl r57.2.2.1.1)), (h_b, .inl (cI, 300, .inl r57.2.2.1.2.2.2.1)), (h_difference, .inl (cL, 300, .inr (.inl r57.2.2.1.2.1))), (h_a, .inl (cL, 300, .inr (.inl r57.2.2.1.2.2.1))), (h_newKind, .inl (cI, 300, .inl r57.2.2.2.1.1)), (h_newB, .inl (cI, 300, .inl r57.2.2.2.1.2.2.2.1)), (h_newDifference, .inl (cL, 300, .inr (.inl r57.2.2.2.1.2.1))), (h_newA, .inl (cL, 300, .inr (.inl r57.2.2.2.1.2.2.1))), (h_log, .inl (cI, 5000, .inl (upd r57.2.2.2.2.1.1 x1.toNatClampNeg x2))), (h_packed, .inl (cI, 5000, .inl r57.2.2.2.2.2.1.1))] rfl (fun H locs hH => ?_)
    refine lv_aload_n hx hb d_Model_poke_71 rfl (lv_at hl 0 rfl) ?_
    refine lv_iload_n hx hb d_Model_poke_72 rfl (lv_at hl 1 rfl) ?_
    refine lv_aload_n hx hb d_Model_poke_73 rfl (lv_at hl 0 rfl) ?_
    refine gt (ci := 6) (v := .int r57.2.2.2.2.1.2) C hH (iwT iw_Model) 0 rfl rfl 11 (by decide) (.tail _ wd_607) rfl d_Model_poke_74 ?_
    refine lv_icmp_ne (tgt := 89) hx hb d_Model_poke_77 (by decide) (fun hc77 => ?_) (fun hc77 => ?_)
    · have hf := im hc77 hf
      refine lv_aload_n hx hb d_Model_poke_89 rfl (lv_at hl 0 rfl) ?_
      refine gt (ci := 6) (v := .int r57.2.2.2.2.1.2) C hH (iwT iw_Model) 0 rfl rfl 11 (by decide) (.tail _ wd_607) rfl d_Model_poke_90 ?_
      refine pt (ci := 6) (v := .int r57.2.2.2.2.1.2) C hH (iwT iw_Model) ty_Model tyok_Model nm_Model 0 rfl rfl 11 (by decide) (.tail _ wd_607) rfl rfl rfl (Nat.le_of_ble_eq_true rfl) d_Model_poke_93 [(h, .inr (6, [.int r57.2.1, .int r57.2.2.1.2.2.2.2, .ref h_kind, .ref h_b, .ref h_difference, .ref h_a, .int r57.2.2.2.1.2.2.2.2, .ref h_newKind, .ref h_newB, .ref h_newDifference, .ref h_newA, .int r57.2.2.2.2.1.2, .ref h_log, .ref h_packed, .int r57.2.2.2.2.2.1.2, .int r57.2.2.2.2.2.2.1.1, .int r57.2.2.2.2.2.2.1.2.1, .int r57.2.2.2.2.2.2.1.2.2.1, .int r57.2.2.2.2.2.2.1.2.2.2, .int r57.2.2.2.2.2.2.2.1, .int r57.2.2.2.2.2.2.2.2])), (h_kind, .inl (cI, 300, .inl r57.2.2.1.1)), (h_b, .inl (cI, 300, .inl r57.2.2.1.2.2.2.1)), (h_difference, .inl (cL, 300, .inr (.inl r57.2.2.1.2.1))), (h_a, .inl (cL, 300, .inr (.inl r57.2.2.1.2.2.1))), (h_newKind, .inl (cI, 300, .inl r57.2.2.2.1.1)), (h_newB, .inl (cI, 300, .inl r57.2.2.2.1.2.2.2.1)), (h_newDifference, .inl (cL, 300, .inr (.inl r57.2.2.2.1.2.1))), (h_newA, .inl (cL, 300, .inr (.inl r57.2.2.2.1.2.2.1))), (h_log, .inl (cI, 5000, .inl (upd r57.2.2.2.2.1.1 x1.toNatClampNeg x2))), (h_packed, .inl (cI, 5000, .inl r57.2.2.2.2.2.1.1))] rfl (fun H locs hH => ?_)
      have hf := Option.some.inj hf
      subst hf
      exact rV C hH d_Model_poke_96
    · have hf := ip hc77 hf
      refine lv_aload_n hx hb d_Model_poke_80 rfl (lv_at hl 0 rfl) ?_
      refine gt (ci := 6) (v := .int r57.2.2.2.2.1.2) C hH (iwT iw_Model) 0 rfl rfl 11 (by decide) (.tail _ wd_607) rfl d_Model_poke_81 ?_
      refine lv_iconst (v := 1) hx hb d_Model_poke_84 (by decide) ?_
      refine lv_iadd hx hb d_Model_poke_85 ?_
      refine lv_goto (tgt := 93) hx hb d_Model_poke_86 (by decide) ?_
      refine pt (ci := 6) (v := .int (r57.2.2.2.2.1.2 + 1)) C hH (iwT iw_Model) ty_Model tyok_Model nm_Model 0 rfl rfl 11 (by decide) (.tail _ wd_607) rfl rfl rfl (Nat.le_of_ble_eq_true rfl) d_Model_poke_93 [(h, .inr (6, [.int r57.2.1, .int r57.2.2.1.2.2.2.2, .ref h_kind, .ref h_b, .ref h_difference, .ref h_a, .int r57.2.2.2.1.2.2.2.2, .ref h_newKind, .ref h_newB, .ref h_newDifference, .ref h_newA, .int (r57.2.2.2.2.1.2 + 1), .ref h_log, .ref h_packed, .int r57.2.2.2.2.2.1.2, .int r57.2.2.2.2.2.2.1.1, .int r57.2.2.2.2.2.2.1.2.1, .int r57.2.2.2.2.2.2.1.2.2.1, .int r57.2.2.2.2.2.2.1.2.2.2, .int r57.2.2.2.2.2.2.2.1, .int r57.2.2.2.2.2.2.2.2])), (h_kind, .inl (cI, 300, .inl r57.2.2.1.1)), (h_b, .inl (cI, 300, .inl r57.2.2.1.2.2.2.1)), (h_difference, .inl (cL, 300, .inr (.inl r57.2.2.1.2.1))), (h_a, .inl (cL, 300, .inr (.inl r57.2.2.1.2.2.1))), (h_newKind, .inl (cI, 300, .inl r57.2.2.2.1.1)), (h_newB, .inl (cI, 300, .inl r57.2.2.2.1.2.2.2.1)), (h_newDifference, .inl (cL, 300, .inr (.inl r57.2.2.2.1.2.1))), (h_newA, .inl (cL, 300, .inr (.inl r57.2.2.2.1.2.2.1))), (h_log, .inl (cI, 5000, .inl (upd r57.2.2.2.2.1.1 x1.toNatClampNeg x2))), (h_packed, .inl (cI, 5000, .inl r57.2.2.2.2.2.1.1))] rfl (fun H locs hH => ?_)
      have hf := Option.some.inj hf
      subst hf
      exact rV C hH d_Model_poke_96
  · have hf := im hc60 hf
    have hf := Option.some.inj hf
    subst hf
    exact rV C hH d_Model_poke_63
def f_Model_poke_b45 (st : S_Model) (x1 : Int32) (x2 : Int32) (z0 : Bool) (z1 : Bool) : Option (S_Model) :=
  if x1 = (5000 : Int32) then (f_Model_poke_b57 st x1 x2 true z0 z1) else (f_Model_poke_b57 st x1 x2 false z0 z1)
set_option maxRecDepth 100000 in
set_option maxHeartbeats 4000000 in
theorem w_Model_poke_b45 (l : Launch) (D : va_G) (cI cL : ClassId) (h h_kind h_b h_difference h_a h_newKind h_newB h_newDifference h_newA h_log h_packed : Nat) {p : Program} {e : Env} {s : State} {m : MethodId} {args : Array Value} {below : List Frame} {meth : Method} {c : Code} {A : Nat → Prop} (C : Cx p s m args meth c D vwCl [(cI, .int), (cL, .long)] A b_Model_poke 4 none ws_Model_poke y_Model_poke.cls) : ∀ (st : S_Model) (x1 : Int32) (x2 : Int32) (z0 : Bool) (z1 : Bool) (res : S_Model), f_Model_poke_b45 st x1 x2 z0 z1 = some res → ∀ (H : Heap) (locs : List Loc) (ls : Array Slot), Hp D vwCl A A s.heap H locs [(h, .inr (6, [.int st.1, .int st.2.1.2.2.2.2, .ref h_kind, .ref h_b, .ref h_difference, .ref h_a, .int st.2.2.1.2.2.2.2, .ref h_newKind, .ref h_newB, .ref h_newDifference, .ref h_newA, .int st.2.2.2.1.2, .ref h_log, .ref h_packed, .int st.2.2.2.2.1.2, .int st.2.2.2.2.2.1.1, .int st.2.2.2.2.2.1.2.1, .int st.2.2.2.2.2.1.2.2.1, .int st.2.2.2.2.2.1.2.2.2, .int st.2.2.2.2.2.2.1, .int st.2.2.2.2.2.2.2])), (h_kind, .inl (cI, 300, .inl st.2.1.1)), (h_b, .inl (cI, 300, .inl st.2.1.2.2.2.1)), (h_difference, .inl (cL, 300, .inr (.inl st.2.1.2.1))), (h_a, .inl (cL, 300, .inr (.inl st.2.1.2.2.1))), (h_newKind, .inl (cI, 300, .inl st.2.2.1.1)), (h_newB, .inl (cI, 300, .inl st.2.2.1.2.2.2.1)), (h_newDifference, .inl (cL, 300, .inr (.inl st.2.2.1.2.1))), (h_newA, .inl (cL, 300, .inr (.inl st.2.2.1.2.2.1))), (h_log, .inl (cI, 5000, .inl st.2.2.2.1.1)), (h_packed, .inl (cI, 5000, .inl st.2.2.2.2.1.1))] → lv_has ls 4 [(0, .ref h), (1, .int x1), (2, .int x2)] → W p l e { frames := 1, cells := 0, slots := 0, locals := 25 } s m args below meth c H locs 0 0 (MQ below (Qw D vwCl [(cI, .int), (cL, .long)] (none) A [(h, .inr (6, [.int res.1, .int res.2.1.2.2.2.2, .ref h_kind, .ref h_b, .ref h_difference, .ref h_a, .int res.2.2.1.2.2.2.2, .ref h_newKind, .ref h_newB, .ref h_newDifference, .ref h_newA, .int res.2.2.2.1.2, .ref h_log, .ref h_packed, .int res.2.2.2.2.1.2, .int res.2.2.2.2.2.1.1, .int res.2.2.2.2.2.1.2.1, .int res.2.2.2.2.2.1.2.2.1, .int res.2.2.2.2.2.1.2.2.2, .int res.2.2.2.2.2.2.1, .int res.2.2.2.2.2.2.2])), (h_kind, .inl (cI, 300, .inl res.2.1.1)), (h_b, .inl (cI, 300, .inl res.2.1.2.2.2.1)), (h_difference, .inl (cL, 300, .inr (.inl res.2.1.2.1))), (h_a, .inl (cL, 300, .inr (.inl res.2.1.2.2.1))), (h_newKind, .inl (cI, 300, .inl res.2.2.1.1)), (h_newB, .inl (cI, 300, .inl res.2.2.1.2.2.2.1)), (h_newDifference, .inl (cL, 300, .inr (.inl res.2.2.1.2.1))), (h_newA, .inl (cL, 300, .inr (.inl res.2.2.1.2.2.1))), (h_log, .inl (cI, 5000, .inl res.2.2.2.1.1)), (h_packed, .inl (cI, 5000, .inl res.2.2.2.2.1.1))]) args s 0 0 A) (F0 m 45 ls [.int (bI z0), .int (bI z1), .ref h]) := by
  obtain ⟨hx, hb, hr, hml, hown, hts, hlk, hK, hA⟩ := id C
  intro st x1 x2 z0 z1 res hf H locs ls hH hl
  unfold f_Model_poke_b45 at hf
  refine lv_iload_n hx hb d_Model_poke_45 rfl (lv_at hl 1 rfl) ?_
  refine lv_sipush (v := 5000) hx hb d_Model_poke_46 (by decide) ?_
  refine lv_icmp_ne (tgt := 56) hx hb d_Model_poke_49 (by decide) (fun hc49 => ?_) (fun hc49 => ?_)
  · have hf := im hc49 hf
    refine lv_iconst (v := 0) hx hb d_Model_poke_56 (by decide) ?_
    exact w_Model_poke_b57 l D cI cL h h_kind h_b h_difference h_a h_newKind h_newB h_newDifference h_newA h_log h_packed C st x1 x2 false z0 z1 res hf _ _ _ hH (lv_sub hl [0, 1, 2] rfl)
  · have hf := ip hc49 hf
    refine lv_iconst (v := 1) hx hb d_Model_poke_52 (by decide) ?_
    refine lv_goto (tgt := 57) hx hb d_Model_poke_53 (by decide) ?_
    exact w_Model_poke_b57 l D cI cL h h_kind h_b h_difference h_a h_newKind h_newB h_newDifference h_newA h_log h_packed C st x1 x2 true z0 z1 res hf _ _ _ hH (lv_sub hl [0, 1, 2] rfl)
def f_Model_poke_b36 (st : S_Model) (x1 : Int32) (x2 : Int32) (x3 : Bool) (z0 : Bool) : Option (S_Model) :=
  if (bI x3) = 0 then (f_Model_poke_b45 st x1 x2 true z0) else (f_Model_poke_b45 st x1 x2 false z0)
set_option maxRecDepth 100000 in
set_option maxHeartbeats 4000000 in
theorem w_Model_poke_b36 (l : Launch) (D : va_G) (cI cL : ClassId) (h h_kind h_b h_difference h_a h_newKind h_newB h_newDifference h_newA h_log h_packed : Nat) {p : Program} {e : Env} {s : State} {m : MethodId} {args : Array Value} {below : List Frame} {meth : Method} {c : Code} {A : Nat → Prop} (C : Cx p s m args meth c D vwCl [(cI, .int), (cL, .long)] A b_Model_poke 4 none ws_Model_poke y_Model_poke.cls) : ∀ (st : S_Model) (x1 : Int32) (x2 : Int32) (x3 : Bool) (z0 : Bool) (res : S_Model), f_Model_poke_b36 st x1 x2 x3 z0 = some res → ∀ (H : Heap) (locs : List Loc) (ls : Array Slot), Hp D vwCl A A s.heap H locs [(h, .inr (6, [.int st.1, .int st.2.1.2.2.2.2, .ref h_kind, .ref h_b, .ref h_difference, .ref h_a, .int st.2.2.1.2.2.2.2, .ref h_newKind, .ref h_newB, .ref h_newDifference, .ref h_newA, .int st.2.2.2.1.2, .ref h_log, .ref h_packed, .int st.2.2.2.2.1.2, .int st.2.2.2.2.2.1.1, .int st.2.2.2.2.2.1.2.1, .int st.2.2.2.2.2.1.2.2.1, .int st.2.2.2.2.2.1.2.2.2, .int st.2.2.2.2.2.2.1, .int st.2.2.2.2.2.2.2])), (h_kind, .inl (cI, 300, .inl st.2.1.1)), (h_b, .inl (cI, 300, .inl st.2.1.2.2.2.1)), (h_difference, .inl (cL, 300, .inr (.inl st.2.1.2.1))), (h_a, .inl (cL, 300, .inr (.inl st.2.1.2.2.1))), (h_newKind, .inl (cI, 300, .inl st.2.2.1.1)), (h_newB, .inl (cI, 300, .inl st.2.2.1.2.2.2.1)), (h_newDifference, .inl (cL, 300, .inr (.inl st.2.2.1.2.1))), (h_newA, .inl (cL, 300, .inr (.inl st.2.2.1.2.2.1))), (h_log, .inl (cI, 5000, .inl st.2.2.2.1.1)), (h_packed, .inl (cI, 5000, .inl st.2.2.2.2.1.1))] → lv_has ls 4 [(0, .ref h), (1, .int x1), (2, .int x2), (3, .int (bI x3))] → W p l e { frames := 1, cells := 0, slots := 0, locals := 25 } s m args below meth c H locs 0 0 (MQ below (Qw D vwCl [(cI, .int), (cL, .long)] (none) A [(h, .inr (6, [.int res.1, .int res.2.1.2.2.2.2, .ref h_kind, .ref h_b, .ref h_difference, .ref h_a, .int res.2.2.1.2.2.2.2, .ref h_newKind, .ref h_newB, .ref h_newDifference, .ref h_newA, .int res.2.2.2.1.2, .ref h_log, .ref h_packed, .int res.2.2.2.2.1.2, .int res.2.2.2.2.2.1.1, .int res.2.2.2.2.2.1.2.1, .int res.2.2.2.2.2.1.2.2.1, .int res.2.2.2.2.2.1.2.2.2, .int res.2.2.2.2.2.2.1, .int res.2.2.2.2.2.2.2])), (h_kind, .inl (cI, 300, .inl res.2.1.1)), (h_b, .inl (cI, 300, .inl res.2.1.2.2.2.1)), (h_difference, .inl (cL, 300, .inr (.inl res.2.1.2.1))), (h_a, .inl (cL, 300, .inr (.inl res.2.1.2.2.1))), (h_newKind, .inl (cI, 300, .inl res.2.2.1.1)), (h_newB, .inl (cI, 300, .inl res.2.2.1.2.2.2.1)), (h_newDifference, .inl (cL, 300, .inr (.inl res.2.2.1.2.1))), (h_newA, .inl (cL, 300, .inr (.inl res.2.2.1.2.2.1))), (h_log, .inl (cI, 5000, .inl res.2.2.2.1.1)), (h_packed, .inl (cI, 5000, .inl res.2.2.2.2.1.1))]) args s 0 0 A) (F0 m 36 ls [.int (bI z0), .ref h]) := by
  obtain ⟨hx, hb, hr, hml, hown, hts, hlk, hK, hA⟩ := id C
  intro st x1 x2 x3 z0 res hf H locs ls hH hl
  unfold f_Model_poke_b36 at hf
  refine lv_iload_n hx hb d_Model_poke_36 rfl (lv_at hl 3 rfl) ?_
  refine lv_if_ne (tgt := 44) hx hb d_Model_poke_37 (by decide) (fun hc37 => ?_) (fun hc37 => ?_)
  · have hf := im hc37 hf
    refine lv_iconst (v := 0) hx hb d_Model_poke_44 (by decide) ?_
    exact w_Model_poke_b45 l D cI cL h h_kind h_b h_difference h_a h_newKind h_newB h_newDifference h_newA h_log h_packed C st x1 x2 false z0 res hf _ _ _ hH (lv_sub hl [0, 1, 2] rfl)
  · have hf := ip hc37 hf
    refine lv_iconst (v := 1) hx hb d_Model_poke_40 (by decide) ?_
    refine lv_goto (tgt := 45) hx hb d_Model_poke_41 (by decide) ?_
    exact w_Model_poke_b45 l D cI cL h h_kind h_b h_difference h_a h_newKind h_newB h_newDifference h_newA h_log h_packed C st x1 x2 true z0 res hf _ _ _ hH (lv_sub hl [0, 1, 2] rfl)
def f_Model_poke_b17 (st : S_Model) (x1 : Int32) (x2 : Int32) (z0 : Bool) : Option (S_Model) :=
  if (bI (f_Model_in x2.toInt64 0 255)) = 0 then (f_Model_poke_b36 st x1 x2 z0 true) else (f_Model_poke_b36 st x1 x2 z0 false)
set_option maxRecDepth 100000 in
set_option maxHeartbeats 4000000 in
theorem w_Model_poke_b17 (l : Launch) (D : va_G) (cI cL : ClassId) (h h_kind h_b h_difference h_a h_newKind h_newB h_newDifference h_newA h_log h_packed : Nat) {p : Program} {e : Env} {s : State} {m : MethodId} {args : Array Value} {below : List Frame} {meth : Method} {c : Code} {A : Nat → Prop} (C : Cx p s m args meth c D vwCl [(cI, .int), (cL, .long)] A b_Model_poke 4 none ws_Model_poke y_Model_poke.cls) : ∀ (st : S_Model) (x1 : Int32) (x2 : Int32) (z0 : Bool) (res : S_Model), f_Model_poke_b17 st x1 x2 z0 = some res → ∀ (H : Heap) (locs : List Loc) (ls : Array Slot), Hp D vwCl A A s.heap H locs [(h, .inr (6, [.int st.1, .int st.2.1.2.2.2.2, .ref h_kind, .ref h_b, .ref h_difference, .ref h_a, .int st.2.2.1.2.2.2.2, .ref h_newKind, .ref h_newB, .ref h_newDifference, .ref h_newA, .int st.2.2.2.1.2, .ref h_log, .ref h_packed, .int st.2.2.2.2.1.2, .int st.2.2.2.2.2.1.1, .int st.2.2.2.2.2.1.2.1, .int st.2.2.2.2.2.1.2.2.1, .int st.2.2.2.2.2.1.2.2.2, .int st.2.2.2.2.2.2.1, .int st.2.2.2.2.2.2.2])), (h_kind, .inl (cI, 300, .inl st.2.1.1)), (h_b, .inl (cI, 300, .inl st.2.1.2.2.2.1)), (h_difference, .inl (cL, 300, .inr (.inl st.2.1.2.1))), (h_a, .inl (cL, 300, .inr (.inl st.2.1.2.2.1))), (h_newKind, .inl (cI, 300, .inl st.2.2.1.1)), (h_newB, .inl (cI, 300, .inl st.2.2.1.2.2.2.1)), (h_newDifference, .inl (cL, 300, .inr (.inl st.2.2.1.2.1))), (h_newA, .inl (cL, 300, .inr (.inl st.2.2.1.2.2.1))), (h_log, .inl (cI, 5000, .inl st.2.2.2.1.1)), (h_packed, .inl (cI, 5000, .inl st.2.2.2.2.1.1))] → lv_has ls 4 [(0, .ref h), (1, .int x1), (2, .int x2)] → W p l e { frames := 1, cells := 0, slots := 0, locals := 25 } s m args below meth c H locs 0 0 (MQ below (Qw D vwCl [(cI, .int), (cL, .long)] (none) A [(h, .inr (6, [.int res.1, .int res.2.1.2.2.2.2, .ref h_kind, .ref h_b, .ref h_difference, .ref h_a, .int res.2.2.1.2.2.2.2, .ref h_newKind, .ref h_newB, .ref h_newDifference, .ref h_newA, .int res.2.2.2.1.2, .ref h_log, .ref h_packed, .int res.2.2.2.2.1.2, .int res.2.2.2.2.2.1.1, .int res.2.2.2.2.2.1.2.1, .int res.2.2.2.2.2.1.2.2.1, .int res.2.2.2.2.2.1.2.2.2, .int res.2.2.2.2.2.2.1, .int res.2.2.2.2.2.2.2])), (h_kind, .inl (cI, 300, .inl res.2.1.1)), (h_b, .inl (cI, 300, .inl res.2.1.2.2.2.1)), (h_difference, .inl (cL, 300, .inr (.inl res.2.1.2.1))), (h_a, .inl (cL, 300, .inr (.inl res.2.1.2.2.1))), (h_newKind, .inl (cI, 300, .inl res.2.2.1.1)), (h_newB, .inl (cI, 300, .inl res.2.2.1.2.2.2.1)), (h_newDifference, .inl (cL, 300, .inr (.inl res.2.2.1.2.1))), (h_newA, .inl (cL, 300, .inr (.inl res.2.2.1.2.2.1))), (h_log, .inl (cI, 5000, .inl res.2.2.2.1.1)), (h_packed, .inl (cI, 5000, .inl res.2.2.2.2.1.1))]) args s 0 0 A) (F0 m 17 ls [.int (bI z0)]) := by
  obtain ⟨hx, hb, hr, hml, hown, hts, hlk, hK, hA⟩ := id C
  intro st x1 x2 z0 res hf H locs ls hH hl
  unfold f_Model_poke_b17 at hf
  refine lv_istore_n (lv' := [(3, .int (bI z0)), (0, .ref h), (1, .int x1), (2, .int x2)]) hx hb d_Model_poke_17 rfl hl (by decide) rfl (fun ls hl => ?_)
  refine lv_aload_n hx hb d_Model_poke_18 rfl (lv_at hl 1 rfl) ?_
  refine lv_iload_n hx hb d_Model_poke_19 rfl (lv_at hl 3 rfl) ?_
  refine lv_i2l (v := x2.toInt64) hx hb d_Model_poke_20 rfl ?_
  refine lv_lconst (v := 0) hx hb d_Model_poke_21 (by decide) ?_
  refine lv_ldc2 (v := 255) hx hb hown (hts _ (.tail _ wd_780)) d_Model_poke_22 ?_
  refine fnSR (rest := [.ref h]) (st2 := [.int (bI (f_Model_in x2.toInt64 0 255)), .ref h]) C (c_Model_in l D cI cL  x2.toInt64 0 255 _ rfl) (cS hts kS_Model_in wd_672 ⟨Nat.le_of_ble_eq_true rfl, Nat.le_of_ble_eq_true rfl⟩) hH [] rfl rfl rfl hl.1 rfl (Nat.le_of_ble_eq_true rfl) d_Model_poke_25 ⟨Nat.le_of_ble_eq_true rfl, Nat.le_of_ble_eq_true rfl⟩ rfl (fun H locs hH => ?_)
  refine lv_if_ne (tgt := 35) hx hb d_Model_poke_28 (by decide) (fun hc28 => ?_) (fun hc28 => ?_)
  · have hf := im hc28 hf
    refine lv_iconst (v := 0) hx hb d_Model_poke_35 (by decide) ?_
    exact w_Model_poke_b36 l D cI cL h h_kind h_b h_difference h_a h_newKind h_newB h_newDifference h_newA h_log h_packed C st x1 x2 z0 false res hf _ _ _ hH (lv_sub hl [1, 2, 3, 0] rfl)
  · have hf := ip hc28 hf
    refine lv_iconst (v := 1) hx hb d_Model_poke_31 (by decide) ?_
    refine lv_goto (tgt := 36) hx hb d_Model_poke_32 (by decide) ?_
    exact w_Model_poke_b36 l D cI cL h h_kind h_b h_difference h_a h_newKind h_newB h_newDifference h_newA h_log h_packed C st x1 x2 z0 true res hf _ _ _ hH (lv_sub hl [1, 2, 3, 0] rfl)
def f_Model_poke_b16 (st : S_Model) (x1 : Int32) (x2 : Int32) : Option (S_Model) :=
  f_Model_poke_b17 st x1 x2 false
set_option maxRecDepth 100000 in
set_option maxHeartbeats 4000000 in
theorem w_Model_poke_b16 (l : Launch) (D : va_G) (cI cL : ClassId) (h h_kind h_b h_difference h_a h_newKind h_newB h_newDifference h_newA h_log h_packed : Nat) {p : Program} {e : Env} {s : State} {m : MethodId} {args : Array Value} {below : List Frame} {meth : Method} {c : Code} {A : Nat → Prop} (C : Cx p s m args meth c D vwCl [(cI, .int), (cL, .long)] A b_Model_poke 4 none ws_Model_poke y_Model_poke.cls) : ∀ (st : S_Model) (x1 : Int32) (x2 : Int32) (res : S_Model), f_Model_poke_b16 st x1 x2 = some res → ∀ (H : Heap) (locs : List Loc) (ls : Array Slot), Hp D vwCl A A s.heap H locs [(h, .inr (6, [.int st.1, .int st.2.1.2.2.2.2, .ref h_kind, .ref h_b, .ref h_difference, .ref h_a, .int st.2.2.1.2.2.2.2, .ref h_newKind, .ref h_newB, .ref h_newDifference, .ref h_newA, .int st.2.2.2.1.2, .ref h_log, .ref h_packed, .int st.2.2.2.2.1.2, .int st.2.2.2.2.2.1.1, .int st.2.2.2.2.2.1.2.1, .int st.2.2.2.2.2.1.2.2.1, .int st.2.2.2.2.2.1.2.2.2, .int st.2.2.2.2.2.2.1, .int st.2.2.2.2.2.2.2])), (h_kind, .inl (cI, 300, .inl st.2.1.1)), (h_b, .inl (cI, 300, .inl st.2.1.2.2.2.1)), (h_difference, .inl (cL, 300, .inr (.inl st.2.1.2.1))), (h_a, .inl (cL, 300, .inr (.inl st.2.1.2.2.1))), (h_newKind, .inl (cI, 300, .inl st.2.2.1.1)), (h_newB, .inl (cI, 300, .inl st.2.2.1.2.2.2.1)), (h_newDifference, .inl (cL, 300, .inr (.inl st.2.2.1.2.1))), (h_newA, .inl (cL, 300, .inr (.inl st.2.2.1.2.2.1))), (h_log, .inl (cI, 5000, .inl st.2.2.2.1.1)), (h_packed, .inl (cI, 5000, .inl st.2.2.2.2.1.1))] → lv_has ls 4 [(0, .ref h), (1, .int x1), (2, .int x2)] → W p l e { frames := 1, cells := 0, slots := 0, locals := 25 } s m args below meth c H locs 0 0 (MQ below (Qw D vwCl [(cI, .int), (cL, .long)] (none) A [(h, .inr (6, [.int res.1, .int res.2.1.2.2.2.2, .ref h_kind, .ref h_b, .ref h_difference, .ref h_a, .int res.2.2.1.2.2.2.2, .ref h_newKind, .ref h_newB, .ref h_newDifference, .ref h_newA, .int res.2.2.2.1.2, .ref h_log, .ref h_packed, .int res.2.2.2.2.1.2, .int res.2.2.2.2.2.1.1, .int res.2.2.2.2.2.1.2.1, .int res.2.2.2.2.2.1.2.2.1, .int res.2.2.2.2.2.1.2.2.2, .int res.2.2.2.2.2.2.1, .int res.2.2.2.2.2.2.2])), (h_kind, .inl (cI, 300, .inl res.2.1.1)), (h_b, .inl (cI, 300, .inl res.2.1.2.2.2.1)), (h_difference, .inl (cL, 300, .inr (.inl res.2.1.2.1))), (h_a, .inl (cL, 300, .inr (.inl res.2.1.2.2.1))), (h_newKind, .inl (cI, 300, .inl res.2.2.1.1)), (h_newB, .inl (cI, 300, .inl res.2.2.1.2.2.2.1)), (h_newDifference, .inl (cL, 300, .inr (.inl res.2.2.1.2.1))), (h_newA, .inl (cL, 300, .inr (.inl res.2.2.1.2.2.1))), (h_log, .inl (cI, 5000, .inl res.2.2.2.1.1)), (h_packed, .inl (cI, 5000, .inl res.2.2.2.2.1.1))]) args s 0 0 A) (F0 m 16 ls []) := by
  obtain ⟨hx, hb, hr, hml, hown, hts, hlk, hK, hA⟩ := id C
  intro st x1 x2 res hf H locs ls hH hl
  unfold f_Model_poke_b16 at hf
  refine lv_iconst (v := 0) hx hb d_Model_poke_16 (by decide) ?_
  exact w_Model_poke_b17 l D cI cL h h_kind h_b h_difference h_a h_newKind h_newB h_newDifference h_newA h_log h_packed C st x1 x2 false res hf _ _ _ hH (lv_sub hl [0, 1, 2] rfl)
def f_Model_poke (st : S_Model) (x1 : Int32) (x2 : Int32) : Option (S_Model) :=
  if x1 < 0 then (f_Model_poke_b16 st x1 x2) else (if st.2.2.2.1.2 < x1 then (f_Model_poke_b16 st x1 x2) else (f_Model_poke_b17 st x1 x2 true))
set_option maxRecDepth 100000 in
set_option maxHeartbeats 4000000 in
theorem c_Model_poke (l : Launch) (D : va_G) (cI cL : ClassId) (h h_kind h_b h_difference h_a h_newKind h_newB h_newDifference h_newA h_log h_packed : Nat) (st : S_Model) (x1 : Int32) (x2 : Int32) (res : S_Model) (hf : f_Model_poke st x1 x2 = some res) :
    Fn l D vwCl [(cI, .int), (cL, .long)] y_Model_poke ws_Model_poke { frames := 1, cells := 0, slots := 0, locals := 25 } [.ref h, .int x1, .int x2] [(h, .inr (6, [.int st.1, .int st.2.1.2.2.2.2, .ref h_kind, .ref h_b, .ref h_difference, .ref h_a, .int st.2.2.1.2.2.2.2, .ref h_newKind, .ref h_newB, .ref h_newDifference, .ref h_newA, .int st.2.2.2.1.2, .ref h_log, .ref h_packed, .int st.2.2.2.2.1.2, .int st.2.2.2.2.2.1.1, .int st.2.2.2.2.2.1.2.1, .int st.2.2.2.2.2.1.2.2.1, .int st.2.2.2.2.2.1.2.2.2, .int st.2.2.2.2.2.2.1, .int st.2.2.2.2.2.2.2])), (h_kind, .inl (cI, 300, .inl st.2.1.1)), (h_b, .inl (cI, 300, .inl st.2.1.2.2.2.1)), (h_difference, .inl (cL, 300, .inr (.inl st.2.1.2.1))), (h_a, .inl (cL, 300, .inr (.inl st.2.1.2.2.1))), (h_newKind, .inl (cI, 300, .inl st.2.2.1.1)), (h_newB, .inl (cI, 300, .inl st.2.2.1.2.2.2.1)), (h_newDifference, .inl (cL, 300, .inr (.inl st.2.2.1.2.1))), (h_newA, .inl (cL, 300, .inr (.inl st.2.2.1.2.2.1))), (h_log, .inl (cI, 5000, .inl st.2.2.2.1.1)), (h_packed, .inl (cI, 5000, .inl st.2.2.2.2.1.1))] (none) [(h, .inr (6, [.int res.1, .int res.2.1.2.2.2.2, .ref h_kind, .ref h_b, .ref h_difference, .ref h_a, .int res.2.2.1.2.2.2.2, .ref h_newKind, .ref h_newB, .ref h_newDifference, .ref h_newA, .int res.2.2.2.1.2, .ref h_log, .ref h_packed, .int res.2.2.2.2.1.2, .int res.2.2.2.2.2.1.1, .int res.2.2.2.2.2.1.2.1, .int res.2.2.2.2.2.1.2.2.1, .int res.2.2.2.2.2.1.2.2.2, .int res.2.2.2.2.2.2.1, .int res.2.2.2.2.2.2.2])), (h_kind, .inl (cI, 300, .inl res.2.1.1)), (h_b, .inl (cI, 300, .inl res.2.1.2.2.2.1)), (h_difference, .inl (cL, 300, .inr (.inl res.2.1.2.1))), (h_a, .inl (cL, 300, .inr (.inl res.2.1.2.2.1))), (h_newKind, .inl (cI, 300, .inl res.2.2.1.1)), (h_newB, .inl (cI, 300, .inl res.2.2.1.2.2.2.1)), (h_newDifference, .inl (cL, 300, .inr (.inl res.2.2.1.2.1))), (h_newA, .inl (cL, 300, .inr (.inl res.2.2.1.2.2.1))), (h_log, .inl (cI, 5000, .inl res.2.2.2.1.1)), (h_packed, .inl (cI, 5000, .inl res.2.2.2.2.1.1))] := by
  refine Fn.ofW (cc := b_Model_poke) (maxL := 4) (ret := none) (by decide) rfl (Nat.le_of_ble_eq_true rfl) ?_
  intro p e s m below meth c A ls C hH hinit hl
  have hl : lv_has ls 4 [(0, .ref h), (1, .int x1), (2, .int x2)] := hl
  obtain ⟨hx, hb, hr, hml, hown, hts, hlk, hK, hA⟩ := id C
  unfold f_Model_poke at hf
  refine lv_iload_n hx hb d_Model_poke_0 rfl (lv_at hl 1 rfl) ?_
  refine lv_if_lt (tgt := 16) hx hb d_Model_poke_1 (by decide) (fun hc1 => ?_) (fun hc1 => ?_)
  · have hf := ip hc1 hf
    exact w_Model_poke_b16 l D cI cL h h_kind h_b h_difference h_a h_newKind h_newB h_newDifference h_newA h_log h_packed C st x1 x2 res hf _ _ _ hH (lv_sub hl [0, 1, 2] rfl)
  · have hf := im hc1 hf
    refine lv_iload_n hx hb d_Model_poke_4 rfl (lv_at hl 1 rfl) ?_
    refine lv_aload_n hx hb d_Model_poke_5 rfl (lv_at hl 0 rfl) ?_
    refine gt (ci := 6) (v := .int st.2.2.2.1.2) C hH (iwT iw_Model) 0 rfl rfl 11 (by decide) (.tail _ wd_607) rfl d_Model_poke_6 ?_
    refine lv_icmp_gt (tgt := 16) hx hb d_Model_poke_9 (by decide) (fun hc9 => ?_) (fun hc9 => ?_)
    · have hf := ip hc9 hf
      exact w_Model_poke_b16 l D cI cL h h_kind h_b h_difference h_a h_newKind h_newB h_newDifference h_newA h_log h_packed C st x1 x2 res hf _ _ _ hH (lv_sub hl [0, 1, 2] rfl)
    · have hf := im hc9 hf
      refine lv_iconst (v := 1) hx hb d_Model_poke_12 (by decide) ?_
      refine lv_goto (tgt := 17) hx hb d_Model_poke_13 (by decide) ?_
      exact w_Model_poke_b17 l D cI cL h h_kind h_b h_difference h_a h_newKind h_newB h_newDifference h_newA h_log h_packed C st x1 x2 true res hf _ _ _ hH (lv_sub hl [0, 1, 2] rfl)
def f_Model_cut_b18 (st : S_Model) (x1 : Int32) (z0 : Bool) : Int32 × S_Model :=
  lt1 (f_Model_fails st z0 false false) (fun r20 => if (bI r20.1) = 0 then ((r20.2.2.2.2.1.2 - x1, (r20.2.1, r20.2.2.1, r20.2.2.2.1, (r20.2.2.2.2.1.1, x1), r20.2.2.2.2.2.1, r20.2.2.2.2.2.2.1, r20.2.2.2.2.2.2.2.1, r20.2.2.2.2.2.2.2.2))) else ((0, r20.2)))
set_option maxRecDepth 100000 in
set_option maxHeartbeats 4000000 in
theorem w_Model_cut_b18 (l : Launch) (D : va_G) (cI cL : ClassId) (h h_kind h_b h_difference h_a h_newKind h_newB h_newDifference h_newA h_log h_packed : Nat) {p : Program} {e : Env} {s : State} {m : MethodId} {args : Array Value} {below : List Frame} {meth : Method} {c : Code} {A : Nat → Prop} (C : Cx p s m args meth c D vwCl [(cI, .int), (cL, .long)] A b_Model_cut 3 (some .int) ws_Model_cut y_Model_cut.cls) : ∀ (st : S_Model) (x1 : Int32) (z0 : Bool) (res : Int32 × S_Model), f_Model_cut_b18 st x1 z0 = res → ∀ (H : Heap) (locs : List Loc) (ls : Array Slot), Hp D vwCl A A s.heap H locs [(h, .inr (6, [.int st.1, .int st.2.1.2.2.2.2, .ref h_kind, .ref h_b, .ref h_difference, .ref h_a, .int st.2.2.1.2.2.2.2, .ref h_newKind, .ref h_newB, .ref h_newDifference, .ref h_newA, .int st.2.2.2.1.2, .ref h_log, .ref h_packed, .int st.2.2.2.2.1.2, .int st.2.2.2.2.2.1.1, .int st.2.2.2.2.2.1.2.1, .int st.2.2.2.2.2.1.2.2.1, .int st.2.2.2.2.2.1.2.2.2, .int st.2.2.2.2.2.2.1, .int st.2.2.2.2.2.2.2])), (h_kind, .inl (cI, 300, .inl st.2.1.1)), (h_b, .inl (cI, 300, .inl st.2.1.2.2.2.1)), (h_difference, .inl (cL, 300, .inr (.inl st.2.1.2.1))), (h_a, .inl (cL, 300, .inr (.inl st.2.1.2.2.1))), (h_newKind, .inl (cI, 300, .inl st.2.2.1.1)), (h_newB, .inl (cI, 300, .inl st.2.2.1.2.2.2.1)), (h_newDifference, .inl (cL, 300, .inr (.inl st.2.2.1.2.1))), (h_newA, .inl (cL, 300, .inr (.inl st.2.2.1.2.2.1))), (h_log, .inl (cI, 5000, .inl st.2.2.2.1.1)), (h_packed, .inl (cI, 5000, .inl st.2.2.2.2.1.1))] → lv_has ls 3 [(0, .ref h), (1, .int x1)] → W p l e { frames := 1, cells := 0, slots := 0, locals := 23 } s m args below meth c H locs 0 0 (MQ below (Qw D vwCl [(cI, .int), (cL, .long)] (some (.int res.1)) A [(h, .inr (6, [.int res.2.1, .int res.2.2.1.2.2.2.2, .ref h_kind, .ref h_b, .ref h_difference, .ref h_a, .int res.2.2.2.1.2.2.2.2, .ref h_newKind, .ref h_newB, .ref h_newDifference, .ref h_newA, .int res.2.2.2.2.1.2, .ref h_log, .ref h_packed, .int res.2.2.2.2.2.1.2, .int res.2.2.2.2.2.2.1.1, .int res.2.2.2.2.2.2.1.2.1, .int res.2.2.2.2.2.2.1.2.2.1, .int res.2.2.2.2.2.2.1.2.2.2, .int res.2.2.2.2.2.2.2.1, .int res.2.2.2.2.2.2.2.2])), (h_kind, .inl (cI, 300, .inl res.2.2.1.1)), (h_b, .inl (cI, 300, .inl res.2.2.1.2.2.2.1)), (h_difference, .inl (cL, 300, .inr (.inl res.2.2.1.2.1))), (h_a, .inl (cL, 300, .inr (.inl res.2.2.1.2.2.1))), (h_newKind, .inl (cI, 300, .inl res.2.2.2.1.1)), (h_newB, .inl (cI, 300, .inl res.2.2.2.1.2.2.2.1)), (h_newDifference, .inl (cL, 300, .inr (.inl res.2.2.2.1.2.1))), (h_newA, .inl (cL, 300, .inr (.inl res.2.2.2.1.2.2.1))), (h_log, .inl (cI, 5000, .inl res.2.2.2.2.1.1)), (h_packed, .inl (cI, 5000, .inl res.2.2.2.2.2.1.1))]) args s 0 0 A) (F0 m 18 ls [.int (bI z0), .ref h]) := by
  obtain ⟨hx, hb, hr, hml, hown, hts, hlk, hK, hA⟩ := id C
  intro st x1 z0 res hf H locs ls hH hl
  unfold f_Model_cut_b18 at hf
  refine lv_iconst (v := 0) hx hb d_Model_cut_18 (by decide) ?_
  refine lv_iconst (v := 0) hx hb d_Model_cut_19 (by decide) ?_
  obtain ⟨r20, hr20, hf⟩ := lb hf
  refine fnV (rest := []) (wr := []) (w2 := [(h, .inr (6, [.int r20.2.1, .int r20.2.2.1.2.2.2.2, .ref h_kind, .ref h_b, .ref h_difference, .ref h_a, .int r20.2.2.2.1.2.2.2.2, .ref h_newKind, .ref h_newB, .ref h_newDifference, .ref h_newA, .int r20.2.2.2.2.1.2, .ref h_log, .ref h_packed, .int r20.2.2.2.2.2.1.2, .int r20.2.2.2.2.2.2.1.1, .int r20.2.2.2.2.2.2.1.2.1, .int r20.2.2.2.2.2.2.1.2.2.1, .int r20.2.2.2.2.2.2.1.2.2.2, .int r20.2.2.2.2.2.2.2.1, .int r20.2.2.2.2.2.2.2.2])), (h_kind, .inl (cI, 300, .inl r20.2.2.1.1)), (h_b, .inl (cI, 300, .inl r20.2.2.1.2.2.2.1)), (h_difference, .inl (cL, 300, .inr (.inl r20.2.2.1.2.1))), (h_a, .inl (cL, 300, .inr (.inl r20.2.2.1.2.2.1))), (h_newKind, .inl (cI, 300, .inl r20.2.2.2.1.1)), (h_newB, .inl (cI, 300, .inl r20.2.2.2.1.2.2.2.1)), (h_newDifference, .inl (cL, 300, .inr (.inl r20.2.2.2.1.2.1))), (h_newA, .inl (cL, 300, .inr (.inl r20.2.2.2.1.2.2.1))), (h_log, .inl (cI, 5000, .inl r20.2.2.2.2.1.1)), (h_packed, .inl (cI, 5000, .inl r20.2.2.2.2.2.1.1))]) (st2 := [.int (bI r20.1)]) C (c_Model_fails l D cI cL h h_kind h_b h_difference h_a h_newKind h_newB h_newDifference h_newA h_log h_packed st z0 false false r20 hr20) (cV hts kV_Model_fails wd_679 ⟨Nat.le_of_ble_eq_true rfl, Nat.le_of_ble_eq_true rfl⟩) hH [0, 1, 2, 3, 4, 5, 6, 7, 8, 9, 10] [] [0, 1, 2, 3, 4, 5, 6, 7, 8, 9, 10] rfl rfl rfl rfl (by decide) rfl rfl 0 rfl rfl rfl hl.1 rfl (Nat.le_of_ble_eq_true rfl) d_Model_cut_20 ⟨Nat.le_of_ble_eq_true rfl, Nat.le_of_ble_eq_true rfl⟩ rfl (fun H locs hH => ?_)
  refine lv_if_eq (tgt := 28) hx hb d_Model_cut_23 (by decide) (fun hc23 => ?_) (fun hc23 => ?_)
  · have hf := ip hc23 hf
    refine lv_aload_n hx hb d_Model_cut_28 rfl (lv_at hl 0 rfl) ?_
    refine gt (ci := 6) (v := .int r20.2.2.2.2.1.2) C hH (iwT iw_Model) 0 rfl rfl 11 (by decide) (.tail _ wd_607) rfl d_Model_cut_29 ?_
    refine lv_iload_n hx hb d_Model_cut_32 rfl (lv_at hl 1 rfl) ?_
    refine lv_isub hx hb d_Model_cut_33 ?_
    refine lv_istore_n (lv' := [(2, .int (r20.2.2.2.2.1.2 - x1)), (0, .ref h), (1, .int x1)]) hx hb d_Model_cut_34 rfl hl (by decide) rfl (fun ls hl => ?_)
    refine lv_aload_n hx hb d_Model_cut_35 rfl (lv_at hl 1 rfl) ?_
    refine lv_iload_n hx hb d_Model_cut_36 rfl (lv_at hl 2 rfl) ?_
    refine pt (ci := 6) (v := .int x1) C hH (iwT iw_Model) ty_Model tyok_Model nm_Model 0 rfl rfl 11 (by decide) (.tail _ wd_607) rfl rfl rfl (Nat.le_of_ble_eq_true rfl) d_Model_cut_37 [(h, .inr (6, [.int r20.2.1, .int r20.2.2.1.2.2.2.2, .ref h_kind, .ref h_b, .ref h_difference, .ref h_a, .int r20.2.2.2.1.2.2.2.2, .ref h_newKind, .ref h_newB, .ref h_newDifference, .ref h_newA, .int x1, .ref h_log, .ref h_packed, .int r20.2.2.2.2.2.1.2, .int r20.2.2.2.2.2.2.1.1, .int r20.2.2.2.2.2.2.1.2.1, .int r20.2.2.2.2.2.2.1.2.2.1, .int r20.2.2.2.2.2.2.1.2.2.2, .int r20.2.2.2.2.2.2.2.1, .int r20.2.2.2.2.2.2.2.2])), (h_kind, .inl (cI, 300, .inl r20.2.2.1.1)), (h_b, .inl (cI, 300, .inl r20.2.2.1.2.2.2.1)), (h_difference, .inl (cL, 300, .inr (.inl r20.2.2.1.2.1))), (h_a, .inl (cL, 300, .inr (.inl r20.2.2.1.2.2.1))), (h_newKind, .inl (cI, 300, .inl r20.2.2.2.1.1)), (h_newB, .inl (cI, 300, .inl r20.2.2.2.1.2.2.2.1)), (h_newDifference, .inl (cL, 300, .inr (.inl r20.2.2.2.1.2.1))), (h_newA, .inl (cL, 300, .inr (.inl r20.2.2.2.1.2.2.1))), (h_log, .inl (cI, 5000, .inl r20.2.2.2.2.1.1)), (h_packed, .inl (cI, 5000, .inl r20.2.2.2.2.2.1.1))] rfl (fun H locs hH => ?_)
    refine lv_iload_n hx hb d_Model_cut_40 rfl (lv_at hl 0 rfl) ?_
    subst hf
    exact rI (v := r20.2.2.2.2.1.2 - x1) C hH d_Model_cut_41
  · have hf := im hc23 hf
    refine lv_iconst (v := 0) hx hb d_Model_cut_26 (by decide) ?_
    subst hf
    exact rI (v := 0) C hH d_Model_cut_27
def f_Model_cut_b13 (st : S_Model) (x1 : Int32) : Int32 × S_Model :=
  f_Model_cut_b18 st x1 true
set_option maxRecDepth 100000 in
set_option maxHeartbeats 4000000 in
theorem w_Model_cut_b13 (l : Launch) (D : va_G) (cI cL : ClassId) (h h_kind h_b h_difference h_a h_newKind h_newB h_newDifference h_newA h_log h_packed : Nat) {p : Program} {e : Env} {s : State} {m : MethodId} {args : Array Value} {below : List Frame} {meth : Method} {c : Code} {A : Nat → Prop} (C : Cx p s m args meth c D vwCl [(cI, .int), (cL, .long)] A b_Model_cut 3 (some .int) ws_Model_cut y_Model_cut.cls) : ∀ (st : S_Model) (x1 : Int32) (res : Int32 × S_Model), f_Model_cut_b13 st x1 = res → ∀ (H : Heap) (locs : List Loc) (ls : Array Slot), Hp D vwCl A A s.heap H locs [(h, .inr (6, [.int st.1, .int st.2.1.2.2.2.2, .ref h_kind, .ref h_b, .ref h_difference, .ref h_a, .int st.2.2.1.2.2.2.2, .ref h_newKind, .ref h_newB, .ref h_newDifference, .ref h_newA, .int st.2.2.2.1.2, .ref h_log, .ref h_packed, .int st.2.2.2.2.1.2, .int st.2.2.2.2.2.1.1, .int st.2.2.2.2.2.1.2.1, .int st.2.2.2.2.2.1.2.2.1, .int st.2.2.2.2.2.1.2.2.2, .int st.2.2.2.2.2.2.1, .int st.2.2.2.2.2.2.2])), (h_kind, .inl (cI, 300, .inl st.2.1.1)), (h_b, .inl (cI, 300, .inl st.2.1.2.2.2.1)), (h_difference, .inl (cL, 300, .inr (.inl st.2.1.2.1))), (h_a, .inl (cL, 300, .inr (.inl st.2.1.2.2.1))), (h_newKind, .inl (cI, 300, .inl st.2.2.1.1)), (h_newB, .inl (cI, 300, .inl st.2.2.1.2.2.2.1)), (h_newDifference, .inl (cL, 300, .inr (.inl st.2.2.1.2.1))), (h_newA, .inl (cL, 300, .inr (.inl st.2.2.1.2.2.1))), (h_log, .inl (cI, 5000, .inl st.2.2.2.1.1)), (h_packed, .inl (cI, 5000, .inl st.2.2.2.2.1.1))] → lv_has ls 3 [(0, .ref h), (1, .int x1)] → W p l e { frames := 1, cells := 0, slots := 0, locals := 23 } s m args below meth c H locs 0 0 (MQ below (Qw D vwCl [(cI, .int), (cL, .long)] (some (.int res.1)) A [(h, .inr (6, [.int res.2.1, .int res.2.2.1.2.2.2.2, .ref h_kind, .ref h_b, .ref h_difference, .ref h_a, .int res.2.2.2.1.2.2.2.2, .ref h_newKind, .ref h_newB, .ref h_newDifference, .ref h_newA, .int res.2.2.2.2.1.2, .ref h_log, .ref h_packed, .int res.2.2.2.2.2.1.2, .int res.2.2.2.2.2.2.1.1, .int res.2.2.2.2.2.2.1.2.1, .int res.2.2.2.2.2.2.1.2.2.1, .int res.2.2.2.2.2.2.1.2.2.2, .int res.2.2.2.2.2.2.2.1, .int res.2.2.2.2.2.2.2.2])), (h_kind, .inl (cI, 300, .inl res.2.2.1.1)), (h_b, .inl (cI, 300, .inl res.2.2.1.2.2.2.1)), (h_difference, .inl (cL, 300, .inr (.inl res.2.2.1.2.1))), (h_a, .inl (cL, 300, .inr (.inl res.2.2.1.2.2.1))), (h_newKind, .inl (cI, 300, .inl res.2.2.2.1.1)), (h_newB, .inl (cI, 300, .inl res.2.2.2.1.2.2.2.1)), (h_newDifference, .inl (cL, 300, .inr (.inl res.2.2.2.1.2.1))), (h_newA, .inl (cL, 300, .inr (.inl res.2.2.2.1.2.2.1))), (h_log, .inl (cI, 5000, .inl res.2.2.2.2.1.1)), (h_packed, .inl (cI, 5000, .inl res.2.2.2.2.2.1.1))]) args s 0 0 A) (F0 m 13 ls [.ref h]) := by
  obtain ⟨hx, hb, hr, hml, hown, hts, hlk, hK, hA⟩ := id C
  intro st x1 res hf H locs ls hH hl
  unfold f_Model_cut_b13 at hf
  refine lv_iconst (v := 1) hx hb d_Model_cut_13 (by decide) ?_
  refine lv_goto (tgt := 18) hx hb d_Model_cut_14 (by decide) ?_
  exact w_Model_cut_b18 l D cI cL h h_kind h_b h_difference h_a h_newKind h_newB h_newDifference h_newA h_log h_packed C st x1 true res hf _ _ _ hH (lv_sub hl [0, 1] rfl)
def f_Model_cut (st : S_Model) (x1 : Int32) : Int32 × S_Model :=
  if x1 < 0 then (f_Model_cut_b13 st x1) else (if x1 ≤ st.2.2.2.1.2 then (f_Model_cut_b18 st x1 false) else (f_Model_cut_b13 st x1))
set_option maxRecDepth 100000 in
set_option maxHeartbeats 4000000 in
theorem c_Model_cut (l : Launch) (D : va_G) (cI cL : ClassId) (h h_kind h_b h_difference h_a h_newKind h_newB h_newDifference h_newA h_log h_packed : Nat) (st : S_Model) (x1 : Int32) (res : Int32 × S_Model) (hf : f_Model_cut st x1 = res) :
    Fn l D vwCl [(cI, .int), (cL, .long)] y_Model_cut ws_Model_cut { frames := 1, cells := 0, slots := 0, locals := 23 } [.ref h, .int x1] [(h, .inr (6, [.int st.1, .int st.2.1.2.2.2.2, .ref h_kind, .ref h_b, .ref h_difference, .ref h_a, .int st.2.2.1.2.2.2.2, .ref h_newKind, .ref h_newB, .ref h_newDifference, .ref h_newA, .int st.2.2.2.1.2, .ref h_log, .ref h_packed, .int st.2.2.2.2.1.2, .int st.2.2.2.2.2.1.1, .int st.2.2.2.2.2.1.2.1, .int st.2.2.2.2.2.1.2.2.1, .int st.2.2.2.2.2.1.2.2.2, .int st.2.2.2.2.2.2.1, .int st.2.2.2.2.2.2.2])), (h_kind, .inl (cI, 300, .inl st.2.1.1)), (h_b, .inl (cI, 300, .inl st.2.1.2.2.2.1)), (h_difference, .inl (cL, 300, .inr (.inl st.2.1.2.1))), (h_a, .inl (cL, 300, .inr (.inl st.2.1.2.2.1))), (h_newKind, .inl (cI, 300, .inl st.2.2.1.1)), (h_newB, .inl (cI, 300, .inl st.2.2.1.2.2.2.1)), (h_newDifference, .inl (cL, 300, .inr (.inl st.2.2.1.2.1))), (h_newA, .inl (cL, 300, .inr (.inl st.2.2.1.2.2.1))), (h_log, .inl (cI, 5000, .inl st.2.2.2.1.1)), (h_packed, .inl (cI, 5000, .inl st.2.2.2.2.1.1))] (some (.int res.1)) [(h, .inr (6, [.int res.2.1, .int res.2.2.1.2.2.2.2, .ref h_kind, .ref h_b, .ref h_difference, .ref h_a, .int res.2.2.2.1.2.2.2.2, .ref h_newKind, .ref h_newB, .ref h_newDifference, .ref h_newA, .int res.2.2.2.2.1.2, .ref h_log, .ref h_packed, .int res.2.2.2.2.2.1.2, .int res.2.2.2.2.2.2.1.1, .int res.2.2.2.2.2.2.1.2.1, .int res.2.2.2.2.2.2.1.2.2.1, .int res.2.2.2.2.2.2.1.2.2.2, .int res.2.2.2.2.2.2.2.1, .int res.2.2.2.2.2.2.2.2])), (h_kind, .inl (cI, 300, .inl res.2.2.1.1)), (h_b, .inl (cI, 300, .inl res.2.2.1.2.2.2.1)), (h_difference, .inl (cL, 300, .inr (.inl res.2.2.1.2.1))), (h_a, .inl (cL, 300, .inr (.inl res.2.2.1.2.2.1))), (h_newKind, .inl (cI, 300, .inl res.2.2.2.1.1)), (h_newB, .inl (cI, 300, .inl res.2.2.2.1.2.2.2.1)), (h_newDifference, .inl (cL, 300, .inr (.inl res.2.2.2.1.2.1))), (h_newA, .inl (cL, 300, .inr (.inl res.2.2.2.1.2.2.1))), (h_log, .inl (cI, 5000, .inl res.2.2.2.2.1.1)), (h_packed, .inl (cI, 5000, .inl res.2.2.2.2.2.1.1))] := by
  refine Fn.ofW (cc := b_Model_cut) (maxL := 3) (ret := (some .int)) (by decide) rfl (Nat.le_of_ble_eq_true rfl) ?_
  intro p e s m below meth c A ls C hH hinit hl
  have hl : lv_has ls 3 [(0, .ref h), (1, .int x1)] := hl
  obtain ⟨hx, hb, hr, hml, hown, hts, hlk, hK, hA⟩ := id C
  unfold f_Model_cut at hf
  refine lv_aload_n hx hb d_Model_cut_0 rfl (lv_at hl 0 rfl) ?_
  refine lv_iload_n hx hb d_Model_cut_1 rfl (lv_at hl 1 rfl) ?_
  refine lv_if_lt (tgt := 13) hx hb d_Model_cut_2 (by decide) (fun hc2 => ?_) (fun hc2 => ?_)
  · have hf := ip hc2 hf
    exact w_Model_cut_b13 l D cI cL h h_kind h_b h_difference h_a h_newKind h_newB h_newDifference h_newA h_log h_packed C st x1 res hf _ _ _ hH (lv_sub hl [0, 1] rfl)
  · have hf := im hc2 hf
    refine lv_iload_n hx hb d_Model_cut_5 rfl (lv_at hl 1 rfl) ?_
    refine lv_aload_n hx hb d_Model_cut_6 rfl (lv_at hl 0 rfl) ?_
    refine gt (ci := 6) (v := .int st.2.2.2.1.2) C hH (iwT iw_Model) 0 rfl rfl 11 (by decide) (.tail _ wd_607) rfl d_Model_cut_7 ?_
    refine lv_icmp_le (tgt := 17) hx hb d_Model_cut_10 (by decide) (fun hc10 => ?_) (fun hc10 => ?_)
    · have hf := ip hc10 hf
      refine lv_iconst (v := 0) hx hb d_Model_cut_17 (by decide) ?_
      exact w_Model_cut_b18 l D cI cL h h_kind h_b h_difference h_a h_newKind h_newB h_newDifference h_newA h_log h_packed C st x1 false res hf _ _ _ hH (lv_sub hl [0, 1] rfl)
    · have hf := im hc10 hf
      exact w_Model_cut_b13 l D cI cL h h_kind h_b h_difference h_a h_newKind h_newB h_newDifference h_newA h_log h_packed C st x1 res hf _ _ _ hH (lv_sub hl [0, 1] rfl)
def f_Model_byteAt_b18 (st : S_Model) (x1 : Int32) (z0 : Bool) : Option (Int32 × S_Model) :=
  lt1 (f_Model_fails st z0 false false) (fun r20 => if (bI r20.1) = 0 then (if x1 < 0 ∨ 5000 ≤ x1.toNatClampNeg then none else some ((r20.2.2.2.2.1.1 x1.toNatClampNeg, r20.2))) else (some ((0, r20.2))))
set_option maxRecDepth 100000 in
set_option maxHeartbeats 4000000 in
theorem w_Model_byteAt_b18 (l : Launch) (D : va_G) (cI cL : ClassId) (h h_kind h_b h_difference h_a h_newKind h_newB h_newDifference h_newA h_log h_packed : Nat) {p : Program} {e : Env} {s : State} {m : MethodId} {args : Array Value} {below : List Frame} {meth : Method} {c : Code} {A : Nat → Prop} (C : Cx p s m args meth c D vwCl [(cI, .int), (cL, .long)] A b_Model_byteAt 2 (some .int) ws_Model_byteAt y_Model_byteAt.cls) : ∀ (st : S_Model) (x1 : Int32) (z0 : Bool) (res : Int32 × S_Model), f_Model_byteAt_b18 st x1 z0 = some res → ∀ (H : Heap) (locs : List Loc) (ls : Array Slot), Hp D vwCl A A s.heap H locs [(h, .inr (6, [.int st.1, .int st.2.1.2.2.2.2, .ref h_kind, .ref h_b, .ref h_difference, .ref h_a, .int st.2.2.1.2.2.2.2, .ref h_newKind, .ref h_newB, .ref h_newDifference, .ref h_newA, .int st.2.2.2.1.2, .ref h_log, .ref h_packed, .int st.2.2.2.2.1.2, .int st.2.2.2.2.2.1.1, .int st.2.2.2.2.2.1.2.1, .int st.2.2.2.2.2.1.2.2.1, .int st.2.2.2.2.2.1.2.2.2, .int st.2.2.2.2.2.2.1, .int st.2.2.2.2.2.2.2])), (h_kind, .inl (cI, 300, .inl st.2.1.1)), (h_b, .inl (cI, 300, .inl st.2.1.2.2.2.1)), (h_difference, .inl (cL, 300, .inr (.inl st.2.1.2.1))), (h_a, .inl (cL, 300, .inr (.inl st.2.1.2.2.1))), (h_newKind, .inl (cI, 300, .inl st.2.2.1.1)), (h_newB, .inl (cI, 300, .inl st.2.2.1.2.2.2.1)), (h_newDifference, .inl (cL, 300, .inr (.inl st.2.2.1.2.1))), (h_newA, .inl (cL, 300, .inr (.inl st.2.2.1.2.2.1))), (h_log, .inl (cI, 5000, .inl st.2.2.2.1.1)), (h_packed, .inl (cI, 5000, .inl st.2.2.2.2.1.1))] → lv_has ls 2 [(0, .ref h), (1, .int x1)] → W p l e { frames := 1, cells := 0, slots := 0, locals := 23 } s m args below meth c H locs 0 0 (MQ below (Qw D vwCl [(cI, .int), (cL, .long)] (some (.int res.1)) A [(h, .inr (6, [.int res.2.1, .int res.2.2.1.2.2.2.2, .ref h_kind, .ref h_b, .ref h_difference, .ref h_a, .int res.2.2.2.1.2.2.2.2, .ref h_newKind, .ref h_newB, .ref h_newDifference, .ref h_newA, .int res.2.2.2.2.1.2, .ref h_log, .ref h_packed, .int res.2.2.2.2.2.1.2, .int res.2.2.2.2.2.2.1.1, .int res.2.2.2.2.2.2.1.2.1, .int res.2.2.2.2.2.2.1.2.2.1, .int res.2.2.2.2.2.2.1.2.2.2, .int res.2.2.2.2.2.2.2.1, .int res.2.2.2.2.2.2.2.2])), (h_kind, .inl (cI, 300, .inl res.2.2.1.1)), (h_b, .inl (cI, 300, .inl res.2.2.1.2.2.2.1)), (h_difference, .inl (cL, 300, .inr (.inl res.2.2.1.2.1))), (h_a, .inl (cL, 300, .inr (.inl res.2.2.1.2.2.1))), (h_newKind, .inl (cI, 300, .inl res.2.2.2.1.1)), (h_newB, .inl (cI, 300, .inl res.2.2.2.1.2.2.2.1)), (h_newDifference, .inl (cL, 300, .inr (.inl res.2.2.2.1.2.1))), (h_newA, .inl (cL, 300, .inr (.inl res.2.2.2.1.2.2.1))), (h_log, .inl (cI, 5000, .inl res.2.2.2.2.1.1)), (h_packed, .inl (cI, 5000, .inl res.2.2.2.2.2.1.1))]) args s 0 0 A) (F0 m 18 ls [.int (bI z0), .ref h]) := by
  obtain ⟨hx, hb, hr, hml, hown, hts, hlk, hK, hA⟩ := id C
  intro st x1 z0 res hf H locs ls hH hl
  unfold f_Model_byteAt_b18 at hf
  refine lv_iconst (v := 0) hx hb d_Model_byteAt_18 (by decide) ?_
  refine lv_iconst (v := 0) hx hb d_Model_byteAt_19 (by decide) ?_
  obtain ⟨r20, hr20, hf⟩ := lb hf
  refine fnV (rest := []) (wr := []) (w2 := [(h, .inr (6, [.int r20.2.1, .int r20.2.2.1.2.2.2.2, .ref h_kind, .ref h_b, .ref h_difference, .ref h_a, .int r20.2.2.2.1.2.2.2.2, .ref h_newKind, .ref h_newB, .ref h_newDifference, .ref h_newA, .int r20.2.2.2.2.1.2, .ref h_log, .ref h_packed, .int r20.2.2.2.2.2.1.2, .int r20.2.2.2.2.2.2.1.1, .int r20.2.2.2.2.2.2.1.2.1, .int r20.2.2.2.2.2.2.1.2.2.1, .int r20.2.2.2.2.2.2.1.2.2.2, .int r20.2.2.2.2.2.2.2.1, .int r20.2.2.2.2.2.2.2.2])), (h_kind, .inl (cI, 300, .inl r20.2.2.1.1)), (h_b, .inl (cI, 300, .inl r20.2.2.1.2.2.2.1)), (h_difference, .inl (cL, 300, .inr (.inl r20.2.2.1.2.1))), (h_a, .inl (cL, 300, .inr (.inl r20.2.2.1.2.2.1))), (h_newKind, .inl (cI, 300, .inl r20.2.2.2.1.1)), (h_newB, .inl (cI, 300, .inl r20.2.2.2.1.2.2.2.1)), (h_newDifference, .inl (cL, 300, .inr (.inl r20.2.2.2.1.2.1))), (h_newA, .inl (cL, 300, .inr (.inl r20.2.2.2.1.2.2.1))), (h_log, .inl (cI, 5000, .inl r20.2.2.2.2.1.1)), (h_packed, .inl (cI, 5000, .inl r20.2.2.2.2.2.1.1))]) (st2 := [.int (bI r20.1)]) C (c_Model_fails l D cI cL h h_kind h_b h_difference h_a h_newKind h_newB h_newDifference h_newA h_log h_packed st z0 false false r20 hr20) (cV hts kV_Model_fails wd_679 ⟨Nat.le_of_ble_eq_true rfl, Nat.le_of_ble_eq_true rfl⟩) hH [0, 1, 2, 3, 4, 5, 6, 7, 8, 9, 10] [] [0, 1, 2, 3, 4, 5, 6, 7, 8, 9, 10] rfl rfl rfl rfl (by decide) rfl rfl 0 rfl rfl rfl hl.1 rfl (Nat.le_of_ble_eq_true rfl) d_Model_byteAt_20 ⟨Nat.le_of_ble_eq_true rfl, Nat.le_of_ble_eq_true rfl⟩ rfl (fun H locs hH => ?_)
  refine lv_if_eq (tgt := 30) hx hb d_Model_byteAt_23 (by decide) (fun hc23 => ?_) (fun hc23 => ?_)
  · have hf := ip hc23 hf
    refine lv_aload_n hx hb d_Model_byteAt_30 rfl (lv_at hl 0 rfl) ?_
    refine gt (ci := 6) (v := .ref h_log) C hH (iwT iw_Model) 0 rfl rfl 12 (by decide) (.tail _ wd_608) rfl d_Model_byteAt_31 ?_
    refine lv_iload_n hx hb d_Model_byteAt_34 rfl (lv_at hl 1 rfl) ?_
    obtain ⟨hin35, hf⟩ := oa hf
    refine ali C hH 9 0 rfl rfl (hin35) d_Model_byteAt_35 ?_
    have hf := Option.some.inj hf
    subst hf
    exact rI (v := r20.2.2.2.2.1.1 x1.toNatClampNeg) C hH d_Model_byteAt_36
  · have hf := im hc23 hf
    refine lv_iconst (v := 0) hx hb d_Model_byteAt_26 (by decide) ?_
    refine lv_goto (tgt := 36) hx hb d_Model_byteAt_27 (by decide) ?_
    have hf := Option.some.inj hf
    subst hf
    exact rI (v := 0) C hH d_Model_byteAt_36
def f_Model_byteAt_b13 (st : S_Model) (x1 : Int32) : Option (Int32 × S_Model) :=
  f_Model_byteAt_b18 st x1 true
set_option maxRecDepth 100000 in
set_option maxHeartbeats 4000000 in
theorem w_Model_byteAt_b13 (l : Launch) (D : va_G) (cI cL : ClassId) (h h_kind h_b h_difference h_a h_newKind h_newB h_newDifference h_newA h_log h_packed : Nat) {p : Program} {e : Env} {s : State} {m : MethodId} {args : Array Value} {below : List Frame} {meth : Method} {c : Code} {A : Nat → Prop} (C : Cx p s m args meth c D vwCl [(cI, .int), (cL, .long)] A b_Model_byteAt 2 (some .int) ws_Model_byteAt y_Model_byteAt.cls) : ∀ (st : S_Model) (x1 : Int32) (res : Int32 × S_Model), f_Model_byteAt_b13 st x1 = some res → ∀ (H : Heap) (locs : List Loc) (ls : Array Slot), Hp D vwCl A A s.heap H locs [(h, .inr (6, [.int st.1, .int st.2.1.2.2.2.2, .ref h_kind, .ref h_b, .ref h_difference, .ref h_a, .int st.2.2.1.2.2.2.2, .ref h_newKind, .ref h_newB, .ref h_newDifference, .ref h_newA, .int st.2.2.2.1.2, .ref h_log, .ref h_packed, .int st.2.2.2.2.1.2, .int st.2.2.2.2.2.1.1, .int st.2.2.2.2.2.1.2.1, .int st.2.2.2.2.2.1.2.2.1, .int st.2.2.2.2.2.1.2.2.2, .int st.2.2.2.2.2.2.1, .int st.2.2.2.2.2.2.2])), (h_kind, .inl (cI, 300, .inl st.2.1.1)), (h_b, .inl (cI, 300, .inl st.2.1.2.2.2.1)), (h_difference, .inl (cL, 300, .inr (.inl st.2.1.2.1))), (h_a, .inl (cL, 300, .inr (.inl st.2.1.2.2.1))), (h_newKind, .inl (cI, 300, .inl st.2.2.1.1)), (h_newB, .inl (cI, 300, .inl st.2.2.1.2.2.2.1)), (h_newDifference, .inl (cL, 300, .inr (.inl st.2.2.1.2.1))), (h_newA, .inl (cL, 300, .inr (.inl st.2.2.1.2.2.1))), (h_log, .inl (cI, 5000, .inl st.2.2.2.1.1)), (h_packed, .inl (cI, 5000, .inl st.2.2.2.2.1.1))] → lv_has ls 2 [(0, .ref h), (1, .int x1)] → W p l e { frames := 1, cells := 0, slots := 0, locals := 23 } s m args below meth c H locs 0 0 (MQ below (Qw D vwCl [(cI, .int), (cL, .long)] (some (.int res.1)) A [(h, .inr (6, [.int res.2.1, .int res.2.2.1.2.2.2.2, .ref h_kind, .ref h_b, .ref h_difference, .ref h_a, .int res.2.2.2.1.2.2.2.2, .ref h_newKind, .ref h_newB, .ref h_newDifference, .ref h_newA, .int res.2.2.2.2.1.2, .ref h_log, .ref h_packed, .int res.2.2.2.2.2.1.2, .int res.2.2.2.2.2.2.1.1, .int res.2.2.2.2.2.2.1.2.1, .int res.2.2.2.2.2.2.1.2.2.1, .int res.2.2.2.2.2.2.1.2.2.2, .int res.2.2.2.2.2.2.2.1, .int res.2.2.2.2.2.2.2.2])), (h_kind, .inl (cI, 300, .inl res.2.2.1.1)), (h_b, .inl (cI, 300, .inl res.2.2.1.2.2.2.1)), (h_difference, .inl (cL, 300, .inr (.inl res.2.2.1.2.1))), (h_a, .inl (cL, 300, .inr (.inl res.2.2.1.2.2.1))), (h_newKind, .inl (cI, 300, .inl res.2.2.2.1.1)), (h_newB, .inl (cI, 300, .inl res.2.2.2.1.2.2.2.1)), (h_newDifference, .inl (cL, 300, .inr (.inl res.2.2.2.1.2.1))), (h_newA, .inl (cL, 300, .inr (.inl res.2.2.2.1.2.2.1))), (h_log, .inl (cI, 5000, .inl res.2.2.2.2.1.1)), (h_packed, .inl (cI, 5000, .inl res.2.2.2.2.2.1.1))]) args s 0 0 A) (F0 m 13 ls [.ref h]) := by
  obtain ⟨hx, hb, hr, hml, hown, hts, hlk, hK, hA⟩ := id C
  intro st x1 res hf H locs ls hH hl
  unfold f_Model_byteAt_b13 at hf
  refine lv_iconst (v := 1) hx hb d_Model_byteAt_13 (by decide) ?_
  refine lv_goto (tgt := 18) hx hb d_Model_byteAt_14 (by decide) ?_
  exact w_Model_byteAt_b18 l D cI cL h h_kind h_b h_difference h_a h_newKind h_newB h_newDifference h_newA h_log h_packed C st x1 true res hf _ _ _ hH (lv_sub hl [0, 1] rfl)
def f_Model_byteAt (st : S_Model) (x1 : Int32) : Option (Int32 × S_Model) :=
  if x1 < 0 then (f_Model_byteAt_b13 st x1) else (if x1 < st.2.2.2.1.2 then (f_Model_byteAt_b18 st x1 false) else (f_Model_byteAt_b13 st x1))
set_option maxRecDepth 100000 in
set_option maxHeartbeats 4000000 in
theorem c_Model_byteAt (l : Launch) (D : va_G) (cI cL : ClassId) (h h_kind h_b h_difference h_a h_newKind h_newB h_newDifference h_newA h_log h_packed : Nat) (st : S_Model) (x1 : Int32) (res : Int32 × S_Model) (hf : f_Model_byteAt st x1 = some res) :
    Fn l D vwCl [(cI, .int), (cL, .long)] y_Model_byteAt ws_Model_byteAt { frames := 1, cells := 0, slots := 0, locals := 23 } [.ref h, .int x1] [(h, .inr (6, [.int st.1, .int st.2.1.2.2.2.2, .ref h_kind, .ref h_b, .ref h_difference, .ref h_a, .int st.2.2.1.2.2.2.2, .ref h_newKind, .ref h_newB, .ref h_newDifference, .ref h_newA, .int st.2.2.2.1.2, .ref h_log, .ref h_packed, .int st.2.2.2.2.1.2, .int st.2.2.2.2.2.1.1, .int st.2.2.2.2.2.1.2.1, .int st.2.2.2.2.2.1.2.2.1, .int st.2.2.2.2.2.1.2.2.2, .int st.2.2.2.2.2.2.1, .int st.2.2.2.2.2.2.2])), (h_kind, .inl (cI, 300, .inl st.2.1.1)), (h_b, .inl (cI, 300, .inl st.2.1.2.2.2.1)), (h_difference, .inl (cL, 300, .inr (.inl st.2.1.2.1))), (h_a, .inl (cL, 300, .inr (.inl st.2.1.2.2.1))), (h_newKind, .inl (cI, 300, .inl st.2.2.1.1)), (h_newB, .inl (cI, 300, .inl st.2.2.1.2.2.2.1)), (h_newDifference, .inl (cL, 300, .inr (.inl st.2.2.1.2.1))), (h_newA, .inl (cL, 300, .inr (.inl st.2.2.1.2.2.1))), (h_log, .inl (cI, 5000, .inl st.2.2.2.1.1)), (h_packed, .inl (cI, 5000, .inl st.2.2.2.2.1.1))] (some (.int res.1)) [(h, .inr (6, [.int res.2.1, .int res.2.2.1.2.2.2.2, .ref h_kind, .ref h_b, .ref h_difference, .ref h_a, .int res.2.2.2.1.2.2.2.2, .ref h_newKind, .ref h_newB, .ref h_newDifference, .ref h_newA, .int res.2.2.2.2.1.2, .ref h_log, .ref h_packed, .int res.2.2.2.2.2.1.2, .int res.2.2.2.2.2.2.1.1, .int res.2.2.2.2.2.2.1.2.1, .int res.2.2.2.2.2.2.1.2.2.1, .int res.2.2.2.2.2.2.1.2.2.2, .int res.2.2.2.2.2.2.2.1, .int res.2.2.2.2.2.2.2.2])), (h_kind, .inl (cI, 300, .inl res.2.2.1.1)), (h_b, .inl (cI, 300, .inl res.2.2.1.2.2.2.1)), (h_difference, .inl (cL, 300, .inr (.inl res.2.2.1.2.1))), (h_a, .inl (cL, 300, .inr (.inl res.2.2.1.2.2.1))), (h_newKind, .inl (cI, 300, .inl res.2.2.2.1.1)), (h_newB, .inl (cI, 300, .inl res.2.2.2.1.2.2.2.1)), (h_newDifference, .inl (cL, 300, .inr (.inl res.2.2.2.1.2.1))), (h_newA, .inl (cL, 300, .inr (.inl res.2.2.2.1.2.2.1))), (h_log, .inl (cI, 5000, .inl res.2.2.2.2.1.1)), (h_packed, .inl (cI, 5000, .inl res.2.2.2.2.2.1.1))] := by
  refine Fn.ofW (cc := b_Model_byteAt) (maxL := 2) (ret := (some .int)) (by decide) rfl (Nat.le_of_ble_eq_true rfl) ?_
  intro p e s m below meth c A ls C hH hinit hl
  have hl : lv_has ls 2 [(0, .ref h), (1, .int x1)] := hl
  obtain ⟨hx, hb, hr, hml, hown, hts, hlk, hK, hA⟩ := id C
  unfold f_Model_byteAt at hf
  refine lv_aload_n hx hb d_Model_byteAt_0 rfl (lv_at hl 0 rfl) ?_
  refine lv_iload_n hx hb d_Model_byteAt_1 rfl (lv_at hl 1 rfl) ?_
  refine lv_if_lt (tgt := 13) hx hb d_Model_byteAt_2 (by decide) (fun hc2 => ?_) (fun hc2 => ?_)
  · have hf := ip hc2 hf
    exact w_Model_byteAt_b13 l D cI cL h h_kind h_b h_difference h_a h_newKind h_newB h_newDifference h_newA h_log h_packed C st x1 res hf _ _ _ hH (lv_sub hl [0, 1] rfl)
  · have hf := im hc2 hf
    refine lv_iload_n hx hb d_Model_byteAt_5 rfl (lv_at hl 1 rfl) ?_
    refine lv_aload_n hx hb d_Model_byteAt_6 rfl (lv_at hl 0 rfl) ?_
    refine gt (ci := 6) (v := .int st.2.2.2.1.2) C hH (iwT iw_Model) 0 rfl rfl 11 (by decide) (.tail _ wd_607) rfl d_Model_byteAt_7 ?_
    refine lv_icmp_lt (tgt := 17) hx hb d_Model_byteAt_10 (by decide) (fun hc10 => ?_) (fun hc10 => ?_)
    · have hf := ip hc10 hf
      refine lv_iconst (v := 0) hx hb d_Model_byteAt_17 (by decide) ?_
      exact w_Model_byteAt_b18 l D cI cL h h_kind h_b h_difference h_a h_newKind h_newB h_newDifference h_newA h_log h_packed C st x1 false res hf _ _ _ hH (lv_sub hl [0, 1] rfl)
    · have hf := im hc10 hf
      exact w_Model_byteAt_b13 l D cI cL h h_kind h_b h_difference h_a h_newKind h_newB h_newDifference h_newA h_log h_packed C st x1 res hf _ _ _ hH (lv_sub hl [0, 1] rfl)
def f_Model_sum_b5 : Nat → S_Model → Int32 → Int64 → Int32 → Option (Int64)
  | 0, _, _, _, _ => none
  | n + 1, st, x1, x2, x4 =>
  if x1 < x4 then (some x2) else (if x4 < 0 ∨ 300 ≤ x4.toNatClampNeg then none else f_Model_sum_b5 n st x1 (x2 + (st.2.1.2.1 x4.toNatClampNeg)) (x4 + 1))
set_option maxRecDepth 100000 in
set_option maxHeartbeats 4000000 in
theorem w_Model_sum_b5 (l : Launch) (D : va_G) (cI cL : ClassId) (h h_kind h_b h_difference h_a h_newKind h_newB h_newDifference h_newA h_log h_packed : Nat) {p : Program} {e : Env} {s : State} {m : MethodId} {args : Array Value} {below : List Frame} {meth : Method} {c : Code} {A : Nat → Prop} (C : Cx p s m args meth c D vwCl [(cI, .int), (cL, .long)] A b_Model_sum 5 (some .long) ws_Model_sum y_Model_sum.cls) : ∀ (n : Nat) (st : S_Model) (x1 : Int32) (x2 : Int64) (x4 : Int32) (res : Int64), f_Model_sum_b5 n st x1 x2 x4 = some res → ∀ (H : Heap) (locs : List Loc) (ls : Array Slot), Hp D vwCl (fun _ => True) A s.heap H locs [(h, .inr (6, [.int st.1, .int st.2.1.2.2.2.2, .ref h_kind, .ref h_b, .ref h_difference, .ref h_a, .int st.2.2.1.2.2.2.2, .ref h_newKind, .ref h_newB, .ref h_newDifference, .ref h_newA, .int st.2.2.2.1.2, .ref h_log, .ref h_packed, .int st.2.2.2.2.1.2, .int st.2.2.2.2.2.1.1, .int st.2.2.2.2.2.1.2.1, .int st.2.2.2.2.2.1.2.2.1, .int st.2.2.2.2.2.1.2.2.2, .int st.2.2.2.2.2.2.1, .int st.2.2.2.2.2.2.2])), (h_kind, .inl (cI, 300, .inl st.2.1.1)), (h_b, .inl (cI, 300, .inl st.2.1.2.2.2.1)), (h_difference, .inl (cL, 300, .inr (.inl st.2.1.2.1))), (h_a, .inl (cL, 300, .inr (.inl st.2.1.2.2.1))), (h_newKind, .inl (cI, 300, .inl st.2.2.1.1)), (h_newB, .inl (cI, 300, .inl st.2.2.1.2.2.2.1)), (h_newDifference, .inl (cL, 300, .inr (.inl st.2.2.1.2.1))), (h_newA, .inl (cL, 300, .inr (.inl st.2.2.1.2.2.1))), (h_log, .inl (cI, 5000, .inl st.2.2.2.1.1)), (h_packed, .inl (cI, 5000, .inl st.2.2.2.2.1.1))] → lv_has ls 5 [(0, .ref h), (1, .int x1), (2, .long x2), (4, .int x4)] → W p l e { frames := 0, cells := 0, slots := 0, locals := 0 } s m args below meth c H locs 0 0 (MQ below (QR (some (.long res)) A) args s 0 0 A) (F0 m 5 ls []) := by
  obtain ⟨hx, hb, hr, hml, hown, hts, hlk, hK, hA⟩ := id C
  intro n
  induction n with
  | zero => intro st x1 x2 x4 res hf; cases hf
  | succ n ih =>
    intro st x1 x2 x4 res hf H locs ls hH hl
    rw [f_Model_sum_b5] at hf
    refine lv_iload hx hb d_Model_sum_5 (lv_at hl 3 rfl) ?_
    refine lv_iload_n hx hb d_Model_sum_7 rfl (lv_at hl 1 rfl) ?_
    refine lv_icmp_gt (tgt := 27) hx hb d_Model_sum_8 (by decide) (fun hc8 => ?_) (fun hc8 => ?_)
    · have hf := ip hc8 hf
      refine lv_lload_n hx hb d_Model_sum_27 rfl (lv_at hl 2 rfl) ?_
      have hf := Option.some.inj hf
      subst hf
      exact rJR (v := x2) C hH d_Model_sum_28
    · have hf := im hc8 hf
      refine lv_lload_n hx hb d_Model_sum_11 rfl (lv_at hl 2 rfl) ?_
      refine lv_aload_n hx hb d_Model_sum_12 rfl (lv_at hl 0 rfl) ?_
      refine gt (ci := 6) (v := .ref h_difference) C hH (iwT iw_Model) 0 rfl rfl 4 (by decide) (.tail _ wd_600) rfl d_Model_sum_13 ?_
      refine lv_iload hx hb d_Model_sum_16 (lv_at hl 3 rfl) ?_
      obtain ⟨hin18, hf⟩ := oa hf
      refine all_ C hH 3 1 rfl rfl (hin18) d_Model_sum_18 ?_
      refine lv_ladd hx hb d_Model_sum_19 ?_
      refine lv_lstore_n (lv' := [(2, .long (x2 + (st.2.1.2.1 x4.toNatClampNeg))), (0, .ref h), (1, .int x1), (4, .int x4)]) hx hb d_Model_sum_20 rfl hl (by decide) rfl (fun ls hl => ?_)
      refine lv_iinc (v := x4 + 1) (lv' := [(4, .int (x4 + 1)), (2, .long (x2 + (st.2.1.2.1 x4.toNatClampNeg))), (0, .ref h), (1, .int x1)]) hx hb d_Model_sum_21 hl (k := 3) rfl rfl (by decide) rfl (fun ls hl => ?_)
      refine lv_goto (tgt := 5) hx hb d_Model_sum_24 (by decide) ?_
      exact ih st x1 (x2 + (st.2.1.2.1 x4.toNatClampNeg)) (x4 + 1) res hf _ _ _ hH (lv_sub hl [2, 3, 1, 0] rfl)
def f_Model_sum (st : S_Model) (x1 : Int32) : Option (Int64) :=
  f_Model_sum_b5 400 st x1 0 0
set_option maxRecDepth 100000 in
set_option maxHeartbeats 4000000 in
theorem c_Model_sum (l : Launch) (D : va_G) (cI cL : ClassId) (h h_kind h_b h_difference h_a h_newKind h_newB h_newDifference h_newA h_log h_packed : Nat) (st : S_Model) (x1 : Int32) (res : Int64) (hf : f_Model_sum st x1 = some res) :
    FnR l D vwCl [(cI, .int), (cL, .long)] y_Model_sum ws_Model_sum { frames := 0, cells := 0, slots := 0, locals := 0 } [.ref h, .int x1] [(h, .inr (6, [.int st.1, .int st.2.1.2.2.2.2, .ref h_kind, .ref h_b, .ref h_difference, .ref h_a, .int st.2.2.1.2.2.2.2, .ref h_newKind, .ref h_newB, .ref h_newDifference, .ref h_newA, .int st.2.2.2.1.2, .ref h_log, .ref h_packed, .int st.2.2.2.2.1.2, .int st.2.2.2.2.2.1.1, .int st.2.2.2.2.2.1.2.1, .int st.2.2.2.2.2.1.2.2.1, .int st.2.2.2.2.2.1.2.2.2, .int st.2.2.2.2.2.2.1, .int st.2.2.2.2.2.2.2])), (h_kind, .inl (cI, 300, .inl st.2.1.1)), (h_b, .inl (cI, 300, .inl st.2.1.2.2.2.1)), (h_difference, .inl (cL, 300, .inr (.inl st.2.1.2.1))), (h_a, .inl (cL, 300, .inr (.inl st.2.1.2.2.1))), (h_newKind, .inl (cI, 300, .inl st.2.2.1.1)), (h_newB, .inl (cI, 300, .inl st.2.2.1.2.2.2.1)), (h_newDifference, .inl (cL, 300, .inr (.inl st.2.2.1.2.1))), (h_newA, .inl (cL, 300, .inr (.inl st.2.2.1.2.2.1))), (h_log, .inl (cI, 5000, .inl st.2.2.2.1.1)), (h_packed, .inl (cI, 5000, .inl st.2.2.2.2.1.1))] (some (.long res)) := by
  refine FnR.ofW (cc := b_Model_sum) (maxL := 5) (ret := (some .long)) (by decide) rfl (Nat.le_of_ble_eq_true rfl) ?_
  intro p e s m below meth c A ls C hH hl
  have hl : lv_has ls 5 [(0, .ref h), (1, .int x1)] := hl
  obtain ⟨hx, hb, hr, hml, hown, hts, hlk, hK, hA⟩ := id C
  unfold f_Model_sum at hf
  refine lv_lconst (v := 0) hx hb d_Model_sum_0 (by decide) ?_
  refine lv_lstore_n (lv' := [(2, .long 0), (0, .ref h), (1, .int x1)]) hx hb d_Model_sum_1 rfl hl (by decide) rfl (fun ls hl => ?_)
  refine lv_iconst (v := 0) hx hb d_Model_sum_2 (by decide) ?_
  refine lv_istore (lv' := [(4, .int 0), (2, .long 0), (0, .ref h), (1, .int x1)]) hx hb d_Model_sum_3 hl (by decide) rfl (fun ls hl => ?_)
  exact w_Model_sum_b5 l D cI cL h h_kind h_b h_difference h_a h_newKind h_newB h_newDifference h_newA h_log h_packed C 400 st x1 0 0 res hf _ _ _ hH (lv_sub hl [2, 3, 1, 0] rfl)
def f_Model_event_b32 (st : S_Model) (x1 : Int32) (x2 : Int32) (z0 : Bool) (z1 : Bool) : Option (Int64 × S_Model) :=
  lt1 (f_Model_fails st z1 z0 false) (fun r33 => if (bI r33.1) = 0 then (if x2 = 0 then (if x1 < 0 ∨ 300 ≤ x1.toNatClampNeg then none else some (((r33.2.2.1.1 x1.toNatClampNeg).toInt64, r33.2))) else if x2 = 1 then (if x1 < 0 ∨ 300 ≤ x1.toNatClampNeg then none else some ((r33.2.2.1.2.1 x1.toNatClampNeg, r33.2))) else if x2 = 2 then (if x1 < 0 ∨ 300 ≤ x1.toNatClampNeg then none else some ((r33.2.2.1.2.2.1 x1.toNatClampNeg, r33.2))) else if x2 = 3 then (if x1 < 0 ∨ 300 ≤ x1.toNatClampNeg then none else some (((r33.2.2.1.2.2.2.1 x1.toNatClampNeg).toInt64, r33.2))) else ((f_Model_sum r33.2 x1).bind (fun r104 => some ((r104, r33.2))))) else (some ((0, r33.2))))
set_option maxRecDepth 100000 in
set_option maxHeartbeats 4000000 in
theorem w_Model_event_b32 (l : Launch) (D : va_G) (cI cL : ClassId) (h h_kind h_b h_difference h_a h_newKind h_newB h_newDifference h_newA h_log h_packed : Nat) {p : Program} {e : Env} {s : State} {m : MethodId} {args : Array Value} {below : List Frame} {meth : Method} {c : Code} {A : Nat → Prop} (C : Cx p s m args meth c D vwCl [(cI, .int), (cL, .long)] A b_Model_event 3 (some .long) ws_Model_event y_Model_event.cls) : ∀ (st : S_Model) (x1 : Int32) (x2 : Int32) (z0 : Bool) (z1 : Bool) (res : Int64 × S_Model), f_Model_event_b32 st x1 x2 z0 z1 = some res → ∀ (H : Heap) (locs : List Loc) (ls : Array Slot), Hp D vwCl A A s.heap H locs [(h, .inr (6, [.int st.1, .int st.2.1.2.2.2.2, .ref h_kind, .ref h_b, .ref h_difference, .ref h_a, .int st.2.2.1.2.2.2.2, .ref h_newKind, .ref h_newB, .ref h_newDifference, .ref h_newA, .int st.2.2.2.1.2, .ref h_log, .ref h_packed, .int st.2.2.2.2.1.2, .int st.2.2.2.2.2.1.1, .int st.2.2.2.2.2.1.2.1, .int st.2.2.2.2.2.1.2.2.1, .int st.2.2.2.2.2.1.2.2.2, .int st.2.2.2.2.2.2.1, .int st.2.2.2.2.2.2.2])), (h_kind, .inl (cI, 300, .inl st.2.1.1)), (h_b, .inl (cI, 300, .inl st.2.1.2.2.2.1)), (h_difference, .inl (cL, 300, .inr (.inl st.2.1.2.1))), (h_a, .inl (cL, 300, .inr (.inl st.2.1.2.2.1))), (h_newKind, .inl (cI, 300, .inl st.2.2.1.1)), (h_newB, .inl (cI, 300, .inl st.2.2.1.2.2.2.1)), (h_newDifference, .inl (cL, 300, .inr (.inl st.2.2.1.2.1))), (h_newA, .inl (cL, 300, .inr (.inl st.2.2.1.2.2.1))), (h_log, .inl (cI, 5000, .inl st.2.2.2.1.1)), (h_packed, .inl (cI, 5000, .inl st.2.2.2.2.1.1))] → lv_has ls 3 [(0, .ref h), (1, .int x1), (2, .int x2)] → W p l e { frames := 1, cells := 0, slots := 0, locals := 24 } s m args below meth c H locs 0 0 (MQ below (Qw D vwCl [(cI, .int), (cL, .long)] (some (.long res.1)) A [(h, .inr (6, [.int res.2.1, .int res.2.2.1.2.2.2.2, .ref h_kind, .ref h_b, .ref h_difference, .ref h_a, .int res.2.2.2.1.2.2.2.2, .ref h_newKind, .ref h_newB, .ref h_newDifference, .ref h_newA, .int res.2.2.2.2.1.2, .ref h_log, .ref h_packed, .int res.2.2.2.2.2.1.2, .int res.2.2.2.2.2.2.1.1, .int res.2.2.2.2.2.2.1.2.1, .int res.2.2.2.2.2.2.1.2.2.1, .int res.2.2.2.2.2.2.1.2.2.2, .int res.2.2.2.2.2.2.2.1, .int res.2.2.2.2.2.2.2.2])), (h_kind, .inl (cI, 300, .inl res.2.2.1.1)), (h_b, .inl (cI, 300, .inl res.2.2.1.2.2.2.1)), (h_difference, .inl (cL, 300, .inr (.inl res.2.2.1.2.1))), (h_a, .inl (cL, 300, .inr (.inl res.2.2.1.2.2.1))), (h_newKind, .inl (cI, 300, .inl res.2.2.2.1.1)), (h_newB, .inl (cI, 300, .inl res.2.2.2.1.2.2.2.1)), (h_newDifference, .inl (cL, 300, .inr (.inl res.2.2.2.1.2.1))), (h_newA, .inl (cL, 300, .inr (.inl res.2.2.2.1.2.2.1))), (h_log, .inl (cI, 5000, .inl res.2.2.2.2.1.1)), (h_packed, .inl (cI, 5000, .inl res.2.2.2.2.2.1.1))]) args s 0 0 A) (F0 m 32 ls [.int (bI z0), .int (bI z1), .ref h]) := by
  obtain ⟨hx, hb, hr, hml, hown, hts, hlk, hK, hA⟩ := id C
  intro st x1 x2 z0 z1 res hf H locs ls hH hl
  unfold f_Model_event_b32 at hf
  refine lv_iconst (v := 0) hx hb d_Model_event_32 (by decide) ?_
  obtain ⟨r33, hr33, hf⟩ := lb hf
  refine fnV (rest := []) (wr := []) (w2 := [(h, .inr (6, [.int r33.2.1, .int r33.2.2.1.2.2.2.2, .ref h_kind, .ref h_b, .ref h_difference, .ref h_a, .int r33.2.2.2.1.2.2.2.2, .ref h_newKind, .ref h_newB, .ref h_newDifference, .ref h_newA, .int r33.2.2.2.2.1.2, .ref h_log, .ref h_packed, .int r33.2.2.2.2.2.1.2, .int r33.2.2.2.2.2.2.1.1, .int r33.2.2.2.2.2.2.1.2.1, .int r33.2.2.2.2.2.2.1.2.2.1, .int r33.2.2.2.2.2.2.1.2.2.2, .int r33.2.2.2.2.2.2.2.1, .int r33.2.2.2.2.2.2.2.2])), (h_kind, .inl (cI, 300, .inl r33.2.2.1.1)), (h_b, .inl (cI, 300, .inl r33.2.2.1.2.2.2.1)), (h_difference, .inl (cL, 300, .inr (.inl r33.2.2.1.2.1))), (h_a, .inl (cL, 300, .inr (.inl r33.2.2.1.2.2.1))), (h_newKind, .inl (cI, 300, .inl r33.2.2.2.1.1)), (h_newB, .inl (cI, 300, .inl r33.2.2.2.1.2.2.2.1)), (h_newDifference, .inl (cL, 300, .inr (.inl r33.2.2.2.1.2.1))), (h_newA, .inl (cL, 300, .inr (.inl r33.2.2.2.1.2.2.1))), (h_log, .inl (cI, 5000, .inl r33.2.2.2.2.1.1)), (h_packed, .inl (cI, 5000, .inl r33.2.2.2.2.2.1.1))]) (st2 := [.int (bI r33.1)]) C (c_Model_fails l D cI cL h h_kind h_b h_difference h_a h_newKind h_newB h_newDifference h_newA h_log h_packed st z1 z0 false r33 hr33) (cV hts kV_Model_fails wd_679 ⟨Nat.le_of_ble_eq_true rfl, Nat.le_of_ble_eq_true rfl⟩) hH [0, 1, 2, 3, 4, 5, 6, 7, 8, 9, 10] [] [0, 1, 2, 3, 4, 5, 6, 7, 8, 9, 10] rfl rfl rfl rfl (by decide) rfl rfl 0 rfl rfl rfl hl.1 rfl (Nat.le_of_ble_eq_true rfl) d_Model_event_33 ⟨Nat.le_of_ble_eq_true rfl, Nat.le_of_ble_eq_true rfl⟩ rfl (fun H locs hH => ?_)
  refine lv_if_eq (tgt := 41) hx hb d_Model_event_36 (by decide) (fun hc36 => ?_) (fun hc36 => ?_)
  · have hf := ip hc36 hf
    refine lv_iload_n hx hb d_Model_event_41 rfl (lv_at hl 2 rfl) ?_
    by_cases hc42_0 : x2 = 0
    · have hf := ip hc42_0 hf
      refine lv_tableIn (tgt := 72) hx hb d_Model_event_42 (by rw [hc42_0]; decide) (by rw [hc42_0]; decide) (by rw [hc42_0]; rfl) (by decide) ?_
      refine lv_aload_n hx hb d_Model_event_72 rfl (lv_at hl 0 rfl) ?_
      refine gt (ci := 6) (v := .ref h_kind) C hH (iwT iw_Model) 0 rfl rfl 2 (by decide) (.tail _ wd_598) rfl d_Model_event_73 ?_
      refine lv_iload_n hx hb d_Model_event_76 rfl (lv_at hl 1 rfl) ?_
      obtain ⟨hin77, hf⟩ := oa hf
      refine ali C hH 1 0 rfl rfl (hin77) d_Model_event_77 ?_
      refine lv_i2l (v := (r33.2.2.1.1 x1.toNatClampNeg).toInt64) hx hb d_Model_event_78 rfl ?_
      have hf := Option.some.inj hf
      subst hf
      exact rJ (v := (r33.2.2.1.1 x1.toNatClampNeg).toInt64) C hH d_Model_event_79
    have hf := im hc42_0 hf
    by_cases hc42_1 : x2 = 1
    · have hf := ip hc42_1 hf
      refine lv_tableIn (tgt := 80) hx hb d_Model_event_42 (by rw [hc42_1]; decide) (by rw [hc42_1]; decide) (by rw [hc42_1]; rfl) (by decide) ?_
      refine lv_aload_n hx hb d_Model_event_80 rfl (lv_at hl 0 rfl) ?_
      refine gt (ci := 6) (v := .ref h_difference) C hH (iwT iw_Model) 0 rfl rfl 4 (by decide) (.tail _ wd_600) rfl d_Model_event_81 ?_
      refine lv_iload_n hx hb d_Model_event_84 rfl (lv_at hl 1 rfl) ?_
      obtain ⟨hin85, hf⟩ := oa hf
      refine all_ C hH 3 1 rfl rfl (hin85) d_Model_event_85 ?_
      have hf := Option.some.inj hf
      subst hf
      exact rJ (v := r33.2.2.1.2.1 x1.toNatClampNeg) C hH d_Model_event_86
    have hf := im hc42_1 hf
    by_cases hc42_2 : x2 = 2
    · have hf := ip hc42_2 hf
      refine lv_tableIn (tgt := 87) hx hb d_Model_event_42 (by rw [hc42_2]; decide) (by rw [hc42_2]; decide) (by rw [hc42_2]; rfl) (by decide) ?_
      refine lv_aload_n hx hb d_Model_event_87 rfl (lv_at hl 0 rfl) ?_
      refine gt (ci := 6) (v := .ref h_a) C hH (iwT iw_Model) 0 rfl rfl 5 (by decide) (.tail _ wd_601) rfl d_Model_event_88 ?_
      refine lv_iload_n hx hb d_Model_event_91 rfl (lv_at hl 1 rfl) ?_
      obtain ⟨hin92, hf⟩ := oa hf
      refine all_ C hH 4 1 rfl rfl (hin92) d_Model_event_92 ?_
      have hf := Option.some.inj hf
      subst hf
      exact rJ (v := r33.2.2.1.2.2.1 x1.toNatClampNeg) C hH d_Model_event_93
    have hf := im hc42_2 hf
    by_cases hc42_3 : x2 = 3
    · have hf := ip hc42_3 hf
      refine lv_tableIn (tgt := 94) hx hb d_Model_event_42 (by rw [hc42_3]; decide) (by rw [hc42_3]; decide) (by rw [hc42_3]; rfl) (by decide) ?_
      refine lv_aload_n hx hb d_Model_event_94 rfl (lv_at hl 0 rfl) ?_
      refine gt (ci := 6) (v := .ref h_b) C hH (iwT iw_Model) 0 rfl rfl 3 (by decide) (.tail _ wd_599) rfl d_Model_event_95 ?_
      refine lv_iload_n hx hb d_Model_event_98 rfl (lv_at hl 1 rfl) ?_
      obtain ⟨hin99, hf⟩ := oa hf
      refine ali C hH 2 0 rfl rfl (hin99) d_Model_event_99 ?_
      refine lv_i2l (v := (r33.2.2.1.2.2.2.1 x1.toNatClampNeg).toInt64) hx hb d_Model_event_100 rfl ?_
      have hf := Option.some.inj hf
      subst hf
      exact rJ (v := (r33.2.2.1.2.2.2.1 x1.toNatClampNeg).toInt64) C hH d_Model_event_101
    have hf := im hc42_3 hf
    refine lv_tableOut (tgt := 102) hx hb d_Model_event_42 (by have h0 := i32n (k := 0) hc42_0 (by decide); have h1 := i32n (k := 1) hc42_1 (by decide); have h2 := i32n (k := 2) hc42_2 (by decide); have h3 := i32n (k := 3) hc42_3 (by decide); omega) (by decide) ?_
    refine lv_aload_n hx hb d_Model_event_102 rfl (lv_at hl 0 rfl) ?_
    refine lv_iload_n hx hb d_Model_event_103 rfl (lv_at hl 1 rfl) ?_
    obtain ⟨r104, hr104, hf⟩ := ob hf
    refine fnVR (rest := []) (st2 := [.long r104]) C (c_Model_sum l D cI cL h h_kind h_b h_difference h_a h_newKind h_newB h_newDifference h_newA h_log h_packed r33.2 x1 r104 hr104) (cV hts kV_Model_sum wd_793 ⟨Nat.le_of_ble_eq_true rfl, Nat.le_of_ble_eq_true rfl⟩) hH [0, 1, 2, 3, 4, 5, 6, 7, 8, 9, 10] rfl rfl 0 rfl rfl rfl hl.1 rfl (Nat.le_of_ble_eq_true rfl) d_Model_event_104 ⟨Nat.le_of_ble_eq_true rfl, Nat.le_of_ble_eq_true rfl⟩ rfl (fun H locs hH => ?_)
    have hf := Option.some.inj hf
    subst hf
    exact rJ (v := r104) C hH d_Model_event_107
  · have hf := im hc36 hf
    refine lv_lconst (v := 0) hx hb d_Model_event_39 (by decide) ?_
    have hf := Option.some.inj hf
    subst hf
    exact rJ (v := 0) C hH d_Model_event_40
def f_Model_event_b27 (st : S_Model) (x1 : Int32) (x2 : Int32) (z0 : Bool) : Option (Int64 × S_Model) :=
  f_Model_event_b32 st x1 x2 true z0
set_option maxRecDepth 100000 in
set_option maxHeartbeats 4000000 in
theorem w_Model_event_b27 (l : Launch) (D : va_G) (cI cL : ClassId) (h h_kind h_b h_difference h_a h_newKind h_newB h_newDifference h_newA h_log h_packed : Nat) {p : Program} {e : Env} {s : State} {m : MethodId} {args : Array Value} {below : List Frame} {meth : Method} {c : Code} {A : Nat → Prop} (C : Cx p s m args meth c D vwCl [(cI, .int), (cL, .long)] A b_Model_event 3 (some .long) ws_Model_event y_Model_event.cls) : ∀ (st : S_Model) (x1 : Int32) (x2 : Int32) (z0 : Bool) (res : Int64 × S_Model), f_Model_event_b27 st x1 x2 z0 = some res → ∀ (H : Heap) (locs : List Loc) (ls : Array Slot), Hp D vwCl A A s.heap H locs [(h, .inr (6, [.int st.1, .int st.2.1.2.2.2.2, .ref h_kind, .ref h_b, .ref h_difference, .ref h_a, .int st.2.2.1.2.2.2.2, .ref h_newKind, .ref h_newB, .ref h_newDifference, .ref h_newA, .int st.2.2.2.1.2, .ref h_log, .ref h_packed, .int st.2.2.2.2.1.2, .int st.2.2.2.2.2.1.1, .int st.2.2.2.2.2.1.2.1, .int st.2.2.2.2.2.1.2.2.1, .int st.2.2.2.2.2.1.2.2.2, .int st.2.2.2.2.2.2.1, .int st.2.2.2.2.2.2.2])), (h_kind, .inl (cI, 300, .inl st.2.1.1)), (h_b, .inl (cI, 300, .inl st.2.1.2.2.2.1)), (h_difference, .inl (cL, 300, .inr (.inl st.2.1.2.1))), (h_a, .inl (cL, 300, .inr (.inl st.2.1.2.2.1))), (h_newKind, .inl (cI, 300, .inl st.2.2.1.1)), (h_newB, .inl (cI, 300, .inl st.2.2.1.2.2.2.1)), (h_newDifference, .inl (cL, 300, .inr (.inl st.2.2.1.2.1))), (h_newA, .inl (cL, 300, .inr (.inl st.2.2.1.2.2.1))), (h_log, .inl (cI, 5000, .inl st.2.2.2.1.1)), (h_packed, .inl (cI, 5000, .inl st.2.2.2.2.1.1))] → lv_has ls 3 [(0, .ref h), (1, .int x1), (2, .int x2)] → W p l e { frames := 1, cells := 0, slots := 0, locals := 24 } s m args below meth c H locs 0 0 (MQ below (Qw D vwCl [(cI, .int), (cL, .long)] (some (.long res.1)) A [(h, .inr (6, [.int res.2.1, .int res.2.2.1.2.2.2.2, .ref h_kind, .ref h_b, .ref h_difference, .ref h_a, .int res.2.2.2.1.2.2.2.2, .ref h_newKind, .ref h_newB, .ref h_newDifference, .ref h_newA, .int res.2.2.2.2.1.2, .ref h_log, .ref h_packed, .int res.2.2.2.2.2.1.2, .int res.2.2.2.2.2.2.1.1, .int res.2.2.2.2.2.2.1.2.1, .int res.2.2.2.2.2.2.1.2.2.1, .int res.2.2.2.2.2.2.1.2.2.2, .int res.2.2.2.2.2.2.2.1, .int res.2.2.2.2.2.2.2.2])), (h_kind, .inl (cI, 300, .inl res.2.2.1.1)), (h_b, .inl (cI, 300, .inl res.2.2.1.2.2.2.1)), (h_difference, .inl (cL, 300, .inr (.inl res.2.2.1.2.1))), (h_a, .inl (cL, 300, .inr (.inl res.2.2.1.2.2.1))), (h_newKind, .inl (cI, 300, .inl res.2.2.2.1.1)), (h_newB, .inl (cI, 300, .inl res.2.2.2.1.2.2.2.1)), (h_newDifference, .inl (cL, 300, .inr (.inl res.2.2.2.1.2.1))), (h_newA, .inl (cL, 300, .inr (.inl res.2.2.2.1.2.2.1))), (h_log, .inl (cI, 5000, .inl res.2.2.2.2.1.1)), (h_packed, .inl (cI, 5000, .inl res.2.2.2.2.2.1.1))]) args s 0 0 A) (F0 m 27 ls [.int (bI z0), .ref h]) := by
  obtain ⟨hx, hb, hr, hml, hown, hts, hlk, hK, hA⟩ := id C
  intro st x1 x2 z0 res hf H locs ls hH hl
  unfold f_Model_event_b27 at hf
  refine lv_iconst (v := 1) hx hb d_Model_event_27 (by decide) ?_
  refine lv_goto (tgt := 32) hx hb d_Model_event_28 (by decide) ?_
  exact w_Model_event_b32 l D cI cL h h_kind h_b h_difference h_a h_newKind h_newB h_newDifference h_newA h_log h_packed C st x1 x2 true z0 res hf _ _ _ hH (lv_sub hl [0, 1, 2] rfl)
def f_Model_event_b18 (st : S_Model) (x1 : Int32) (x2 : Int32) (z0 : Bool) : Option (Int64 × S_Model) :=
  if x2 < 0 then (f_Model_event_b27 st x1 x2 z0) else (if x2 ≤ (4 : Int32) then (f_Model_event_b32 st x1 x2 false z0) else (f_Model_event_b27 st x1 x2 z0))
set_option maxRecDepth 100000 in
set_option maxHeartbeats 4000000 in
theorem w_Model_event_b18 (l : Launch) (D : va_G) (cI cL : ClassId) (h h_kind h_b h_difference h_a h_newKind h_newB h_newDifference h_newA h_log h_packed : Nat) {p : Program} {e : Env} {s : State} {m : MethodId} {args : Array Value} {below : List Frame} {meth : Method} {c : Code} {A : Nat → Prop} (C : Cx p s m args meth c D vwCl [(cI, .int), (cL, .long)] A b_Model_event 3 (some .long) ws_Model_event y_Model_event.cls) : ∀ (st : S_Model) (x1 : Int32) (x2 : Int32) (z0 : Bool) (res : Int64 × S_Model), f_Model_event_b18 st x1 x2 z0 = some res → ∀ (H : Heap) (locs : List Loc) (ls : Array Slot), Hp D vwCl A A s.heap H locs [(h, .inr (6, [.int st.1, .int st.2.1.2.2.2.2, .ref h_kind, .ref h_b, .ref h_difference, .ref h_a, .int st.2.2.1.2.2.2.2, .ref h_newKind, .ref h_newB, .ref h_newDifference, .ref h_newA, .int st.2.2.2.1.2, .ref h_log, .ref h_packed, .int st.2.2.2.2.1.2, .int st.2.2.2.2.2.1.1, .int st.2.2.2.2.2.1.2.1, .int st.2.2.2.2.2.1.2.2.1, .int st.2.2.2.2.2.1.2.2.2, .int st.2.2.2.2.2.2.1, .int st.2.2.2.2.2.2.2])), (h_kind, .inl (cI, 300, .inl st.2.1.1)), (h_b, .inl (cI, 300, .inl st.2.1.2.2.2.1)), (h_difference, .inl (cL, 300, .inr (.inl st.2.1.2.1))), (h_a, .inl (cL, 300, .inr (.inl st.2.1.2.2.1))), (h_newKind, .inl (cI, 300, .inl st.2.2.1.1)), (h_newB, .inl (cI, 300, .inl st.2.2.1.2.2.2.1)), (h_newDifference, .inl (cL, 300, .inr (.inl st.2.2.1.2.1))), (h_newA, .inl (cL, 300, .inr (.inl st.2.2.1.2.2.1))), (h_log, .inl (cI, 5000, .inl st.2.2.2.1.1)), (h_packed, .inl (cI, 5000, .inl st.2.2.2.2.1.1))] → lv_has ls 3 [(0, .ref h), (1, .int x1), (2, .int x2)] → W p l e { frames := 1, cells := 0, slots := 0, locals := 24 } s m args below meth c H locs 0 0 (MQ below (Qw D vwCl [(cI, .int), (cL, .long)] (some (.long res.1)) A [(h, .inr (6, [.int res.2.1, .int res.2.2.1.2.2.2.2, .ref h_kind, .ref h_b, .ref h_difference, .ref h_a, .int res.2.2.2.1.2.2.2.2, .ref h_newKind, .ref h_newB, .ref h_newDifference, .ref h_newA, .int res.2.2.2.2.1.2, .ref h_log, .ref h_packed, .int res.2.2.2.2.2.1.2, .int res.2.2.2.2.2.2.1.1, .int res.2.2.2.2.2.2.1.2.1, .int res.2.2.2.2.2.2.1.2.2.1, .int res.2.2.2.2.2.2.1.2.2.2, .int res.2.2.2.2.2.2.2.1, .int res.2.2.2.2.2.2.2.2])), (h_kind, .inl (cI, 300, .inl res.2.2.1.1)), (h_b, .inl (cI, 300, .inl res.2.2.1.2.2.2.1)), (h_difference, .inl (cL, 300, .inr (.inl res.2.2.1.2.1))), (h_a, .inl (cL, 300, .inr (.inl res.2.2.1.2.2.1))), (h_newKind, .inl (cI, 300, .inl res.2.2.2.1.1)), (h_newB, .inl (cI, 300, .inl res.2.2.2.1.2.2.2.1)), (h_newDifference, .inl (cL, 300, .inr (.inl res.2.2.2.1.2.1))), (h_newA, .inl (cL, 300, .inr (.inl res.2.2.2.1.2.2.1))), (h_log, .inl (cI, 5000, .inl res.2.2.2.2.1.1)), (h_packed, .inl (cI, 5000, .inl res.2.2.2.2.2.1.1))]) args s 0 0 A) (F0 m 18 ls [.int (bI z0), .ref h]) := by
  obtain ⟨hx, hb, hr, hml, hown, hts, hlk, hK, hA⟩ := id C
  intro st x1 x2 z0 res hf H locs ls hH hl
  unfold f_Model_event_b18 at hf
  refine lv_iload_n hx hb d_Model_event_18 rfl (lv_at hl 2 rfl) ?_
  refine lv_if_lt (tgt := 27) hx hb d_Model_event_19 (by decide) (fun hc19 => ?_) (fun hc19 => ?_)
  · have hf := ip hc19 hf
    exact w_Model_event_b27 l D cI cL h h_kind h_b h_difference h_a h_newKind h_newB h_newDifference h_newA h_log h_packed C st x1 x2 z0 res hf _ _ _ hH (lv_sub hl [0, 1, 2] rfl)
  · have hf := im hc19 hf
    refine lv_iload_n hx hb d_Model_event_22 rfl (lv_at hl 2 rfl) ?_
    refine lv_iconst (v := 4) hx hb d_Model_event_23 (by decide) ?_
    refine lv_icmp_le (tgt := 31) hx hb d_Model_event_24 (by decide) (fun hc24 => ?_) (fun hc24 => ?_)
    · have hf := ip hc24 hf
      refine lv_iconst (v := 0) hx hb d_Model_event_31 (by decide) ?_
      exact w_Model_event_b32 l D cI cL h h_kind h_b h_difference h_a h_newKind h_newB h_newDifference h_newA h_log h_packed C st x1 x2 false z0 res hf _ _ _ hH (lv_sub hl [0, 1, 2] rfl)
    · have hf := im hc24 hf
      exact w_Model_event_b27 l D cI cL h h_kind h_b h_difference h_a h_newKind h_newB h_newDifference h_newA h_log h_packed C st x1 x2 z0 res hf _ _ _ hH (lv_sub hl [0, 1, 2] rfl)
def f_Model_event_b13 (st : S_Model) (x1 : Int32) (x2 : Int32) : Option (Int64 × S_Model) :=
  f_Model_event_b18 st x1 x2 true
set_option maxRecDepth 100000 in
set_option maxHeartbeats 4000000 in
theorem w_Model_event_b13 (l : Launch) (D : va_G) (cI cL : ClassId) (h h_kind h_b h_difference h_a h_newKind h_newB h_newDifference h_newA h_log h_packed : Nat) {p : Program} {e : Env} {s : State} {m : MethodId} {args : Array Value} {below : List Frame} {meth : Method} {c : Code} {A : Nat → Prop} (C : Cx p s m args meth c D vwCl [(cI, .int), (cL, .long)] A b_Model_event 3 (some .long) ws_Model_event y_Model_event.cls) : ∀ (st : S_Model) (x1 : Int32) (x2 : Int32) (res : Int64 × S_Model), f_Model_event_b13 st x1 x2 = some res → ∀ (H : Heap) (locs : List Loc) (ls : Array Slot), Hp D vwCl A A s.heap H locs [(h, .inr (6, [.int st.1, .int st.2.1.2.2.2.2, .ref h_kind, .ref h_b, .ref h_difference, .ref h_a, .int st.2.2.1.2.2.2.2, .ref h_newKind, .ref h_newB, .ref h_newDifference, .ref h_newA, .int st.2.2.2.1.2, .ref h_log, .ref h_packed, .int st.2.2.2.2.1.2, .int st.2.2.2.2.2.1.1, .int st.2.2.2.2.2.1.2.1, .int st.2.2.2.2.2.1.2.2.1, .int st.2.2.2.2.2.1.2.2.2, .int st.2.2.2.2.2.2.1, .int st.2.2.2.2.2.2.2])), (h_kind, .inl (cI, 300, .inl st.2.1.1)), (h_b, .inl (cI, 300, .inl st.2.1.2.2.2.1)), (h_difference, .inl (cL, 300, .inr (.inl st.2.1.2.1))), (h_a, .inl (cL, 300, .inr (.inl st.2.1.2.2.1))), (h_newKind, .inl (cI, 300, .inl st.2.2.1.1)), (h_newB, .inl (cI, 300, .inl st.2.2.1.2.2.2.1)), (h_newDifference, .inl (cL, 300, .inr (.inl st.2.2.1.2.1))), (h_newA, .inl (cL, 300, .inr (.inl st.2.2.1.2.2.1))), (h_log, .inl (cI, 5000, .inl st.2.2.2.1.1)), (h_packed, .inl (cI, 5000, .inl st.2.2.2.2.1.1))] → lv_has ls 3 [(0, .ref h), (1, .int x1), (2, .int x2)] → W p l e { frames := 1, cells := 0, slots := 0, locals := 24 } s m args below meth c H locs 0 0 (MQ below (Qw D vwCl [(cI, .int), (cL, .long)] (some (.long res.1)) A [(h, .inr (6, [.int res.2.1, .int res.2.2.1.2.2.2.2, .ref h_kind, .ref h_b, .ref h_difference, .ref h_a, .int res.2.2.2.1.2.2.2.2, .ref h_newKind, .ref h_newB, .ref h_newDifference, .ref h_newA, .int res.2.2.2.2.1.2, .ref h_log, .ref h_packed, .int res.2.2.2.2.2.1.2, .int res.2.2.2.2.2.2.1.1, .int res.2.2.2.2.2.2.1.2.1, .int res.2.2.2.2.2.2.1.2.2.1, .int res.2.2.2.2.2.2.1.2.2.2, .int res.2.2.2.2.2.2.2.1, .int res.2.2.2.2.2.2.2.2])), (h_kind, .inl (cI, 300, .inl res.2.2.1.1)), (h_b, .inl (cI, 300, .inl res.2.2.1.2.2.2.1)), (h_difference, .inl (cL, 300, .inr (.inl res.2.2.1.2.1))), (h_a, .inl (cL, 300, .inr (.inl res.2.2.1.2.2.1))), (h_newKind, .inl (cI, 300, .inl res.2.2.2.1.1)), (h_newB, .inl (cI, 300, .inl res.2.2.2.1.2.2.2.1)), (h_newDifference, .inl (cL, 300, .inr (.inl res.2.2.2.1.2.1))), (h_newA, .inl (cL, 300, .inr (.inl res.2.2.2.1.2.2.1))), (h_log, .inl (cI, 5000, .inl res.2.2.2.2.1.1)), (h_packed, .inl (cI, 5000, .inl res.2.2.2.2.2.1.1))]) args s 0 0 A) (F0 m 13 ls [.ref h]) := by
  obtain ⟨hx, hb, hr, hml, hown, hts, hlk, hK, hA⟩ := id C
  intro st x1 x2 res hf H locs ls hH hl
  unfold f_Model_event_b13 at hf
  refine lv_iconst (v := 1) hx hb d_Model_event_13 (by decide) ?_
  refine lv_goto (tgt := 18) hx hb d_Model_event_14 (by decide) ?_
  exact w_Model_event_b18 l D cI cL h h_kind h_b h_difference h_a h_newKind h_newB h_newDifference h_newA h_log h_packed C st x1 x2 true res hf _ _ _ hH (lv_sub hl [0, 1, 2] rfl)
def f_Model_event (st : S_Model) (x1 : Int32) (x2 : Int32) : Option (Int64 × S_Model) :=
  if x1 < 0 then (f_Model_event_b13 st x1 x2) else (if x1 < st.2.1.2.2.2.2 then (f_Model_event_b18 st x1 x2 false) else (f_Model_event_b13 st x1 x2))
set_option maxRecDepth 100000 in
set_option maxHeartbeats 4000000 in
theorem c_Model_event (l : Launch) (D : va_G) (cI cL : ClassId) (h h_kind h_b h_difference h_a h_newKind h_newB h_newDifference h_newA h_log h_packed : Nat) (st : S_Model) (x1 : Int32) (x2 : Int32) (res : Int64 × S_Model) (hf : f_Model_event st x1 x2 = some res) :
    Fn l D vwCl [(cI, .int), (cL, .long)] y_Model_event ws_Model_event { frames := 1, cells := 0, slots := 0, locals := 24 } [.ref h, .int x1, .int x2] [(h, .inr (6, [.int st.1, .int st.2.1.2.2.2.2, .ref h_kind, .ref h_b, .ref h_difference, .ref h_a, .int st.2.2.1.2.2.2.2, .ref h_newKind, .ref h_newB, .ref h_newDifference, .ref h_newA, .int st.2.2.2.1.2, .ref h_log, .ref h_packed, .int st.2.2.2.2.1.2, .int st.2.2.2.2.2.1.1, .int st.2.2.2.2.2.1.2.1, .int st.2.2.2.2.2.1.2.2.1, .int st.2.2.2.2.2.1.2.2.2, .int st.2.2.2.2.2.2.1, .int st.2.2.2.2.2.2.2])), (h_kind, .inl (cI, 300, .inl st.2.1.1)), (h_b, .inl (cI, 300, .inl st.2.1.2.2.2.1)), (h_difference, .inl (cL, 300, .inr (.inl st.2.1.2.1))), (h_a, .inl (cL, 300, .inr (.inl st.2.1.2.2.1))), (h_newKind, .inl (cI, 300, .inl st.2.2.1.1)), (h_newB, .inl (cI, 300, .inl st.2.2.1.2.2.2.1)), (h_newDifference, .inl (cL, 300, .inr (.inl st.2.2.1.2.1))), (h_newA, .inl (cL, 300, .inr (.inl st.2.2.1.2.2.1))), (h_log, .inl (cI, 5000, .inl st.2.2.2.1.1)), (h_packed, .inl (cI, 5000, .inl st.2.2.2.2.1.1))] (some (.long res.1)) [(h, .inr (6, [.int res.2.1, .int res.2.2.1.2.2.2.2, .ref h_kind, .ref h_b, .ref h_difference, .ref h_a, .int res.2.2.2.1.2.2.2.2, .ref h_newKind, .ref h_newB, .ref h_newDifference, .ref h_newA, .int res.2.2.2.2.1.2, .ref h_log, .ref h_packed, .int res.2.2.2.2.2.1.2, .int res.2.2.2.2.2.2.1.1, .int res.2.2.2.2.2.2.1.2.1, .int res.2.2.2.2.2.2.1.2.2.1, .int res.2.2.2.2.2.2.1.2.2.2, .int res.2.2.2.2.2.2.2.1, .int res.2.2.2.2.2.2.2.2])), (h_kind, .inl (cI, 300, .inl res.2.2.1.1)), (h_b, .inl (cI, 300, .inl res.2.2.1.2.2.2.1)), (h_difference, .inl (cL, 300, .inr (.inl res.2.2.1.2.1))), (h_a, .inl (cL, 300, .inr (.inl res.2.2.1.2.2.1))), (h_newKind, .inl (cI, 300, .inl res.2.2.2.1.1)), (h_newB, .inl (cI, 300, .inl res.2.2.2.1.2.2.2.1)), (h_newDifference, .inl (cL, 300, .inr (.inl res.2.2.2.1.2.1))), (h_newA, .inl (cL, 300, .inr (.inl res.2.2.2.1.2.2.1))), (h_log, .inl (cI, 5000, .inl res.2.2.2.2.1.1)), (h_packed, .inl (cI, 5000, .inl res.2.2.2.2.2.1.1))] := by
  refine Fn.ofW (cc := b_Model_event) (maxL := 3) (ret := (some .long)) (by decide) rfl (Nat.le_of_ble_eq_true rfl) ?_
  intro p e s m below meth c A ls C hH hinit hl
  have hl : lv_has ls 3 [(0, .ref h), (1, .int x1), (2, .int x2)] := hl
  obtain ⟨hx, hb, hr, hml, hown, hts, hlk, hK, hA⟩ := id C
  unfold f_Model_event at hf
  refine lv_aload_n hx hb d_Model_event_0 rfl (lv_at hl 0 rfl) ?_
  refine lv_iload_n hx hb d_Model_event_1 rfl (lv_at hl 1 rfl) ?_
  refine lv_if_lt (tgt := 13) hx hb d_Model_event_2 (by decide) (fun hc2 => ?_) (fun hc2 => ?_)
  · have hf := ip hc2 hf
    exact w_Model_event_b13 l D cI cL h h_kind h_b h_difference h_a h_newKind h_newB h_newDifference h_newA h_log h_packed C st x1 x2 res hf _ _ _ hH (lv_sub hl [0, 1, 2] rfl)
  · have hf := im hc2 hf
    refine lv_iload_n hx hb d_Model_event_5 rfl (lv_at hl 1 rfl) ?_
    refine lv_aload_n hx hb d_Model_event_6 rfl (lv_at hl 0 rfl) ?_
    refine gt (ci := 6) (v := .int st.2.1.2.2.2.2) C hH (iwT iw_Model) 0 rfl rfl 1 (by decide) (.tail _ wd_597) rfl d_Model_event_7 ?_
    refine lv_icmp_lt (tgt := 17) hx hb d_Model_event_10 (by decide) (fun hc10 => ?_) (fun hc10 => ?_)
    · have hf := ip hc10 hf
      refine lv_iconst (v := 0) hx hb d_Model_event_17 (by decide) ?_
      exact w_Model_event_b18 l D cI cL h h_kind h_b h_difference h_a h_newKind h_newB h_newDifference h_newA h_log h_packed C st x1 x2 false res hf _ _ _ hH (lv_sub hl [0, 1, 2] rfl)
    · have hf := im hc10 hf
      exact w_Model_event_b13 l D cI cL h h_kind h_b h_difference h_a h_newKind h_newB h_newDifference h_newA h_log h_packed C st x1 x2 res hf _ _ _ hH (lv_sub hl [0, 1, 2] rfl)
def f_Model_at_b12 : Nat → S_Model → Int64 → Int32 → Option (Int32 × S_Model)
  | 0, _, _, _ => none
  | n + 1, st, x1, x3 =>
  if x3 < 0 then (some ((x3, st))) else ((f_Model_sum st x3).bind (fun r18 => if (lg_cmp r18 x1) ≤ 0 then (some ((x3, st))) else (f_Model_at_b12 n st x1 (x3 + (-1)))))
set_option maxRecDepth 100000 in
set_option maxHeartbeats 4000000 in
theorem w_Model_at_b12 (l : Launch) (D : va_G) (cI cL : ClassId) (h h_kind h_b h_difference h_a h_newKind h_newB h_newDifference h_newA h_log h_packed : Nat) {p : Program} {e : Env} {s : State} {m : MethodId} {args : Array Value} {below : List Frame} {meth : Method} {c : Code} {A : Nat → Prop} (C : Cx p s m args meth c D vwCl [(cI, .int), (cL, .long)] A b_Model_at 4 (some .int) ws_Model_at y_Model_at.cls) : ∀ (n : Nat) (st : S_Model) (x1 : Int64) (x3 : Int32) (res : Int32 × S_Model), f_Model_at_b12 n st x1 x3 = some res → ∀ (H : Heap) (locs : List Loc) (ls : Array Slot), Hp D vwCl A A s.heap H locs [(h, .inr (6, [.int st.1, .int st.2.1.2.2.2.2, .ref h_kind, .ref h_b, .ref h_difference, .ref h_a, .int st.2.2.1.2.2.2.2, .ref h_newKind, .ref h_newB, .ref h_newDifference, .ref h_newA, .int st.2.2.2.1.2, .ref h_log, .ref h_packed, .int st.2.2.2.2.1.2, .int st.2.2.2.2.2.1.1, .int st.2.2.2.2.2.1.2.1, .int st.2.2.2.2.2.1.2.2.1, .int st.2.2.2.2.2.1.2.2.2, .int st.2.2.2.2.2.2.1, .int st.2.2.2.2.2.2.2])), (h_kind, .inl (cI, 300, .inl st.2.1.1)), (h_b, .inl (cI, 300, .inl st.2.1.2.2.2.1)), (h_difference, .inl (cL, 300, .inr (.inl st.2.1.2.1))), (h_a, .inl (cL, 300, .inr (.inl st.2.1.2.2.1))), (h_newKind, .inl (cI, 300, .inl st.2.2.1.1)), (h_newB, .inl (cI, 300, .inl st.2.2.1.2.2.2.1)), (h_newDifference, .inl (cL, 300, .inr (.inl st.2.2.1.2.1))), (h_newA, .inl (cL, 300, .inr (.inl st.2.2.1.2.2.1))), (h_log, .inl (cI, 5000, .inl st.2.2.2.1.1)), (h_packed, .inl (cI, 5000, .inl st.2.2.2.2.1.1))] → lv_has ls 4 [(0, .ref h), (1, .long x1), (3, .int x3)] → W p l e { frames := 1, cells := 0, slots := 0, locals := 24 } s m args below meth c H locs 0 0 (MQ below (Qw D vwCl [(cI, .int), (cL, .long)] (some (.int res.1)) A [(h, .inr (6, [.int res.2.1, .int res.2.2.1.2.2.2.2, .ref h_kind, .ref h_b, .ref h_difference, .ref h_a, .int res.2.2.2.1.2.2.2.2, .ref h_newKind, .ref h_newB, .ref h_newDifference, .ref h_newA, .int res.2.2.2.2.1.2, .ref h_log, .ref h_packed, .int res.2.2.2.2.2.1.2, .int res.2.2.2.2.2.2.1.1, .int res.2.2.2.2.2.2.1.2.1, .int res.2.2.2.2.2.2.1.2.2.1, .int res.2.2.2.2.2.2.1.2.2.2, .int res.2.2.2.2.2.2.2.1, .int res.2.2.2.2.2.2.2.2])), (h_kind, .inl (cI, 300, .inl res.2.2.1.1)), (h_b, .inl (cI, 300, .inl res.2.2.1.2.2.2.1)), (h_difference, .inl (cL, 300, .inr (.inl res.2.2.1.2.1))), (h_a, .inl (cL, 300, .inr (.inl res.2.2.1.2.2.1))), (h_newKind, .inl (cI, 300, .inl res.2.2.2.1.1)), (h_newB, .inl (cI, 300, .inl res.2.2.2.1.2.2.2.1)), (h_newDifference, .inl (cL, 300, .inr (.inl res.2.2.2.1.2.1))), (h_newA, .inl (cL, 300, .inr (.inl res.2.2.2.1.2.2.1))), (h_log, .inl (cI, 5000, .inl res.2.2.2.2.1.1)), (h_packed, .inl (cI, 5000, .inl res.2.2.2.2.2.1.1))]) args s 0 0 A) (F0 m 12 ls []) := by
  obtain ⟨hx, hb, hr, hml, hown, hts, hlk, hK, hA⟩ := id C
  intro n
  induction n with
  | zero => intro st x1 x3 res hf; cases hf
  | succ n ih =>
    intro st x1 x3 res hf H locs ls hH hl
    rw [f_Model_at_b12] at hf
    refine lv_iload_n hx hb d_Model_at_12 rfl (lv_at hl 2 rfl) ?_
    refine lv_if_lt (tgt := 32) hx hb d_Model_at_13 (by decide) (fun hc13 => ?_) (fun hc13 => ?_)
    · have hf := ip hc13 hf
      refine lv_iload_n hx hb d_Model_at_32 rfl (lv_at hl 2 rfl) ?_
      have hf := Option.some.inj hf
      subst hf
      exact rI (v := x3) C hH d_Model_at_33
    · have hf := im hc13 hf
      refine lv_aload_n hx hb d_Model_at_16 rfl (lv_at hl 0 rfl) ?_
      refine lv_iload_n hx hb d_Model_at_17 rfl (lv_at hl 2 rfl) ?_
      obtain ⟨r18, hr18, hf⟩ := ob hf
      refine fnVR (rest := []) (st2 := [.long r18]) C (c_Model_sum l D cI cL h h_kind h_b h_difference h_a h_newKind h_newB h_newDifference h_newA h_log h_packed st x3 r18 hr18) (cV hts kV_Model_sum wd_793 ⟨Nat.le_of_ble_eq_true rfl, Nat.le_of_ble_eq_true rfl⟩) hH [0, 1, 2, 3, 4, 5, 6, 7, 8, 9, 10] rfl rfl 0 rfl rfl rfl hl.1 rfl (Nat.le_of_ble_eq_true rfl) d_Model_at_18 ⟨Nat.le_of_ble_eq_true rfl, Nat.le_of_ble_eq_true rfl⟩ rfl (fun H locs hH => ?_)
      refine lv_lload_n hx hb d_Model_at_21 rfl (lv_at hl 1 rfl) ?_
      refine W.lcmp hx hb d_Model_at_22 ?_
      refine lv_if_le (tgt := 32) hx hb d_Model_at_23 (by decide) (fun hc23 => ?_) (fun hc23 => ?_)
      · have hf := ip hc23 hf
        refine lv_iload_n hx hb d_Model_at_32 rfl (lv_at hl 2 rfl) ?_
        have hf := Option.some.inj hf
        subst hf
        exact rI (v := x3) C hH d_Model_at_33
      · have hf := im hc23 hf
        refine lv_iinc (v := x3 + (-1)) (lv' := [(3, .int (x3 + (-1))), (0, .ref h), (1, .long x1)]) hx hb d_Model_at_26 hl (k := 2) rfl rfl (by decide) rfl (fun ls hl => ?_)
        refine lv_goto (tgt := 12) hx hb d_Model_at_29 (by decide) ?_
        exact ih st x1 (x3 + (-1)) res hf _ _ _ hH (lv_sub hl [1, 2, 0] rfl)
def f_Model_at (st : S_Model) (x1 : Int64) : Option (Int32 × S_Model) :=
  f_Model_at_b12 400 ((0, st.2.1, st.2.2.1, st.2.2.2.1, st.2.2.2.2.1, st.2.2.2.2.2.1, st.2.2.2.2.2.2.1, st.2.2.2.2.2.2.2)) x1 (st.2.1.2.2.2.2 - 1)
set_option maxRecDepth 100000 in
set_option maxHeartbeats 4000000 in
theorem c_Model_at (l : Launch) (D : va_G) (cI cL : ClassId) (h h_kind h_b h_difference h_a h_newKind h_newB h_newDifference h_newA h_log h_packed : Nat) (st : S_Model) (x1 : Int64) (res : Int32 × S_Model) (hf : f_Model_at st x1 = some res) :
    Fn l D vwCl [(cI, .int), (cL, .long)] y_Model_at ws_Model_at { frames := 1, cells := 0, slots := 0, locals := 24 } [.ref h, .long x1] [(h, .inr (6, [.int st.1, .int st.2.1.2.2.2.2, .ref h_kind, .ref h_b, .ref h_difference, .ref h_a, .int st.2.2.1.2.2.2.2, .ref h_newKind, .ref h_newB, .ref h_newDifference, .ref h_newA, .int st.2.2.2.1.2, .ref h_log, .ref h_packed, .int st.2.2.2.2.1.2, .int st.2.2.2.2.2.1.1, .int st.2.2.2.2.2.1.2.1, .int st.2.2.2.2.2.1.2.2.1, .int st.2.2.2.2.2.1.2.2.2, .int st.2.2.2.2.2.2.1, .int st.2.2.2.2.2.2.2])), (h_kind, .inl (cI, 300, .inl st.2.1.1)), (h_b, .inl (cI, 300, .inl st.2.1.2.2.2.1)), (h_difference, .inl (cL, 300, .inr (.inl st.2.1.2.1))), (h_a, .inl (cL, 300, .inr (.inl st.2.1.2.2.1))), (h_newKind, .inl (cI, 300, .inl st.2.2.1.1)), (h_newB, .inl (cI, 300, .inl st.2.2.1.2.2.2.1)), (h_newDifference, .inl (cL, 300, .inr (.inl st.2.2.1.2.1))), (h_newA, .inl (cL, 300, .inr (.inl st.2.2.1.2.2.1))), (h_log, .inl (cI, 5000, .inl st.2.2.2.1.1)), (h_packed, .inl (cI, 5000, .inl st.2.2.2.2.1.1))] (some (.int res.1)) [(h, .inr (6, [.int res.2.1, .int res.2.2.1.2.2.2.2, .ref h_kind, .ref h_b, .ref h_difference, .ref h_a, .int res.2.2.2.1.2.2.2.2, .ref h_newKind, .ref h_newB, .ref h_newDifference, .ref h_newA, .int res.2.2.2.2.1.2, .ref h_log, .ref h_packed, .int res.2.2.2.2.2.1.2, .int res.2.2.2.2.2.2.1.1, .int res.2.2.2.2.2.2.1.2.1, .int res.2.2.2.2.2.2.1.2.2.1, .int res.2.2.2.2.2.2.1.2.2.2, .int res.2.2.2.2.2.2.2.1, .int res.2.2.2.2.2.2.2.2])), (h_kind, .inl (cI, 300, .inl res.2.2.1.1)), (h_b, .inl (cI, 300, .inl res.2.2.1.2.2.2.1)), (h_difference, .inl (cL, 300, .inr (.inl res.2.2.1.2.1))), (h_a, .inl (cL, 300, .inr (.inl res.2.2.1.2.2.1))), (h_newKind, .inl (cI, 300, .inl res.2.2.2.1.1)), (h_newB, .inl (cI, 300, .inl res.2.2.2.1.2.2.2.1)), (h_newDifference, .inl (cL, 300, .inr (.inl res.2.2.2.1.2.1))), (h_newA, .inl (cL, 300, .inr (.inl res.2.2.2.1.2.2.1))), (h_log, .inl (cI, 5000, .inl res.2.2.2.2.1.1)), (h_packed, .inl (cI, 5000, .inl res.2.2.2.2.2.1.1))] := by
  refine Fn.ofW (cc := b_Model_at) (maxL := 4) (ret := (some .int)) (by decide) rfl (Nat.le_of_ble_eq_true rfl) ?_
  intro p e s m below meth c A ls C hH hinit hl
  have hl : lv_has ls 4 [(0, .ref h), (1, .long x1)] := hl
  obtain ⟨hx, hb, hr, hml, hown, hts, hlk, hK, hA⟩ := id C
  unfold f_Model_at at hf
  refine lv_aload_n hx hb d_Model_at_0 rfl (lv_at hl 0 rfl) ?_
  refine lv_iconst (v := 0) hx hb d_Model_at_1 (by decide) ?_
  refine pt (ci := 6) (v := .int 0) C hH (iwT iw_Model) ty_Model tyok_Model nm_Model 0 rfl rfl 0 (by decide) (.tail _ wd_596) rfl rfl rfl (Nat.le_of_ble_eq_true rfl) d_Model_at_2 [(h, .inr (6, [.int 0, .int st.2.1.2.2.2.2, .ref h_kind, .ref h_b, .ref h_difference, .ref h_a, .int st.2.2.1.2.2.2.2, .ref h_newKind, .ref h_newB, .ref h_newDifference, .ref h_newA, .int st.2.2.2.1.2, .ref h_log, .ref h_packed, .int st.2.2.2.2.1.2, .int st.2.2.2.2.2.1.1, .int st.2.2.2.2.2.1.2.1, .int st.2.2.2.2.2.1.2.2.1, .int st.2.2.2.2.2.1.2.2.2, .int st.2.2.2.2.2.2.1, .int st.2.2.2.2.2.2.2])), (h_kind, .inl (cI, 300, .inl st.2.1.1)), (h_b, .inl (cI, 300, .inl st.2.1.2.2.2.1)), (h_difference, .inl (cL, 300, .inr (.inl st.2.1.2.1))), (h_a, .inl (cL, 300, .inr (.inl st.2.1.2.2.1))), (h_newKind, .inl (cI, 300, .inl st.2.2.1.1)), (h_newB, .inl (cI, 300, .inl st.2.2.1.2.2.2.1)), (h_newDifference, .inl (cL, 300, .inr (.inl st.2.2.1.2.1))), (h_newA, .inl (cL, 300, .inr (.inl st.2.2.1.2.2.1))), (h_log, .inl (cI, 5000, .inl st.2.2.2.1.1)), (h_packed, .inl (cI, 5000, .inl st.2.2.2.2.1.1))] rfl (fun H locs hH => ?_)
  refine lv_aload_n hx hb d_Model_at_5 rfl (lv_at hl 0 rfl) ?_
  refine gt (ci := 6) (v := .int st.2.1.2.2.2.2) C hH (iwT iw_Model) 0 rfl rfl 1 (by decide) (.tail _ wd_597) rfl d_Model_at_6 ?_
  refine lv_iconst (v := 1) hx hb d_Model_at_9 (by decide) ?_
  refine lv_isub hx hb d_Model_at_10 ?_
  refine lv_istore_n (lv' := [(3, .int (st.2.1.2.2.2.2 - 1)), (0, .ref h), (1, .long x1)]) hx hb d_Model_at_11 rfl hl (by decide) rfl (fun ls hl => ?_)
  exact w_Model_at_b12 l D cI cL h h_kind h_b h_difference h_a h_newKind h_newB h_newDifference h_newA h_log h_packed C 400 ((0, st.2.1, st.2.2.1, st.2.2.2.1, st.2.2.2.2.1, st.2.2.2.2.2.1, st.2.2.2.2.2.2.1, st.2.2.2.2.2.2.2)) x1 (st.2.1.2.2.2.2 - 1) res hf _ _ _ hH (lv_sub hl [1, 2, 0] rfl)
def f_Model_count (st : S_Model) (x1 : Int32) : Option (Int32 × S_Model) :=
  (f_Model_makeUp ((0, st.2.1, st.2.2.1, st.2.2.2.1, st.2.2.2.2.1, st.2.2.2.2.2.1, st.2.2.2.2.2.2.1, st.2.2.2.2.2.2.2))).bind (fun r6 => if x1 = 0 then (some ((r6.2.1.2.2.2.2, r6))) else if x1 = 1 then (some ((r6.2.2.2.1.2, r6))) else if x1 = 2 then (some ((r6.2.2.2.2.2.1.1, r6))) else if x1 = 3 then (some ((r6.2.2.2.2.2.1.2.1, r6))) else if x1 = 4 then (some ((r6.2.2.2.2.2.1.2.2.1, r6))) else if x1 = 5 then (some ((r6.2.2.2.2.2.1.2.2.2, r6))) else (some (((-1), r6))))
set_option maxRecDepth 100000 in
set_option maxHeartbeats 4000000 in
theorem c_Model_count (l : Launch) (D : va_G) (cI cL : ClassId) (h h_kind h_b h_difference h_a h_newKind h_newB h_newDifference h_newA h_log h_packed : Nat) (st : S_Model) (x1 : Int32) (res : Int32 × S_Model) (hf : f_Model_count st x1 = some res) :
    Fn l D vwCl [(cI, .int), (cL, .long)] y_Model_count ws_Model_count { frames := 4, cells := 0, slots := 0, locals := 95 } [.ref h, .int x1] [(h, .inr (6, [.int st.1, .int st.2.1.2.2.2.2, .ref h_kind, .ref h_b, .ref h_difference, .ref h_a, .int st.2.2.1.2.2.2.2, .ref h_newKind, .ref h_newB, .ref h_newDifference, .ref h_newA, .int st.2.2.2.1.2, .ref h_log, .ref h_packed, .int st.2.2.2.2.1.2, .int st.2.2.2.2.2.1.1, .int st.2.2.2.2.2.1.2.1, .int st.2.2.2.2.2.1.2.2.1, .int st.2.2.2.2.2.1.2.2.2, .int st.2.2.2.2.2.2.1, .int st.2.2.2.2.2.2.2])), (h_kind, .inl (cI, 300, .inl st.2.1.1)), (h_b, .inl (cI, 300, .inl st.2.1.2.2.2.1)), (h_difference, .inl (cL, 300, .inr (.inl st.2.1.2.1))), (h_a, .inl (cL, 300, .inr (.inl st.2.1.2.2.1))), (h_newKind, .inl (cI, 300, .inl st.2.2.1.1)), (h_newB, .inl (cI, 300, .inl st.2.2.1.2.2.2.1)), (h_newDifference, .inl (cL, 300, .inr (.inl st.2.2.1.2.1))), (h_newA, .inl (cL, 300, .inr (.inl st.2.2.1.2.2.1))), (h_log, .inl (cI, 5000, .inl st.2.2.2.1.1)), (h_packed, .inl (cI, 5000, .inl st.2.2.2.2.1.1))] (some (.int res.1)) [(h, .inr (6, [.int res.2.1, .int res.2.2.1.2.2.2.2, .ref h_kind, .ref h_b, .ref h_difference, .ref h_a, .int res.2.2.2.1.2.2.2.2, .ref h_newKind, .ref h_newB, .ref h_newDifference, .ref h_newA, .int res.2.2.2.2.1.2, .ref h_log, .ref h_packed, .int res.2.2.2.2.2.1.2, .int res.2.2.2.2.2.2.1.1, .int res.2.2.2.2.2.2.1.2.1, .int res.2.2.2.2.2.2.1.2.2.1, .int res.2.2.2.2.2.2.1.2.2.2, .int res.2.2.2.2.2.2.2.1, .int res.2.2.2.2.2.2.2.2])), (h_kind, .inl (cI, 300, .inl res.2.2.1.1)), (h_b, .inl (cI, 300, .inl res.2.2.1.2.2.2.1)), (h_difference, .inl (cL, 300, .inr (.inl res.2.2.1.2.1))), (h_a, .inl (cL, 300, .inr (.inl res.2.2.1.2.2.1))), (h_newKind, .inl (cI, 300, .inl res.2.2.2.1.1)), (h_newB, .inl (cI, 300, .inl res.2.2.2.1.2.2.2.1)), (h_newDifference, .inl (cL, 300, .inr (.inl res.2.2.2.1.2.1))), (h_newA, .inl (cL, 300, .inr (.inl res.2.2.2.1.2.2.1))), (h_log, .inl (cI, 5000, .inl res.2.2.2.2.1.1)), (h_packed, .inl (cI, 5000, .inl res.2.2.2.2.2.1.1))] := by
  refine Fn.ofW (cc := b_Model_count) (maxL := 2) (ret := (some .int)) (by decide) rfl (Nat.le_of_ble_eq_true rfl) ?_
  intro p e s m below meth c A ls C hH hinit hl
  have hl : lv_has ls 2 [(0, .ref h), (1, .int x1)] := hl
  obtain ⟨hx, hb, hr, hml, hown, hts, hlk, hK, hA⟩ := id C
  unfold f_Model_count at hf
  refine lv_aload_n hx hb d_Model_count_0 rfl (lv_at hl 0 rfl) ?_
  refine lv_iconst (v := 0) hx hb d_Model_count_1 (by decide) ?_
  refine pt (ci := 6) (v := .int 0) C hH (iwT iw_Model) ty_Model tyok_Model nm_Model 0 rfl rfl 0 (by decide) (.tail _ wd_596) rfl rfl rfl (Nat.le_of_ble_eq_true rfl) d_Model_count_2 [(h, .inr (6, [.int 0, .int st.2.1.2.2.2.2, .ref h_kind, .ref h_b, .ref h_difference, .ref h_a, .int st.2.2.1.2.2.2.2, .ref h_newKind, .ref h_newB, .ref h_newDifference, .ref h_newA, .int st.2.2.2.1.2, .ref h_log, .ref h_packed, .int st.2.2.2.2.1.2, .int st.2.2.2.2.2.1.1, .int st.2.2.2.2.2.1.2.1, .int st.2.2.2.2.2.1.2.2.1, .int st.2.2.2.2.2.1.2.2.2, .int st.2.2.2.2.2.2.1, .int st.2.2.2.2.2.2.2])), (h_kind, .inl (cI, 300, .inl st.2.1.1)), (h_b, .inl (cI, 300, .inl st.2.1.2.2.2.1)), (h_difference, .inl (cL, 300, .inr (.inl st.2.1.2.1))), (h_a, .inl (cL, 300, .inr (.inl st.2.1.2.2.1))), (h_newKind, .inl (cI, 300, .inl st.2.2.1.1)), (h_newB, .inl (cI, 300, .inl st.2.2.1.2.2.2.1)), (h_newDifference, .inl (cL, 300, .inr (.inl st.2.2.1.2.1))), (h_newA, .inl (cL, 300, .inr (.inl st.2.2.1.2.2.1))), (h_log, .inl (cI, 5000, .inl st.2.2.2.1.1)), (h_packed, .inl (cI, 5000, .inl st.2.2.2.2.1.1))] rfl (fun H locs hH => ?_)
  refine lv_aload_n hx hb d_Model_count_5 rfl (lv_at hl 0 rfl) ?_
  obtain ⟨r6, hr6, hf⟩ := ob hf
  refine fnV (rest := []) (wr := []) (w2 := [(h, .inr (6, [.int r6.1, .int r6.2.1.2.2.2.2, .ref h_kind, .ref h_b, .ref h_difference, .ref h_a, .int r6.2.2.1.2.2.2.2, .ref h_newKind, .ref h_newB, .ref h_newDifference, .ref h_newA, .int r6.2.2.2.1.2, .ref h_log, .ref h_packed, .int r6.2.2.2.2.1.2, .int r6.2.2.2.2.2.1.1, .int r6.2.2.2.2.2.1.2.1, .int r6.2.2.2.2.2.1.2.2.1, .int r6.2.2.2.2.2.1.2.2.2, .int r6.2.2.2.2.2.2.1, .int r6.2.2.2.2.2.2.2])), (h_kind, .inl (cI, 300, .inl r6.2.1.1)), (h_b, .inl (cI, 300, .inl r6.2.1.2.2.2.1)), (h_difference, .inl (cL, 300, .inr (.inl r6.2.1.2.1))), (h_a, .inl (cL, 300, .inr (.inl r6.2.1.2.2.1))), (h_newKind, .inl (cI, 300, .inl r6.2.2.1.1)), (h_newB, .inl (cI, 300, .inl r6.2.2.1.2.2.2.1)), (h_newDifference, .inl (cL, 300, .inr (.inl r6.2.2.1.2.1))), (h_newA, .inl (cL, 300, .inr (.inl r6.2.2.1.2.2.1))), (h_log, .inl (cI, 5000, .inl r6.2.2.2.1.1)), (h_packed, .inl (cI, 5000, .inl r6.2.2.2.2.1.1))]) (st2 := []) C (c_Model_makeUp l D cI cL h h_kind h_b h_difference h_a h_newKind h_newB h_newDifference h_newA h_log h_packed ((0, st.2.1, st.2.2.1, st.2.2.2.1, st.2.2.2.2.1, st.2.2.2.2.2.1, st.2.2.2.2.2.2.1, st.2.2.2.2.2.2.2)) r6 hr6) (cV hts kV_Model_makeUp wd_694 ⟨Nat.le_of_ble_eq_true rfl, Nat.le_of_ble_eq_true rfl⟩) hH [0, 1, 2, 3, 4, 5, 6, 7, 8, 9, 10] [] [0, 1, 2, 3, 4, 5, 6, 7, 8, 9, 10] rfl rfl rfl rfl (by decide) rfl rfl 0 rfl rfl rfl hl.1 rfl (Nat.le_of_ble_eq_true rfl) d_Model_count_6 ⟨Nat.le_of_ble_eq_true rfl, Nat.le_of_ble_eq_true rfl⟩ rfl (fun H locs hH => ?_)
  refine lv_iload_n hx hb d_Model_count_9 rfl (lv_at hl 1 rfl) ?_
  by_cases hc10_0 : x1 = 0
  · have hf := ip hc10_0 hf
    refine lv_tableIn (tgt := 48) hx hb d_Model_count_10 (by rw [hc10_0]; decide) (by rw [hc10_0]; decide) (by rw [hc10_0]; rfl) (by decide) ?_
    refine lv_aload_n hx hb d_Model_count_48 rfl (lv_at hl 0 rfl) ?_
    refine gt (ci := 6) (v := .int r6.2.1.2.2.2.2) C hH (iwT iw_Model) 0 rfl rfl 1 (by decide) (.tail _ wd_597) rfl d_Model_count_49 ?_
    have hf := Option.some.inj hf
    subst hf
    exact rI (v := r6.2.1.2.2.2.2) C hH d_Model_count_52
  have hf := im hc10_0 hf
  by_cases hc10_1 : x1 = 1
  · have hf := ip hc10_1 hf
    refine lv_tableIn (tgt := 53) hx hb d_Model_count_10 (by rw [hc10_1]; decide) (by rw [hc10_1]; decide) (by rw [hc10_1]; rfl) (by decide) ?_
    refine lv_aload_n hx hb d_Model_count_53 rfl (lv_at hl 0 rfl) ?_
    refine gt (ci := 6) (v := .int r6.2.2.2.1.2) C hH (iwT iw_Model) 0 rfl rfl 11 (by decide) (.tail _ wd_607) rfl d_Model_count_54 ?_
    have hf := Option.some.inj hf
    subst hf
    exact rI (v := r6.2.2.2.1.2) C hH d_Model_count_57
  have hf := im hc10_1 hf
  by_cases hc10_2 : x1 = 2
  · have hf := ip hc10_2 hf
    refine lv_tableIn (tgt := 58) hx hb d_Model_count_10 (by rw [hc10_2]; decide) (by rw [hc10_2]; decide) (by rw [hc10_2]; rfl) (by decide) ?_
    refine lv_aload_n hx hb d_Model_count_58 rfl (lv_at hl 0 rfl) ?_
    refine gt (ci := 6) (v := .int r6.2.2.2.2.2.1.1) C hH (iwT iw_Model) 0 rfl rfl 15 (by decide) (.tail _ wd_611) rfl d_Model_count_59 ?_
    have hf := Option.some.inj hf
    subst hf
    exact rI (v := r6.2.2.2.2.2.1.1) C hH d_Model_count_62
  have hf := im hc10_2 hf
  by_cases hc10_3 : x1 = 3
  · have hf := ip hc10_3 hf
    refine lv_tableIn (tgt := 63) hx hb d_Model_count_10 (by rw [hc10_3]; decide) (by rw [hc10_3]; decide) (by rw [hc10_3]; rfl) (by decide) ?_
    refine lv_aload_n hx hb d_Model_count_63 rfl (lv_at hl 0 rfl) ?_
    refine gt (ci := 6) (v := .int r6.2.2.2.2.2.1.2.1) C hH (iwT iw_Model) 0 rfl rfl 16 (by decide) (.tail _ wd_612) rfl d_Model_count_64 ?_
    have hf := Option.some.inj hf
    subst hf
    exact rI (v := r6.2.2.2.2.2.1.2.1) C hH d_Model_count_67
  have hf := im hc10_3 hf
  by_cases hc10_4 : x1 = 4
  · have hf := ip hc10_4 hf
    refine lv_tableIn (tgt := 68) hx hb d_Model_count_10 (by rw [hc10_4]; decide) (by rw [hc10_4]; decide) (by rw [hc10_4]; rfl) (by decide) ?_
    refine lv_aload_n hx hb d_Model_count_68 rfl (lv_at hl 0 rfl) ?_
    refine gt (ci := 6) (v := .int r6.2.2.2.2.2.1.2.2.1) C hH (iwT iw_Model) 0 rfl rfl 17 (by decide) (.tail _ wd_613) rfl d_Model_count_69 ?_
    have hf := Option.some.inj hf
    subst hf
    exact rI (v := r6.2.2.2.2.2.1.2.2.1) C hH d_Model_count_72
  have hf := im hc10_4 hf
  by_cases hc10_5 : x1 = 5
  · have hf := ip hc10_5 hf
    refine lv_tableIn (tgt := 73) hx hb d_Model_count_10 (by rw [hc10_5]; decide) (by rw [hc10_5]; decide) (by rw [hc10_5]; rfl) (by decide) ?_
    refine lv_aload_n hx hb d_Model_count_73 rfl (lv_at hl 0 rfl) ?_
    refine gt (ci := 6) (v := .int r6.2.2.2.2.2.1.2.2.2) C hH (iwT iw_Model) 0 rfl rfl 18 (by decide) (.tail _ wd_614) rfl d_Model_count_74 ?_
    have hf := Option.some.inj hf
    subst hf
    exact rI (v := r6.2.2.2.2.2.1.2.2.2) C hH d_Model_count_77
  have hf := im hc10_5 hf
  refine lv_tableOut (tgt := 78) hx hb d_Model_count_10 (by have h0 := i32n (k := 0) hc10_0 (by decide); have h1 := i32n (k := 1) hc10_1 (by decide); have h2 := i32n (k := 2) hc10_2 (by decide); have h3 := i32n (k := 3) hc10_3 (by decide); have h4 := i32n (k := 4) hc10_4 (by decide); have h5 := i32n (k := 5) hc10_5 (by decide); omega) (by decide) ?_
  refine lv_iconst (v := (-1)) hx hb d_Model_count_78 (by decide) ?_
  have hf := Option.some.inj hf
  subst hf
  exact rI (v := (-1)) C hH d_Model_count_79
