def f_EventLog_isSignal (x0 : Int32) : Bool :=
  if x0 < (1 : Int32) then (false) else (if (31 : Int32) < x0 then (false) else (true))
set_option maxRecDepth 100000 in
set_option maxHeartbeats 4000000 in
theorem c_EventLog_isSignal (l : Launch) (D : va_G) (cI cL : ClassId) (x0 : Int32) (res : Bool) (hf : f_EventLog_isSignal x0 = res) :
    FnR l D vwCl [(cI, .int), (cL, .long)] y_EventLog_isSignal ws_EventLog_isSignal { frames := 0, cells := 0, slots := 0, locals := 0 } [.int x0] [] (some (.int (bI res))) := by
  refine FnR.ofW (cc := b_EventLog_isSignal) (maxL := 1) (ret := (some .boolean)) (by decide) rfl (Nat.le_of_ble_eq_true rfl) ?_
  intro p e s m below meth c A ls C hH hl
  have hl : lv_has ls 1 [(0, .int x0)] := hl
  obtain ⟨hx, hb, hr, hml, hown, hts, hlk, hK, hA⟩ := id C
  unfold f_EventLog_isSignal at hf
  refine lv_iload_n hx hb d_EventLog_isSignal_0 rfl (lv_at hl 0 rfl) ?_
  refine lv_iconst (v := 1) hx hb d_EventLog_isSignal_1 (by decide) ?_
  refine lv_icmp_lt (tgt := 15) hx hb d_EventLog_isSignal_2 (by decide) (fun hc2 => ?_) (fun hc2 => ?_)
  · have hf := ip hc2 hf
    refine lv_iconst (v := 0) hx hb d_EventLog_isSignal_15 (by decide) ?_
    subst hf
    exact rZR (v := false) C hH d_EventLog_isSignal_16
  · have hf := im hc2 hf
    refine lv_iload_n hx hb d_EventLog_isSignal_5 rfl (lv_at hl 0 rfl) ?_
    refine lv_bipush (v := 31) hx hb d_EventLog_isSignal_6 (by decide) ?_
    refine lv_icmp_gt (tgt := 15) hx hb d_EventLog_isSignal_8 (by decide) (fun hc8 => ?_) (fun hc8 => ?_)
    · have hf := ip hc8 hf
      refine lv_iconst (v := 0) hx hb d_EventLog_isSignal_15 (by decide) ?_
      subst hf
      exact rZR (v := false) C hH d_EventLog_isSignal_16
    · have hf := im hc8 hf
      refine lv_iconst (v := 1) hx hb d_EventLog_isSignal_11 (by decide) ?_
      refine lv_goto (tgt := 16) hx hb d_EventLog_isSignal_12 (by decide) ?_
      subst hf
      exact rZR (v := true) C hH d_EventLog_isSignal_16
def f_EventLog_isProcess (x0 : Int64) : Bool :=
  if (lg_cmp x0 0) < 0 then (false) else (if 0 < (lg_cmp x0 15) then (false) else (true))
set_option maxRecDepth 100000 in
set_option maxHeartbeats 4000000 in
theorem c_EventLog_isProcess (l : Launch) (D : va_G) (cI cL : ClassId) (x0 : Int64) (res : Bool) (hf : f_EventLog_isProcess x0 = res) :
    FnR l D vwCl [(cI, .int), (cL, .long)] y_EventLog_isProcess ws_EventLog_isProcess { frames := 0, cells := 0, slots := 0, locals := 0 } [.long x0] [] (some (.int (bI res))) := by
  refine FnR.ofW (cc := b_EventLog_isProcess) (maxL := 2) (ret := (some .boolean)) (by decide) rfl (Nat.le_of_ble_eq_true rfl) ?_
  intro p e s m below meth c A ls C hH hl
  have hl : lv_has ls 2 [(0, .long x0)] := hl
  obtain ⟨hx, hb, hr, hml, hown, hts, hlk, hK, hA⟩ := id C
  unfold f_EventLog_isProcess at hf
  refine lv_lload_n hx hb d_EventLog_isProcess_0 rfl (lv_at hl 0 rfl) ?_
  refine lv_lconst (v := 0) hx hb d_EventLog_isProcess_1 (by decide) ?_
  refine W.lcmp hx hb d_EventLog_isProcess_2 ?_
  refine lv_if_lt (tgt := 18) hx hb d_EventLog_isProcess_3 (by decide) (fun hc3 => ?_) (fun hc3 => ?_)
  · have hf := ip hc3 hf
    refine lv_iconst (v := 0) hx hb d_EventLog_isProcess_18 (by decide) ?_
    subst hf
    exact rZR (v := false) C hH d_EventLog_isProcess_19
  · have hf := im hc3 hf
    refine lv_lload_n hx hb d_EventLog_isProcess_6 rfl (lv_at hl 0 rfl) ?_
    refine lv_ldc2 (v := 15) hx hb hown (hts _ (.tail _ wd_403)) d_EventLog_isProcess_7 ?_
    refine W.lcmp hx hb d_EventLog_isProcess_10 ?_
    refine lv_if_gt (tgt := 18) hx hb d_EventLog_isProcess_11 (by decide) (fun hc11 => ?_) (fun hc11 => ?_)
    · have hf := ip hc11 hf
      refine lv_iconst (v := 0) hx hb d_EventLog_isProcess_18 (by decide) ?_
      subst hf
      exact rZR (v := false) C hH d_EventLog_isProcess_19
    · have hf := im hc11 hf
      refine lv_iconst (v := 1) hx hb d_EventLog_isProcess_14 (by decide) ?_
      refine lv_goto (tgt := 19) hx hb d_EventLog_isProcess_15 (by decide) ?_
      subst hf
      exact rZR (v := true) C hH d_EventLog_isProcess_19
def f_EventLog_isEvent (x0 : Int32) (x1 : Int64) (x3 : Int64) (x5 : Int32) : Bool :=
  if (lg_cmp x1 0) < 0 then (false) else (if (lg_cmp x1 1099511627776) ≤ 0 then (if x0 = 0 then (f_EventLog_isProcess x3) else if x0 = 1 then (if x5 < (1 : Int32) then (false) else (if (8 : Int32) < x5 then (false) else (true))) else if x0 = 2 then (if (bI (f_EventLog_isProcess x3)) = 0 then (false) else (if (bI (f_EventLog_isSignal x5)) = 0 then (false) else (true))) else if x0 = 3 then (if (lg_cmp x3 0) < 0 then (false) else (if 0 < (lg_cmp x3 1099511627776) then (false) else (true))) else if x0 = 4 then (true) else (false)) else (false))
set_option maxRecDepth 100000 in
set_option maxHeartbeats 4000000 in
theorem c_EventLog_isEvent (l : Launch) (D : va_G) (cI cL : ClassId) (x0 : Int32) (x1 : Int64) (x3 : Int64) (x5 : Int32) (res : Bool) (hf : f_EventLog_isEvent x0 x1 x3 x5 = res) :
    FnR l D vwCl [(cI, .int), (cL, .long)] y_EventLog_isEvent ws_EventLog_isEvent { frames := 1, cells := 0, slots := 0, locals := 21 } [.int x0, .long x1, .long x3, .int x5] [] (some (.int (bI res))) := by
  refine FnR.ofW (cc := b_EventLog_isEvent) (maxL := 6) (ret := (some .boolean)) (by decide) rfl (Nat.le_of_ble_eq_true rfl) ?_
  intro p e s m below meth c A ls C hH hl
  have hl : lv_has ls 6 [(0, .int x0), (1, .long x1), (3, .long x3), (5, .int x5)] := hl
  obtain ⟨hx, hb, hr, hml, hown, hts, hlk, hK, hA⟩ := id C
  unfold f_EventLog_isEvent at hf
  refine lv_lload_n hx hb d_EventLog_isEvent_0 rfl (lv_at hl 1 rfl) ?_
  refine lv_lconst (v := 0) hx hb d_EventLog_isEvent_1 (by decide) ?_
  refine W.lcmp hx hb d_EventLog_isEvent_2 ?_
  refine lv_if_lt (tgt := 14) hx hb d_EventLog_isEvent_3 (by decide) (fun hc3 => ?_) (fun hc3 => ?_)
  · have hf := ip hc3 hf
    refine lv_iconst (v := 0) hx hb d_EventLog_isEvent_14 (by decide) ?_
    subst hf
    exact rZR (v := false) C hH d_EventLog_isEvent_15
  · have hf := im hc3 hf
    refine lv_lload_n hx hb d_EventLog_isEvent_6 rfl (lv_at hl 1 rfl) ?_
    refine lv_ldc2 (v := 1099511627776) hx hb hown (hts _ (.tail _ wd_399)) d_EventLog_isEvent_7 ?_
    refine W.lcmp hx hb d_EventLog_isEvent_10 ?_
    refine lv_if_le (tgt := 16) hx hb d_EventLog_isEvent_11 (by decide) (fun hc11 => ?_) (fun hc11 => ?_)
    · have hf := ip hc11 hf
      refine lv_iload_n hx hb d_EventLog_isEvent_16 rfl (lv_at hl 0 rfl) ?_
      by_cases hc17_0 : x0 = 0
      · have hf := ip hc17_0 hf
        refine lv_tableIn (tgt := 52) hx hb d_EventLog_isEvent_17 (by rw [hc17_0]; decide) (by rw [hc17_0]; decide) (by rw [hc17_0]; rfl) (by decide) ?_
        refine lv_lload_n hx hb d_EventLog_isEvent_52 rfl (lv_at hl 2 rfl) ?_
        refine fnSR (rest := []) (st2 := [.int (bI (f_EventLog_isProcess x3))]) C (c_EventLog_isProcess l D cI cL  x3 _ rfl) (cS hts kS_EventLog_isProcess wd_400 ⟨Nat.le_of_ble_eq_true rfl, Nat.le_of_ble_eq_true rfl⟩) hH [] rfl rfl rfl hl.1 rfl (Nat.le_of_ble_eq_true rfl) d_EventLog_isEvent_53 ⟨Nat.le_of_ble_eq_true rfl, Nat.le_of_ble_eq_true rfl⟩ rfl (fun H locs hH => ?_)
        subst hf
        exact rZR (v := f_EventLog_isProcess x3) C hH d_EventLog_isEvent_56
      have hf := im hc17_0 hf
      by_cases hc17_1 : x0 = 1
      · have hf := ip hc17_1 hf
        refine lv_tableIn (tgt := 57) hx hb d_EventLog_isEvent_17 (by rw [hc17_1]; decide) (by rw [hc17_1]; decide) (by rw [hc17_1]; rfl) (by decide) ?_
        refine lv_iload hx hb d_EventLog_isEvent_57 (lv_at hl 3 rfl) ?_
        refine lv_iconst (v := 1) hx hb d_EventLog_isEvent_59 (by decide) ?_
        refine lv_icmp_lt (tgt := 74) hx hb d_EventLog_isEvent_60 (by decide) (fun hc60 => ?_) (fun hc60 => ?_)
        · have hf := ip hc60 hf
          refine lv_iconst (v := 0) hx hb d_EventLog_isEvent_74 (by decide) ?_
          subst hf
          exact rZR (v := false) C hH d_EventLog_isEvent_75
        · have hf := im hc60 hf
          refine lv_iload hx hb d_EventLog_isEvent_63 (lv_at hl 3 rfl) ?_
          refine lv_bipush (v := 8) hx hb d_EventLog_isEvent_65 (by decide) ?_
          refine lv_icmp_gt (tgt := 74) hx hb d_EventLog_isEvent_67 (by decide) (fun hc67 => ?_) (fun hc67 => ?_)
          · have hf := ip hc67 hf
            refine lv_iconst (v := 0) hx hb d_EventLog_isEvent_74 (by decide) ?_
            subst hf
            exact rZR (v := false) C hH d_EventLog_isEvent_75
          · have hf := im hc67 hf
            refine lv_iconst (v := 1) hx hb d_EventLog_isEvent_70 (by decide) ?_
            refine lv_goto (tgt := 75) hx hb d_EventLog_isEvent_71 (by decide) ?_
            subst hf
            exact rZR (v := true) C hH d_EventLog_isEvent_75
      have hf := im hc17_1 hf
      by_cases hc17_2 : x0 = 2
      · have hf := ip hc17_2 hf
        refine lv_tableIn (tgt := 76) hx hb d_EventLog_isEvent_17 (by rw [hc17_2]; decide) (by rw [hc17_2]; decide) (by rw [hc17_2]; rfl) (by decide) ?_
        refine lv_lload_n hx hb d_EventLog_isEvent_76 rfl (lv_at hl 2 rfl) ?_
        refine fnSR (rest := []) (st2 := [.int (bI (f_EventLog_isProcess x3))]) C (c_EventLog_isProcess l D cI cL  x3 _ rfl) (cS hts kS_EventLog_isProcess wd_400 ⟨Nat.le_of_ble_eq_true rfl, Nat.le_of_ble_eq_true rfl⟩) hH [] rfl rfl rfl hl.1 rfl (Nat.le_of_ble_eq_true rfl) d_EventLog_isEvent_77 ⟨Nat.le_of_ble_eq_true rfl, Nat.le_of_ble_eq_true rfl⟩ rfl (fun H locs hH => ?_)
        refine lv_if_eq (tgt := 95) hx hb d_EventLog_isEvent_80 (by decide) (fun hc80 => ?_) (fun hc80 => ?_)
        · have hf := ip hc80 hf
          refine lv_iconst (v := 0) hx hb d_EventLog_isEvent_95 (by decide) ?_
          subst hf
          exact rZR (v := false) C hH d_EventLog_isEvent_96
        · have hf := im hc80 hf
          refine lv_iload hx hb d_EventLog_isEvent_83 (lv_at hl 3 rfl) ?_
          refine fnSR (rest := []) (st2 := [.int (bI (f_EventLog_isSignal x5))]) C (c_EventLog_isSignal l D cI cL  x5 _ rfl) (cS hts kS_EventLog_isSignal wd_404 ⟨Nat.le_of_ble_eq_true rfl, Nat.le_of_ble_eq_true rfl⟩) hH [] rfl rfl rfl hl.1 rfl (Nat.le_of_ble_eq_true rfl) d_EventLog_isEvent_85 ⟨Nat.le_of_ble_eq_true rfl, Nat.le_of_ble_eq_true rfl⟩ rfl (fun H locs hH => ?_)
          refine lv_if_eq (tgt := 95) hx hb d_EventLog_isEvent_88 (by decide) (fun hc88 => ?_) (fun hc88 => ?_)
          · have hf := ip hc88 hf
            refine lv_iconst (v := 0) hx hb d_EventLog_isEvent_95 (by decide) ?_
            subst hf
            exact rZR (v := false) C hH d_EventLog_isEvent_96
          · have hf := im hc88 hf
            refine lv_iconst (v := 1) hx hb d_EventLog_isEvent_91 (by decide) ?_
            refine lv_goto (tgt := 96) hx hb d_EventLog_isEvent_92 (by decide) ?_
            subst hf
            exact rZR (v := true) C hH d_EventLog_isEvent_96
      have hf := im hc17_2 hf
      by_cases hc17_3 : x0 = 3
      · have hf := ip hc17_3 hf
        refine lv_tableIn (tgt := 97) hx hb d_EventLog_isEvent_17 (by rw [hc17_3]; decide) (by rw [hc17_3]; decide) (by rw [hc17_3]; rfl) (by decide) ?_
        refine lv_lload_n hx hb d_EventLog_isEvent_97 rfl (lv_at hl 2 rfl) ?_
        refine lv_lconst (v := 0) hx hb d_EventLog_isEvent_98 (by decide) ?_
        refine W.lcmp hx hb d_EventLog_isEvent_99 ?_
        refine lv_if_lt (tgt := 115) hx hb d_EventLog_isEvent_100 (by decide) (fun hc100 => ?_) (fun hc100 => ?_)
        · have hf := ip hc100 hf
          refine lv_iconst (v := 0) hx hb d_EventLog_isEvent_115 (by decide) ?_
          subst hf
          exact rZR (v := false) C hH d_EventLog_isEvent_116
        · have hf := im hc100 hf
          refine lv_lload_n hx hb d_EventLog_isEvent_103 rfl (lv_at hl 2 rfl) ?_
          refine lv_ldc2 (v := 1099511627776) hx hb hown (hts _ (.tail _ wd_399)) d_EventLog_isEvent_104 ?_
          refine W.lcmp hx hb d_EventLog_isEvent_107 ?_
          refine lv_if_gt (tgt := 115) hx hb d_EventLog_isEvent_108 (by decide) (fun hc108 => ?_) (fun hc108 => ?_)
          · have hf := ip hc108 hf
            refine lv_iconst (v := 0) hx hb d_EventLog_isEvent_115 (by decide) ?_
            subst hf
            exact rZR (v := false) C hH d_EventLog_isEvent_116
          · have hf := im hc108 hf
            refine lv_iconst (v := 1) hx hb d_EventLog_isEvent_111 (by decide) ?_
            refine lv_goto (tgt := 116) hx hb d_EventLog_isEvent_112 (by decide) ?_
            subst hf
            exact rZR (v := true) C hH d_EventLog_isEvent_116
      have hf := im hc17_3 hf
      by_cases hc17_4 : x0 = 4
      · have hf := ip hc17_4 hf
        refine lv_tableIn (tgt := 117) hx hb d_EventLog_isEvent_17 (by rw [hc17_4]; decide) (by rw [hc17_4]; decide) (by rw [hc17_4]; rfl) (by decide) ?_
        refine lv_iconst (v := 1) hx hb d_EventLog_isEvent_117 (by decide) ?_
        subst hf
        exact rZR (v := true) C hH d_EventLog_isEvent_118
      have hf := im hc17_4 hf
      refine lv_tableOut (tgt := 119) hx hb d_EventLog_isEvent_17 (by have h0 := i32n (k := 0) hc17_0 (by decide); have h1 := i32n (k := 1) hc17_1 (by decide); have h2 := i32n (k := 2) hc17_2 (by decide); have h3 := i32n (k := 3) hc17_3 (by decide); have h4 := i32n (k := 4) hc17_4 (by decide); omega) (by decide) ?_
      refine lv_iconst (v := 0) hx hb d_EventLog_isEvent_119 (by decide) ?_
      subst hf
      exact rZR (v := false) C hH d_EventLog_isEvent_120
    · have hf := im hc11 hf
      refine lv_iconst (v := 0) hx hb d_EventLog_isEvent_14 (by decide) ?_
      subst hf
      exact rZR (v := false) C hH d_EventLog_isEvent_15
def f_EventLog_heldA (x0 : Int32) (x1 : Int64) (x3 : Int32) : Int64 :=
  if x0 = (4 : Int32) then (x1 &&& 4294967295) else (if x0 = (1 : Int32) then (if (8 : Int32) ≤ x3 then (x1) else (x1 &&& (((1 : Int64) <<< (((8 : Int32) * x3).toInt64 &&& 63)) - 1))) else (x1))
set_option maxRecDepth 100000 in
set_option maxHeartbeats 4000000 in
theorem c_EventLog_heldA (l : Launch) (D : va_G) (cI cL : ClassId) (x0 : Int32) (x1 : Int64) (x3 : Int32) (res : Int64) (hf : f_EventLog_heldA x0 x1 x3 = res) :
    FnR l D vwCl [(cI, .int), (cL, .long)] y_EventLog_heldA ws_EventLog_heldA { frames := 0, cells := 0, slots := 0, locals := 0 } [.int x0, .long x1, .int x3] [] (some (.long res)) := by
  refine FnR.ofW (cc := b_EventLog_heldA) (maxL := 4) (ret := (some .long)) (by decide) rfl (Nat.le_of_ble_eq_true rfl) ?_
  intro p e s m below meth c A ls C hH hl
  have hl : lv_has ls 4 [(0, .int x0), (1, .long x1), (3, .int x3)] := hl
  obtain ⟨hx, hb, hr, hml, hown, hts, hlk, hK, hA⟩ := id C
  unfold f_EventLog_heldA at hf
  refine lv_iload_n hx hb d_EventLog_heldA_0 rfl (lv_at hl 0 rfl) ?_
  refine lv_iconst (v := 4) hx hb d_EventLog_heldA_1 (by decide) ?_
  refine lv_icmp_ne (tgt := 11) hx hb d_EventLog_heldA_2 (by decide) (fun hc2 => ?_) (fun hc2 => ?_)
  · have hf := im hc2 hf
    refine lv_iload_n hx hb d_EventLog_heldA_11 rfl (lv_at hl 0 rfl) ?_
    refine lv_iconst (v := 1) hx hb d_EventLog_heldA_12 (by decide) ?_
    refine lv_icmp_ne (tgt := 33) hx hb d_EventLog_heldA_13 (by decide) (fun hc13 => ?_) (fun hc13 => ?_)
    · have hf := im hc13 hf
      refine lv_lload_n hx hb d_EventLog_heldA_33 rfl (lv_at hl 1 rfl) ?_
      subst hf
      exact rJR (v := x1) C hH d_EventLog_heldA_34
    · have hf := ip hc13 hf
      refine lv_iload_n hx hb d_EventLog_heldA_16 rfl (lv_at hl 2 rfl) ?_
      refine lv_bipush (v := 8) hx hb d_EventLog_heldA_17 (by decide) ?_
      refine lv_icmp_ge (tgt := 33) hx hb d_EventLog_heldA_19 (by decide) (fun hc19 => ?_) (fun hc19 => ?_)
      · have hf := ip hc19 hf
        refine lv_lload_n hx hb d_EventLog_heldA_33 rfl (lv_at hl 1 rfl) ?_
        subst hf
        exact rJR (v := x1) C hH d_EventLog_heldA_34
      · have hf := im hc19 hf
        refine lv_lload_n hx hb d_EventLog_heldA_22 rfl (lv_at hl 1 rfl) ?_
        refine lv_lconst (v := 1) hx hb d_EventLog_heldA_23 (by decide) ?_
        refine lv_bipush (v := 8) hx hb d_EventLog_heldA_24 (by decide) ?_
        refine lv_iload_n hx hb d_EventLog_heldA_26 rfl (lv_at hl 2 rfl) ?_
        refine lv_imul hx hb d_EventLog_heldA_27 ?_
        refine lv_lshl (v := (1 : Int64) <<< (((8 : Int32) * x3).toInt64 &&& 63)) hx hb d_EventLog_heldA_28 rfl ?_
        refine lv_lconst (v := 1) hx hb d_EventLog_heldA_29 (by decide) ?_
        refine lv_lsub hx hb d_EventLog_heldA_30 ?_
        refine lv_land hx hb d_EventLog_heldA_31 ?_
        subst hf
        exact rJR (v := x1 &&& (((1 : Int64) <<< (((8 : Int32) * x3).toInt64 &&& 63)) - 1)) C hH d_EventLog_heldA_32
  · have hf := ip hc2 hf
    refine lv_lload_n hx hb d_EventLog_heldA_5 rfl (lv_at hl 1 rfl) ?_
    refine lv_ldc2 (v := 4294967295) hx hb hown (hts _ (.tail _ wd_493)) d_EventLog_heldA_6 ?_
    refine lv_land hx hb d_EventLog_heldA_9 ?_
    subst hf
    exact rJR (v := x1 &&& 4294967295) C hH d_EventLog_heldA_10
def f_EventLog_heldB (x0 : Int32) (x1 : Int32) : Int32 :=
  if x0 = (1 : Int32) then (x1) else (if x0 = (2 : Int32) then (x1) else (0))
set_option maxRecDepth 100000 in
set_option maxHeartbeats 4000000 in
theorem c_EventLog_heldB (l : Launch) (D : va_G) (cI cL : ClassId) (x0 : Int32) (x1 : Int32) (res : Int32) (hf : f_EventLog_heldB x0 x1 = res) :
    FnR l D vwCl [(cI, .int), (cL, .long)] y_EventLog_heldB ws_EventLog_heldB { frames := 0, cells := 0, slots := 0, locals := 0 } [.int x0, .int x1] [] (some (.int res)) := by
  refine FnR.ofW (cc := b_EventLog_heldB) (maxL := 2) (ret := (some .int)) (by decide) rfl (Nat.le_of_ble_eq_true rfl) ?_
  intro p e s m below meth c A ls C hH hl
  have hl : lv_has ls 2 [(0, .int x0), (1, .int x1)] := hl
  obtain ⟨hx, hb, hr, hml, hown, hts, hlk, hK, hA⟩ := id C
  unfold f_EventLog_heldB at hf
  refine lv_iload_n hx hb d_EventLog_heldB_0 rfl (lv_at hl 0 rfl) ?_
  refine lv_iconst (v := 1) hx hb d_EventLog_heldB_1 (by decide) ?_
  refine lv_icmp_eq (tgt := 10) hx hb d_EventLog_heldB_2 (by decide) (fun hc2 => ?_) (fun hc2 => ?_)
  · have hf := ip hc2 hf
    refine lv_iload_n hx hb d_EventLog_heldB_10 rfl (lv_at hl 1 rfl) ?_
    refine lv_goto (tgt := 15) hx hb d_EventLog_heldB_11 (by decide) ?_
    subst hf
    exact rIR (v := x1) C hH d_EventLog_heldB_15
  · have hf := im hc2 hf
    refine lv_iload_n hx hb d_EventLog_heldB_5 rfl (lv_at hl 0 rfl) ?_
    refine lv_iconst (v := 2) hx hb d_EventLog_heldB_6 (by decide) ?_
    refine lv_icmp_ne (tgt := 14) hx hb d_EventLog_heldB_7 (by decide) (fun hc7 => ?_) (fun hc7 => ?_)
    · have hf := im hc7 hf
      refine lv_iconst (v := 0) hx hb d_EventLog_heldB_14 (by decide) ?_
      subst hf
      exact rIR (v := 0) C hH d_EventLog_heldB_15
    · have hf := ip hc7 hf
      refine lv_iload_n hx hb d_EventLog_heldB_10 rfl (lv_at hl 1 rfl) ?_
      refine lv_goto (tgt := 15) hx hb d_EventLog_heldB_11 (by decide) ?_
      subst hf
      exact rIR (v := x1) C hH d_EventLog_heldB_15
