set_option maxHeartbeats 4000000 in
theorem law_K {p : Program} {s : State} {m : MethodId} {meth : Method} {c : Code} {b L : Nat} {xs : Nat → Int32} (C0 : lw_At p s m meth c b L xs) : ∃ (D : va_G) (cI cL : ClassId), Cx p s m #[Value.ref b] meth c D vwCl [(cI, .int), (cL, .long)] (fun q => s.heap.size ≤ q) code 8 ret (lawC0 :: U0) "EventLogLaw" := by
  obtain ⟨hx, hb, hr, hml, hown, hts, hX, hbl, hlocks, hgv⟩ := id C0
  have htsU : ∀ w ∈ U0, w.before #[Value.ref b] s = true := fun w h => hts w (List.mem_filter.mp h).1
  obtain ⟨k0, iS0, hKn0⟩ := u_known (C := R_Bytes) (T := T_Bytes) (N := 2) (n := 2) htsU iw_Bytes (htsU _ wd_48)
  obtain ⟨k1, iS1, hKn1⟩ := u_known (C := R_Past) (T := T_Past) (N := 3) (n := 3) htsU iw_Past (htsU _ wd_67)
  obtain ⟨k2, iS2, hKn2⟩ := u_known (C := R_Events) (T := T_Events) (N := 5) (n := 5) htsU iw_Events (htsU _ wd_24)
  obtain ⟨k3, iS3, hKn3⟩ := u_known (C := R_Packer) (T := T_Packer) (N := 8) (n := 8) htsU iw_Packer (htsU _ wd_61)
  obtain ⟨k4, iS4, hKn4⟩ := u_known (C := R_Reader) (T := T_Reader) (N := 5) (n := 5) htsU iw_Reader (htsU _ wd_108)
  obtain ⟨k5, iS5, hKn5⟩ := u_known (C := R_EventLog) (T := T_EventLog) (N := 5) (n := 5) htsU iw_EventLog (htsU _ wd_16)
  obtain ⟨k6, iS6, hKn6⟩ := u_known (C := R_Model) (T := T_Model) (N := 21) (n := 21) htsU iw_Model (htsU _ wd_591)
  obtain ⟨dC, dI, hKc⟩ : ∃ (dC : Nat → ClassId) (dI : Nat → Nat → Nat), ∀ (k : Nat) (q : vw_C), vwCl[k]? = some q → u_Kn s q.1 q.2.1 q.2.2 (dC k) (dI k) := by
    refine ⟨fun k => if k = 0 then k0 else if k = 1 then k1 else if k = 2 then k2 else if k = 3 then k3 else if k = 4 then k4 else if k = 5 then k5 else k6, fun k => if k = 0 then iS0 else if k = 1 then iS1 else if k = 2 then iS2 else if k = 3 then iS3 else if k = 4 then iS4 else if k = 5 then iS5 else iS6, ?_⟩
    intro k q hq
    match k, hq with
    | 0, hq => cases hq; exact hKn0
    | 1, hq => cases hq; exact hKn1
    | 2, hq => cases hq; exact hKn2
    | 3, hq => cases hq; exact hKn3
    | 4, hq => cases hq; exact hKn4
    | 5, hq => cases hq; exact hKn5
    | 6, hq => cases hq; exact hKn6
    | k + 7, hq => simp [vwCl] at hq
  obtain ⟨cI, kI, compI, hI1, hI2, hI3⟩ := Cond.arrayClass_spec (htsU _ wd_45)
  obtain ⟨cL, kL, compL, hL1, hL2, hL3⟩ := Cond.arrayClass_spec (htsU _ wd_46)
  refine ⟨(dC, dI), cI, cL, hx, hb, hr, hml, hown, ?_, hlocks, ⟨⟨hKc, ?_⟩, ?_⟩, fun q h => h⟩
  · intro w hw
    rcases List.mem_cons.mp hw with rfl | h
    · exact htsU _ wd_0
    · exact htsU w h
  · intro k q hk
    match k, hk with
    | 0, hk => cases hk; exact ⟨fun n z => ⟨(fun k h => by cases h), kI, hI2, compI, hI3⟩, hI1⟩
    | 1, hk => cases hk; exact ⟨fun n z => ⟨(fun k h => by cases h), kL, hL2, compL, hL3⟩, hL1⟩
    | k + 2, hk => simp at hk
  · intro w hw
    simp only [nestW, List.mem_cons, List.not_mem_nil, or_false] at hw
    rcases hw with rfl | rfl | rfl | rfl | rfl
    · exact va_Nw.of rfl (hts _ (List.mem_append_right _ (List.mem_of_getElem? (i := 25) (by decide +kernel))))
    · exact va_Nw.of rfl (hts _ (List.mem_append_right _ (List.mem_of_getElem? (i := 49) (by decide +kernel))))
    · exact va_Nw.of rfl (hts _ (List.mem_append_right _ (List.mem_of_getElem? (i := 68) (by decide +kernel))))
    · exact va_Nw.of rfl (hts _ (List.mem_append_right _ (List.mem_of_getElem? (i := 114) (by decide +kernel))))
    · exact va_Nw.of rfl (hts _ (List.mem_append_right _ (List.mem_of_getElem? (i := 354) (by decide +kernel))))
set_option maxHeartbeats 4000000 in
theorem law_E {p : Program} {s : State} {m : MethodId} {meth : Method} {c : Code} {b L : Nat} {xs : Nat → Int32} (C0 : lw_At p s m meth c b L xs) : EE allS s := by
  obtain ⟨hx, hb, hr, hml, hown, hts, hX, hbl, hlocks, hgv⟩ := id C0
  have hs := flat_of_before _ hgv
  obtain ⟨cur, kur, hcE, -⟩ := Cond.instantiable_spec (hts (.instantiable "EventLog" 5) (List.mem_append_right _ (List.mem_of_getElem? (i := 16) (by decide +kernel))))
  have hini : (Cond.initialized Bundle.tN).before #[Value.ref b] s = true := hts _ (by decide +kernel)
  refine ⟨⟨va_Zqof (hts (.laysStatic Bundle.tN "UNASSIGNED_STACK" Bundle.steD) (by decide +kernel)) hini (hs (.isRef (.static Bundle.tN "UNASSIGNED_STACK" Bundle.steD)) (by decide +kernel)) (fun _ _ h => h), va_Zqof (hts (.laysStatic Bundle.tN "SUPPRESSED_SENTINEL" Bundle.listD) (by decide +kernel)) hini (hs (.isRef (.static Bundle.tN "SUPPRESSED_SENTINEL" Bundle.listD)) (by decide +kernel)) (fun _ _ h => h), ?_, ?_⟩, ?_⟩
  · intro x hx
    simp only [allS, List.mem_cons, List.not_mem_nil, or_false] at hx
    rcases hx with rfl | rfl | rfl | rfl | rfl | rfl | rfl | rfl | rfl | rfl
    · have hw := (hts (.stringRef "EventLog" 48 "not an event") (List.mem_append_right _ (List.mem_of_getElem? (i := 447) (by decide +kernel))))
      obtain ⟨k, cf, i, a, -, -, -, -, -, ha⟩ := Cond.stringRef_spec (args := #[]) (first := s) (o := none) (idx := []) hcE hw
      exact ⟨a, hw, ha⟩
    · have hw := (hts (.stringRef "EventLog" 59 "there are 300 events") (List.mem_append_right _ (List.mem_of_getElem? (i := 483) (by decide +kernel))))
      obtain ⟨k, cf, i, a, -, -, -, -, -, ha⟩ := Cond.stringRef_spec (args := #[]) (first := s) (o := none) (idx := []) hcE hw
      exact ⟨a, hw, ha⟩
    · have hw := (hts (.stringRef "EventLog" 74 "not a number of events") (List.mem_append_right _ (List.mem_of_getElem? (i := 505) (by decide +kernel))))
      obtain ⟨k, cf, i, a, -, -, -, -, -, ha⟩ := Cond.stringRef_spec (args := #[]) (first := s) (o := none) (idx := []) hcE hw
      exact ⟨a, hw, ha⟩
    · have hw := (hts (.stringRef "EventLog" 90 "not a byte") (List.mem_append_right _ (List.mem_of_getElem? (i := 515) (by decide +kernel))))
      obtain ⟨k, cf, i, a, -, -, -, -, -, ha⟩ := Cond.stringRef_spec (args := #[]) (first := s) (o := none) (idx := []) hcE hw
      exact ⟨a, hw, ha⟩
    · have hw := (hts (.stringRef "EventLog" 97 "not a place in the log or its end") (List.mem_append_right _ (List.mem_of_getElem? (i := 525) (by decide +kernel))))
      obtain ⟨k, cf, i, a, -, -, -, -, -, ha⟩ := Cond.stringRef_spec (args := #[]) (first := s) (o := none) (idx := []) hcE hw
      exact ⟨a, hw, ha⟩
    · have hw := (hts (.stringRef "EventLog" 100 "the log has 5000 bytes") (List.mem_append_right _ (List.mem_of_getElem? (i := 532) (by decide +kernel))))
      obtain ⟨k, cf, i, a, -, -, -, -, -, ha⟩ := Cond.stringRef_spec (args := #[]) (first := s) (o := none) (idx := []) hcE hw
      exact ⟨a, hw, ha⟩
    · have hw := (hts (.stringRef "EventLog" 108 "not a length up to the log's") (List.mem_append_right _ (List.mem_of_getElem? (i := 545) (by decide +kernel))))
      obtain ⟨k, cf, i, a, -, -, -, -, -, ha⟩ := Cond.stringRef_spec (args := #[]) (first := s) (o := none) (idx := []) hcE hw
      exact ⟨a, hw, ha⟩
    · have hw := (hts (.stringRef "EventLog" 111 "no such byte") (List.mem_append_right _ (List.mem_of_getElem? (i := 554) (by decide +kernel))))
      obtain ⟨k, cf, i, a, -, -, -, -, -, ha⟩ := Cond.stringRef_spec (args := #[]) (first := s) (o := none) (idx := []) hcE hw
      exact ⟨a, hw, ha⟩
    · have hw := (hts (.stringRef "EventLog" 123 "no such event") (List.mem_append_right _ (List.mem_of_getElem? (i := 574) (by decide +kernel))))
      obtain ⟨k, cf, i, a, -, -, -, -, -, ha⟩ := Cond.stringRef_spec (args := #[]) (first := s) (o := none) (idx := []) hcE hw
      exact ⟨a, hw, ha⟩
    · have hw := (hts (.stringRef "EventLog" 142 "nothing that an event has") (List.mem_append_right _ (List.mem_of_getElem? (i := 589) (by decide +kernel))))
      obtain ⟨k, cf, i, a, -, -, -, -, -, ha⟩ := Cond.stringRef_spec (args := #[]) (first := s) (o := none) (idx := []) hcE hw
      exact ⟨a, hw, ha⟩
  · intro w hw
    have h1 : ∀ w ∈ specW, w ∈ lw_tbl := by decide +kernel
    have h2 := hts w (h1 w hw)
    simp only [specW, List.mem_cons, List.not_mem_nil, or_false] at hw
    rcases hw with rfl | rfl | rfl | rfl | rfl | rfl | rfl | rfl | rfl <;> exact fun a => h2
  · intro w hw
    have h1 : w.before #[Value.ref b] s = true := by
      simp only [ncW, List.mem_cons, List.not_mem_nil, or_false] at hw
      rcases hw with rfl | rfl | rfl | rfl <;> exact hs _ (by decide +kernel)
    simp only [ncW, List.mem_cons, List.not_mem_nil, or_false] at hw
    rcases hw with rfl | rfl | rfl | rfl <;> exact fun a => h1
def ev0 : S_Events := (fun _ => 0, fun _ => 0, fun _ => 0, fun _ => 0, 0)
def pa0 : S_Past := (fun _ => 0, 0, (-1))
def st0 : S_EventLog := (ev0, ev0, (fun _ => 0, 0), (pa0, false, 0, 0, 0, 0, 0), (pa0, 0, 0, 0))
def m0 : S_Model := (0, ev0, ev0, (fun _ => 0, 0), (fun _ => 0, 0), (0, 0, 0, 0), 0, 0)
set_option maxHeartbeats 4000000 in
set_option maxRecDepth 100000 in
/-- the law from its entry on; 'hpure': what its function answers (the pure part) -/
theorem start_open (hpure : ∀ (xs : Nat → Int32) (L : Nat), L ≤ 3584 → f_law xs L 600 st0 m0 (fun _ => 0) 0 = some true) {p : Program} {e : Env} {s : State} {m : MethodId} {below : List Frame} {meth : Method} {c : Code} (l : Launch) (hfl : l.flags = pinnedFlags ++ [noTraceFlag]) {b L : Nat} {xs : Nat → Int32} (hL : L ≤ 3584) (C0 : lw_At p s m meth c b L xs) : W p l e room_1 s m #[Value.ref b] below meth c s.heap [] 0 0 (lw_Z below #[Value.ref b] s) (entryFrame m ([Value.ref b] : List Value).toArray 8) := by
  obtain ⟨D, cI, cL, C⟩ := law_K C0
  have hE := law_E C0
  obtain ⟨-, -, -, -, -, -, hX, hbl, -, -⟩ := C0
  obtain ⟨hx, hb, hr, hml, hown, hts, hlk, hK, hA⟩ := id C
  have hH : Hp D vwCl (fun q => s.heap.size ≤ q) (fun q => s.heap.size ≤ q) s.heap s.heap [] [] := ⟨fun k q h => by simp at h, ⟨fun i j p q h => by simp at h, fun k q h => by simp at h⟩, va_S.rf⟩
  have hl := lv_entry ([.ref b]) (n := 8) (Nat.le_of_ble_eq_true rfl)
  rw [lg_entry_eq]
  generalize (lg_sl ([.ref b]) ++ List.replicate (8 - (lg_sl ([.ref b])).length) Slot.unset).toArray = ls at hl ⊢
  have hl : lv_has ls 8 [(0, .ref b)] := hl
  refine nwO (ci := 5) (fs := [.null, .null, .null, .null, .null]) C hH (iwT iw_EventLog) ty_EventLog tyok_EventLog (.tail _ wd_15) (.tail _ wd_16) (.tail _ wd_1) rfl (fun j hj => by rcases (show j = 0 ∨ j = 1 ∨ j = 2 ∨ j = 3 ∨ j = 4 by omega) with rfl | rfl | rfl | rfl | rfl <;> rfl) (Nat.le_of_ble_eq_true rfl) (Nat.le_of_ble_eq_true rfl) d_Law_law_0 (fun h H hH => ?_)
  have hH : Hp D vwCl (fun q => s.heap.size ≤ q) (fun q => s.heap.size ≤ q) s.heap H _ [(h, .inr (5, [.null, .null, .null, .null, .null]))] := hH
  refine lv_dup hx hb d_Law_law_3 rfl ?_
  refine mkI (rest := [.ref h]) (wr := []) C (c_EventLog_init l D cI cL h) (cCI hts kI_EventLog_init wd_17 ⟨Nat.le_of_ble_eq_true rfl, Nat.le_of_ble_eq_true rfl⟩) hH [0] [] rfl rfl rfl rfl (by decide) rfl hl.1 rfl (Nat.le_of_ble_eq_true rfl) d_Law_law_4 ⟨Nat.le_of_ble_eq_true rfl, Nat.le_of_ble_eq_true rfl⟩ (fun u H locs hH => ?_)
  obtain ⟨h_0, h_1, h_2, h_3, h_4, h_5, h_6, h_7, h_8, h_9, h_10, h_11, h_12, h_13, h_14, h_15, h_16, h_17⟩ := u
  have hH : Hp D vwCl (fun q => s.heap.size ≤ q) (fun q => s.heap.size ≤ q) s.heap H locs [(h, .inr (5, [.ref h_0, .ref h_5, .ref h_10, .ref h_12, .ref h_15])), (h_0, .inr (2, [.ref h_1, .ref h_2, .ref h_3, .ref h_4, .int 0])), (h_1, .inl (cI, 300, .inl ((fun _ => 0)))), (h_2, .inl (cL, 300, .inr (.inl ((fun _ => 0))))), (h_3, .inl (cL, 300, .inr (.inl ((fun _ => 0))))), (h_4, .inl (cI, 300, .inl ((fun _ => 0)))), (h_5, .inr (2, [.ref h_6, .ref h_7, .ref h_8, .ref h_9, .int 0])), (h_6, .inl (cI, 300, .inl ((fun _ => 0)))), (h_7, .inl (cL, 300, .inr (.inl ((fun _ => 0))))), (h_8, .inl (cL, 300, .inr (.inl ((fun _ => 0))))), (h_9, .inl (cI, 300, .inl ((fun _ => 0)))), (h_10, .inr (0, [.ref h_11, .int 0])), (h_11, .inl (cI, 5000, .inl ((fun _ => 0)))), (h_12, .inr (3, [.ref h_10, .ref h_13, .int (bI false), .int 0, .int 0, .int 0, .int 0, .int 0])), (h_13, .inr (1, [.ref h_14, .int 0, .int ((-1))])), (h_14, .inl (cI, 300, .inl ((fun _ => 0)))), (h_15, .inr (4, [.ref h_10, .ref h_16, .int 0, .int 0, .int 0])), (h_16, .inr (1, [.ref h_17, .int 0, .int ((-1))])), (h_17, .inl (cI, 300, .inl ((fun _ => 0))))] := hH
  refine lv_astore_n (lv' := [(1, .ref h), (0, .ref b)]) hx hb d_Law_law_7 rfl hl (by decide) rfl (fun ls hl => ?_)
  refine nwO (ci := 6) (fs := [.int 0, .int 0, .null, .null, .null, .null, .int 0, .null, .null, .null, .null, .int 0, .null, .null, .int 0, .int 0, .int 0, .int 0, .int 0, .int 0, .int 0]) C hH (iwT iw_Model) ty_Model tyok_Model (.tail _ wd_590) (.tail _ wd_591) (.tail _ wd_7) rfl (fun j hj => by rcases (show j = 0 ∨ j = 1 ∨ j = 2 ∨ j = 3 ∨ j = 4 ∨ j = 5 ∨ j = 6 ∨ j = 7 ∨ j = 8 ∨ j = 9 ∨ j = 10 ∨ j = 11 ∨ j = 12 ∨ j = 13 ∨ j = 14 ∨ j = 15 ∨ j = 16 ∨ j = 17 ∨ j = 18 ∨ j = 19 ∨ j = 20 by omega) with rfl | rfl | rfl | rfl | rfl | rfl | rfl | rfl | rfl | rfl | rfl | rfl | rfl | rfl | rfl | rfl | rfl | rfl | rfl | rfl | rfl <;> rfl) (Nat.le_of_ble_eq_true rfl) (Nat.le_of_ble_eq_true rfl) d_Law_law_8 (fun q H hH => ?_)
  have hH : Hp D vwCl (fun q => s.heap.size ≤ q) (fun q => s.heap.size ≤ q) s.heap H _ [(h, .inr (5, [.ref h_0, .ref h_5, .ref h_10, .ref h_12, .ref h_15])), (h_0, .inr (2, [.ref h_1, .ref h_2, .ref h_3, .ref h_4, .int 0])), (h_1, .inl (cI, 300, .inl ((fun _ => 0)))), (h_2, .inl (cL, 300, .inr (.inl ((fun _ => 0))))), (h_3, .inl (cL, 300, .inr (.inl ((fun _ => 0))))), (h_4, .inl (cI, 300, .inl ((fun _ => 0)))), (h_5, .inr (2, [.ref h_6, .ref h_7, .ref h_8, .ref h_9, .int 0])), (h_6, .inl (cI, 300, .inl ((fun _ => 0)))), (h_7, .inl (cL, 300, .inr (.inl ((fun _ => 0))))), (h_8, .inl (cL, 300, .inr (.inl ((fun _ => 0))))), (h_9, .inl (cI, 300, .inl ((fun _ => 0)))), (h_10, .inr (0, [.ref h_11, .int 0])), (h_11, .inl (cI, 5000, .inl ((fun _ => 0)))), (h_12, .inr (3, [.ref h_10, .ref h_13, .int (bI false), .int 0, .int 0, .int 0, .int 0, .int 0])), (h_13, .inr (1, [.ref h_14, .int 0, .int ((-1))])), (h_14, .inl (cI, 300, .inl ((fun _ => 0)))), (h_15, .inr (4, [.ref h_10, .ref h_16, .int 0, .int 0, .int 0])), (h_16, .inr (1, [.ref h_17, .int 0, .int ((-1))])), (h_17, .inl (cI, 300, .inl ((fun _ => 0)))), (q, .inr (6, [.int 0, .int 0, .null, .null, .null, .null, .int 0, .null, .null, .null, .null, .int 0, .null, .null, .int 0, .int 0, .int 0, .int 0, .int 0, .int 0, .int 0]))] := hH
  refine lv_dup hx hb d_Law_law_11 rfl ?_
  refine mkI (rest := [.ref q]) (wr := [(h, .inr (5, [.ref h_0, .ref h_5, .ref h_10, .ref h_12, .ref h_15])), (h_0, .inr (2, [.ref h_1, .ref h_2, .ref h_3, .ref h_4, .int 0])), (h_1, .inl (cI, 300, .inl ((fun _ => 0)))), (h_2, .inl (cL, 300, .inr (.inl ((fun _ => 0))))), (h_3, .inl (cL, 300, .inr (.inl ((fun _ => 0))))), (h_4, .inl (cI, 300, .inl ((fun _ => 0)))), (h_5, .inr (2, [.ref h_6, .ref h_7, .ref h_8, .ref h_9, .int 0])), (h_6, .inl (cI, 300, .inl ((fun _ => 0)))), (h_7, .inl (cL, 300, .inr (.inl ((fun _ => 0))))), (h_8, .inl (cL, 300, .inr (.inl ((fun _ => 0))))), (h_9, .inl (cI, 300, .inl ((fun _ => 0)))), (h_10, .inr (0, [.ref h_11, .int 0])), (h_11, .inl (cI, 5000, .inl ((fun _ => 0)))), (h_12, .inr (3, [.ref h_10, .ref h_13, .int (bI false), .int 0, .int 0, .int 0, .int 0, .int 0])), (h_13, .inr (1, [.ref h_14, .int 0, .int ((-1))])), (h_14, .inl (cI, 300, .inl ((fun _ => 0)))), (h_15, .inr (4, [.ref h_10, .ref h_16, .int 0, .int 0, .int 0])), (h_16, .inr (1, [.ref h_17, .int 0, .int ((-1))])), (h_17, .inl (cI, 300, .inl ((fun _ => 0))))]) C (c_Model_init l D cI cL q) (cCI hts kI_Model_init wd_592 ⟨Nat.le_of_ble_eq_true rfl, Nat.le_of_ble_eq_true rfl⟩) hH [19] [0, 1, 2, 3, 4, 5, 6, 7, 8, 9, 10, 11, 12, 13, 14, 15, 16, 17, 18] rfl rfl rfl rfl (by decide) rfl hl.1 rfl (Nat.le_of_ble_eq_true rfl) d_Law_law_12 ⟨Nat.le_of_ble_eq_true rfl, Nat.le_of_ble_eq_true rfl⟩ (fun u H locs hH => ?_)
  obtain ⟨q_0, q_1, q_2, q_3, q_4, q_5, q_6, q_7, q_8, q_9⟩ := u
  have hH : Hp D vwCl (fun q => s.heap.size ≤ q) (fun q => s.heap.size ≤ q) s.heap H locs [(h, .inr (5, [.ref h_0, .ref h_5, .ref h_10, .ref h_12, .ref h_15])), (h_0, .inr (2, [.ref h_1, .ref h_2, .ref h_3, .ref h_4, .int 0])), (h_1, .inl (cI, 300, .inl ((fun _ => 0)))), (h_2, .inl (cL, 300, .inr (.inl ((fun _ => 0))))), (h_3, .inl (cL, 300, .inr (.inl ((fun _ => 0))))), (h_4, .inl (cI, 300, .inl ((fun _ => 0)))), (h_5, .inr (2, [.ref h_6, .ref h_7, .ref h_8, .ref h_9, .int 0])), (h_6, .inl (cI, 300, .inl ((fun _ => 0)))), (h_7, .inl (cL, 300, .inr (.inl ((fun _ => 0))))), (h_8, .inl (cL, 300, .inr (.inl ((fun _ => 0))))), (h_9, .inl (cI, 300, .inl ((fun _ => 0)))), (h_10, .inr (0, [.ref h_11, .int 0])), (h_11, .inl (cI, 5000, .inl ((fun _ => 0)))), (h_12, .inr (3, [.ref h_10, .ref h_13, .int (bI false), .int 0, .int 0, .int 0, .int 0, .int 0])), (h_13, .inr (1, [.ref h_14, .int 0, .int ((-1))])), (h_14, .inl (cI, 300, .inl ((fun _ => 0)))), (h_15, .inr (4, [.ref h_10, .ref h_16, .int 0, .int 0, .int 0])), (h_16, .inr (1, [.ref h_17, .int 0, .int ((-1))])), (h_17, .inl (cI, 300, .inl ((fun _ => 0)))), (q, .inr (6, [.int 0, .int 0, .ref q_0, .ref q_1, .ref q_2, .ref q_3, .int 0, .ref q_4, .ref q_5, .ref q_6, .ref q_7, .int 0, .ref q_8, .ref q_9, .int 0, .int 0, .int 0, .int 0, .int 0, .int 0, .int 0])), (q_0, .inl (cI, 300, .inl ((fun _ => 0)))), (q_1, .inl (cI, 300, .inl ((fun _ => 0)))), (q_2, .inl (cL, 300, .inr (.inl ((fun _ => 0))))), (q_3, .inl (cL, 300, .inr (.inl ((fun _ => 0))))), (q_4, .inl (cI, 300, .inl ((fun _ => 0)))), (q_5, .inl (cI, 300, .inl ((fun _ => 0)))), (q_6, .inl (cL, 300, .inr (.inl ((fun _ => 0))))), (q_7, .inl (cL, 300, .inr (.inl ((fun _ => 0))))), (q_8, .inl (cI, 5000, .inl ((fun _ => 0)))), (q_9, .inl (cI, 5000, .inl ((fun _ => 0))))] := hH
  refine lv_astore_n (lv' := [(2, .ref q), (1, .ref h), (0, .ref b)]) hx hb d_Law_law_15 rfl hl (by decide) rfl (fun ls hl => ?_)
  refine lv_iconst (v := 1) hx hb d_Law_law_16 (by decide) ?_
  refine nwL (N := 1) C hH 1 rfl (.tail _ wd_46) (by decide) (by decide) (by decide) (Nat.le_of_ble_eq_true rfl) (Nat.le_of_ble_eq_true rfl) d_Law_law_17 (fun o H hH => ?_)
  have hH : Hp D vwCl (fun q => s.heap.size ≤ q) (fun q => s.heap.size ≤ q) s.heap H _ [(h, .inr (5, [.ref h_0, .ref h_5, .ref h_10, .ref h_12, .ref h_15])), (h_0, .inr (2, [.ref h_1, .ref h_2, .ref h_3, .ref h_4, .int 0])), (h_1, .inl (cI, 300, .inl ((fun _ => 0)))), (h_2, .inl (cL, 300, .inr (.inl ((fun _ => 0))))), (h_3, .inl (cL, 300, .inr (.inl ((fun _ => 0))))), (h_4, .inl (cI, 300, .inl ((fun _ => 0)))), (h_5, .inr (2, [.ref h_6, .ref h_7, .ref h_8, .ref h_9, .int 0])), (h_6, .inl (cI, 300, .inl ((fun _ => 0)))), (h_7, .inl (cL, 300, .inr (.inl ((fun _ => 0))))), (h_8, .inl (cL, 300, .inr (.inl ((fun _ => 0))))), (h_9, .inl (cI, 300, .inl ((fun _ => 0)))), (h_10, .inr (0, [.ref h_11, .int 0])), (h_11, .inl (cI, 5000, .inl ((fun _ => 0)))), (h_12, .inr (3, [.ref h_10, .ref h_13, .int (bI false), .int 0, .int 0, .int 0, .int 0, .int 0])), (h_13, .inr (1, [.ref h_14, .int 0, .int ((-1))])), (h_14, .inl (cI, 300, .inl ((fun _ => 0)))), (h_15, .inr (4, [.ref h_10, .ref h_16, .int 0, .int 0, .int 0])), (h_16, .inr (1, [.ref h_17, .int 0, .int ((-1))])), (h_17, .inl (cI, 300, .inl ((fun _ => 0)))), (q, .inr (6, [.int 0, .int 0, .ref q_0, .ref q_1, .ref q_2, .ref q_3, .int 0, .ref q_4, .ref q_5, .ref q_6, .ref q_7, .int 0, .ref q_8, .ref q_9, .int 0, .int 0, .int 0, .int 0, .int 0, .int 0, .int 0])), (q_0, .inl (cI, 300, .inl ((fun _ => 0)))), (q_1, .inl (cI, 300, .inl ((fun _ => 0)))), (q_2, .inl (cL, 300, .inr (.inl ((fun _ => 0))))), (q_3, .inl (cL, 300, .inr (.inl ((fun _ => 0))))), (q_4, .inl (cI, 300, .inl ((fun _ => 0)))), (q_5, .inl (cI, 300, .inl ((fun _ => 0)))), (q_6, .inl (cL, 300, .inr (.inl ((fun _ => 0))))), (q_7, .inl (cL, 300, .inr (.inl ((fun _ => 0))))), (q_8, .inl (cI, 5000, .inl ((fun _ => 0)))), (q_9, .inl (cI, 5000, .inl ((fun _ => 0)))), (o, .inl (cL, 1, .inr (.inl ((fun _ => 0)))))] := hH
  refine lv_astore_n (lv' := [(3, .ref o), (2, .ref q), (1, .ref h), (0, .ref b)]) hx hb d_Law_law_19 rfl hl (by decide) rfl (fun ls hl => ?_)
  refine lv_iconst (v := 0) hx hb d_Law_law_20 (by decide) ?_
  refine lv_istore (lv' := [(4, .int 0), (3, .ref o), (2, .ref q), (1, .ref h), (0, .ref b)]) hx hb d_Law_law_21 hl (by decide) rfl (fun ls hl => ?_)
  refine W.widen (k := 31 + 0) (n := 20458 + 6 * 0) (Nat.le_of_ble_eq_true rfl) (Nat.le_of_ble_eq_true rfl) ?_
  exact law_loop hfl hL C hE hX hbl 600 0 h h_0 h_1 h_2 h_3 h_4 h_5 h_6 h_7 h_8 h_9 h_10 h_11 h_12 h_13 h_14 h_15 h_16 h_17 q q_0 q_1 q_2 q_3 q_4 q_5 q_6 q_7 q_8 q_9 o st0 m0 (fun _ => 0) 0 (hpure xs L hL) (by omega) rfl _ _ _ hH (lv_sub hl [4, 3, 2, 1, 0] rfl)
