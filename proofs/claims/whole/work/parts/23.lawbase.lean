def R_law : String := "EventLogLaw"
def lw_P (b : Addr) (xs : List Int32) (args : Array Value) (s : State) : Prop := args = #[.ref b] ∧ s.IntsAt b xs ∧ xs.length ≤ 3584 ∧ (Jvm.Cond.and given_1 narrow_1).before args s = true
def lw_Q (_ : Array Value) (s : State) (o : Outcome) (t : State) : Prop := o = .returned (some (.int 1)) ∧ Framed s o t [] 1065 28710
def lw_Z (below : List Frame) (a : Array Value) (s : State) : State → Prop := fun t => ∃ o, t.status = .running ∧ Ended t below o ∧ lw_Q a s o t
/-- the law's own end, with 1 on the stack, nothing written that was there before, its room as the claim has it -/
theorem lw_ret {p : Program} {l : Launch} {e : Env} {s : State} {m : MethodId} {below : List Frame} {meth : Method} {c : Code} {b : Nat} (hx : p.tables.exec = Jvm.exec) (hb : c.code = code) (hr : meth.sig.returnType = ret) (hlocks : meth.locks = false) {pc : Nat} {H : Heap} {ls : Array Slot} (hdg : decode code pc = .ok (.ireturn, 1)) : W p l e room_1 s m #[Value.ref b] below meth c H [] 1065 28710 (lw_Z below #[Value.ref b] s) (F0 m pc ls [.int 1]) := by
  intro T hT X
  obtain ⟨fs, hret, hrun, hended, hW, hframe⟩ := X.leave (v := some (.int 1)) (hlocks := hlocks) (fun h => by rw [hr] at h; cases h)
  have hmeth' : T.vm.method? m = some meth := X.method'
  refine ⟨T.setFrames fs, ?_, .returned (some (.int 1)), hrun, hended, rfl, ⟨_, rfl⟩, hW, hframe⟩
  jvm_step X.here [X.here.top, hx, hb, hdg, hmeth', hr, ret, narrow_b1]
  (try refine ⟨rfl, ?_⟩); (try refine ⟨rfl, ?_⟩)
  first | (intro acts; rw [hret _ acts rfl rfl rfl]) | rw [hret _ _ rfl rfl rfl]
  exact Steps.refl _
/-- what holds at the law's entry: the machine, the code, the tables' words (any of lw_tbl by 'hts w (by decide +kernel)'), the script of L ints xs at the cell b, what the Statement gives of the start (any of its parts by flat_of_before) -/
def lw_At (p : Program) (s : State) (m : MethodId) (meth : Method) (c : Code) (b L : Nat) (xs : Nat → Int32) : Prop :=
  p.tables.exec = Jvm.exec ∧ c.code = code ∧ meth.sig.returnType = ret ∧ c.maxLocals = 8 ∧ s.vm.findClass R_law = some m.cls ∧ (∀ w ∈ lw_tbl, w.before #[Value.ref b] s = true) ∧ va_X b L xs s s.heap ∧ b < s.heap.size ∧ meth.locks = false ∧ (Jvm.Cond.and given_1 narrow_1).before #[Value.ref b] s = true
def lawC0 : Cond := .initialized "EventLogLaw"
def ClC (y : MethodName) (bytes : ByteArray) (maxL : Nat) (ret : Option FieldType) (hh : List (Nat × Nat × Nat × Nat)) (n : Nat) : Prop := Cond.codeWith y bytes maxL ret hh ∈ U0 ∧ Cond.initialized y.cls ∈ U0 ∧ y.cls ≠ "java/lang/invoke/MethodHandle" ∧ y.cls ≠ "java/lang/invoke/VarHandle" ∧ (parseMethodDescriptor y.desc).map (fun d => d.parameters.length) = some n ∧ Cond.static y ∈ U0
section FNSE
variable {l : Launch} {D : va_G} {cl : List vw_C} {tys : List (ClassId × FieldType)}
variable {p : Program} {e : Env} {R : Room} {s : State} {m : MethodId} {args : Array Value} {below : List Frame} {meth : Method} {c : Code} {H : Heap} {locs : List Loc} {cells slots : Nat} {Q : State → Prop}
variable {A : Nat → Prop} {cc : ByteArray} {nL : Nat} {ret : Option FieldType} {c0 : Cond} {own : String} {w : va_W} {pc : Nat} {ls : Array Slot} {rest : List Value}
/-- a call of one of the law's methods that catch -/
theorem fnSE {wc wr w1 w2 : va_W} {o : Option Value} {st0 st2 : List Value} {y : MethodName} {bytes : ByteArray} {maxL n index : Nat} {rm : Room} {As : List Value} {ret2 : Option FieldType} {hh : List (Nat × Nat × Nat × Nat)} (C : Cx p s m args meth c D cl tys A cc nL ret (c0 :: U0) own) (hF : FnE l D cl tys y (Cond.codeWith y bytes maxL ret2 hh :: U0) rm As wc o w1) (k : ClC y bytes maxL ret2 hh n) (hlk : Cond.methodLink own index y ∈ U0) (hRm : rm.frames + 1 ≤ R.frames ∧ 8 + (maxL + 11) + rm.locals ≤ R.locals) (hE : ∀ U : State, U.heap = H → s.WarmedH U.vm → EE allS U)
    (hH : Hp D cl A A s.heap H locs w) (isC isR isP : List Nat) (hC : isC.map (fun i => w[i]?) = wc.map some) (hnC : va_nd isC = true) (hR : isR.map (fun i => w[i]?) = wr.map some) (hn : va_nd isR = true) (hdis : ∀ i ∈ isR, i ∉ isC) (hPm : isP.map (fun i => (wr ++ w1)[i]?) = w2.map some) (hPn : va_nd isP = true)
    (hnA : As.length = n) (hl : ls.size = nL) (hst : st0 = As.reverse ++ rest) (hrm : (rest.map fun v => v.category).sum ≤ 8) (hdg : decode cc pc = .ok (.invokestatic index, 3)) (hf : cells + rm.cells ≤ R.cells ∧ slots + rm.slots ≤ R.slots) (hst2 : o.toList ++ rest = st2)
    (kk : ∀ (H1 : Heap) (locs1 : List Loc), Hp D cl A A s.heap H1 locs1 w2 → W p l e R s m args below meth c H1 locs1 (cells + rm.cells) (slots + rm.slots) Q (F0 m (pc + 3) ls st2)) : W p l e R s m args below meth c H locs cells slots Q (F0 m pc ls st0) := by
  obtain ⟨hP, hD, hS⟩ := id hH
  have hPc := hP.sub isC (va_pm hC)
  have hDc := hD.sub isC hnC hC
  obtain ⟨hx, hb, -, hml, hown, hts, -, hK, hA⟩ := id C
  refine callIt (a := As.toArray) (mc := rm.cells) (ms := rm.slots) C hH isC isR isP hC hR hn hdis hPm hPn ?_ hst2 kk
  intro T hT X
  obtain ⟨k1, k2, k3, k4, k5, k6⟩ := k
  have hcodeB := hts _ (.tail _ k1)
  obtain ⟨mk, methM, cM, hnamed, hmethM, -, -, -, -, -, -, hsigM⟩ := Cond.codeWith_spec hcodeB
  have hstatic : methM.isStatic = true := Cond.static_spec hnamed hmethM (hts _ (.tail _ k6))
  obtain ⟨kP, hkP, -⟩ := className_of_methodNamed hnamed
  have hinitP : kP.init = .initialized := Cond.initialized_spec (findClass_of_methodNamed hnamed) hkP (hts _ (.tail _ k2))
  have hlen : As.length = methM.sig.parameters.length := by
    rw [hsigM] at k5
    exact hnA.trans (Option.some.inj k5).symm
  obtain ⟨vm₁, X₁, hstep₁⟩ := X.invokestatic hx hown (hts _ (.tail _ hlk)) hnamed hmethM hstatic hkP hinitP ⟨k3, k4⟩ (g := F0 m pc ls st0) rfl (argsL := As) (rest := rest) hlen hst (by rw [hb]; exact hdg)
  have hgd : GoodIn (c0 :: U0) (Cond.codeWith y bytes maxL ret2 hh :: U0) := fun w hw => by
    have : w ∈ U0 := (List.mem_cons.mp hw).elim (fun e => e ▸ k1) id
    exact ⟨.tail _ this, good_of_word (U0_good w this)⟩
  have hBk : Back l R p e below s args y 3 8 (PreOf R rm.cells rm.slots (fun a U => Pw D cl tys As H.size wc a U ∧ EE allS U)) (PostOf (Qw D cl tys o (va_A wc H.size) w1) rm.cells rm.slots (va_A wc H.size)) :=
    va_backW (hh := hh) (bytes := bytes) (maxL := maxL) (ret := ret2) (hF H.size) (fun a U g mk q => ⟨Pw_blind a U g mk q.1, EE.blind U g mk a q.2⟩) rfl rfl hRm.1 hRm.2 (pay_in hts hgd) List.mem_cons_self (fun a' U hW => word_at hW (Or.inl (by first | rfl | simp [Cond.onTables, Cond.keeps, Cond.steady])) (hts _ (.tail _ k2)))
  obtain ⟨v, ⟨U', l2, c2, s2⟩, X', ⟨g', mk', t, L, e1, e2, hq, h1, hL, h2, h3⟩, hsteps⟩ := hBk m meth c ⟨T.setVm vm₁, locs, cells, slots⟩ (F0 m pc ls rest) (.invokestatic index) mk As.toArray X₁ rfl (hl.trans hml.symm) (by rw [hb]; exact hdg) (lv_room hrm) (X₁.named hnamed)
    ⟨hf.1, hf.2, ⟨rfl, by show T.heap.size = _; rw [hT], by show va_P D cl wc T.heap; rw [hT]; exact hPc, Kx.warm X₁.warmed hK, hDc.weaken (fun _ _ _ _ => trivial)⟩, hE (T.setVm vm₁) hT X₁.warmed⟩
  dsimp only [Pt.U, Pt.locs, Pt.cells, Pt.slots] at X' e1 e2 h1 h2 h3 hsteps
  subst h1; subst h2; subst h3
  exact ⟨v, (T.setVm vm₁).calling g' mk' As.toArray, t, U', L, hT, X', hL, e1, e2, hq, fun tg h => hstep₁ _ fun acts => by rw [doInvoke_state]; exact hsteps.trans h⟩
end FNSE
theorem sc_in {L j : Nat} {x4 : Int32} (hL : L ≤ 3584) (hj : j ≤ 512) (ex4 : x4 = nI (7 * j)) (hc : ¬ ((Int32.ofNat L) - 7) < x4) : j + 1 ≤ 512 ∧ vp_in x4 L ∧ vp_in (x4 + 1) L ∧ vp_in (x4 + 2) L ∧ vp_in (x4 + 3) L ∧ vp_in (x4 + 4) L ∧ vp_in (x4 + 5) L ∧ vp_in (x4 + 6) L := by
  subst ex4
  have hk : 7 * j + 7 ≤ L := by
    rcases Nat.lt_or_ge L 7 with h | h
    · exfalso
      apply hc
      rw [show Int32.ofNat L - 7 = nI L - nI 7 from rfl]
      have h1 := pk_sub_toInt (a := L) (b := 7) (by omega) (by decide)
      rw [Int32.lt_iff_toInt_lt, h1, nI_toInt (by omega)]
      omega
    · have e : Int32.ofNat L - 7 = nI (L - 7) := pk_sub h
      rw [e, nI_ltI (by omega) (by omega)] at hc
      omega
  have hv : ∀ k : Nat, k < 7 → vp_in (nI (7 * j) + nI k) L := fun k h => by
    rw [nI_add]
    exact vp_in_nI (by omega) (by omega)
  refine ⟨by omega, ?_, hv 1 (by omega), hv 2 (by omega), hv 3 (by omega), hv 4 (by omega), hv 5 (by omega), hv 6 (by omega)⟩
  exact vp_in_nI (by omega) (by omega)
theorem sc_nx (j : Nat) : nI (7 * j) + 7 = nI (7 * (j + 1)) := by
  rw [show (7 : Int32) = nI 7 from rfl, nI_add]
  rfl
theorem kC_Law_add : ClC y_Law_add b_Law_add 9 (some FieldType.int) [(0, 15, 18, 13), (0, 15, 22, 15)] 6 := ⟨wd_389, wd_0, by decide +kernel, by decide +kernel, by decide +kernel, wd_388⟩
theorem kC_Law_drop : ClC y_Law_drop b_Law_drop 4 (some FieldType.int) [(0, 9, 12, 13)] 3 := ⟨wd_500, wd_0, by decide +kernel, by decide +kernel, by decide +kernel, wd_499⟩
theorem kC_Law_poke : ClC y_Law_poke b_Law_poke 4 (some FieldType.int) [(0, 6, 9, 13), (0, 6, 12, 25), (0, 6, 15, 15)] 3 := ⟨wd_509, wd_0, by decide +kernel, by decide +kernel, by decide +kernel, wd_508⟩
theorem kC_Law_cut : ClC y_Law_cut b_Law_cut 4 (some FieldType.int) [(0, 9, 12, 25)] 3 := ⟨wd_540, wd_0, by decide +kernel, by decide +kernel, by decide +kernel, wd_539⟩
theorem kC_Law_byteAt : ClC y_Law_byteAt b_Law_byteAt 4 (some FieldType.int) [(0, 9, 12, 25)] 3 := ⟨wd_549, wd_0, by decide +kernel, by decide +kernel, by decide +kernel, wd_548⟩
theorem kC_Law_event : ClC y_Law_event b_Law_event 5 (some FieldType.int) [(0, 9, 12, 37), (0, 9, 16, 13)] 4 := ⟨wd_558, wd_0, by decide +kernel, by decide +kernel, by decide +kernel, wd_557⟩
