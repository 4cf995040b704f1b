/-! The road from a thrown object to the handler whose class's entry may not be resolved yet. -/
def FTo (e : Env) (S : State) (f : JFrame) (a : Addr) (pc : Nat) (vm' : Vm) : Prop := ∀ (Q : Handler → Pre) (E : CtlPost) (d : Bool) (acts : List Action), wp (findHandler f a) Q E e d acts S ↔ Q (.found pc) d acts (S.setVm vm')
/-- the search over the rows t, from S on, ends at the handler pc; the tables are warmer behind it -/
def FGo (e : Env) (s₀ S : State) (f : JFrame) (a : Addr) (t : List ExceptionTableEntry) (pc : Nat) : Prop := ∃ vm', s₀.WarmedH vm' ∧ ∀ (Q : Handler → Pre) (E : CtlPost) (d : Bool) (acts : List Action), wp (findHandler.go f a t) Q E e d acts S ↔ Q (.found pc) d acts (S.setVm vm')
section FG
variable {e : Env} {s₀ S : State} {f : JFrame} {a : Addr} {args : Array Value} {x : ExceptionTableEntry} {t : List ExceptionTableEntry} {own name tn : String} {cell : Cell}
theorem FGo.link (hpl : e.platform.magicAccessors = ({} : Platform).magicAccessors) (hW : s₀.WarmedH S.vm) (hown : s₀.vm.findClass own = some f.method.cls) (hx : covers x f.pc = true) (h0 : x.catchType ≠ 0) (hlink : (Cond.classLink own x.catchType name).before args s₀ = true) (hcell : S.heap[a]? = some cell) (hv : cell.vm = .none) (htn : s₀.vm.findClass tn = some cell.cls) :
    ∃ c : ClassId, s₀.vm.findClass name = some c ∧ s₀.WarmedH (S.vm.noted f.method.cls x.catchType (.cls c)) ∧ ∀ (Q : Handler → Pre) (E : CtlPost) (d : Bool) (acts : List Action), wp (findHandler.go f a (x :: t)) Q E e d acts S ↔ (if s₀.vm.assignable cell.cls c = true then Q (.found x.handlerPc) d acts (S.setVm (S.vm.noted f.method.cls x.catchType (.cls c))) else wp (findHandler.go f a t) Q E e d acts (S.setVm (S.vm.noted f.method.cls x.catchType (.cls c)))) := by
  obtain ⟨c, hc, hcl⟩ := Cond.classLink_spec hown hlink e.platform hpl
  obtain ⟨dk, _, _, kt, hd, _, _, _, _, hkt, _, hopen⟩ := hcl.here
  refine ⟨c, hc, hW.noted hd hopen (State.rightAt_cls hcl), fun Q E d acts => ?_⟩
  simp only [covers] at hx
  obtain ⟨ha, ht⟩ := (resolveClass_links e.toSetting (hW.classLinks hcl)).op (op := VmOp.resolveClass f.method.cls x.catchType) rfl
  have hal : S.vm.Alike (S.vm.noted f.method.cls x.catchType (.cls c)) := (Vm.Alike.refl S.vm).noted _ _ _
  obtain ⟨k0, hk0⟩ := Vm.classAt_of_findClass htn
  obtain ⟨k1, hk1, -⟩ := hW.alike.2.2 _ _ hk0
  obtain ⟨k2, hk2, -⟩ := hW.alike.2.2 _ _ hkt
  obtain ⟨k1', hk1', -⟩ := hal.2.2 _ _ hk1
  obtain ⟨k2', hk2', -⟩ := hal.2.2 _ _ hk2
  have hfit : (S.vm.noted f.method.cls x.catchType (.cls c)).assignable cell.cls c = s₀.vm.assignable cell.cls c := by rw [hal.assignable, hW.alike.assignable]
  cases hq : s₀.vm.assignable cell.cls c <;> simp [findHandler.go, hx, h0, ha, ht, hcell, hv, hk1', hk2', hfit, hq, VmOp.dirties, VmOp.acts]
/-- this row takes it -/
theorem FGo.take (hpl : e.platform.magicAccessors = ({} : Platform).magicAccessors) (hW : s₀.WarmedH S.vm) (hown : s₀.vm.findClass own = some f.method.cls) (hx : covers x f.pc = true) (h0 : x.catchType ≠ 0) (hlink : (Cond.classLink own x.catchType name).before args s₀ = true) (hcell : S.heap[a]? = some cell) (hv : cell.vm = .none) (htn : s₀.vm.findClass tn = some cell.cls)
    (hcast : (Cond.castable tn name).before args s₀ = true) : FGo e s₀ S f a (x :: t) x.handlerPc := by
  obtain ⟨c, hc, hw, hq⟩ := FGo.link (t := t) hpl hW hown hx h0 hlink hcell hv htn
  obtain ⟨c1, c2, g1, g2, g3⟩ := Cond.castable_spec hcast
  cases g1.symm.trans htn
  cases g2.symm.trans hc
  exact ⟨_, hw, fun Q E d acts => by rw [hq, if_pos g3]⟩
/-- this row passes it on -/
theorem FGo.pass {pc : Nat} (hpl : e.platform.magicAccessors = ({} : Platform).magicAccessors) (hW : s₀.WarmedH S.vm) (hown : s₀.vm.findClass own = some f.method.cls) (hx : covers x f.pc = true) (h0 : x.catchType ≠ 0) (hlink : (Cond.classLink own x.catchType name).before args s₀ = true) (hcell : S.heap[a]? = some cell) (hv : cell.vm = .none) (htn : s₀.vm.findClass tn = some cell.cls)
    (hno : (Cond.not (.castable tn name)).before args s₀ = true) (k : ∀ S' : State, s₀.WarmedH S'.vm → S'.heap = S.heap → FGo e s₀ S' f a t pc) : FGo e s₀ S f a (x :: t) pc := by
  obtain ⟨c, hc, hw, hq⟩ := FGo.link (t := t) hpl hW hown hx h0 hlink hcell hv htn
  have hn := Cond.holds_not_iff.mp hno
  simp only [Cond.value, htn, hc] at hn
  have hn : s₀.vm.assignable cell.cls c = false := Option.some.inj hn
  obtain ⟨vm', h1, h2⟩ := k (S.setVm (S.vm.noted f.method.cls x.catchType (.cls c))) hw rfl
  exact ⟨vm', h1, fun Q E d acts => by rw [hq, if_neg (by rw [hn]; decide), h2]; rfl⟩
theorem FTo.of {meth : Method} {code : Code} {pc : Nat} (hm : S.vm.method? f.method = some meth) (hc : meth.code = some code) (h : FGo e s₀ S f a code.exceptionTable.toList pc) : ∃ vm', s₀.WarmedH vm' ∧ FTo e S f a pc vm' := by
  obtain ⟨vm', h1, h2⟩ := h
  exact ⟨vm', h1, fun Q E d acts => by rw [W.findHandler_eq hm hc]; exact h2 Q E d acts⟩
theorem FTo.go {pc : Nat} {vm' : Vm} {r : List Frame} (h : FTo e S f a pc vm') : (stepThrowing e S a (.java f :: r)).Is ((S.setVm vm').setFrames (.java { f with pc := pc, stack := [.ref a] } :: r)) [] := by
  simp only [stepThrowing, searchFrame, vmDo]
  generalize hr : Sem.go _ e false [] S = res
  obtain ⟨as, rfl, ha⟩ := Sem.eq_ok_of hr (a := Handler.found pc) (s' := S.setVm vm') (acts' := []) (by simp [h _ _ _ _])
  exact ⟨rfl, ha⟩
theorem FTo.steps {tb : Tables} {target : State} {g : JFrame} {c : Code} {below : List Frame} (h : At S g.method c below) {pc : Nat} {vm' : Vm} (hf : FTo e ((S.setTop g).pushFrame (.throwing a)) g a pc vm') (hrest : Steps tb e below ((S.setVm vm').setTop { g with pc := pc, stack := [.ref a] }) target) : Steps tb e below ((S.setTop g).pushFrame (.throwing a)) target := by
  obtain ⟨hgo, hw⟩ := h.throwing a
  refine Steps.head hgo hw ?_
  rw [stepThread_throwing (frames_entered h.top _), hf.go.1]
  obtain ⟨g₀, hg⟩ := Option.isSome_iff_exists.mp h.top
  obtain ⟨r, hr⟩ := State.topJava?_eq_some.mp hg
  have hr' : (S.setVm vm').frames = .java g₀ :: r := hr
  have key : ∀ F G : List Frame, ((S.setFrames F).setVm vm').setFrames G = (S.setVm vm').setFrames G := fun F G => by
    rw [show (S.setFrames F).setVm vm' = (S.setVm vm').setFrames F from rfl, State.setFrames_setFrames]
  rw [State.setTop_of_frames _ hr'] at hrest
  rw [hr, List.tail_cons, State.pushFrame, State.setTop_of_frames _ hr, State.setFrames_setFrames, key]
  exact hrest
end FG
section FNC
variable {l : Launch} {D : va_G} {cl : List vw_C} {tys : List (ClassId × FieldType)}
variable {p : Program} {e : Env} {R : Room} {s : State} {m : MethodId} {args : Array Value} {below : List Frame} {meth : Method} {c : Code} {H : Heap} {locs : List Loc} {cells slots : Nat} {Q : State → Prop}
variable {A : Nat → Prop} {cc : ByteArray} {nL : Nat} {ret : Option FieldType} {Ts : List Cond} {own : String} {w : va_W} {pc : Nat} {ls : Array Slot} {rest : List Value}
/-- a call that throws, and the handler that takes it -/
theorem thrV {wc : va_W} {st0 : List Value} {y : MethodName} {bytes : ByteArray} {maxL n index hpc : Nat} {ws : List Cond} {rm : Room} {As : List Value} {ret2 : Option FieldType} {Cn X : String} {b : Nat} {E : State → Prop} {B : Nat → Prop}
    (C : Cx p s m args meth c D cl tys A cc nL ret Ts own) (hF : FnT l D cl tys y ws rm (.ref b :: As) wc E X) (cw : CallW R s args own Cn index y bytes maxL ret2 ws rm rm.cells rm.slots n) (hH : Hp D cl B A s.heap H locs w) (isC : List Nat) (hC : isC.map (fun i => w[i]?) = wc.map some) (hnC : va_nd isC = true)
    (hE : ∀ U : State, U.heap = H → s.WarmedH U.vm → E U) (hEb : ∀ (U : State) (g : JFrame) (mk : MethodId) (a : Array Value), E U → E (U.calling g mk a))
    (q0 : Nat) {ci N : Nat} {T : u_T} {fs : List Value} (he : wc[q0]? = some (b, .inr (ci, fs))) (hc : cl[ci]? = some (Cn, T, N)) (hnA : As.length = n) (hl : ls.size = nL) (hst : st0 = As.reverse ++ .ref b :: rest) (hrm : (rest.map fun v => v.category).sum ≤ 8) (hdg : decode cc pc = .ok (.invokevirtual index, 3)) (hf : cells + rm.cells ≤ R.cells ∧ slots + rm.slots ≤ R.slots)
    (hfind : ∀ (U : State) (x : Addr) (ce : Cell), s.WarmedH U.vm → U.heap[x]? = some ce → ce.vm = .none → U.vm.findClass X = some ce.cls → U.vm.method? m = some meth → meth.code = some c → e.platform.magicAccessors = ({} : Platform).magicAccessors → ∃ vm', s.WarmedH vm' ∧ FTo e U (F0 m pc ls rest) x hpc vm')
    (kk : ∀ (x : Nat) (H1 : Heap) (locs1 : List Loc), Hp D cl B A s.heap H1 locs1 w → W p l e R s m args below meth c H1 locs1 (cells + rm.cells) (slots + rm.slots) Q (F0 m hpc ls [.ref x])) : W p l e R s m args below meth c H locs cells slots Q (F0 m pc ls st0) := by
  obtain ⟨hP, hD, hS⟩ := id hH
  have hPc := hP.sub isC (va_pm hC)
  have hDc := hD.sub isC hnC hC
  obtain ⟨hx, hb, -, hml, hown, hts, -, hK, hA⟩ := id C
  obtain ⟨⟨hrc, hrs, hfr, hlo, hws, hcw, hcode, hini, hy, hlen, hlink⟩, hinst, hsel⟩ := cw
  obtain ⟨cellB, hcell, hobj, hcls⟩ := va_recv hK.1 hPc hc he
  obtain ⟨mk, methM, hnamed, hmethM, hstM, habM⟩ := Cond.instanceMethod_spec hinst
  obtain ⟨methM', cM, hmethM', hcM, -, hlM, -, -, -, hsigM⟩ := Cond.code_spec hnamed hcode
  cases hmethM.symm.trans hmethM'
  obtain ⟨c2, r2, m2, q1, q2, q3, q4, kP, hkP, hkPi⟩ := Cond.selects_spec hsel
  cases hcls.symm.trans q1
  cases (State.methodFound?_of_named hnamed hy).symm.trans q2
  cases hnamed.symm.trans q3
  intro T hT XX
  have hselP : selectMethod e.platform s.vm cellB.cls mk = .method mk := by rw [Launch.admits_selectMethod XX.admits]; exact q4
  obtain ⟨vm₁, X₁, hstep₁⟩ := XX.invokevirtual hx hown hlink hnamed hmethM hstM hkP hkPi hy (a := b) (cell := cellB) (by rw [hT]; exact hcell)
    (fun z h => by rw [h] at hobj; cases hobj) hselP hmethM habM hkP hkPi (g := F0 m pc ls st0) rfl (argsL := As) (rest := rest) (hnA.trans (hlen _ hsigM)) hst (by rw [hb]; exact hdg)
  have hd2 : decode c.code (F0 m pc ls rest).pc = .ok (.invokevirtual index, 3) := by rw [hb]; exact hdg
  obtain ⟨kY, hkY, -⟩ := className_of_methodNamed (X₁.named hnamed)
  have hinitY : kY.init = .initialized := Cond.initialized_spec (findClass_of_methodNamed (X₁.named hnamed)) hkY (word_at (a' := args) X₁.warmed (Or.inl (by first | rfl | simp [Cond.onTables, Cond.keeps, Cond.steady])) hini)
  have hmY : (T.setVm vm₁).vm.method? mk = some methM := by rw [X₁.warmed.alike.method?]; exact hmethM
  have happ : (headSpec ws rm).appliesLoose y e.platform ((T.setVm vm₁).calling (F0 m pc ls rest) mk (Value.ref b :: As).toArray) = true :=
    Spec.appliesLoose_calling (g := F0 m pc ls rest) X₁.here hd2 (X₁.named hnamed) hkY hinitY
      (X₁.room_calling (g := F0 m pc ls rest) (R' := rm) (hl.trans hml.symm) hmY hcM hfr (by rw [hlM]; have h8 : 2 * (F0 m pc ls rest).monitorRoom + ((F0 m pc ls rest).stack.map fun v => v.category).sum ≤ 8 := lv_room (m := m) (pc := pc) (ls := ls) (rest := rest) hrm; omega) hf.1 hf.2) (atoms_intro fun w hw => hws w hw _ _ X₁.warmed)
  obtain ⟨mid, hmid⟩ := X₁.here.above
  have hfrm : ((T.setVm vm₁).setTop (F0 m pc ls rest)).frames = (.java (F0 m pc ls rest) :: mid) ++ below := by rw [State.frames_setTop' (F0 m pc ls rest) X₁.here.top, hmid]; rfl
  obtain ⟨o, s₂, hsteps, -, hend, x, ce, rfl, h1, h2, h3, h4, h5, h6⟩ := Steps.callFree (hF H.size) p X₁.admits X₁.cas X₁.clock (acts := []) hfrm happ
    ⟨⟨rfl, hT ▸ rfl, by show va_P D cl wc T.heap; rw [hT]; exact hPc, Kx.same (u := T.setVm vm₁) rfl (Kx.warm X₁.warmed hK), hDc.weaken (fun _ _ _ _ => trivial)⟩, hEb _ _ _ _ (hE (T.setVm vm₁) hT X₁.warmed)⟩ trivial
  rw [State.frames_setTop' (F0 m pc ls rest) X₁.here.top, X₁.tail] at hend
  obtain ⟨T', X', hW', hsame', ht⟩ := X₁.outOfThrown (g := F0 m pc ls rest) rfl hend h5 h6
  obtain ⟨z1, z2⟩ := same0 hsame'
  have z1 : H.size ≤ T'.heap.size := by rw [← hT]; exact z1
  have z2 : ∀ q : Nat, q < H.size → T'.heap[q]? = H[q]? := fun q hq => by rw [← hT] at hq ⊢; exact z2 q hq
  have hH1 : Hp D cl B A s.heap T'.heap (locs ++ []) w := ⟨hP.kept (fun k x hx => z2 x.1 ((hP k x hx).lt)), hD, Nat.le_trans hS.1 z1, fun q g1 g2 => by rw [z2 q (Nat.lt_of_lt_of_le g1 hS.1)]; exact hS.2.1 q g1 g2, fun q hq => hS.2.2 q (by simpa using hq)⟩
  obtain ⟨vm', hW9, hfd⟩ := hfind ((T'.setTop (F0 m pc ls rest)).pushFrame (.throwing x)) x ce (by rw [Stand.throwing_vm]; exact X'.warmed) (by rw [← ht]; exact h1) h2 (by rw [← ht]; exact h3) (by rw [Stand.throwing_vm]; exact X'.method') X'.code (by rw [X'.admits.platform])
  obtain ⟨t2, a1, b1⟩ := kk x T'.heap (locs ++ []) hH1 (T'.setVm vm') rfl (X'.noted hW9)
  refine ⟨t2, hstep₁ _ fun acts => ?_, b1⟩
  rw [doInvoke_state]
  refine hsteps.trans ?_
  rw [ht]
  exact FTo.steps X'.here hfd a1
end FNC
