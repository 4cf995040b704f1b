/-! Constructors: a contract whose cells lie at addresses that come. -/
def QN (D : va_G) (cl : List vw_C) (tys : List (ClassId × FieldType)) {α : Type} (A : Nat → Prop) (w2 : α → va_W) : Array Value → State → Outcome → State → Prop := fun _ st oc t => (oc = .returned none ∧ ∃ u : α, va_P D cl (w2 u) t.heap ∧ va_D A (w2 u)) ∧ va_F A st t
def FnN (l : Launch) (D : va_G) (cl : List vw_C) (tys : List (ClassId × FieldType)) (y : MethodName) (ws : List Cond) (rm : Room) (av : List Value) (w : va_W) {α : Type} (w2 : α → va_W) : Prop :=
  ∀ sz : Nat, Met l y ws rm (Pw D cl tys av sz w) (QN D cl tys (va_A w sz) w2) rm.cells rm.slots (va_A w sz)
section FNN
variable {l : Launch} {D : va_G} {cl : List vw_C} {tys : List (ClassId × FieldType)}
theorem FnN.ofW {y : MethodName} {ws ws' : List Cond} {rm : Room} {av : List Value} {w : va_W} {α : Type} {w2 : α → va_W} {cc : ByteArray} {maxL : Nat} {ret : Option FieldType}
    (hy : plainName y.cls = true) (hw : ws = Cond.code y cc maxL ret :: ws') (hi : y.name = "<init>") (hlen : (lg_sl av).length ≤ maxL)
    (body : ∀ (p : Program) (e : Env) (s : State) (m : MethodId) (below : List Frame) (meth : Method) (c : Code) (A : Nat → Prop) (ls : Array Slot), Cx p s m av.toArray meth c D cl tys A cc maxL ret ws y.cls → Hp D cl A A s.heap s.heap [] w → meth.name = "<init>" → lv_has ls maxL (lv_args 0 av) →
      W p l e rm s m av.toArray below meth c s.heap [] 0 0 (MQ below (QN D cl tys A w2) av.toArray s rm.cells rm.slots A) (F0 m 0 ls [])) : FnN l D cl tys y ws rm av w w2 := by
  intro sz
  refine Met.ofW (cc := cc) (maxL := maxL) (ret := ret) hy hw ?_
  intro p e s m args below meth c s₁ B hml hv
  obtain ⟨rfl, hsz, hP, hK, hD0⟩ := hv
  subst hsz
  rw [lg_entry_eq]
  exact body p e s m below meth c (va_A w s.heap.size) _ ⟨B.exec, B.bytes, B.returns, hml, findClass_of_methodNamed B.named, atoms_spec (ws := ws) B.pre, B.notSynchronized, hK, fun q h => Or.inr h⟩ ⟨hP, hD0.self, va_S.rf⟩ ((name_of_methodNamed B.named B.method).1.trans hi) (lv_entry av hlen)
variable {p : Program} {e : Env} {R : Room} {s : State} {m : MethodId} {args : Array Value} {below : List Frame} {meth : Method} {c : Code} {H : Heap} {locs : List Loc} {cells slots : Nat} {Q : State → Prop}
variable {A : Nat → Prop} {cc : ByteArray} {nL : Nat} {ret : Option FieldType} {Ts : List Cond} {own : String} {w : va_W} {pc : Nat} {ls : Array Slot} {rest : List Value}
theorem rVN {α : Type} {w2 : α → va_W} (u : α) (C : Cx p s m args meth c D cl tys A cc nL none Ts own) (hH : Hp D cl A A s.heap H locs (w2 u)) (hdg : decode cc pc = .ok (.return_, 1)) : W p l e R s m args below meth c H locs cells slots (MQ below (QN D cl tys A w2) args s cells slots A) (F0 m pc ls []) :=
  W.vret C.1 C.2.1 C.2.2.1 (fun t ht hW => ⟨⟨rfl, u, by rw [ht]; exact hH.1, hH.2.1⟩, hH.2.2.F ht⟩) hH.2.2.2.2 hdg C.2.2.2.2.2.2.1
theorem nwO (C : Cx p s m args meth c D cl tys A cc nL ret Ts own) (hH : Hp D cl A A s.heap H locs w) {Cn : String} {T : u_T} {N ci index : Nat} (hin : ∀ x ∈ u_ws Cn T N, x ∈ Ts) (ty : Nat → FieldType) (hty : ∀ k, k < N → parseFieldDescriptor (T k).2.2.1 = some (ty k)) (hcl : Cond.classLink own index Cn ∈ Ts) (hinst : Cond.instantiable Cn N ∈ Ts) (hini : Cond.initialized Cn ∈ Ts) (hc : cl[ci]? = some (Cn, T, N)) {fs : List Value} (hfs : ∀ j, j < N → defaultValue (ty j) = vp_V fs j) (hcells : cells + 1 ≤ R.cells) (hslots : slots + N ≤ R.slots) (hdg : decode cc pc = .ok (.new index, 3))
    (kk : ∀ (q : Nat) (H1 : Heap), Hp D cl A A s.heap H1 locs (w ++ [(q, .inr (ci, fs))]) → W p l e R s m args below meth c H1 locs (cells + 1) (slots + N) Q (F0 m (pc + 3) ls (.ref q :: rest))) : W p l e R s m args below meth c H locs cells slots Q (F0 m pc ls rest) :=
  va_new C.1 C.2.1 C.2.2.2.2.2.1 hin ty hty C.2.2.2.2.1 (C.2.2.2.2.2.1 _ hcl) (C.2.2.2.2.2.1 _ hinst) (C.2.2.2.2.2.1 _ hini) C.2.2.2.2.2.2.2.1.1 hH.1 hH.2.1 hH.2.2 C.2.2.2.2.2.2.2.2 hc hfs hcells hslots hdg (fun q H1 a1 a2 a3 => kk q H1 ⟨a1, a2, a3⟩)
theorem nw_same {cA cB : ClassId} {ty : FieldType} {t0 : Nat} (hK : va_K D cl tys s) (hT : tys[t0]? = some (cB, ty)) (hty : ∀ C, ty ≠ .object C) (hK1 : va_K D cl (tys ++ [(cA, ty)]) s) : cA = cB := by
  have h1 := (hK.2 t0 _ hT).2
  have h2 := (hK1.2 tys.length (cA, ty) (by simp)).2
  cases ty <;> first | exact absurd rfl (hty _) | exact Option.some.inj (h2.symm.trans h1)
theorem nwI {nv : Int32} {N : Nat} {cI : ClassId} (C : Cx p s m args meth c D cl tys A cc nL ret Ts own) (hH : Hp D cl A A s.heap H locs w) (t0 : Nat) (hT : tys[t0]? = some (cI, .int)) (hw : Cond.arrayClass .int ∈ Ts) (hn : ¬ nv < 0) (hN : nv.toNatClampNeg = N) (hbytes : N * componentBytes .int ≤ 536870912) (hcells : cells + 1 ≤ R.cells) (hslots : slots + N ≤ R.slots) (hdg : decode cc pc = .ok (.newarray .int, 2))
    (kk : ∀ (q : Nat) (H1 : Heap), Hp D cl A A s.heap H1 locs (w ++ [(q, .inl (cI, N, .inl (fun _ => 0)))]) → W p l e R s m args below meth c H1 locs (cells + 1) (slots + N) Q (F0 m (pc + 2) ls (.ref q :: rest))) : W p l e R s m args below meth c H locs cells slots Q (F0 m pc ls (.int nv :: rest)) := by
  refine va_newa (D := D) (atype := .int) (ty := .int) (a0 := (N, .inl (fun _ => 0))) C.1 C.2.1 (C.2.2.2.2.2.1 _ hw) rfl C.2.2.2.2.2.2.2.1.1 hH.1 hH.2.1 hH.2.2 C.2.2.2.2.2.2.2.2 (fun cA => rfl) hn hN hbytes hcells hslots hdg (fun q cA H1 hK1 hP1 hD1 hS1 => ?_)
  cases nw_same C.2.2.2.2.2.2.2.1.1 hT (fun _ h => by cases h) hK1
  exact kk q H1 ⟨hP1, hD1, hS1⟩
theorem nwL {nv : Int32} {N : Nat} {cL : ClassId} (C : Cx p s m args meth c D cl tys A cc nL ret Ts own) (hH : Hp D cl A A s.heap H locs w) (t0 : Nat) (hT : tys[t0]? = some (cL, .long)) (hw : Cond.arrayClass .long ∈ Ts) (hn : ¬ nv < 0) (hN : nv.toNatClampNeg = N) (hbytes : N * componentBytes .long ≤ 536870912) (hcells : cells + 1 ≤ R.cells) (hslots : slots + N ≤ R.slots) (hdg : decode cc pc = .ok (.newarray .long, 2))
    (kk : ∀ (q : Nat) (H1 : Heap), Hp D cl A A s.heap H1 locs (w ++ [(q, .inl (cL, N, .inr (.inl (fun _ => 0))))]) → W p l e R s m args below meth c H1 locs (cells + 1) (slots + N) Q (F0 m (pc + 2) ls (.ref q :: rest))) : W p l e R s m args below meth c H locs cells slots Q (F0 m pc ls (.int nv :: rest)) := by
  refine va_newa (D := D) (atype := .long) (ty := .long) (a0 := (N, .inr (.inl (fun _ => 0)))) C.1 C.2.1 (C.2.2.2.2.2.1 _ hw) rfl C.2.2.2.2.2.2.2.1.1 hH.1 hH.2.1 hH.2.2 C.2.2.2.2.2.2.2.2 (fun cA => rfl) hn hN hbytes hcells hslots hdg (fun q cA H1 hK1 hP1 hD1 hS1 => ?_)
  cases nw_same C.2.2.2.2.2.2.2.1.1 hT (fun _ h => by cases h) hK1
  exact kk q H1 ⟨hP1, hD1, hS1⟩
theorem callItN {wc wr : va_W} {α : Type} {w1 : α → va_W} {a : Array Value} {mc ms : Nat} {st0 : List Value}
    (C : Cx p s m args meth c D cl tys A cc nL ret Ts own) (hH : Hp D cl A A s.heap H locs w) (isC isR : List Nat) (hC : isC.map (fun i => w[i]?) = wc.map some) (hR : isR.map (fun i => w[i]?) = wr.map some) (hn : va_nd isR = true) (hdis : ∀ i ∈ isR, i ∉ isC)
    (hr : va_Run p l e R s m args below meth c H locs cells slots mc ms (F0 m pc ls st0) rest (QN D cl tys (va_A wc H.size) w1 a) (va_A wc H.size))
    (kk : ∀ (u : α) (H1 : Heap) (locs1 : List Loc), Hp D cl A A s.heap H1 locs1 (wr ++ w1 u) → W p l e R s m args below meth c H1 locs1 (cells + mc) (slots + ms) Q (F0 m (pc + 3) ls rest)) : W p l e R s m args below meth c H locs cells slots Q (F0 m pc ls st0) := by
  obtain ⟨hP, hD, hS⟩ := hH
  have hFc := va_free (wc := wc) hD hS C.2.2.2.2.2.2.2.2 isC hC
  intro T hT X
  obtain ⟨v, st₀, t, T', L, h0, X', hL, e1, e2, ⟨⟨hv, u, hP1, hD1⟩, hz, hk⟩, st⟩ := hr T hT X
  cases hv
  rw [h0] at hz hk
  rw [← e1] at hP1 hz hk
  obtain ⟨hPj, hDj⟩ := va_join (wr := wr) (w1 := w1 u) hP hD isC isR hC hR hn hdis hk hFc hP1 hD1
  have hS1 : va_S A s.heap T'.heap (locs ++ L) := ⟨Nat.le_trans hS.1 hz, fun q h1 h2 => by rw [hk q (Nat.lt_of_lt_of_le h1 hS.1) (fun z => h2 (hFc q z))]; exact hS.2.1 q h1 h2, fun q hq => by
      rcases List.mem_append.mp hq with h | h
      · exact hS.2.2 q h
      · exact hFc _ (hL q h)⟩
  obtain ⟨t2, a1, b1⟩ := kk u T'.heap (locs ++ L) ⟨hPj, hDj, hS1⟩ T' rfl X'
  exact ⟨t2, st t2 a1, b1⟩
theorem mkI {wc wr : va_W} {α : Type} {w1 : α → va_W} {st0 : List Value} {y : MethodName} {bytes : ByteArray} {maxL n index : Nat} {ws : List Cond} {rm : Room} {As : List Value} {b : Nat} (C : Cx p s m args meth c D cl tys A cc nL ret Ts own) (hF : FnN l D cl tys y ws rm (.ref b :: As) wc w1) (cw : CallB R s args own index y bytes maxL none ws rm rm.cells rm.slots n ∧ y.name = "<init>" ∧ (Cond.instanceMethod y).before args s = true) (hH : Hp D cl A A s.heap H locs w) (isC isR : List Nat) (hC : isC.map (fun i => w[i]?) = wc.map some) (hnC : va_nd isC = true) (hR : isR.map (fun i => w[i]?) = wr.map some) (hn : va_nd isR = true) (hdis : ∀ i ∈ isR, i ∉ isC)
    (hnA : As.length = n) (hl : ls.size = nL) (hst : st0 = As.reverse ++ .ref b :: rest) (hrm : (rest.map fun v => v.category).sum ≤ 8) (hdg : decode cc pc = .ok (.invokespecial index, 3)) (hf : cells + rm.cells ≤ R.cells ∧ slots + rm.slots ≤ R.slots)
    (kk : ∀ (u : α) (H1 : Heap) (locs1 : List Loc), Hp D cl A A s.heap H1 locs1 (wr ++ w1 u) → W p l e R s m args below meth c H1 locs1 (cells + rm.cells) (slots + rm.slots) Q (F0 m (pc + 3) ls rest)) : W p l e R s m args below meth c H locs cells slots Q (F0 m pc ls st0) := by
  obtain ⟨hP, hD, hS⟩ := id hH
  have hPc := hP.sub isC (va_pm hC)
  have hDc := hD.sub isC hnC hC
  have hK := C.2.2.2.2.2.2.2.1
  exact callItN C hH isC isR hC hR hn hdis (va_runI ⟨C.1, C.2.1, C.2.2.2.1, C.2.2.2.2.1, C.2.2.2.2.2.1⟩ (hF H.size) cw ⟨Pw_blind, fun U hU hW => ⟨rfl, by rw [hU], by rw [hU]; exact hPc, Kx.warm hW hK, hDc.weaken (fun _ _ _ _ => trivial)⟩⟩ rfl hnA hl hst (lv_room hrm) hdg hf) kk
theorem mkIN {wc wr : va_W} {α : Type} {w1 : α → va_W} {st0 : List Value} {y : MethodName} {bytes : ByteArray} {maxL n index : Nat} {ws : List Cond} {rm : Room} {As : List Value} {b : Nat} {host : String} (C : Cx p s m args meth c D cl tys A cc nL ret Ts own) (hF : FnN l D cl tys y ws rm (.ref b :: As) wc w1) (cw : va_CN R s args own index y host bytes maxL none ws rm rm.cells rm.slots n ∧ y.name = "<init>" ∧ (Cond.instanceMethod y).before args s = true) (hH : Hp D cl A A s.heap H locs w) (isC isR : List Nat) (hC : isC.map (fun i => w[i]?) = wc.map some) (hnC : va_nd isC = true) (hR : isR.map (fun i => w[i]?) = wr.map some) (hn : va_nd isR = true) (hdis : ∀ i ∈ isR, i ∉ isC)
    (hnA : As.length = n) (hl : ls.size = nL) (hst : st0 = As.reverse ++ .ref b :: rest) (hrm : (rest.map fun v => v.category).sum ≤ 8) (hdg : decode cc pc = .ok (.invokespecial index, 3)) (hf : cells + rm.cells ≤ R.cells ∧ slots + rm.slots ≤ R.slots)
    (kk : ∀ (u : α) (H1 : Heap) (locs1 : List Loc), Hp D cl A A s.heap H1 locs1 (wr ++ w1 u) → W p l e R s m args below meth c H1 locs1 (cells + rm.cells) (slots + rm.slots) Q (F0 m (pc + 3) ls rest)) : W p l e R s m args below meth c H locs cells slots Q (F0 m pc ls st0) := by
  obtain ⟨hP, hD, hS⟩ := id hH
  have hPc := hP.sub isC (va_pm hC)
  have hDc := hD.sub isC hnC hC
  have hK := C.2.2.2.2.2.2.2.1
  exact callItN C hH isC isR hC hR hn hdis (va_runIN ⟨C.1, C.2.1, C.2.2.2.1, C.2.2.2.2.1, C.2.2.2.2.2.1⟩ (hF H.size) cw ⟨Pw_blind, fun U hU hW => ⟨rfl, by rw [hU], by rw [hU]; exact hPc, Kx.warm hW hK, hDc.weaken (fun _ _ _ _ => trivial)⟩⟩ rfl hnA hl hst (lv_room hrm) hdg hf) kk
end FNN
theorem cCI {c0 : Cond} {R : Room} {s : State} {args : Array Value} {own : String} {index maxL n : Nat} {y : MethodName} {bytes : ByteArray} {rm : Room} (hts : ∀ w ∈ c0 :: U0, w.before args s = true) (k : ClI y bytes maxL n) (hl : Cond.methodLink own index y ∈ U0) (hR : rm.frames + 1 ≤ R.frames ∧ 8 + (maxL + 11) + rm.locals ≤ R.locals) : CallB R s args own index y bytes maxL none (Cond.code y bytes maxL none :: U0) rm rm.cells rm.slots n ∧ y.name = "<init>" ∧ (Cond.instanceMethod y).before args s = true := cI hts k hl hR
