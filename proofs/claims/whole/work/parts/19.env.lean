/-! What the law's own methods need of the state beside their cells: the statics of Throwable, the texts, words on the tables that don't go by themselves. -/
theorem ls_at {C n d : String} {s U : State} (hW : s.WarmedH U.vm) (hk : ∀ q : Nat, q < s.heap.size → U.heap[q]? = s.heap[q]?) (h : ∀ a : Array Value, (Cond.laysStatic C n d).before a s = true) (a : Array Value) : (Cond.laysStatic C n d).before a U = true := by
  obtain ⟨c, k, i, f, ad, cell, h1, h2, h3, h4, h5, h6, h7, h8, h9⟩ := Cond.laysStatic_spec (h #[])
  obtain ⟨k', hi', he⟩ := State.fieldFound?_setVm hW.alike h2
  have hlt := (Array.getElem?_eq_some_iff.mp h5).1
  have e1 : U.vm.findClass C = some c := by rw [hW.alike.findClass]; exact h1
  have e2 : U.fieldFound? C n d = some (c, k', i, f) := hi'
  have e4 : k'.statics = some ad := by rw [he]; exact h4
  have e9 : k'.staticTypes[f.slot]? = some f.type := by rw [he]; exact h9
  have e5 : U.heap[ad]? = some cell := by rw [hk ad hlt]; exact h5
  simp [Cond.before, Cond.holds, Cond.value, e1, e2, e4, e5, h3, h6, h7, h8, e9]
theorem ca_at {A B : String} {s U : State} (hW : s.WarmedH U.vm) (h : ∀ a : Array Value, (Cond.castable A B).before a s = true) (a : Array Value) : (Cond.castable A B).before a U = true := by
  obtain ⟨c1, c2, g1, g2, g3⟩ := Cond.castable_spec (h #[])
  have e1 : U.vm.findClass A = some c1 := by rw [hW.alike.findClass]; exact g1
  have e2 : U.vm.findClass B = some c2 := by rw [hW.alike.findClass]; exact g2
  have e3 : U.vm.assignable c1 c2 = true := by rw [hW.alike.assignable]; exact g3
  simp [Cond.before, Cond.holds, Cond.value, e1, e2, e3]
theorem nc_at {A B : String} {s U : State} (hW : s.WarmedH U.vm) (h : ∀ a : Array Value, (Cond.not (.castable A B)).before a s = true) (a : Array Value) : (Cond.not (.castable A B)).before a U = true := by
  have h0 := Cond.holds_not_iff.mp (h #[])
  refine Cond.holds_not_iff.mpr ?_
  simp only [Cond.value] at h0 ⊢
  rw [hW.alike.findClass, hW.alike.findClass]
  cases h1 : s.vm.findClass A with
  | none => rw [h1] at h0; simp at h0
  | some c1 =>
    cases h2 : s.vm.findClass B with
    | none => rw [h1, h2] at h0; simp at h0
    | some c2 =>
      rw [h1, h2] at h0
      simp only [hW.alike.assignable]
      exact h0
theorem de_at {x : MethodName} {s U : State} (hW : s.WarmedH U.vm) (h : ∀ a : Array Value, (Cond.declares x).before a s = true) (a : Array Value) : (Cond.declares x).before a U = true := va_Nw.use rfl (va_Nw.warmD hW (h #[]))
def ncW : List Cond := [.not (.castable "java/lang/IllegalStateException" "java/lang/IllegalArgumentException"), .not (.castable "java/lang/IndexOutOfBoundsException" "java/lang/IllegalArgumentException"), .not (.castable "java/lang/IllegalStateException" "java/lang/IndexOutOfBoundsException"), .not (.castable "java/lang/IllegalArgumentException" "java/util/NoSuchElementException")]
def EE (strs : List (String × Nat × String)) (U : State) : Prop := TE strs U ∧ ∀ w ∈ ncW, ∀ a : Array Value, w.before a U = true
theorem zq_at {C n d : String} {s U : State} (hW : s.WarmedH U.vm) (hk : ∀ q : Nat, q < s.heap.size → U.heap[q]? = s.heap[q]?) (h : va_Zq C n d (fun _ => False) s s.heap) : va_Zq C n d (fun _ => False) U U.heap := (va_Zq.moved hW.alike h).kept (fun a ha _ => hk a ha)
theorem TE.at {strs : List (String × Nat × String)} {s U : State} (hW : s.WarmedH U.vm) (hk : ∀ q : Nat, q < s.heap.size → U.heap[q]? = s.heap[q]?) (h : TE strs s) : TE strs U := by
  refine ⟨zq_at hW hk h.1, zq_at hW hk h.2.1, fun x hx => ?_, fun w hw => ?_⟩
  · obtain ⟨q, hq⟩ := h.2.2.1 x hx
    exact ⟨q, vk_R.warm hW hq⟩
  · have h3 := h.2.2.2 w hw
    simp only [specW, List.mem_cons, List.not_mem_nil, or_false] at hw
    rcases hw with rfl | rfl | rfl | rfl | rfl | rfl | rfl | rfl | rfl
    · exact ls_at hW hk h3
    · exact ls_at hW hk h3
    · exact de_at hW h3
    · exact de_at hW h3
    · exact de_at hW h3
    · exact ca_at hW h3
    · exact ca_at hW h3
    · exact ca_at hW h3
    · exact ca_at hW h3
theorem EE.at {strs : List (String × Nat × String)} {s U : State} (hW : s.WarmedH U.vm) (hk : ∀ q : Nat, q < s.heap.size → U.heap[q]? = s.heap[q]?) (h : EE strs s) : EE strs U := by
  refine ⟨h.1.at hW hk, fun w hw => ?_⟩
  have h3 := h.2 w hw
  simp only [ncW, List.mem_cons, List.not_mem_nil, or_false] at hw
  rcases hw with rfl | rfl | rfl | rfl <;> exact nc_at hW h3
theorem TE.sub {strs strs' : List (String × Nat × String)} {U : State} (h : TE strs U) (hs : ∀ x ∈ strs', x ∈ strs) : TE strs' U := ⟨h.1, h.2.1, fun x hx => h.2.2.1 x (hs x hx), h.2.2.2⟩
theorem EE.blind {strs : List (String × Nat × String)} (U : State) (g : JFrame) (mk : MethodId) (a : Array Value) (h : EE strs U) : EE strs (U.calling g mk a) := EE.at (s := U) (U := U.calling g mk a) (State.WarmedH.refl U) (fun _ _ => rfl) h
theorem TE.blind {strs : List (String × Nat × String)} (U : State) (g : JFrame) (mk : MethodId) (a : Array Value) (h : TE strs U) : TE strs (U.calling g mk a) := TE.at (s := U) (U := U.calling g mk a) (State.WarmedH.refl U) (fun _ _ => rfl) h
def allS : List (String × Nat × String) := [("EventLog", 48, "not an event"), ("EventLog", 59, "there are 300 events"), ("EventLog", 74, "not a number of events"), ("EventLog", 90, "not a byte"), ("EventLog", 97, "not a place in the log or its end"), ("EventLog", 100, "the log has 5000 bytes"), ("EventLog", 108, "not a length up to the log's"), ("EventLog", 111, "no such byte"), ("EventLog", 123, "no such event"), ("EventLog", 142, "nothing that an event has")]
/-- a method of the law's: its contract wants the state to be as EE says -/
def FnE (l : Launch) (D : va_G) (cl : List vw_C) (tys : List (ClassId × FieldType)) (y : MethodName) (ws : List Cond) (rm : Room) (av : List Value) (w : va_W) (o : Option Value) (w2 : va_W) : Prop :=
  ∀ sz : Nat, Met l y ws rm (fun a U => Pw D cl tys av sz w a U ∧ EE allS U) (Qw D cl tys o (va_A w sz) w2) rm.cells rm.slots (va_A w sz)
theorem exTab {t : List ExceptionTableEntry} : ∀ {hh : List (Nat × Nat × Nat × Nat)}, t.map (fun h => (h.startPc, h.endPc, h.handlerPc, h.catchType)) = hh → t = hh.map (fun q => ⟨q.1, q.2.1, q.2.2.1, q.2.2.2⟩) := by
  intro hh h
  subst hh
  rw [List.map_map]
  exact (List.map_id' t).symm.trans (List.map_congr_left (fun x _ => by cases x; rfl))
section FNE
variable {l : Launch} {D : va_G} {cl : List vw_C} {tys : List (ClassId × FieldType)}
theorem FnE.ofW {y : MethodName} {ws ws' : List Cond} {rm : Room} {av : List Value} {w w2 : va_W} {o : Option Value} {cc : ByteArray} {maxL : Nat} {ret : Option FieldType} {hh : List (Nat × Nat × Nat × Nat)}
    (hy : plainName y.cls = true) (hw : ws = Cond.codeWith y cc maxL ret hh :: ws') (hlen : (lg_sl av).length ≤ maxL)
    (body : ∀ (p : Program) (e : Env) (s : State) (m : MethodId) (below : List Frame) (meth : Method) (c : Code) (A : Nat → Prop) (ls : Array Slot), Cx p s m av.toArray meth c D cl tys A cc maxL ret ws y.cls → Hp D cl A A s.heap s.heap [] w → EE allS s → c.exceptionTable.toList = hh.map (fun q => ⟨q.1, q.2.1, q.2.2.1, q.2.2.2⟩) → lv_has ls maxL (lv_args 0 av) →
      W p l e rm s m av.toArray below meth c s.heap [] 0 0 (MQ below (Qw D cl tys o A w2) av.toArray s rm.cells rm.slots A) (F0 m 0 ls [])) : FnE l D cl tys y ws rm av w o w2 := by
  intro sz
  refine va_MetW (cc := cc) (maxL := maxL) (ret := ret) (hh := hh) hy hw ?_
  intro p e s m args below meth c s₁ B hml hv
  obtain ⟨⟨rfl, hsz, hP, hK, hD0⟩, hE⟩ := hv
  subst hsz
  rw [lg_entry_eq]
  have hcw := atoms_spec (ws := ws) B.pre _ (by rw [hw]; exact List.mem_cons_self)
  obtain ⟨m9, meth9, c9, hn9, h1, h2, h3, h4, h5, -⟩ := Cond.codeWith_spec hcw
  cases B.named.symm.trans hn9
  cases B.method.symm.trans h1
  cases (Stand.of_body B).code.symm.trans h2
  exact body p e s m below meth c (va_A w s.heap.size) _ ⟨B.exec, B.bytes, B.returns, hml, findClass_of_methodNamed B.named, atoms_spec (ws := ws) B.pre, B.notSynchronized, hK, fun q h => Or.inr h⟩ ⟨hP, hD0.self, va_S.rf⟩ hE (exTab h5) (lv_entry av hlen)
end FNE
theorem vin01 : vp_in 0 1 := vinN (k := 1) (by decide) (by decide) (by decide)
