/-! Methods that throw, where the launch records no traces; and the road into a handler. -/
def exN (k : Nat) : String := match k with
  | 1 => "java/lang/IllegalArgumentException"
  | 2 => "java/lang/IllegalStateException"
  | 3 => "java/lang/IndexOutOfBoundsException"
  | _ => "java/util/NoSuchElementException"
def specW : List Cond := [.laysStatic Bundle.tN "UNASSIGNED_STACK" Bundle.steD, .laysStatic Bundle.tN "SUPPRESSED_SENTINEL" Bundle.listD, .declares (Bundle.initS "java/lang/RuntimeException"), .declares (Bundle.initS "java/lang/Exception"), .declares (Bundle.initS Bundle.tN), .castable "java/lang/IllegalArgumentException" "java/lang/IllegalArgumentException", .castable "java/lang/IllegalStateException" "java/lang/IllegalStateException", .castable "java/lang/IndexOutOfBoundsException" "java/lang/IndexOutOfBoundsException", .castable "java/util/NoSuchElementException" "java/util/NoSuchElementException"]
def TE (strs : List (String × Nat × String)) (U : State) : Prop := va_Zq Bundle.tN "UNASSIGNED_STACK" Bundle.steD (fun _ => False) U U.heap ∧ va_Zq Bundle.tN "SUPPRESSED_SENTINEL" Bundle.listD (fun _ => False) U U.heap ∧ (∀ x ∈ strs, ∃ q, vk_R x.1 x.2.1 x.2.2 q U) ∧ ∀ w ∈ specW, ∀ a : Array Value, w.before a U = true
def MT (below : List Frame) (s : State) (X : String) (mc ms : Nat) : State → Prop := fun t => ∃ (x : Addr) (ce : Cell), t.status = .running ∧ Ended t below (.threw x) ∧ t.heap[x]? = some ce ∧ ce.vm = .none ∧ t.vm.findClass X = some ce.cls ∧ s.heap.size ≤ x ∧ s.WarmedH t.vm ∧ s.sameButNew ({ t with vm := s.vm } : State) [] mc ms
def FnT (l : Launch) (D : va_G) (cl : List vw_C) (tys : List (ClassId × FieldType)) (y : MethodName) (ws : List Cond) (rm : Room) (av : List Value) (w : va_W) (E : State → Prop) (X : String) : Prop :=
  ∀ sz : Nat, MetFree l y (headSpec ws rm) (fun a U => Pw D cl tys av sz w a U ∧ E U) (fun _ _ _ _ _ => True)
    (fun _ st o t => ∃ (x : Addr) (ce : Cell), o = .threw x ∧ t.heap[x]? = some ce ∧ ce.vm = .none ∧ t.vm.findClass X = some ce.cls ∧ st.heap.size ≤ x ∧ st.WarmedH t.vm ∧ st.sameButNew ({ t with vm := st.vm } : State) [] rm.cells rm.slots)
theorem same0 {s t : State} {k n : Nat} (h : s.sameButNew t [] k n) : s.heap.size ≤ t.heap.size ∧ ∀ q : Nat, q < s.heap.size → t.heap[q]? = s.heap[q]? := by
  obtain ⟨-, h1, -, -, -, h2⟩ := h
  refine ⟨h1, fun q hq => ?_⟩
  obtain ⟨c', a1, a2, a3, a4⟩ := h2 q s.heap[q] (Array.getElem?_eq_getElem hq)
  rw [a1, Array.getElem?_eq_getElem hq, a2]
  have : c'.slots = s.heap[q].slots := by
    apply Array.ext_getElem?
    intro i
    exact a4 i (by simp)
  rw [this]
section FNT
variable {l : Launch} {D : va_G} {cl : List vw_C} {tys : List (ClassId × FieldType)}
theorem FnT.ofW {y : MethodName} {ws ws' : List Cond} {rm : Room} {av : List Value} {w : va_W} {E : State → Prop} {X : String} {cc : ByteArray} {maxL : Nat} {ret : Option FieldType}
    (hy : plainName y.cls = true) (hw : ws = Cond.code y cc maxL ret :: ws') (hlen : (lg_sl av).length ≤ maxL)
    (body : ∀ (p : Program) (e : Env) (s : State) (m : MethodId) (below : List Frame) (meth : Method) (c : Code) (A : Nat → Prop) (ls : Array Slot), Cx p s m av.toArray meth c D cl tys A cc maxL ret ws y.cls → Hp D cl (fun _ => True) A s.heap s.heap [] w → E s → (A = fun q => s.heap.size ≤ q) → c.exceptionTable.isEmpty = true → lv_has ls maxL (lv_args 0 av) →
      W p l e rm s m av.toArray below meth c s.heap [] 0 0 (MT below s X rm.cells rm.slots) (F0 m 0 ls [])) : FnT l D cl tys y ws rm av w E X := by
  intro sz
  refine MetFree.of_bodyS (code := cc) (maxLocals := maxL) (ret := ret) hy ?_ ?_
  · intro args s m h hn
    obtain ⟨meth, c, h1, h2, h3, h4, h5, h6, -, -⟩ := Cond.code_spec hn (atoms_spec (ws := ws) h _ (by rw [hw]; exact List.mem_cons_self))
    exact ⟨meth, c, h1, h2, h3, h4, h5, h6⟩
  · intro p e s m args below meth c s₁ B hml hv _
    obtain ⟨⟨rfl, hsz, hP, hK, hD0⟩, hE⟩ := hv
    subst hsz
    have hh0 : s₁.heap = s.heap := by rw [B.state]; rfl
    have hex := B.noHandlers (atoms_spec (ws := ws) B.pre _ (by rw [hw]; exact List.mem_cons_self))
    have K := body p e s m below meth c (fun q => s.heap.size ≤ q) _ ⟨B.exec, B.bytes, B.returns, hml, findClass_of_methodNamed B.named, atoms_spec (ws := ws) B.pre, B.notSynchronized, hK, fun q h => h⟩ ⟨hP, hD0, va_S.rf⟩ hE rfl hex (lv_entry av hlen)
    rw [← lg_entry_eq] at K
    obtain ⟨t, a1, x, ce, b1, b2, b3⟩ := K s₁ hh0 (Stand.of_body B)
    exact ⟨t, .threw x, a1, b1, b2, x, ce, rfl, b3⟩
variable {p : Program} {e : Env} {R : Room} {s : State} {m : MethodId} {args : Array Value} {below : List Frame} {meth : Method} {c : Code} {H : Heap} {locs : List Loc} {cells slots : Nat} {Q : State → Prop}
variable {A : Nat → Prop} {cc : ByteArray} {nL : Nat} {ret : Option FieldType} {Ts : List Cond} {own : String} {w : va_W} {pc : Nat} {ls : Array Slot} {rest : List Value}
/-- 'throw new X(text)' -/
theorem thr {X tx : String} {names : List String} {ic ix si q : Nat} {B : Nat → Prop} (hfl : l.flags = pinnedFlags ++ [noTraceFlag]) (C : Cx p s m args meth c D cl tys A cc nL ret Ts own) (hH : Hp D cl B A s.heap H locs w) (hAe : A = fun q => s.heap.size ≤ q) (hex : c.exceptionTable.isEmpty = true) (hls : ls.size = nL)
    (hat : ∀ a ∈ Bundle.ownAtoms own ic X names, a.before args s = true) (hfit : Bundle.fit X = true) (hnames : ∀ n ∈ names, Bundle.fit n = true)
    (hcl : Cond.classLink own ix X ∈ Ts) (hinst : Cond.instantiable X 6 ∈ Ts) (hini : Cond.initialized X ∈ Ts) (hstr : vk_R own si tx q s)
    (hR : names.length + 3 < R.frames ∧ 13 * (names.length + 1) + 43 ≤ R.locals ∧ 1 ≤ R.cells ∧ 6 ≤ R.slots)
    (d0 : decode cc pc = .ok (.new ix, 3)) (d1 : decode cc (pc + 3) = .ok (.dup, 1)) (d2 : decode cc (pc + 3 + 1) = .ok (.ldc si, 2)) (d3 : decode cc (pc + 3 + 1 + 2) = .ok (.invokespecial ic, 3)) (d4 : decode cc (pc + 3 + 1 + 2 + 3) = .ok (.athrow, 1)) :
    W p l e R s m args below meth c H locs 0 0 (MT below s X 1 6) (F0 m pc ls []) := by
  subst hAe
  obtain ⟨hx, hb, hr, hml, hown, hts, hlk, hK, hA⟩ := id C
  refine va_forget (fun q hq => hH.2.2.2.2 q hq) ?_
  obtain ⟨cX, kX, hfX, -⟩ := Cond.instantiable_spec (hts _ hinst)
  refine W.newcK hx hb hown (hts _ hcl) (hts _ hinst) (hts _ hini) rfl d0 (by omega) (by omega) hfX rfl fun H1 kC hkC e1 z1 o1 => ?_
  refine lv_dup hx hb d1 rfl ?_
  refine va_ldcS hx hb hown hstr d2 ?_
  intro T hT XX
  obtain ⟨U, st, hrun, hend, hW, hsame, ce, hce, hOC⟩ := XX.ctorThrowS hx (Launch.traces_off hfl XX.admits) hown hfit hnames hat (fun x hx => by cases hx) hfX hkC (by rw [hT]; exact e1) hH.2.2.1 (msg := .ref q) rfl (g := F0 m (pc + 3 + 1 + 2) ls [.ref q, .ref H.size, .ref H.size]) rfl (hls.trans hml.symm) rfl rfl rfl (by rw [hb]; exact d3) (by rw [hb]; exact d4)
    (fun x hx => by rw [Array.isEmpty_iff.mp hex] at hx; cases hx) (by omega) (by show 2 * 0 + (1 + 0) + _ ≤ _; omega) hlk
  exact ⟨U, st, H.size, ce, hrun, hend, hce, hOC.vm, by rw [hW.alike.findClass]; exact hOC.cls, hH.2.2.1, hW, hsame⟩
end FNT
theorem zqRef {C n d : String} {A : Nat → Prop} {U : State} {args : Array Value} (h : va_Zq C n d A U U.heap) : (Cond.isRef (.static C n d)).before args U = true := by
  rcases h with h | ⟨t, h⟩ <;>
  · obtain ⟨cf, kf, fi, f, a, cell, h1, h2, h3, h4, h5, h6, h7, h8⟩ := h
    simp [Cond.before, Cond.holds, Cond.value, Term.eval, State.fieldNamed?, h1, h2, h4, h5, h6, h7]
def tabAt (X : String) (names : List String) : List Cond := Bundle.throwableAtoms ++ Bundle.throwableSAtoms ++ Bundle.chainSAtoms X names ++
  [.instantiable X 6, .castable X X, .selects X Bundle.tFill0 Bundle.tFill0, .selects X Bundle.tFill Bundle.tFill,
   .lays X Bundle.tN "cause" "Ljava/lang/Throwable;", .lays X Bundle.tN "stackTrace" Bundle.steD, .lays X Bundle.tN "suppressedExceptions" Bundle.listD, .lays X Bundle.tN "detailMessage" "Ljava/lang/String;",
   .fieldLink Bundle.tN 198 Bundle.tN "backtrace" "Ljava/lang/Object;", .lays Bundle.tN Bundle.tN "backtrace" "Ljava/lang/Object;", .lays X Bundle.tN "backtrace" "Ljava/lang/Object;"]
def exCh : List String := ["java/lang/RuntimeException", "java/lang/Exception"]
theorem tabAt_1 : ∀ a ∈ tabAt "java/lang/IllegalArgumentException" exCh, a ∈ U0 ∨ a ∈ specW := fun a h => ((by decide +kernel : ∀ x ∈ tabAt "java/lang/IllegalArgumentException" exCh, goodWord x = true ∨ x ∈ specW) a h).imp (fun g => mU ((by decide +kernel : ∀ x ∈ tabAt "java/lang/IllegalArgumentException" exCh, x ∈ lw_tbl) a h) g) id
theorem tabAt_2 : ∀ a ∈ tabAt "java/lang/IllegalStateException" exCh, a ∈ U0 ∨ a ∈ specW := fun a h => ((by decide +kernel : ∀ x ∈ tabAt "java/lang/IllegalStateException" exCh, goodWord x = true ∨ x ∈ specW) a h).imp (fun g => mU ((by decide +kernel : ∀ x ∈ tabAt "java/lang/IllegalStateException" exCh, x ∈ lw_tbl) a h) g) id
theorem tabAt_3 : ∀ a ∈ tabAt "java/lang/IndexOutOfBoundsException" exCh, a ∈ U0 ∨ a ∈ specW := fun a h => ((by decide +kernel : ∀ x ∈ tabAt "java/lang/IndexOutOfBoundsException" exCh, goodWord x = true ∨ x ∈ specW) a h).imp (fun g => mU ((by decide +kernel : ∀ x ∈ tabAt "java/lang/IndexOutOfBoundsException" exCh, x ∈ lw_tbl) a h) g) id
theorem ownAt {X own : String} {ic : Nat} {names : List String} {args : Array Value} {s : State} {c0 : Cond} {strs : List (String × Nat × String)} (hts : ∀ w ∈ c0 :: U0, w.before args s = true) (ht : ∀ a ∈ tabAt X names, a ∈ U0 ∨ a ∈ specW) (hE : TE strs s) (hl : Cond.methodLink own ic (Bundle.initS X) ∈ U0) : ∀ a ∈ Bundle.ownAtoms own ic X names, a.before args s = true := by
  intro a ha
  by_cases h1 : a ∈ tabAt X names
  · exact (ht a h1).elim (fun g => hts a (.tail _ g)) (fun g => hE.2.2.2 a g _)
  · simp only [Bundle.ownAtoms, tabAt, List.mem_append, List.mem_cons, List.not_mem_nil, or_false, not_or] at ha h1
    rcases ha with h | h
    · exact absurd h (by
        rintro ((h | h) | h)
        · exact h1.1.1.1 h
        · exact h1.1.1.2 h
        · exact h1.1.2 h)
    · rcases h with rfl | h | h | h | h | h | h | h | h | rfl | rfl | h | h | h
      · exact hts _ (.tail _ hl)
      all_goals first | exact zqRef hE.1 | exact zqRef hE.2.1 | (exfalso; revert h1; simp [h])
def b13 : ByteArray := ⟨#[0x2a, 0x2b, 0xb7, 0x00, 0x0d, 0xb1]⟩
def nse : String := "java/util/NoSuchElementException"
def tab4 : List Cond := Bundle.throwableAtoms ++ Bundle.throwableSAtoms ++ Bundle.passSAtoms nse "java/lang/RuntimeException" 13 b13 ++ Bundle.chainSAtoms "java/lang/RuntimeException" ["java/lang/Exception"] ++
  [.instantiable nse 6, .castable nse nse, .selects nse Bundle.tFill0 Bundle.tFill0, .selects nse Bundle.tFill Bundle.tFill,
   .lays nse Bundle.tN "cause" "Ljava/lang/Throwable;", .lays nse Bundle.tN "stackTrace" Bundle.steD, .lays nse Bundle.tN "suppressedExceptions" Bundle.listD, .lays nse Bundle.tN "detailMessage" "Ljava/lang/String;",
   .fieldLink Bundle.tN 198 Bundle.tN "backtrace" "Ljava/lang/Object;", .lays Bundle.tN Bundle.tN "backtrace" "Ljava/lang/Object;", .lays nse Bundle.tN "backtrace" "Ljava/lang/Object;"]
theorem tab4_ok : ∀ a ∈ tab4, a ∈ U0 ∨ a ∈ specW := fun a h => ((by decide +kernel : ∀ x ∈ tab4, goodWord x = true ∨ x ∈ specW) a h).imp (fun g => mU ((by decide +kernel : ∀ x ∈ tab4, x ∈ lw_tbl) a h) g) id
section CT4
variable {p : Program} {l : Launch} {e : Env} {R : Room} {s : State} {m₀ : MethodId} {args : Array Value} {below : List Frame} {meth : Method} {c : Code} {T0 : State} {cells slots : Nat}
set_option maxHeartbeats 2000000 in
/-- 'new NoSuchElementException(text)' and its throw: by the library's chain, one link of it by entry 13 -/
theorem ctor4 (X : Stand p l e R s m₀ args below meth c T0 [] cells slots) (hexec : p.tables.exec = Jvm.exec) (htr : e.platform.stackTraces = false) {own : String} {ic : Nat}
    (hown : s.vm.findClass own = some m₀.cls) (h : ∀ a ∈ tab4, a.before args s = true) (hz1 : (Cond.isRef (.static Bundle.tN "UNASSIGNED_STACK" Bundle.steD)).before args s = true) (hz2 : (Cond.isRef (.static Bundle.tN "SUPPRESSED_SENTINEL" Bundle.listD)).before args s = true) (hlnk : (Cond.methodLink own ic (Bundle.initS nse)).before args s = true)
    {a : Addr} {cX : ClassId} {kX : Class} (hfoundX : s.vm.findClass nse = some cX) (hkX : s.vm.classes[cX]? = some kX) (hcell : T0.heap[a]? = some (freshCell cX kX)) (hnew : s.heap.size ≤ a)
    {msg : Value} (hmsg : msg.isRef = true) {g : JFrame} (hg : g.method = m₀) (hsize : g.locals.size = c.maxLocals) (hlocked : g.locked = none) (hentered : g.entered = []) {rest : List Value} (hstack : g.stack = msg :: .ref a :: .ref a :: rest)
    (hd6 : decode c.code g.pc = .ok (.invokespecial ic, 3)) (hd9 : decode c.code (g.pc + 3) = .ok (.athrow, 1)) (hout : ∀ x ∈ c.exceptionTable.toList, covers x (g.pc + 3) = false)
    (hRframes : 5 < R.frames) (hRlocals : 2 * g.monitorRoom + ((Value.ref a :: rest).map fun v => v.category).sum + 81 ≤ R.locals) (hlocks : meth.locks = false) :
    ∃ U : State, Steps p.tables e below (T0.setTop g) U ∧ U.status = .running ∧ Ended U below (.threw a) ∧ s.WarmedH U.vm ∧ s.sameButNew ({ U with vm := s.vm } : State) [] cells slots ∧
      ∃ ce : Cell, U.heap[a]? = some ce ∧ ce.vm = .none ∧ s.vm.findClass nse = some ce.cls := by
  have howns : e.platform.frameOwnsMonitors = true := by rw [X.admits.platform]
  have hfin : e.platform.finalization = false := by rw [X.admits.platform]
  have hpl : e.platform.magicAccessors = ({} : Platform).magicAccessors := by rw [X.admits.platform]
  have a' : ∀ x, x ∈ tab4 → x.holds args s none s [] = true := fun x hx => h x hx
  obtain ⟨T, Z0, L, -, Y⟩ := ThrowableC.of_atoms (args := args) howns hfin hpl (fun x hx => h x (by simp [tab4, hx]))
  obtain ⟨Z, M, LZ, LM, hnZ⟩ := Init0T.ofS_atoms (args := args) hpl L Y (fun x hx => h x (by simp [tab4, hx]))
  obtain ⟨P0, L0, hP0m, hP0s⟩ := PassC.ofS_atoms (args := args) (s := s) hpl (X := nse) (Y := "java/lang/RuntimeException") (index := 13) (bytes := b13) (by decide) (by decide) (by decide +kernel) (by decide +kernel) (by decide +kernel) (by decide +kernel) (fun x hx => h x (by simp [tab4, hx]))
  obtain ⟨P1, Ps, hlen, L1, hL, hP1m, hlink1, hlink⟩ := Bundle.chainS (args := args) hpl hnZ ["java/lang/Exception"] "java/lang/RuntimeException" (by decide +kernel) (by decide +kernel) (fun x hx => h x (by simp [tab4, hx]))
  have hfound : s.vm.findClass nse = some P0.m.cls := findClass_of_methodNamed hP0m
  cases Option.some.inj (hfoundX.symm.trans hfound)
  obtain ⟨c1, kX', hc1, hk, hord, -, -, hn6⟩ := Cond.instantiable_spec (a' (.instantiable nse 6) (by simp [tab4]))
  cases Option.some.inj (hc1.symm.trans hfound)
  cases Option.some.inj (hkX.symm.trans hk)
  have hsel0 : selectMethod e.platform s.vm P0.m.cls T.fill0 = .method T.fill0 := by
    obtain ⟨c2, r2, m2, q1, q2, q3, q4, -⟩ := Cond.selects_spec (a' (.selects nse Bundle.tFill0 Bundle.tFill0) (by simp [tab4]))
    cases Option.some.inj (q1.symm.trans hfound)
    cases Option.some.inj (q2.symm.trans (State.methodFound?_of_named Y.fill0 (by decide)))
    cases Option.some.inj (q3.symm.trans Y.fill0)
    rw [Launch.admits_selectMethod X.admits]; exact q4
  have hselF : selectMethod e.platform s.vm P0.m.cls T.fill = .method T.fill := by
    obtain ⟨c2, r2, m2, q1, q2, q3, q4, -⟩ := Cond.selects_spec (a' (.selects nse Bundle.tFill Bundle.tFill) (by simp [tab4]))
    cases Option.some.inj (q1.symm.trans hfound)
    cases Option.some.inj (q2.symm.trans (State.methodFound?_of_named Y.fill (by decide)))
    cases Option.some.inj (q3.symm.trans Y.fill)
    rw [Launch.admits_selectMethod X.admits]; exact q4
  obtain ⟨cellS0, hcS0, hiss⟩ := Y.statics
  obtain ⟨u0, hu0⟩ := Cond.staticRefV Y.unassigned L.unassignedStatic L.statics hcS0 hiss hz1
  obtain ⟨sen, hsen⟩ := Cond.staticRefV Y.sentinel L.sentinelStatic L.statics hcS0 hiss hz2
  obtain ⟨ci198, i198, fB, hk198, hg198, ha198, hsB, -, hnB, htB, hffB⟩ := Cond.ownField (t := .object "java/lang/Object") Y.found L.cls (by decide +kernel) (a' (.fieldLink Bundle.tN 198 Bundle.tN "backtrace" "Ljava/lang/Object;") (by simp [tab4])) (a' (.lays Bundle.tN Bundle.tN "backtrace" "Ljava/lang/Object;") (by simp [tab4])) e.platform hpl
  obtain ⟨cellS, hcS', heS, -, hkeep⟩ := X.same.2.2.2.2.2 T.aS cellS0 hcS0
  have hcellS : T0.heap[T.aS]? = some cellS := hcS'
  have hkeep' : ∀ i : Nat, cellS.slots[i]? = cellS0.slots[i]? := fun i => hkeep i (by simp)
  have hknownS : cellS.vm ≠ .unknown := by
    rw [heS]; intro hu
    rw [show cellS0.vm = .unknown from hu] at hiss
    cases hiss
  have hneS : T.aS ≠ a := Nat.ne_of_lt (Nat.lt_of_lt_of_le (Array.getElem?_eq_some_iff.mp hcS0).1 hnew)
  obtain ⟨iM, hffM⟩ := Y.msg
  obtain ⟨tyC, dC, hdC, hdnC⟩ := Cond.laysAt hfound hk Y.cause (a' (.lays nse Bundle.tN "cause" "Ljava/lang/Throwable;") (by simp [tab4]))
  obtain ⟨tyS, dS, hdS, hdnS⟩ := Cond.laysAt hfound hk Y.stack (a' (.lays nse Bundle.tN "stackTrace" Bundle.steD) (by simp [tab4]))
  obtain ⟨tyP, dP, hdP, hdnP⟩ := Cond.laysAt hfound hk Y.supp (a' (.lays nse Bundle.tN "suppressedExceptions" Bundle.listD) (by simp [tab4]))
  obtain ⟨tyM, dM, hdM, hdnM⟩ := Cond.laysAt hfound hk hffM (a' (.lays nse Bundle.tN "detailMessage" "Ljava/lang/String;") (by simp [tab4]))
  obtain ⟨tyB, dB, hdB, hdnB⟩ := Cond.laysAt hfound hk hffB (a' (.lays nse Bundle.tN "backtrace" "Ljava/lang/Object;") (by simp [tab4]))
  have bC := Cond.laysApart hdB hdC hdnB hdnC (by rw [hnB, Y.causeName]; decide)
  have bS := Cond.laysApart hdB hdS hdnB hdnS (by rw [hnB, Y.stackName]; decide)
  have bP := Cond.laysApart hdB hdP hdnB hdnP (by rw [hnB, Y.suppName]; decide)
  have hskip : SkipFacts T e.platform s (fun u => u) u0 ((preparedCellV T.toThrowableT (freshCell P0.m.cls kX) a u0 sen).withEntry T0.cur) :=
    ⟨{ ci198 := ci198, i198 := i198, fBack := fB }, ⟨hk198, hg198, ha198, hsB⟩, by
      have := fresh_default (c := P0.m.cls) tyB
      rw [htB] at this
      simpa [preparedCellV, Cell.setSlot, Cell.withEntry, Array.getElem?_setIfInBounds, bC, bS, bP, bC.symm, bS.symm, bP.symm, defaultValue] using this, fun _ _ => rfl⟩
  obtain ⟨tm, methC, cdC, kC, vm₁, hnC, -, -, -, -, -, -, -, hW₁, st1⟩ := Steps.initColdS (tb := p.tables) (e := e) (below := below) (s := s) (U := T0) X.here hexec X.warmed hpl hown (t := Bundle.initS nse) rfl rfl (by decide)
    hlnk (h (.instanceMethod (Bundle.initS nse)) (by simp [tab4, Bundle.passSAtoms])) (bytes := b13) (maxL := 2) (h (.code (Bundle.initS nse) b13 2 none) (by simp [tab4, Bundle.passSAtoms]))
    (f := g) hg (a := a) (msg := msg) (rest := .ref a :: rest) hstack hd6
  cases Option.some.inj (hnC.symm.trans hP0m)
  have X₁ := X.noted hW₁
  have hsup : P0.sup = P1.m := Option.some.inj (hP0s.symm.trans hP1m)
  obtain ⟨vm₂, X₂, st2⟩ := X₁.ctorMessageOffV hexec (g := { g with stack := .ref a :: rest }) hg hsize T L Z LZ M LM (P0 :: P1 :: Ps)
    (fun P hP => by
      rcases List.mem_cons.mp hP with rfl | hP
      · exact L0
      · rcases List.mem_cons.mp hP with rfl | hP
        · exact L1
        · exact hL P hP) ⟨hsup, hlink1, hlink⟩ (u0 := u0) (sen := sen) (self := a) hmsg (cell := freshCell P0.m.cls kX) (cellS := cellS)
    hcell (fun _ => by simp) (by simp) rfl rfl hsel0 hselF hcellS hneS hknownS (by rw [hkeep']; exact hu0) (by rw [hkeep']; exact hsen)
    (Takes.of_laid hk hord tyC (by rw [Y.causeType]; rfl)) (Takes.of_laid hk hord tyS (by rw [Y.stackType]; exact fits_refV_array _ u0)) (Takes.of_laid hk hord tyP (by rw [Y.suppType]; exact fits_refV_object _ sen))
    (Takes.of_laid hk hord tyM (by rw [Y.msgType]; exact fits_refV_object _ ⟨msg, hmsg⟩)) Y.objLocals hskip htr [] hd6
    (by simp only [List.length_cons, hlen, List.length_nil]; omega) (by simp only [List.length_cons, hlen, List.length_nil]; exact hRlocals)
  obtain ⟨hwalk, hrun, hended, hWU, hsame⟩ := X₂.athrowLeaves hexec (g := { g with stack := .ref a :: rest, pc := g.pc + 3 }) hg hlocked hentered hout (a := a) (rest := rest) rfl hd9
  have hlt : a < ((T0.setVm vm₁).setVm vm₂).heap.size := (Array.getElem?_eq_some_iff.mp hcell).1
  have hU := heapAt_setCell_self (s := (T0.setVm vm₁).setVm vm₂) (plainBareV T.toThrowableT (freshCell P0.m.cls kX) a u0 sen msg) hlt
  refine ⟨_, st1 _ (fun acts => ?_), hrun, hended, hWU, hsame.weaken (fun y hy hlt' => ?_) (Nat.le_refl _) (Nat.le_refl _), _, hU, rfl, hfound⟩
  · rw [doInvoke_state]
    exact st2 _ hwalk
  · rcases List.mem_append.mp hy with h1 | h1
    · exact h1
    · exfalso
      have hb : y.base = a := by
        simp only [List.mem_cons, List.not_mem_nil, or_false] at h1
        rcases h1 with rfl | rfl | rfl | rfl | rfl <;> rfl
      rw [hb] at hlt'
      exact Nat.not_lt.mpr hnew hlt'
end CT4
section FNT2
variable {l : Launch} {D : va_G} {cl : List vw_C} {tys : List (ClassId × FieldType)}
variable {p : Program} {e : Env} {R : Room} {s : State} {m : MethodId} {args : Array Value} {below : List Frame} {meth : Method} {c : Code} {H : Heap} {locs : List Loc}
variable {A : Nat → Prop} {cc : ByteArray} {nL : Nat} {ret : Option FieldType} {c0 : Cond} {own : String} {w : va_W} {pc : Nat} {ls : Array Slot}
theorem thr1 {strs : List (String × Nat × String)} {tx : String} {ic ix si : Nat} {B : Nat → Prop} (hfl : l.flags = pinnedFlags ++ [noTraceFlag]) (C : Cx p s m args meth c D cl tys A cc nL ret (c0 :: U0) own) (hH : Hp D cl B A s.heap H locs w) (hAe : A = fun q => s.heap.size ≤ q) (hex : c.exceptionTable.isEmpty = true) (hls : ls.size = nL) (hE : TE strs s) (j : Nat) (hj : strs[j]? = some (own, si, tx)) (hl : Cond.methodLink own ic ⟨"java/lang/IllegalArgumentException", "<init>", "(Ljava/lang/String;)V"⟩ ∈ U0) (hcl : Cond.classLink own ix "java/lang/IllegalArgumentException" ∈ c0 :: U0)
    (hR : 6 ≤ R.frames ∧ 83 ≤ R.locals ∧ 1 ≤ R.cells ∧ 6 ≤ R.slots)
    (d0 : decode cc pc = .ok (.new ix, 3)) (d1 : decode cc (pc + 3) = .ok (.dup, 1)) (d2 : decode cc (pc + 3 + 1) = .ok (.ldc si, 2)) (d3 : decode cc (pc + 3 + 1 + 2) = .ok (.invokespecial ic, 3)) (d4 : decode cc (pc + 3 + 1 + 2 + 3) = .ok (.athrow, 1)) :
    W p l e R s m args below meth c H locs 0 0 (MT below s (exN 1) 1 6) (F0 m pc ls []) := by
  obtain ⟨q, hq⟩ := hE.2.2.1 _ (List.mem_of_getElem? hj)
  exact thr (X := "java/lang/IllegalArgumentException") (names := exCh) hfl C hH hAe hex hls (ownAt C.2.2.2.2.2.1 tabAt_1 hE hl) (by decide +kernel) (by decide +kernel) hcl (.tail _ (mU (by decide +kernel) (by decide +kernel))) (.tail _ (mU (by decide +kernel) (by decide +kernel))) hq ⟨by show 2 + 3 < _; omega, by show 13 * (2 + 1) + 43 ≤ _; omega, hR.2.2.1, hR.2.2.2⟩ d0 d1 d2 d3 d4
theorem thr2 {strs : List (String × Nat × String)} {tx : String} {ic ix si : Nat} {B : Nat → Prop} (hfl : l.flags = pinnedFlags ++ [noTraceFlag]) (C : Cx p s m args meth c D cl tys A cc nL ret (c0 :: U0) own) (hH : Hp D cl B A s.heap H locs w) (hAe : A = fun q => s.heap.size ≤ q) (hex : c.exceptionTable.isEmpty = true) (hls : ls.size = nL) (hE : TE strs s) (j : Nat) (hj : strs[j]? = some (own, si, tx)) (hl : Cond.methodLink own ic ⟨"java/lang/IllegalStateException", "<init>", "(Ljava/lang/String;)V"⟩ ∈ U0) (hcl : Cond.classLink own ix "java/lang/IllegalStateException" ∈ c0 :: U0)
    (hR : 6 ≤ R.frames ∧ 83 ≤ R.locals ∧ 1 ≤ R.cells ∧ 6 ≤ R.slots)
    (d0 : decode cc pc = .ok (.new ix, 3)) (d1 : decode cc (pc + 3) = .ok (.dup, 1)) (d2 : decode cc (pc + 3 + 1) = .ok (.ldc si, 2)) (d3 : decode cc (pc + 3 + 1 + 2) = .ok (.invokespecial ic, 3)) (d4 : decode cc (pc + 3 + 1 + 2 + 3) = .ok (.athrow, 1)) :
    W p l e R s m args below meth c H locs 0 0 (MT below s (exN 2) 1 6) (F0 m pc ls []) := by
  obtain ⟨q, hq⟩ := hE.2.2.1 _ (List.mem_of_getElem? hj)
  exact thr (X := "java/lang/IllegalStateException") (names := exCh) hfl C hH hAe hex hls (ownAt C.2.2.2.2.2.1 tabAt_2 hE hl) (by decide +kernel) (by decide +kernel) hcl (.tail _ (mU (by decide +kernel) (by decide +kernel))) (.tail _ (mU (by decide +kernel) (by decide +kernel))) hq ⟨by show 2 + 3 < _; omega, by show 13 * (2 + 1) + 43 ≤ _; omega, hR.2.2.1, hR.2.2.2⟩ d0 d1 d2 d3 d4
theorem thr3 {strs : List (String × Nat × String)} {tx : String} {ic ix si : Nat} {B : Nat → Prop} (hfl : l.flags = pinnedFlags ++ [noTraceFlag]) (C : Cx p s m args meth c D cl tys A cc nL ret (c0 :: U0) own) (hH : Hp D cl B A s.heap H locs w) (hAe : A = fun q => s.heap.size ≤ q) (hex : c.exceptionTable.isEmpty = true) (hls : ls.size = nL) (hE : TE strs s) (j : Nat) (hj : strs[j]? = some (own, si, tx)) (hl : Cond.methodLink own ic ⟨"java/lang/IndexOutOfBoundsException", "<init>", "(Ljava/lang/String;)V"⟩ ∈ U0) (hcl : Cond.classLink own ix "java/lang/IndexOutOfBoundsException" ∈ c0 :: U0)
    (hR : 6 ≤ R.frames ∧ 83 ≤ R.locals ∧ 1 ≤ R.cells ∧ 6 ≤ R.slots)
    (d0 : decode cc pc = .ok (.new ix, 3)) (d1 : decode cc (pc + 3) = .ok (.dup, 1)) (d2 : decode cc (pc + 3 + 1) = .ok (.ldc si, 2)) (d3 : decode cc (pc + 3 + 1 + 2) = .ok (.invokespecial ic, 3)) (d4 : decode cc (pc + 3 + 1 + 2 + 3) = .ok (.athrow, 1)) :
    W p l e R s m args below meth c H locs 0 0 (MT below s (exN 3) 1 6) (F0 m pc ls []) := by
  obtain ⟨q, hq⟩ := hE.2.2.1 _ (List.mem_of_getElem? hj)
  exact thr (X := "java/lang/IndexOutOfBoundsException") (names := exCh) hfl C hH hAe hex hls (ownAt C.2.2.2.2.2.1 tabAt_3 hE hl) (by decide +kernel) (by decide +kernel) hcl (.tail _ (mU (by decide +kernel) (by decide +kernel))) (.tail _ (mU (by decide +kernel) (by decide +kernel))) hq ⟨by show 2 + 3 < _; omega, by show 13 * (2 + 1) + 43 ≤ _; omega, hR.2.2.1, hR.2.2.2⟩ d0 d1 d2 d3 d4
theorem thr4 {strs : List (String × Nat × String)} {tx : String} {ic ix si : Nat} {B : Nat → Prop} (hfl : l.flags = pinnedFlags ++ [noTraceFlag]) (C : Cx p s m args meth c D cl tys A cc nL ret (c0 :: U0) own) (hH : Hp D cl B A s.heap H locs w) (hAe : A = fun q => s.heap.size ≤ q) (hex : c.exceptionTable.isEmpty = true) (hls : ls.size = nL) (hE : TE strs s) (j : Nat) (hj : strs[j]? = some (own, si, tx)) (hl : Cond.methodLink own ic ⟨"java/util/NoSuchElementException", "<init>", "(Ljava/lang/String;)V"⟩ ∈ U0) (hcl : Cond.classLink own ix "java/util/NoSuchElementException" ∈ c0 :: U0)
    (hR : 6 ≤ R.frames ∧ 83 ≤ R.locals ∧ 1 ≤ R.cells ∧ 6 ≤ R.slots)
    (d0 : decode cc pc = .ok (.new ix, 3)) (d1 : decode cc (pc + 3) = .ok (.dup, 1)) (d2 : decode cc (pc + 3 + 1) = .ok (.ldc si, 2)) (d3 : decode cc (pc + 3 + 1 + 2) = .ok (.invokespecial ic, 3)) (d4 : decode cc (pc + 3 + 1 + 2 + 3) = .ok (.athrow, 1)) :
    W p l e R s m args below meth c H locs 0 0 (MT below s (exN 4) 1 6) (F0 m pc ls []) := by
  obtain ⟨q, hq⟩ := hE.2.2.1 _ (List.mem_of_getElem? hj)
  subst hAe
  obtain ⟨hx, hb, hr, hml, hown, hts, hlk, hK, hA⟩ := id C
  have hat : ∀ a ∈ tab4, a.before args s = true := fun a h1 => (tab4_ok a h1).elim (fun g => hts a (.tail _ g)) (fun g => hE.2.2.2 a g _)
  have hinst : (Cond.instantiable nse 6).before args s = true := hat _ (by simp [tab4])
  refine va_forget (fun q hq => hH.2.2.2.2 q hq) ?_
  obtain ⟨cX, kX, hfX, -⟩ := Cond.instantiable_spec hinst
  refine W.newcK hx hb hown (hts _ hcl) hinst (hts _ (.tail _ (mU (w := .initialized nse) (by decide +kernel) (by decide +kernel)))) rfl d0 (by omega) (by omega) hfX rfl fun H1 kC hkC e1 z1 o1 => ?_
  refine lv_dup hx hb d1 rfl ?_
  refine va_ldcS hx hb hown hq d2 ?_
  intro T hT XX
  obtain ⟨U, st, hrun, hend, hW, hsame, ce, hce, hv, hcl2⟩ := ctor4 XX hx (Launch.traces_off hfl XX.admits) hown hat (zqRef hE.1) (zqRef hE.2.1) (hts _ (.tail _ hl)) hfX hkC (by rw [hT]; exact e1) hH.2.2.1 (msg := .ref q) rfl (g := F0 m (pc + 3 + 1 + 2) ls [.ref q, .ref H.size, .ref H.size]) rfl (hls.trans hml.symm) rfl rfl rfl (by rw [hb]; exact d3) (by rw [hb]; exact d4)
    (fun x hx => by rw [Array.isEmpty_iff.mp hex] at hx; cases hx) (by omega) (by show 2 * 0 + (1 + 0) + _ ≤ _; omega) hlk
  exact ⟨U, st, H.size, ce, hrun, hend, hce, hv, by rw [hW.alike.findClass]; exact hcl2, hH.2.2.1, hW, hsame⟩
end FNT2
