theorem rvz {m0 log l} (L : LG m0 log l) (past : S_Past) (fp : Int32) (new : S_Events) {q : Nat} (hq : q ≤ l) : (∃ v q', v ≤ 1099511627776 ∧ q' ≤ l ∧ f_Reader_readVarint (log, past, nI q, 0, fp) 0 = some (lN v, (log, past, nI q', 0, fp)) ∧ f_Model_readVarint (MR m0 new (nI q) 0) = some (lN v, MR m0 new (nI q') 0)) ∨ (∃ w fq x pl y at', FT w fq ∧ f_Reader_readVarint (log, past, nI q, 0, fp) 0 = some (x, (log, past, pl, nI w, nI fq)) ∧ f_Model_readVarint (MR m0 new (nI q) 0) = some (y, MR m0 new at' (nI (w + 8 * fq)))) := by
  rcases rv0 L past fp new 0 hq with ⟨v, q', h1, h2, h3, h4⟩ | ⟨w, fq, x, pl, y, at', h1, h2, h3⟩
  · refine Or.inl ⟨v, q', h1, h2, ?_, h3⟩
    rw [h4, if_pos]
    rw [Int64.le_iff_toInt_le, lN_toInt' (by omega), show (0 : Int32).toInt64.toInt = 0 from by decide]
    omega
  · exact Or.inr ⟨w, fq, x, pl, y, at', h1, h2, h3⟩
theorem rc1 {m0 log l} (L : LG m0 log l) (past : S_Past) (fp : Int32) (new : S_Events) {q : Nat} (hq : q ≤ l) : (∃ v q', 1 ≤ v ∧ v ≤ 1099511627776 ∧ q' ≤ l ∧ f_Reader_readVarint (log, past, nI q, 0, fp) 1 = some (lN v, (log, past, nI q', 0, fp)) ∧ f_Model_readCount (MR m0 new (nI q) 0) = some (lN v, MR m0 new (nI q') 0)) ∨ (∃ w fq x pl y at', FT w fq ∧ f_Reader_readVarint (log, past, nI q, 0, fp) 1 = some (x, (log, past, pl, nI w, nI fq)) ∧ f_Model_readCount (MR m0 new (nI q) 0) = some (y, MR m0 new at' (nI (w + 8 * fq)))) := by
  have h5 := L.1.1
  rcases rv0 L past fp new 1 hq with ⟨v, q', h1, h2, h3, h4⟩ | ⟨w, fq, x, pl, y, at', h1, h2, h3⟩
  · have e1 : (MR m0 new (nI q') 0).2.2.2.2.2.2.2 = 0 := rfl
    by_cases v0 : v = 0
    · subst v0
      refine Or.inr ⟨5, q, lN 0, nI q', lN 0, nI q', ⟨by omega, by omega, by omega⟩, ?_, ?_⟩
      · rw [h4, if_neg (by decide)]; rfl
      · unfold f_Model_readCount
        rw [h3, Option.bind_some, if_pos e1]
        simp only [lg_eq0]
        rw [if_pos (show lN 0 = 0 from rfl), show (MR m0 new (nI q) 0).2.2.2.2.2.2.1 = nI q from rfl, meet_eq m0 new _ 5 5 q rfl]; rfl
    · refine Or.inl ⟨v, q', by omega, h1, h2, ?_, ?_⟩
      · rw [h4, if_pos]
        rw [Int64.le_iff_toInt_le, lN_toInt' (by omega), show (1 : Int32).toInt64.toInt = 1 from by decide]
        omega
      · unfold f_Model_readCount
        rw [h3, Option.bind_some, if_pos e1]
        simp only [lg_eq0]
        rw [if_neg (by intro h; have := congrArg Int64.toInt h; rw [lN_toInt' (by omega), show (0 : Int64).toInt = 0 from by decide] at this; omega)]
  · refine Or.inr ⟨w, fq, x, pl, y, at', h1, h2, ?_⟩
    unfold f_Model_readCount
    rw [h3, Option.bind_some, if_neg (show ¬ (MR m0 new at' (nI (w + 8 * fq))).2.2.2.2.2.2.2 = 0 from ft_ne h1)]
theorem rb_x (m0 : S_Model) (new : S_Events) {w q : Nat} (h : FT w q) {nn : Nat} (hn : nn ≤ 8) : ∀ t j v at' f, j + t = nn → t < f → ∃ y at2, f_Model_readBytes_b5 f (MR m0 new at' (nI (w + 8 * q))) (nI nn) v (nI j) = some (y, MR m0 new at2 (nI (w + 8 * q))) := by
  intro t
  induction t with
  | zero =>
    intro j v at' f hj hf
    obtain ⟨g, rfl⟩ : ∃ g, f = g + 1 := ⟨f - 1, by omega⟩
    rw [f_Model_readBytes_b5, if_pos (nI_le (by omega) (by omega))]
    exact ⟨_, _, rfl⟩
  | succ t ih =>
    intro j v at' f hj hf
    obtain ⟨g, rfl⟩ : ∃ g, f = g + 1 := ⟨f - 1, by omega⟩
    rw [f_Model_readBytes_b5, if_neg (nI_ge (by omega) (by omega)), next_x m0 new at' h, Option.bind_some, nI_1]
    exact ih (j + 1) _ _ g (by omega) (by omega)
theorem rb_loop {m0 log l} (L : LG m0 log l) (past : S_Past) (fp : Int32) (new : S_Events) {nn : Nat} (hn : nn ≤ 8) : ∀ t j q v f1 f2, j + t = nn → q ≤ l → t + 1 < f1 → t < f2 → (∃ v' q', q' ≤ l ∧ f_Reader_readBytes_b5 f1 (log, past, nI q, 0, fp) (nI nn) v (nI j) = some (v', (log, past, nI q', 0, fp)) ∧ f_Model_readBytes_b5 f2 (MR m0 new (nI q) 0) (nI nn) v (nI j) = some (v', MR m0 new (nI q') 0)) ∨ (∃ w fq x pl y at', FT w fq ∧ f_Reader_readBytes_b5 f1 (log, past, nI q, 0, fp) (nI nn) v (nI j) = some (x, (log, past, pl, nI w, nI fq)) ∧ f_Model_readBytes_b5 f2 (MR m0 new (nI q) 0) (nI nn) v (nI j) = some (y, MR m0 new at' (nI (w + 8 * fq)))) := by
  have h5 := L.1.1
  intro t
  induction t with
  | zero =>
    intro j q v f1 f2 hj hq hf1 hf2
    obtain ⟨g1, rfl⟩ : ∃ g, f1 = g + 1 := ⟨f1 - 1, by omega⟩
    obtain ⟨g2, rfl⟩ : ∃ g, f2 = g + 1 := ⟨f2 - 1, by omega⟩
    rw [f_Reader_readBytes_b5, f_Model_readBytes_b5, if_pos (nI_le (by omega) (by omega)), if_pos (nI_le (by omega) (by omega))]
    exact Or.inl ⟨v, q, hq, rfl, rfl⟩
  | succ t ih =>
    intro j q v f1 f2 hj hq hf1 hf2
    obtain ⟨g1, rfl⟩ : ∃ g, f1 = g + 1 := ⟨f1 - 1, by omega⟩
    obtain ⟨g2, rfl⟩ : ∃ g, f2 = g + 1 := ⟨f2 - 1, by omega⟩
    rw [f_Reader_readBytes_b5, f_Model_readBytes_b5, if_neg (nI_ge (by omega) (by omega)), if_neg (nI_ge (by omega) (by omega))]
    simp only [fine0, one0, if_false, nI_1]
    by_cases hql : q = l
    · subst hql
      obtain ⟨e1, e2⟩ := rd_end L past fp new
      have ft : FT 2 q := ⟨by omega, by omega, h5⟩
      rw [e1, e2, Option.bind_some]
      simp only [lt1]
      obtain ⟨y, at2, hy⟩ := rb_x m0 new ft hn t (j + 1) ((v <<< ((8 : Int32).toInt64 &&& 63)) ||| (0 : Int32).toInt64) (nI q + 1) g2 (by omega) (by omega)
      refine Or.inr ⟨2, q, ((v <<< ((8 : Int32).toInt64 &&& 63)) ||| (0 : Int32).toInt64), nI q, y, at2, ft, ?_, hy⟩
      obtain ⟨k1, rfl⟩ : ∃ g, g1 = g + 1 := ⟨g1 - 1, by omega⟩
      rw [f_Reader_readBytes_b5, if_pos (show bI (f_Reader_isFine (log, past, nI q, 2, nI q)) = 0 from fineX log past (nI q) (nI q) (w := 2) (by omega) (by omega)), ite_self]
      rfl
    · obtain ⟨b, hb, e1, e2⟩ := rd_in L (show q < l by omega) past fp new
      rw [e1, e2, Option.bind_some]
      simp only [lt1]
      exact ih (j + 1) (q + 1) _ g1 g2 (by omega) (by omega) (by omega) (by omega)
theorem rb0 {m0 log l} (L : LG m0 log l) (past : S_Past) (fp : Int32) (new : S_Events) {nn : Nat} (hn : nn ≤ 8) {q : Nat} (hq : q ≤ l) : (∃ v' q', q' ≤ l ∧ f_Reader_readBytes (log, past, nI q, 0, fp) (nI nn) = some (v', (log, past, nI q', 0, fp)) ∧ f_Model_readBytes (MR m0 new (nI q) 0) (nI nn) = some (v', MR m0 new (nI q') 0)) ∨ (∃ w fq x pl y at', FT w fq ∧ f_Reader_readBytes (log, past, nI q, 0, fp) (nI nn) = some (x, (log, past, pl, nI w, nI fq)) ∧ f_Model_readBytes (MR m0 new (nI q) 0) (nI nn) = some (y, MR m0 new at' (nI (w + 8 * fq)))) :=
  rb_loop L past fp new hn nn 0 q 0 400 400 (by omega) hq (by omega) (by omega)
/-! an event kept -/
def EV (e new : S_Events) (past : S_Past) (n : Nat) : Prop := EOK e n ∧ new.2.2.2.2 = nI n ∧ EEq e new n ∧ PastOK past e.1 n
theorem keep_take {e new : S_Events} {past : S_Past} {n : Nat} (h : EV e new past n) (hn : n < 300) (m0 : S_Model) (log : S_Bytes) (pl fp : Int32) {k : Int32} {d a : Int64} {b : Int32} (v : VE k d a b) : ∃ past' e' new', f_Reader_keep (log, past, pl, 0, fp) e k d a b = ((log, past', pl, 0, fp), e') ∧ f_Model_take (MR m0 new pl 0) k d a b = some (MR m0 new' pl 0) ∧ EV e' new' past' (n + 1) ∧ (∀ i, i < n → e'.1 i = e.1 i ∧ e'.2.1 i = e.2.1 i ∧ e'.2.2.1 i = e.2.2.1 i ∧ e'.2.2.2.1 i = e.2.2.2.1 i) ∧ e'.1 n = k ∧ e'.2.1 n = d ∧ e'.2.2.1 n = a ∧ e'.2.2.2.1 n = b := by
  obtain ⟨ek, ed, ea, eb, en⟩ := e
  obtain ⟨wk, wd, wa, wb, wn⟩ := new
  obtain ⟨he, hw, hq, hp⟩ := h
  have hen := he.2.1
  dsimp only at hen hw
  subst hen; subst hw
  have hp1 : PastOK past (upd ek n k) n := past_congr hp (fun j hj => by dsimp only [upd]; rw [if_neg (by omega)])
  have hk : (upd ek n k) n = k := by dsimp only [upd]; rw [if_pos rfl]
  have hp2 := past_note hp1 hn
  rw [hk] at hp2
  refine ⟨f_Past_note past k (nI n), (upd ek n k, vp_updL ed n d, vp_updL ea n a, upd eb n b, nI (n + 1)), (upd wk n k, vp_updL wd n d, vp_updL wa n a, upd wb n b, nI (n + 1)), ?_, ?_, ⟨eok_app he hn v, rfl, eeq_app hq, hp2⟩, ?_, hk, ?_, ?_, ?_⟩
  · unfold f_Reader_keep f_Events_number
    dsimp only [lt1]
    rw [app_eq hn]
  · unfold f_Model_take
    rw [show (MR m0 (wk, wd, wa, wb, nI n) pl 0).2.2.1.2.2.2.2 = nI n from rfl]
    have z1 : (nI n < 0) = False := eq_false (nI_pos (by omega))
    have z2 : (nI n).toNatClampNeg = n := cl_n (by omega)
    have z3 : (300 ≤ n) = False := eq_false (by omega)
    simp only [z1, z2, z3, or_self, if_false, nI_1]
    rfl
  · intro i hi
    dsimp only [upd, vp_updL]
    simp only [if_neg (show ¬ i = n by omega), and_self]
  · dsimp only [vp_updL]; rw [if_pos rfl]
  · dsimp only [vp_updL]; rw [if_pos rfl]
  · dsimp only [upd]; rw [if_pos rfl]
/-- how an entry goes -/
def ER (m0 : S_Model) (log : S_Bytes) (l n S : Nat) (r : Option (S_Reader × S_Events)) (mm : Option S_Model) : Prop :=
  (∃ n' q' past' fp' e' new', n < n' ∧ n' ≤ S ∧ q' ≤ l ∧ EV e' new' past' n' ∧ r = some ((log, past', nI q', 0, fp'), e') ∧ mm = some (MR m0 new' (nI q') 0)) ∨ (∃ w fq past' pl e' new' at' k, FT w fq ∧ k ≤ 300 ∧ e'.2.2.2.2 = nI k ∧ r = some ((log, past', pl, nI w, nI fq), e') ∧ mm = some (MR m0 new' at' (nI (w + 8 * fq))))
theorem er_x {m0 log l n S} {w fq : Nat} (h : FT w fq) {e new : S_Events} {past : S_Past} (he : EV e new past n) (pp : S_Past) (nw : S_Events) (pl at' : Int32) : ER m0 log l n S (some ((log, pp, pl, nI w, nI fq), e)) (some (MR m0 nw at' (nI (w + 8 * fq)))) :=
  Or.inr ⟨w, fq, pp, pl, e, nw, at', n, h, he.1.1, he.1.2.1, rfl, rfl⟩
theorem own_end {m0 log l n S} {e new : S_Events} {past : S_Past} (he : EV e new past n) (hS : S ≤ 300) (hn : n < S) {q : Nat} (hq : q ≤ l) (fp : Int32) {k : Int32} {d a : Int64} {b : Int32} (v : VE k d a b) : ER m0 log l n S (f_Reader_readOwn_b84 (log, past, nI q, 0, fp) e k d a b) (f_Model_readEntry_b332 (MR m0 new (nI q) 0) k d a b) := by
  obtain ⟨past', e', new', h1, h2, h3, -⟩ := keep_take he (show n < 300 by omega) m0 log (nI q) fp v
  refine Or.inl ⟨n + 1, q, past', fp, e', new', by omega, by omega, hq, h3, ?_, ?_⟩
  · unfold f_Reader_readOwn_b84
    simp only [fine0, one0, if_false, h1, lt1]
  · unfold f_Model_readEntry_b332
    rw [if_pos (show (MR m0 new (nI q) 0).2.2.2.2.2.2.2 = 0 from rfl), h2]; rfl
theorem own_x {m0 log l n S} {e new : S_Events} {past : S_Past} (he : EV e new past n) {w fq : Nat} (h : FT w fq) (pp : S_Past) (nw : S_Events) (pl at' : Int32) (k k2 : Int32) (d d2 a a2 : Int64) (b b2 : Int32) : ER m0 log l n S (f_Reader_readOwn_b84 (log, pp, pl, nI w, nI fq) e k d a b) (f_Model_readEntry_b332 (MR m0 nw at' (nI (w + 8 * fq))) k2 d2 a2 b2) := by
  unfold f_Reader_readOwn_b84 f_Model_readEntry_b332
  rw [if_pos (fineX log pp pl (nI fq) h.1 h.2.1), if_neg (show ¬ (MR m0 nw at' (nI (w + 8 * fq))).2.2.2.2.2.2.2 = 0 from ft_ne h)]
  exact er_x h he pp nw pl at'
theorem bindpair {α β : Type} (o : Option (α × β)) : (o.bind (fun r => some (r.1, r.2))) = o := by cases o <;> rfl
theorem b200_g (m : S_Model) (x2 k x4 : Int32) (d v : Int64) (h1 : (k = 1) = False) (h2 : (k = 2) = False) : f_Model_readEntry_b200 m x2 k x4 d v = f_Model_readEntry_b332 m k d v 0 := by
  simp only [f_Model_readEntry_b200, f_Model_readEntry_b213, f_Model_readEntry_b283, h1, h2, if_false]
theorem b200_1 (m : S_Model) (x2 x4 : Int32) (d v : Int64) (h : (x4 = 0) = False) : f_Model_readEntry_b200 m x2 1 x4 d v = f_Model_readEntry_b332 m 1 d v x4 := by
  have n12 : ((1 : Int32) = 2) = False := by decide
  simp only [f_Model_readEntry_b200, f_Model_readEntry_b213, f_Model_readEntry_b283, h, n12, if_false, if_true]
theorem mr0 (m0 : S_Model) (new : S_Events) (at' : Int32) : ((MR m0 new at' 0).2.2.2.2.2.2.2 ≤ 0) = True := eq_true (by show (0 : Int32) ≤ 0; decide)
theorem mr0e (m0 : S_Model) (new : S_Events) (at' : Int32) : ((MR m0 new at' 0).2.2.2.2.2.2.2 = 0) = True := eq_true rfl
theorem mrx (m0 : S_Model) (new : S_Events) (at' : Int32) {w q : Nat} (h : FT w q) : ((MR m0 new at' (nI (w + 8 * q))).2.2.2.2.2.2.2 ≤ 0) = False := eq_false (ft_nle h)
theorem mrxe (m0 : S_Model) (new : S_Events) (at' : Int32) {w q : Nat} (h : FT w q) : ((MR m0 new at' (nI (w + 8 * q))).2.2.2.2.2.2.2 = 0) = False := eq_false (ft_ne h)
/-- behind the difference: kinds 0 and 2 -/
theorem re_0 {m0 log l n S} (L : LG m0 log l) {e new : S_Events} {past : S_Past} (he : EV e new past n) (hS : S ≤ 300) (hn : n < S) {q : Nat} (hq : q ≤ l) (fp c pl : Int32) {dn xx : Nat} (hd : dn ≤ 1099511627776) (hx : xx ≤ 15) : ER m0 log l n S (f_Reader_readEntry_b110 (log, past, nI q, 0, fp) e pl 0 (nI xx) (lN dn)) (f_Model_readEntry_b106 (MR m0 new (nI q) 0) pl 0 (nI xx) c (lN dn)) := by
  obtain ⟨n01, n02, n03, n04, n10, n12, n13, n14, n20, n21, n23, n24, n30, n31, n32, n34, n40, n41, n42, n43⟩ := k_ne
  simp only [f_Reader_readEntry_b110, f_Reader_isMeaningAnother, f_Reader_isMeaningAnother_b9, f_Reader_readOwn, fine0, one0, if_false, if_true, n01, n02, n03, n04, bIf, bindpair]
  simp only [f_Model_readEntry_b106, f_Model_readEntry_b130, f_Model_readEntry_b147, n03, if_false, if_true, mr0]
  rw [b200_g _ _ _ _ _ _ n01 n02]
  exact own_end he hS hn hq fp ⟨⟨dn, hd, rfl⟩, Or.inl ⟨rfl, ⟨xx, hx, nI_l (by omega)⟩, rfl⟩⟩
theorem re_2 {m0 log l n S} (L : LG m0 log l) {e new : S_Events} {past : S_Past} (he : EV e new past n) (hS : S ≤ 300) (hn : n < S) {q : Nat} (hq : q ≤ l) (fp c pl : Int32) {dn xx : Nat} (hd : dn ≤ 1099511627776) (hx : xx ≤ 15) : ER m0 log l n S (f_Reader_readEntry_b110 (log, past, nI q, 0, fp) e pl 2 (nI xx) (lN dn)) (f_Model_readEntry_b106 (MR m0 new (nI q) 0) pl 2 (nI xx) c (lN dn)) := by
  obtain ⟨n01, n02, n03, n04, n10, n12, n13, n14, n20, n21, n23, n24, n30, n31, n32, n34, n40, n41, n42, n43⟩ := k_ne
  have h5 := L.1.1
  simp only [f_Reader_readEntry_b110, f_Reader_isMeaningAnother, f_Reader_isMeaningAnother_b9, f_Reader_readOwn, fine0, one0, if_false, if_true, n20, n21, n23, n24, bIf, bindpair]
  simp only [f_Model_readEntry_b106, f_Model_readEntry_b130, f_Model_readEntry_b147, n20, n23, if_false, if_true, mr0]
  simp only [f_Model_readEntry_b200, f_Model_readEntry_b213, f_Model_readEntry_b283, n21, if_false, if_true, mr0e]
  unfold f_Reader_readSignal
  by_cases hql : q = l
  · subst hql
    obtain ⟨e1, e2⟩ := rd_end L past fp new
    have ft : FT 2 q := ⟨by omega, by omega, h5⟩
    rw [e1, e2]
    simp only [lt1, Option.bind_some, mrxe m0 new _ ft, if_false]
    rw [if_pos (show bI (f_Reader_isFine (log, past, nI q, 2, nI q)) = 0 from fineX log past (nI q) (nI q) (w := 2) (by omega) (by omega))]
    exact own_x he ft _ _ _ _ _ _ _ _ _ _ _ _
  · obtain ⟨b, hb, e1, e2⟩ := rd_in L (show q < l by omega) past fp new
    rw [e1, e2]
    simp only [lt1, Option.bind_some, mr0e, if_true, fine0, one0, if_false]
    have ft : FT 5 q := ⟨by omega, by omega, by omega⟩
    have bad : f_Model_readEntry_b321 (MR m0 new (nI (q + 1)) 0) 2 (lN dn) ((nI xx).toInt64) (nI b) = f_Model_readEntry_b332 (MR m0 new (nI (q + 1)) (nI (5 + 8 * q))) 2 (lN dn) ((nI xx).toInt64) (nI b) := by
      unfold f_Model_readEntry_b321
      rw [show (MR m0 new (nI (q + 1)) 0).2.2.2.2.2.2.1 - 1 = nI q from nI_pred q, meet_eq m0 new _ 5 5 q rfl]; rfl
    by_cases c1 : b < 1
    · have c1' : (nI b < (1 : Int32)) = True := eq_true (nI_lt (b := 1) c1 (by decide))
      simp only [f_EventLog_isSignal, c1', if_true, bIf, bad, f_Reader_fail]
      exact own_x he ft _ _ _ _ _ _ _ _ _ _ _ _
    · have c1' : (nI b < (1 : Int32)) = False := eq_false (nI_nlt (b := 1) (by omega) (by omega))
      by_cases c2 : b ≤ 31
      · have c2' : ((31 : Int32) < nI b) = False := eq_false (nI_nlt (a := 31) c2 (by decide))
        have c2'' : (nI b ≤ (31 : Int32)) = True := eq_true (nI_le (b := 31) c2 (by decide))
        simp only [f_EventLog_isSignal, c1', c2', c2'', if_true, if_false, bIt]
        exact own_end he hS hn (by omega) fp ⟨⟨dn, hd, rfl⟩, Or.inr (Or.inr (Or.inl ⟨rfl, ⟨xx, hx, nI_l (by omega)⟩, b, by omega, c2, rfl⟩))⟩
      · have c2' : ((31 : Int32) < nI b) = True := eq_true (nI_lt (a := 31) (by omega) (by omega))
        have c2'' : (nI b ≤ (31 : Int32)) = False := eq_false (nI_ge (a := 31) (by omega) (by omega))
        simp only [f_EventLog_isSignal, c1', c2', c2'', if_true, if_false, bIf, bad, f_Reader_fail]
        exact own_x he ft _ _ _ _ _ _ _ _ _ _ _ _
theorem re_4 {m0 log l n S} (L : LG m0 log l) {e new : S_Events} {past : S_Past} (he : EV e new past n) (hS : S ≤ 300) (hn : n < S) {q : Nat} (hq : q ≤ l) (fp c pl x : Int32) {dn : Nat} (hd : dn ≤ 1099511627776) : ER m0 log l n S (f_Reader_readEntry_b110 (log, past, nI q, 0, fp) e pl 4 x (lN dn)) (f_Model_readEntry_b106 (MR m0 new (nI q) 0) pl 4 x c (lN dn)) := by
  obtain ⟨n01, n02, n03, n04, n10, n12, n13, n14, n20, n21, n23, n24, n30, n31, n32, n34, n40, n41, n42, n43⟩ := k_ne
  simp only [f_Reader_readEntry_b110, f_Reader_isMeaningAnother, f_Reader_isMeaningAnother_b9, f_Reader_readOwn, fine0, one0, if_false, if_true, n40, n41, n42, n43, bIf, bindpair]
  simp only [f_Model_readEntry_b106, f_Model_readEntry_b130, f_Model_readEntry_b147, n40, n42, n43, if_false, if_true, mr0]
  rcases rb0 L past fp new (nn := 4) (by omega) hq with ⟨v, q', h2, h3, h4⟩ | ⟨w, fq, x, pl, y, at', h1, h3, h4⟩
  · rw [show f_Reader_readBytes (log, past, nI q, 0, fp) 4 = _ from h3, show f_Model_readBytes (MR m0 new (nI q) 0) 4 = _ from h4]
    simp only [Option.bind_some]
    rw [b200_g _ _ _ _ _ _ n41 n42]
    exact own_end he hS hn h2 fp ⟨⟨dn, hd, rfl⟩, Or.inr (Or.inr (Or.inr (Or.inr ⟨rfl, rfl⟩)))⟩
  · rw [show f_Reader_readBytes (log, past, nI q, 0, fp) 4 = _ from h3, show f_Model_readBytes (MR m0 new (nI q) 0) 4 = _ from h4]
    simp only [Option.bind_some]
    rw [b200_g _ _ _ _ _ _ n41 n42]
    exact own_x he h1 _ _ _ _ _ _ _ _ _ _ _ _
theorem re_1o {m0 log l n S} (L : LG m0 log l) {e new : S_Events} {past : S_Past} (he : EV e new past n) (hS : S ≤ 300) (hn : n < S) {q : Nat} (hq : q ≤ l) (fp c pl : Int32) {dn xx : Nat} (hd : dn ≤ 1099511627776) (hx1 : 1 ≤ xx) (hx : xx ≤ 8) : ER m0 log l n S (f_Reader_readEntry_b110 (log, past, nI q, 0, fp) e pl 1 (nI xx) (lN dn)) (f_Model_readEntry_b106 (MR m0 new (nI q) 0) pl 1 (nI xx) c (lN dn)) := by
  obtain ⟨n01, n02, n03, n04, n10, n12, n13, n14, n20, n21, n23, n24, n30, n31, n32, n34, n40, n41, n42, n43⟩ := k_ne
  have x0 : (nI xx = 0) = False := eq_false (nI_ne0 hx1 (by omega))
  simp only [f_Reader_readEntry_b110, f_Reader_isMeaningAnother, f_Reader_isMeaningAnother_b9, f_Reader_readOwn, fine0, one0, if_false, if_true, n10, n12, n13, n14, x0, bIf, bindpair]
  simp only [f_Model_readEntry_b106, f_Model_readEntry_b130, f_Model_readEntry_b147, n10, n12, n13, n14, if_false, if_true, mr0]
  rcases rb0 L past fp new (nn := xx) hx hq with ⟨v, q', h2, h3, h4⟩ | ⟨w, fq, x, pl, y, at', h1, h3, h4⟩
  · rw [h3, h4]
    simp only [Option.bind_some]
    rw [b200_1 _ _ _ _ _ x0]
    exact own_end he hS hn h2 fp ⟨⟨dn, hd, rfl⟩, Or.inr (Or.inl ⟨rfl, xx, hx1, hx, rfl⟩)⟩
  · rw [h3, h4]
    simp only [Option.bind_some]
    rw [b200_1 _ _ _ _ _ x0]
    exact own_x he h1 _ _ _ _ _ _ _ _ _ _ _ _
theorem re_3o {m0 log l n S} (L : LG m0 log l) {e new : S_Events} {past : S_Past} (he : EV e new past n) (hS : S ≤ 300) (hn : n < S) {q : Nat} (hq : q ≤ l) (fp c pl : Int32) {dn : Nat} (hd : dn ≤ 1099511627776) : ER m0 log l n S (f_Reader_readEntry_b110 (log, past, nI q, 0, fp) e pl 3 0 (lN dn)) (f_Model_readEntry_b106 (MR m0 new (nI q) 0) pl 3 0 c (lN dn)) := by
  obtain ⟨n01, n02, n03, n04, n10, n12, n13, n14, n20, n21, n23, n24, n30, n31, n32, n34, n40, n41, n42, n43⟩ := k_ne
  simp only [f_Reader_readEntry_b110, f_Reader_isMeaningAnother, f_Reader_isMeaningAnother_b9, f_Reader_readOwn, fine0, one0, if_false, if_true, n30, n31, n32, n34, n01, bIf, bindpair]
  simp only [f_Model_readEntry_b106, f_Model_readEntry_b130, f_Model_readEntry_b147, n30, n31, n32, n34, n01, if_false, if_true, mr0]
  rcases rvz L past fp new hq with ⟨v, q', hv, h2, h3, h4⟩ | ⟨w, fq, x, pl, y, at', h1, h3, h4⟩
  · rw [h3, h4]
    simp only [Option.bind_some]
    rw [b200_g _ _ _ _ _ _ n31 n32]
    exact own_end he hS hn h2 fp ⟨⟨dn, hd, rfl⟩, Or.inr (Or.inr (Or.inr (Or.inl ⟨rfl, ⟨v, hv, rfl⟩, rfl⟩)))⟩
  · rw [h3, h4]
    simp only [Option.bind_some]
    rw [b200_g _ _ _ _ _ _ n31 n32]
    exact own_x he h1 _ _ _ _ _ _ _ _ _ _ _ _
