/-! own rows: contracts of methods that make nothing, over worlds whose addresses stay; calls by places -/
abbrev kT (cI cO : ClassId) : List (ClassId × FieldType) := [(cI, .int), (cO, .object "TownLisp$Sheet")]
def fF (j : Nat) : Int32 := match j with
  | 0 => 1
  | 1 => 1
  | 2 => 2
  | 3 => 6
  | 4 => 24
  | 5 => 120
  | _ => 720
/-- what is known of the tables, and of the one static array -/
def kE (D : va_G) (cI cO : ClassId) (tF : Nat) (A : Nat → Prop) (U : State) : Prop :=
  va_K D vwCl (kT cI cO) U ∧ (va_Nw (.methodLinkNest RX2 53 yX3_isMember RX3) U ∧ va_Nw (.methodLinkNest RX2 62 yX3_says RX3) U ∧ va_Nw (.methodLinkNest RX0 25 yX3_says RX3) U) ∧ va_Z "TownLisp" "FACTORIALS" "[I" (.ref tF) A U U.heap ∧ va_T .int tF 7 (fun j => .int (fF j)) A U U.heap
theorem kE.warm {D : va_G} {cI cO : ClassId} {tF : Nat} {A B : Nat → Prop} {u U : State} (h : kE D cI cO tF A u) (hW : u.WarmedH U.vm) (hk : ∀ a : Nat, a < u.heap.size → ¬ A a → U.heap[a]? = u.heap[a]?) (hBA : ∀ q, B q → A q) : kE D cI cO tF B U := by
  obtain ⟨h1, ⟨h2, h3, h4⟩, h5, h6⟩ := h
  refine ⟨va_K.moved hW.alike h1, ⟨h2.warmM hW, h3.warmM hW, h4.warmM hW⟩, ?_, ?_⟩
  · exact ((h5.moved hW.alike).kept hk).narrow hBA
  · exact ((h6.moved hW.alike).kept hk).narrow hBA
theorem kE.calling {D : va_G} {cI cO : ClassId} {tF : Nat} {A : Nat → Prop} {U : State} (h : kE D cI cO tF A U) (g : JFrame) (mk : MethodId) (a : Array Value) : kE D cI cO tF A (U.calling g mk a) := by
  obtain ⟨h1, ⟨h2, h3, h4⟩, h5, h6⟩ := h
  have e : U.vm.Alike (U.calling g mk a).vm := Vm.Alike.refl U.vm
  exact ⟨va_K.moved e h1, ⟨va_Nw.same rfl rfl h2, va_Nw.same rfl rfl h3, va_Nw.same rfl rfl h4⟩, va_Z.moved e h5, va_T.moved e h6⟩
def Qp (D : va_G) (r : Option Value) (w' : va_W) (A : Nat → Prop) : Array Value → State → Outcome → State → Prop := fun _ st oc t => (oc = .returned r ∧ va_P D vwCl w' t.heap) ∧ va_F A st t
/-- THE CONTRACT of a method that makes nothing: from the world w, with the arguments av, it answers r and leaves the world w' -/
def Ct (l : Launch) (y : MethodName) (ws : List Cond) (rm : Room) (D : va_G) (cI cO : ClassId) (tF : Nat) (av : List Value) (w : va_W) (r : Option Value) (w' : va_W) : Prop :=
  ∀ sz : Nat, Met l y ws rm (va_Pc av (fun U => U.heap.size = sz ∧ va_P D vwCl w U.heap ∧ kE D cI cO tF (va_A w sz) U ∧ va_D (fun _ => True) w)) (Qp D r w' (va_A w sz)) 0 0 (va_A w sz)
/-- what stands through a method's walk -/
def Bx (p : Program) (s : State) (m : MethodId) (args : Array Value) (meth : Method) (c : Code) (cc : ByteArray) (nL : Nat) (ret : Option FieldType) (Ts : List Cond) (own : String) (D : va_G) (cI cO : ClassId) (tF : Nat) (A : Nat → Prop) : Prop :=
  p.tables.exec = Jvm.exec ∧ c.code = cc ∧ meth.sig.returnType = ret ∧ c.maxLocals = nL ∧ (∀ w ∈ Ts, w.before args s = true) ∧ s.vm.findClass own = some m.cls ∧ meth.locks = false ∧ kE D cI cO tF A s ∧ ∀ q : Nat, s.heap.size ≤ q → A q
theorem Ct.of {l : Launch} {y : MethodName} {ws ws' : List Cond} {rm : Room} {D : va_G} {cI cO : ClassId} {tF : Nat} {av : List Value} {w : va_W} {r : Option Value} {w' : va_W} {cc : ByteArray} {maxL : Nat} {ret : Option FieldType} {own : String} (hy : plainName y.cls = true) (hw : ws = Cond.code y cc maxL ret :: ws') (ho : y.cls = own) (hlen : (lg_sl av).length ≤ maxL)
    (body : ∀ (p : Program) (e : Env) (s : State) (m : MethodId) (args : Array Value) (below : List Frame) (meth : Method) (c : Code) (A : Nat → Prop) (ls : Array Slot), Bx p s m args meth c cc maxL ret ws own D cI cO tF A → va_P D vwCl w s.heap → va_D A w → va_S A s.heap s.heap [] → lv_has ls maxL (lv_args 0 av) →
      W p l e rm s m args below meth c s.heap [] 0 0 (MQ below (Qp D r w' A) args s 0 0 A) (F0 m 0 ls [])) : Ct l y ws rm D cI cO tF av w r w' := by
  intro sz
  refine Met.ofW (cc := cc) (maxL := maxL) (ret := ret) hy hw ?_
  intro p e s m args below meth c s₁ B hml hv
  obtain ⟨rfl, hsz, hP, hK, hD0⟩ := hv
  subst hsz
  rw [lg_entry_eq]
  subst ho
  exact body p e s m _ below meth c (va_A w s.heap.size) _ ⟨B.exec, B.bytes, B.returns, hml, atoms_spec (ws := ws) B.pre, findClass_of_methodNamed B.named, B.notSynchronized, hK, fun q h => Or.inr h⟩ hP (hD0.self (sz := s.heap.size)) va_S.rf (lv_entry av hlen)
/-- cells set at places -/
def kq_set (w : va_W) : List Nat → va_W → va_W
  | i :: is, q :: qs => kq_set (w.set i q) is qs
  | _, _ => w
theorem kq_set_out : ∀ (is : List Nat) (qs w : va_W) (k : Nat), k ∉ is → (kq_set w is qs)[k]? = w[k]?
  | [], _, w, k, _ => by simp [kq_set]
  | i :: is, [], w, k, _ => by simp [kq_set]
  | i :: is, q :: qs, w, k, h => by
    have h1 : i ≠ k := fun e => h (by rw [e]; exact List.mem_cons_self)
    rw [kq_set, kq_set_out is qs (w.set i q) k (fun z => h (List.mem_cons_of_mem _ z)), List.getElem?_set_ne h1]
theorem kq_set_in : ∀ (is : List Nat) (qs w : va_W), va_nd is = true → is.length = qs.length → (∀ i ∈ is, i < w.length) → ∀ (j i : Nat), is[j]? = some i → (kq_set w is qs)[i]? = qs[j]?
  | [], _, w, _, _, _, j, i, h => by simp at h
  | i0 :: is, [], w, _, hl, _, j, i, h => by simp at hl
  | i0 :: is, q :: qs, w, hn, hl, hlt, j, i, h => by
    simp only [va_nd, Bool.and_eq_true, decide_eq_true_eq] at hn
    cases j with
    | zero =>
      simp only [List.getElem?_cons_zero, Option.some.injEq] at h
      subst h
      rw [kq_set, kq_set_out is qs _ _ hn.1]
      have := hlt i0 List.mem_cons_self
      simp [this]
    | succ j =>
      simp only [List.getElem?_cons_succ] at h ⊢
      rw [kq_set]
      exact kq_set_in is qs (w.set i0 q) hn.2 (by simpa using hl) (fun i hi => by rw [List.length_set]; exact hlt i (List.mem_cons_of_mem _ hi)) j i h
/-- behind a call: the callee's cells as it left them, the rest as it was -/
theorem kq_back {A : Nat → Prop} {D : va_G} {w wc wc' w' : va_W} {H H1 : Heap} (hP : va_P D vwCl w H) (hD : va_D A w) (isC : List Nat) (hC : isC.map (fun i => w[i]?) = wc.map some) (hn : va_nd isC = true) (hE : kq_set w isC wc' = w') (ha : wc'.map (fun q => q.1) = wc.map (fun q => q.1))
    (hk : ∀ q : Nat, q < H.size → ¬ va_A wc H.size q → H1[q]? = H[q]?) (hP1 : va_P D vwCl wc' H1) : va_P D vwCl w' H1 ∧ va_D A w' := by
  have at' : ∀ (k : Nat) (q : Nat × va_E), wc[k]? = some q → ∃ i : Nat, isC[k]? = some i ∧ w[i]? = some q := by
    intro k q hq
    have h1 : (isC.map (fun i => w[i]?))[k]? = some (some q) := by rw [hC, List.getElem?_map, hq]; rfl
    rw [List.getElem?_map] at h1
    cases hi : isC[k]? with
    | none => rw [hi] at h1; cases h1
    | some i => rw [hi] at h1; exact ⟨i, rfl, Option.some.inj h1⟩
  have hlc : isC.length = wc.length := by simpa using congrArg List.length hC
  have hlc' : wc'.length = wc.length := by simpa using congrArg List.length ha
  have hlt : ∀ i ∈ isC, i < w.length := by
    intro i hi
    obtain ⟨k, hk1⟩ := List.getElem?_of_mem hi
    have hkl : k < wc.length := by rw [← hlc]; exact (List.getElem?_eq_some_iff.mp hk1).1
    obtain ⟨i', h1, h2⟩ := at' k wc[k] (List.getElem?_eq_getElem hkl)
    rw [hk1] at h1
    cases h1
    exact (List.getElem?_eq_some_iff.mp h2).1
  have key : ∀ (k : Nat) (q : Nat × va_E), w'[k]? = some q → (∃ j : Nat, isC[j]? = some k ∧ wc'[j]? = some q ∧ ∃ e, w[k]? = some (q.1, e)) ∨ (k ∉ isC ∧ w[k]? = some q) := by
    intro k q hq
    by_cases hm : k ∈ isC
    · obtain ⟨j, hj⟩ := List.getElem?_of_mem hm
      have h1 := kq_set_in isC wc' w hn (hlc.trans hlc'.symm) hlt j k hj
      rw [hE, hq] at h1
      have hj2 : j < wc.length := by rw [← hlc]; exact (List.getElem?_eq_some_iff.mp hj).1
      obtain ⟨i', g1, g2⟩ := at' j wc[j] (List.getElem?_eq_getElem hj2)
      rw [hj] at g1
      cases g1
      have h2 : (wc'.map (fun q => q.1))[j]? = (wc.map (fun q => q.1))[j]? := by rw [ha]
      rw [List.getElem?_map, List.getElem?_map, ← h1, List.getElem?_eq_getElem hj2] at h2
      simp only [Option.map_some, Option.some.injEq] at h2
      exact Or.inl ⟨j, hj, h1.symm, (wc[j]).2, by rw [g2, h2]⟩
    · exact Or.inr ⟨hm, by rw [← kq_set_out isC wc' w k hm, hE]; exact hq⟩
  refine ⟨fun k q hq => ?_, fun i j x y hx hy hxy => ?_, fun k q hq => ?_⟩
  · rcases key k q hq with ⟨j, h1, h2, -⟩ | ⟨h1, h2⟩
    · exact hP1 j q h2
    · have hl := (hP k q h2).lt
      refine (hP k q h2).kept (hk q.1 hl ?_)
      rintro (⟨k2, e, h⟩ | h)
      · obtain ⟨i, h3, h4⟩ := at' k2 (q.1, e) h
        have hij := hD.1 k i q (q.1, e) h2 h4 rfl
        subst hij
        exact h1 (List.mem_of_getElem? h3)
      · omega
  · have gx : ∃ e, w[i]? = some (x.1, e) := by
      rcases key i x hx with ⟨-, -, -, h⟩ | ⟨-, h⟩
      · exact h
      · exact ⟨x.2, h⟩
    have gy : ∃ e, w[j]? = some (y.1, e) := by
      rcases key j y hy with ⟨-, -, -, h⟩ | ⟨-, h⟩
      · exact h
      · exact ⟨y.2, h⟩
    obtain ⟨e1, g1⟩ := gx
    obtain ⟨e2, g2⟩ := gy
    exact hD.1 i j _ _ g1 g2 hxy
  · rcases key k q hq with ⟨-, -, -, e, h⟩ | ⟨-, h⟩
    · exact hD.2 k (q.1, e) h
    · exact hD.2 k q h
section KC
variable {p : Program} {l : Launch} {e : Env} {R : Room} {s : State} {m : MethodId} {args : Array Value} {below : List Frame} {meth : Method} {c : Code} {H : Heap} {locs : List Loc} {cells slots : Nat} {Q : State → Prop}
variable {cc : ByteArray} {pc : Nat} {ls : Array Slot} {rest st0 : List Value} {D : va_G} {A : Nat → Prop} {cI cO : ClassId} {tF : Nat}
variable {y : MethodName} {bytes : ByteArray} {maxL nL n index : Nat} {ret ret0 : Option FieldType} {ws Ts : List Cond} {rm : Room} {own C host : String} {b : Addr} {As : List Value} {w wc wc' w' : va_W} {r : Option Value}
/-- the callee's start, out of the caller's world -/
theorem kq_pre {av : List Value} (hE : kE D cI cO tF A s) (hA : ∀ q : Nat, s.heap.size ≤ q → A q) (hP : va_P D vwCl w H) (hD : va_D A w) (hS : va_S A s.heap H locs) (isC : List Nat) (hC : isC.map (fun i => w[i]?) = wc.map some) (hn : va_nd isC = true) :
    FrameBlind (va_Pc av (fun U => U.heap.size = H.size ∧ va_P D vwCl wc U.heap ∧ kE D cI cO tF (va_A wc H.size) U ∧ va_D (fun _ => True) wc)) ∧ ∀ U : State, U.heap = H → s.WarmedH U.vm → va_Pc av (fun U => U.heap.size = H.size ∧ va_P D vwCl wc U.heap ∧ kE D cI cO tF (va_A wc H.size) U ∧ va_D (fun _ => True) wc) av.toArray U := by
  refine ⟨fun a U g mk q => ?_, fun U hU hW => ⟨rfl, by rw [hU], ?_, ?_, ?_⟩⟩
  · obtain ⟨q0, q1, q2, q3, q4⟩ := q
    exact ⟨q0, q1, q2, q3.calling g mk a, q4⟩
  · rw [hU]
    intro k q hq
    have h1 : (isC.map (fun i => w[i]?))[k]? = some (some q) := by rw [hC, List.getElem?_map, hq]; rfl
    rw [List.getElem?_map] at h1
    cases hi : isC[k]? with
    | none => rw [hi] at h1; cases h1
    | some i => rw [hi] at h1; exact hP i q (Option.some.inj h1)
  · exact hE.warm hW (fun a h1 h2 => by rw [hU]; exact hS.2.1 a h1 h2) (va_free hD hS hA isC hC)
  · exact (hD.sub isC hn hC).weaken (fun _ _ _ _ => trivial)
/-- a call's run turned into the walk behind it -/
theorem kq_go (hr : va_Run p l e R s m args below meth c H locs cells slots 0 0 (F0 m pc ls st0) rest (Qp D r wc' (va_A wc H.size) As.toArray) (va_A wc H.size)) (hA : ∀ q : Nat, s.heap.size ≤ q → A q) (hP : va_P D vwCl w H) (hD : va_D A w) (hS : va_S A s.heap H locs) (isC : List Nat) (hC : isC.map (fun i => w[i]?) = wc.map some) (hn : va_nd isC = true) (hE : kq_set w isC wc' = w') (ha : wc'.map (fun q => q.1) = wc.map (fun q => q.1))
    (kk : ∀ (H1 : Heap) (locs1 : List Loc), va_P D vwCl w' H1 → va_D A w' → va_S A s.heap H1 locs1 → W p l e R s m args below meth c H1 locs1 cells slots Q (F0 m (pc + 3) ls (r.toList ++ rest))) : W p l e R s m args below meth c H locs cells slots Q (F0 m pc ls st0) := by
  have hF := va_free hD hS hA isC hC
  intro T hT X
  obtain ⟨v, st₀, t, T', L, h0, X', hL, e1, e2, ⟨⟨hv, hp⟩, hz, hk⟩, st⟩ := hr T hT X
  cases hv
  rw [h0] at hz hk
  rw [← e1] at hz hk hp
  obtain ⟨hP2, hD2⟩ := kq_back hP hD isC hC hn hE ha hk hp
  obtain ⟨t2, a1, b1⟩ := kk T'.heap (locs ++ L) hP2 hD2 ⟨Nat.le_trans hS.1 hz, fun q h1 h2 => by rw [hk q (Nat.lt_of_lt_of_le h1 hS.1) (fun z => h2 (hF q z))]; exact hS.2.1 q h1 h2, fun q hq => by
      rcases List.mem_append.mp hq with h | h
      · exact hS.2.2 q h
      · exact hF _ (hL q h)⟩ T' rfl X'
  exact ⟨t2, st t2 a1, b1⟩
/-- invokevirtual -/
theorem kc_V (B : Bx p s m args meth c cc nL ret0 Ts own D cI cO tF A) (hM : Ct l y ws rm D cI cO tF (.ref b :: As) wc r wc') (cw : CallW R s args own C index y bytes maxL ret ws rm 0 0 n) (hP : va_P D vwCl w H) (hD : va_D A w) (hS : va_S A s.heap H locs) (isC : List Nat) (hC : isC.map (fun i => w[i]?) = wc.map some) (hn : va_nd isC = true) (hE : kq_set w isC wc' = w') (ha : wc'.map (fun q => q.1) = wc.map (fun q => q.1))
    (q0 ci : Nat) {q : vw_C} {fs : List Value} (hci : vwCl[ci]? = some q) (hq : w[q0]? = some (b, .inr (ci, fs))) (hqC : q.1 = C) (hnA : As.length = n) (hsz : ls.size = nL) (hst : st0 = As.reverse ++ .ref b :: rest) (hroom : (rest.map fun v => v.category).sum ≤ 8) (hdg : decode cc pc = .ok (.invokevirtual index, 3)) (hf : cells ≤ R.cells ∧ slots ≤ R.slots)
    (kk : ∀ (H1 : Heap) (locs1 : List Loc), va_P D vwCl w' H1 → va_D A w' → va_S A s.heap H1 locs1 → W p l e R s m args below meth c H1 locs1 cells slots Q (F0 m (pc + 3) ls (r.toList ++ rest))) : W p l e R s m args below meth c H locs cells slots Q (F0 m pc ls st0) := by
  obtain ⟨hx, hb, -, hml, hts, hown, -, hK, hA⟩ := B
  obtain ⟨g1, g2⟩ := kq_pre (av := .ref b :: As) hK hA hP hD hS isC hC hn
  have hrv := va_recv hK.1 hP hci hq
  rw [hqC] at hrv
  exact kq_go (As := .ref b :: As) (va_runV (g := F0 m pc ls st0) ⟨hx, hb, hml, hown, hts⟩ (hM H.size) cw ⟨g1, hrv, g2⟩ rfl hnA hsz hst (lv_room hroom) hdg hf) hA hP hD hS isC hC hn hE ha kk
/-- invokestatic -/
theorem kc_S (B : Bx p s m args meth c cc nL ret0 Ts own D cI cO tF A) (hM : Ct l y ws rm D cI cO tF As wc r wc') (cw : CallB R s args own index y bytes maxL ret ws rm 0 0 n ∧ (Cond.static y).before args s = true) (hP : va_P D vwCl w H) (hD : va_D A w) (hS : va_S A s.heap H locs) (isC : List Nat) (hC : isC.map (fun i => w[i]?) = wc.map some) (hn : va_nd isC = true) (hE : kq_set w isC wc' = w') (ha : wc'.map (fun q => q.1) = wc.map (fun q => q.1))
    (hnA : As.length = n) (hsz : ls.size = nL) (hst : st0 = As.reverse ++ rest) (hroom : (rest.map fun v => v.category).sum ≤ 8) (hdg : decode cc pc = .ok (.invokestatic index, 3)) (hf : cells ≤ R.cells ∧ slots ≤ R.slots)
    (kk : ∀ (H1 : Heap) (locs1 : List Loc), va_P D vwCl w' H1 → va_D A w' → va_S A s.heap H1 locs1 → W p l e R s m args below meth c H1 locs1 cells slots Q (F0 m (pc + 3) ls (r.toList ++ rest))) : W p l e R s m args below meth c H locs cells slots Q (F0 m pc ls st0) := by
  obtain ⟨hx, hb, -, hml, hts, hown, -, hK, hA⟩ := B
  exact kq_go (va_runS (g := F0 m pc ls st0) ⟨hx, hb, hml, hown, hts⟩ (hM H.size) cw (kq_pre hK hA hP hD hS isC hC hn) rfl hnA hsz hst (lv_room hroom) hdg hf) hA hP hD hS isC hC hn hE ha kk
/-- invokestatic of a nest mate's private method -/
theorem kc_SN (B : Bx p s m args meth c cc nL ret0 Ts own D cI cO tF A) (hM : Ct l y ws rm D cI cO tF As wc r wc') (cw : va_CN R s args own index y host bytes maxL ret ws rm 0 0 n ∧ (Cond.static y).before args s = true ∧ True) (hP : va_P D vwCl w H) (hD : va_D A w) (hS : va_S A s.heap H locs) (isC : List Nat) (hC : isC.map (fun i => w[i]?) = wc.map some) (hn : va_nd isC = true) (hE : kq_set w isC wc' = w') (ha : wc'.map (fun q => q.1) = wc.map (fun q => q.1))
    (hnA : As.length = n) (hsz : ls.size = nL) (hst : st0 = As.reverse ++ rest) (hroom : (rest.map fun v => v.category).sum ≤ 8) (hdg : decode cc pc = .ok (.invokestatic index, 3)) (hf : cells ≤ R.cells ∧ slots ≤ R.slots)
    (kk : ∀ (H1 : Heap) (locs1 : List Loc), va_P D vwCl w' H1 → va_D A w' → va_S A s.heap H1 locs1 → W p l e R s m args below meth c H1 locs1 cells slots Q (F0 m (pc + 3) ls (r.toList ++ rest))) : W p l e R s m args below meth c H locs cells slots Q (F0 m pc ls st0) := by
  obtain ⟨hx, hb, -, hml, hts, hown, -, hK, hA⟩ := B
  exact kq_go (va_runSN (g := F0 m pc ls st0) ⟨hx, hb, hml, hown, hts⟩ (hM H.size) cw (kq_pre hK hA hP hD hS isC hC hn) rfl hnA hsz hst (lv_room hroom) hdg hf) hA hP hD hS isC hC hn hE ha kk
/-- ireturn: int -/
theorem kr_i {v x : Int32} (B : Bx p s m args meth c cc nL (some .int) Ts own D cI cO tF A) (hP : va_P D vwCl w H) (hS : va_S A s.heap H locs) (hw : w = w') (hv : v = x) (hdg : decode cc pc = .ok (.ireturn, 1)) : W p l e R s m args below meth c H locs 0 0 (MQ below (Qp D (some (.int x)) w' A) args s 0 0 A) (F0 m pc ls [.int v]) := by
  obtain ⟨hx, hb, hr, hml, hts, hown, hlocks, hK, hA⟩ := B
  subst hw; subst hv
  exact W.iret hx hb hr (fun t ht hW => ⟨⟨rfl, by rw [ht]; exact hP⟩, hS.F ht⟩) hS.2.2 hdg hlocks
/-- ireturn: boolean -/
theorem kr_z {v x : Int32} (B : Bx p s m args meth c cc nL (some .boolean) Ts own D cI cO tF A) (hP : va_P D vwCl w H) (hS : va_S A s.heap H locs) (hw : w = w') (hv : v = x) (h01 : v = 0 ∨ v = 1) (hdg : decode cc pc = .ok (.ireturn, 1)) : W p l e R s m args below meth c H locs 0 0 (MQ below (Qp D (some (.int x)) w' A) args s 0 0 A) (F0 m pc ls [.int v]) := by
  obtain ⟨hx, hb, hr, hml, hts, hown, hlocks, hK, hA⟩ := B
  subst hw; subst hv
  exact W.zret hx hb hr (by rcases h01 with rfl | rfl <;> rfl) (fun t ht hW => ⟨⟨rfl, by rw [ht]; exact hP⟩, hS.F ht⟩) hS.2.2 hdg hlocks
/-- lreturn -/
theorem kr_l {v x : Int64} (B : Bx p s m args meth c cc nL (some .long) Ts own D cI cO tF A) (hP : va_P D vwCl w H) (hS : va_S A s.heap H locs) (hw : w = w') (hv : v = x) (hdg : decode cc pc = .ok (.lreturn, 1)) : W p l e R s m args below meth c H locs 0 0 (MQ below (Qp D (some (.long x)) w' A) args s 0 0 A) (F0 m pc ls [.long v]) := by
  obtain ⟨hx, hb, hr, hml, hts, hown, hlocks, hK, hA⟩ := B
  subst hw; subst hv
  exact W.lret hx hb hr (fun t ht hW => ⟨⟨rfl, by rw [ht]; exact hP⟩, hS.F ht⟩) hS.2.2 hdg hlocks
/-- return -/
theorem kr_v (B : Bx p s m args meth c cc nL none Ts own D cI cO tF A) (hP : va_P D vwCl w H) (hS : va_S A s.heap H locs) (hw : w = w') (hdg : decode cc pc = .ok (.return_, 1)) : W p l e R s m args below meth c H locs 0 0 (MQ below (Qp D none w' A) args s 0 0 A) (F0 m pc ls []) := by
  obtain ⟨hx, hb, hr, hml, hts, hown, hlocks, hK, hA⟩ := B
  subst hw
  exact W.vret hx hb hr (fun t ht hW => ⟨⟨rfl, by rw [ht]; exact hP⟩, hS.F ht⟩) hS.2.2 hdg hlocks
end KC
