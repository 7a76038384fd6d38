/-! core: contracts in one form, calls in one step -/
/-- the nest's links: fields (owner, index, named class, name, descriptor, host), methods (owner, index, method, host) -/
abbrev km_TF : Type := List (String × Nat × String × String × String × String)
abbrev km_TM : Type := List (String × Nat × MethodName × String)
abbrev km_ty : Type := List (ClassId × FieldType)
/-- what a method takes of the tables: the classes' places, the arrays' classes, the nest's links -/
def km_K (D : va_G) (cl : List vw_C) (tys : km_ty) (nF : km_TF) (nM : km_TM) (U : State) : Prop :=
  va_K D cl tys U ∧ (∀ q ∈ nF, va_Nw (.fieldLinkNest q.1 q.2.1 q.2.2.1 q.2.2.2.1 q.2.2.2.2.1 q.2.2.2.2.2) U) ∧ ∀ q ∈ nM, va_Nw (.methodLinkNest q.1 q.2.1 q.2.2.1 q.2.2.2) U
theorem km_K.warm {D : va_G} {cl : List vw_C} {tys : km_ty} {nF : km_TF} {nM : km_TM} {s U : State} (hW : s.WarmedH U.vm) (h : km_K D cl tys nF nM s) : km_K D cl tys nF nM U :=
  ⟨va_K.moved hW.alike h.1, fun q hq => va_Nw.warmF hW (h.2.1 q hq), fun q hq => va_Nw.warmM hW (h.2.2 q hq)⟩
theorem km_K.same {D : va_G} {cl : List vw_C} {tys : km_ty} {nF : km_TF} {nM : km_TM} {u U : State} (e : u.vm = U.vm) (h : km_K D cl tys nF nM u) : km_K D cl tys nF nM U :=
  ⟨va_K.moved (by rw [e]; exact Vm.Alike.refl _) h.1, fun q hq => va_Nw.same rfl e (h.2.1 q hq), fun q hq => va_Nw.same rfl e (h.2.2 q hq)⟩
theorem km_nF {D : va_G} {cl : List vw_C} {tys : km_ty} {nF : km_TF} {nM : km_TM} {U : State} {A : Array Value} (h : km_K D cl tys nF nM U) (i : Nat) {o r n d hh : String} {x : Nat} (hi : nF[i]? = some (o, x, r, n, d, hh)) : (Cond.fieldLinkNest o x r n d hh).before A U = true :=
  va_Nw.use rfl (h.2.1 _ (List.mem_of_getElem? hi))
theorem km_nM {D : va_G} {cl : List vw_C} {tys : km_ty} {nF : km_TF} {nM : km_TM} {U : State} (h : km_K D cl tys nF nM U) (i : Nat) {o hh : String} {x : Nat} {y : MethodName} (hi : nM[i]? = some (o, x, y, hh)) : va_Nw (.methodLinkNest o x y hh) U :=
  h.2.2 _ (List.mem_of_getElem? hi)
/-- a method's start: its arguments, the heap's size, its world -/
def km_P (D : va_G) (cl : List vw_C) (tys : km_ty) (nF : km_TF) (nM : km_TM) (av : List Value) (sz : Nat) (w : va_W) : Array Value → State → Prop :=
  va_Pc av (fun U => U.heap.size = sz ∧ va_P D cl w U.heap ∧ km_K D cl tys nF nM U ∧ va_D (fun _ => True) w)
def km_B {S : Type} (D : va_G) (cl : List vw_C) (A : Nat → Prop) (wf : S → va_W) (u : S) (t : State) : Prop := va_P D cl (wf u) t.heap ∧ va_D A (wf u)
theorem km_blind {D : va_G} {cl : List vw_C} {tys : km_ty} {nF : km_TF} {nM : km_TM} {av : List Value} {sz : Nat} {w : va_W} : FrameBlind (km_P D cl tys nF nM av sz w) :=
  fun a U g mk q => ⟨q.1, q.2.1, q.2.2.1, km_K.same (u := U) rfl q.2.2.2.1, q.2.2.2.2⟩
theorem km_preS {D : va_G} {cl : List vw_C} {tys : km_ty} {nF : km_TF} {nM : km_TM} {As : List Value} {w : va_W} {s : State} {H : Heap} {A : Nat → Prop} (hK : km_K D cl tys nF nM s) (hP : va_P D cl w H) (hD : va_D A w) : PreS s H (km_P D cl tys nF nM As H.size w) As :=
  ⟨km_blind, fun U hU hW => ⟨rfl, by rw [hU], by rw [hU]; exact hP, hK.warm hW, hD.weaken (fun _ _ _ _ => trivial)⟩⟩
theorem km_preV {D : va_G} {cl : List vw_C} {tys : km_ty} {nF : km_TF} {nM : km_TM} {As : List Value} {w ws : va_W} {s : State} {H : Heap} {A : Nat → Prop} {b q0 ci : Nat} {r : vw_C} {fs : List Value} (hK : km_K D cl tys nF nM s) (hP : va_P D cl w H) (hD : va_D A w) (hc : cl[ci]? = some r) (hP0 : va_P D cl ws H) (he : ws[q0]? = some (b, .inr (ci, fs))) : PreV s H r.1 b (km_P D cl tys nF nM (.ref b :: As) H.size w) As :=
  ⟨km_blind, va_recv hK.1 hP0 hc he, fun U hU hW => ⟨rfl, by rw [hU], by rw [hU]; exact hP, hK.warm hW, hD.weaken (fun _ _ _ _ => trivial)⟩⟩
/-- a contract with an int for its answer, and one with none -/
def km_I (l : Launch) (y : MethodName) (ws : List Cond) (rm : Room) (D : va_G) (cl : List vw_C) (tys : km_ty) (nF : km_TF) (nM : km_TM) (av : List Value) (w : va_W) {S : Type} (post : Int32 → S → Prop) (wf : S → va_W) (mc ms : Nat) : Prop :=
  ∀ sz : Nat, Met l y ws rm (km_P D cl tys nF nM av sz w) (va_Qi post (km_B D cl (va_A w sz) wf) (va_A w sz)) mc ms (va_A w sz)
def km_V (l : Launch) (y : MethodName) (ws : List Cond) (rm : Room) (D : va_G) (cl : List vw_C) (tys : km_ty) (nF : km_TF) (nM : km_TM) (av : List Value) (w : va_W) {S : Type} (post : S → Prop) (wf : S → va_W) (mc ms : Nat) : Prop :=
  ∀ sz : Nat, Met l y ws rm (km_P D cl tys nF nM av sz w) (va_Qv post (km_B D cl (va_A w sz) wf) (va_A w sz)) mc ms (va_A w sz)
/-- what stands at a method's entry -/
def km_E (p : Program) (s : State) (m : MethodId) (meth : Method) (c : Code) (cc : ByteArray) (maxL : Nat) (ret : Option FieldType) (own nm : String) (ws : List Cond) (args : Array Value) : Prop :=
  p.tables.exec = Jvm.exec ∧ c.code = cc ∧ meth.sig.returnType = ret ∧ c.maxLocals = maxL ∧ s.vm.findClass own = some m.cls ∧ (∀ w ∈ ws, w.before args s = true) ∧ meth.locks = false ∧ meth.name = nm
theorem km_startI {l : Launch} {y : MethodName} {ws ws' : List Cond} {rm : Room} {D : va_G} {cl : List vw_C} {tys : km_ty} {nF : km_TF} {nM : km_TM} {av : List Value} {w : va_W} {S : Type} {post : Int32 → S → Prop} {wf : S → va_W} {mc ms : Nat} {cc : ByteArray} {maxL : Nat} {ret : Option FieldType}
    (hy : plainName y.cls = true) (hw : ws = Cond.code y cc maxL ret :: ws') (hn : (lg_sl av).length ≤ maxL)
    (body : ∀ (p : Program) (e : Env) (s : State) (m : MethodId) (below : List Frame) (meth : Method) (c : Code) (A : Nat → Prop) (ls : Array Slot), km_E p s m meth c cc maxL ret y.cls y.name ws av.toArray → (∀ q : Nat, s.heap.size ≤ q → A q) → km_K D cl tys nF nM s → va_P D cl w s.heap → va_D A w → va_S A s.heap s.heap [] → lv_has ls maxL (lv_args 0 av) →
      W p l e rm s m av.toArray below meth c s.heap [] 0 0 (MQ below (va_Qi post (km_B D cl A wf) A) av.toArray s mc ms A) (F0 m 0 ls [])) : km_I l y ws rm D cl tys nF nM av w post wf mc ms := by
  intro sz
  refine Met.ofW hy hw ?_
  intro p e s m args below meth c s₁ B hml hv
  obtain ⟨rfl, hsz, hP, hK, hD0⟩ := hv
  subst hsz
  rw [lg_entry_eq]
  exact body p e s m below meth c (va_A w s.heap.size) _ ⟨B.exec, B.bytes, B.returns, hml, findClass_of_methodNamed B.named, atoms_spec (ws := ws) B.pre, B.notSynchronized, (name_of_methodNamed B.named B.method).1⟩ (fun q h => Or.inr h) hK hP (hD0.self (sz := s.heap.size)) va_S.rf (lv_entry av hn)
theorem km_startV {l : Launch} {y : MethodName} {ws ws' : List Cond} {rm : Room} {D : va_G} {cl : List vw_C} {tys : km_ty} {nF : km_TF} {nM : km_TM} {av : List Value} {w : va_W} {S : Type} {post : S → Prop} {wf : S → va_W} {mc ms : Nat} {cc : ByteArray} {maxL : Nat} {ret : Option FieldType}
    (hy : plainName y.cls = true) (hw : ws = Cond.code y cc maxL ret :: ws') (hn : (lg_sl av).length ≤ maxL)
    (body : ∀ (p : Program) (e : Env) (s : State) (m : MethodId) (below : List Frame) (meth : Method) (c : Code) (A : Nat → Prop) (ls : Array Slot), km_E p s m meth c cc maxL ret y.cls y.name ws av.toArray → (∀ q : Nat, s.heap.size ≤ q → A q) → km_K D cl tys nF nM s → va_P D cl w s.heap → va_D A w → va_S A s.heap s.heap [] → lv_has ls maxL (lv_args 0 av) →
      W p l e rm s m av.toArray below meth c s.heap [] 0 0 (MQ below (va_Qv post (km_B D cl A wf) A) av.toArray s mc ms A) (F0 m 0 ls [])) : km_V l y ws rm D cl tys nF nM av w post wf mc ms := by
  intro sz
  refine Met.ofW hy hw ?_
  intro p e s m args below meth c s₁ B hml hv
  obtain ⟨rfl, hsz, hP, hK, hD0⟩ := hv
  subst hsz
  rw [lg_entry_eq]
  exact body p e s m below meth c (va_A w s.heap.size) _ ⟨B.exec, B.bytes, B.returns, hml, findClass_of_methodNamed B.named, atoms_spec (ws := ws) B.pre, B.notSynchronized, (name_of_methodNamed B.named B.method).1⟩ (fun q h => Or.inr h) hK hP (hD0.self (sz := s.heap.size)) va_S.rf (lv_entry av hn)
/-- words: one list WS for all methods -/
theorem km_good {WS : List Cond} (hg : ∀ w ∈ WS, goodWord w = true) {w0 y' : Cond} (hy : y' ∈ WS) : GoodIn (w0 :: WS) (y' :: WS) := by
  intro w h
  rcases List.mem_cons.mp h with rfl | h
  · exact ⟨List.mem_cons_of_mem _ hy, good_of_word (hg _ hy)⟩
  · exact ⟨List.mem_cons_of_mem _ h, good_of_word (hg _ h)⟩
section KMC
variable {p : Program} {l : Launch} {e : Env} {R : Room} {s : State} {m : MethodId} {args : Array Value} {below : List Frame} {meth : Method} {c : Code} {H : Heap} {locs : List Loc} {cells slots : Nat} {Q : State → Prop}
variable {pc : Nat} {ls : Array Slot} {rest st0 : List Value} {a : Array Value} {A : Nat → Prop} {H0 : Heap} {mc ms : Nat} {D : va_G} {cl : List vw_C} {ws wc wr : va_W}
/-- behind a call with an int for its answer -/
theorem km_ci {S : Type} {post : Int32 → S → Prop} {wf : S → va_W} (hr : va_Run p l e R s m args below meth c H locs cells slots mc ms (F0 m pc ls st0) rest (va_Qi post (km_B D cl (va_A wc H.size) wf) (va_A wc H.size) a) (va_A wc H.size))
    (hP : va_P D cl ws H) (hD : va_D A ws) (hS : va_S A H0 H locs) (hA : ∀ q : Nat, H0.size ≤ q → A q) (isC isR : List Nat) (hC : isC.map (fun i => ws[i]?) = wc.map some) (hR : isR.map (fun i => ws[i]?) = wr.map some) (hn : va_nd isR = true) (hdis : (isR.all fun i => !(isC.contains i)) = true)
    (kk : ∀ (r : Int32) (u : S) (H1 : Heap) (locs1 : List Loc), post r u → va_P D cl (wr ++ wf u) H1 → va_D A (wr ++ wf u) → va_S A H0 H1 locs1 → W p l e R s m args below meth c H1 locs1 (cells + mc) (slots + ms) Q (F0 m (pc + 3) ls (.int r :: rest))) : W p l e R s m args below meth c H locs cells slots Q (F0 m pc ls st0) := by
  have hFc := va_free (wc := wc) hD hS hA isC hC
  refine va_calli hr hS (fun q _ h => hFc q h) hFc (fun r u t H1 locs1 ht hvm hp hB hz1 hk1 hS1 => ?_)
  obtain ⟨hP1, hD1⟩ := hB
  rw [ht] at hP1
  have hd : ∀ i ∈ isR, i ∉ isC := fun i hi => by
    have := List.all_eq_true.mp hdis i hi
    simpa using this
  obtain ⟨hP2, hD2⟩ := va_join (wr := wr) (w1 := wf u) hP hD isC isR hC hR hn hd hk1 hFc hP1 hD1
  exact kk r u H1 locs1 hp hP2 hD2 hS1
/-- behind a call with no answer -/
theorem km_cv {S : Type} {post : S → Prop} {wf : S → va_W} (hr : va_Run p l e R s m args below meth c H locs cells slots mc ms (F0 m pc ls st0) rest (va_Qv post (km_B D cl (va_A wc H.size) wf) (va_A wc H.size) a) (va_A wc H.size))
    (hP : va_P D cl ws H) (hD : va_D A ws) (hS : va_S A H0 H locs) (hA : ∀ q : Nat, H0.size ≤ q → A q) (isC isR : List Nat) (hC : isC.map (fun i => ws[i]?) = wc.map some) (hR : isR.map (fun i => ws[i]?) = wr.map some) (hn : va_nd isR = true) (hdis : (isR.all fun i => !(isC.contains i)) = true)
    (kk : ∀ (u : S) (H1 : Heap) (locs1 : List Loc), post u → va_P D cl (wr ++ wf u) H1 → va_D A (wr ++ wf u) → va_S A H0 H1 locs1 → W p l e R s m args below meth c H1 locs1 (cells + mc) (slots + ms) Q (F0 m (pc + 3) ls rest)) : W p l e R s m args below meth c H locs cells slots Q (F0 m pc ls st0) := by
  have hFc := va_free (wc := wc) hD hS hA isC hC
  refine va_callv hr hS (fun q _ h => hFc q h) hFc (fun u t H1 locs1 ht hvm hp hB hz1 hk1 hS1 => ?_)
  obtain ⟨hP1, hD1⟩ := hB
  rw [ht] at hP1
  have hd : ∀ i ∈ isR, i ∉ isC := fun i hi => by
    have := List.all_eq_true.mp hdis i hi
    simpa using this
  obtain ⟨hP2, hD2⟩ := va_join (wr := wr) (w1 := wf u) hP hD isC isR hC hR hn hd hk1 hFc hP1 hD1
  exact kk u H1 locs1 hp hP2 hD2 hS1
/-- a part of a world, for a call: by its places -/
theorem km_cut (hP : va_P D cl ws H) (isC : List Nat) (hC : isC.map (fun i => ws[i]?) = wc.map some) : va_P D cl wc H := by
  intro k q hk
  have h1 : (isC.map (fun i => ws[i]?))[k]? = some (some q) := by rw [hC, List.getElem?_map, hk]; rfl
  rw [List.getElem?_map] at h1
  cases hi : isC[k]? with
  | none => rw [hi] at h1; cases h1
  | some i => rw [hi] at h1; exact hP i q (Option.some.inj h1)
end KMC
section KMR
variable {p : Program} {l : Launch} {e : Env} {R : Room} {s : State} {m : MethodId} {args : Array Value} {below : List Frame} {meth : Method} {c : Code} {H : Heap} {locs : List Loc} {cells slots : Nat}
variable {pc : Nat} {ls : Array Slot} {rest st0 : List Value} {A : Nat → Prop} {mc ms : Nat} {D : va_G} {cl : List vw_C} {ws wc : va_W} {tys : km_ty} {nF : km_TF} {nM : km_TM}
variable {cc bytes : ByteArray} {nL maxL index n : Nat} {ret0 ret : Option FieldType} {own nm : String} {WS : List Cond} {w0 : Cond} {y : MethodName} {rm : Room} {As : List Value} {Qf : Nat → Array Value → State → Outcome → State → Prop}
abbrev km_D (y : MethodName) (n : Nat) : Prop := y.cls ≠ "java/lang/invoke/MethodHandle" ∧ y.cls ≠ "java/lang/invoke/VarHandle" ∧ (parseMethodDescriptor y.desc).map (fun d => d.parameters.length) = some n
abbrev km_R (rm R : Room) (maxL mc ms cells slots : Nat) : Prop := rm.cells = mc ∧ rm.slots = ms ∧ (rm.frames + 1 ≤ R.frames ∧ 8 + (maxL + 11) + rm.locals ≤ R.locals) ∧ cells + mc ≤ R.cells ∧ slots + ms ≤ R.slots
theorem km_rS (hE : km_E p s m meth c cc nL ret0 own nm (w0 :: WS) args) (hg : ∀ w ∈ WS, goodWord w = true) (hM : ∀ sz : Nat, Met l y (.code y bytes maxL ret :: WS) rm (km_P D cl tys nF nM As sz wc) (Qf sz) mc ms (va_A wc sz))
    (hcode : Cond.code y bytes maxL ret ∈ WS) (hlink : Cond.methodLink own index y ∈ WS) (hstat : Cond.static y ∈ WS) (hini : Cond.initialized y.cls ∈ WS) (hd : km_D y n) (hR : km_R rm R maxL mc ms cells slots)
    (hK : km_K D cl tys nF nM s) (hPc : va_P D cl wc H) (hDc : va_D A wc) (hn : As.length = n) (hl : ls.size = nL) (hst : st0 = As.reverse ++ rest) (hrm : (rest.map fun v => v.category).sum ≤ 8) (hdg : decode cc pc = .ok (.invokestatic index, 3)) :
    va_Run p l e R s m args below meth c H locs cells slots mc ms (F0 m pc ls st0) rest (Qf H.size As.toArray) (va_A wc H.size) := by
  obtain ⟨hx, hb, hr, hml, hown, hts, hlk, -⟩ := hE
  obtain ⟨h1, h2, h3, h4⟩ := hR
  exact va_runS (n := n) (bytes := bytes) (maxL := maxL) (ret := ret) ⟨hx, hb, hml, hown, hts⟩ (hM H.size) ⟨callB_of n hts (km_good hg hcode) rfl h1 h2 (hts _ (List.mem_cons_of_mem _ hini)) (hts _ (List.mem_cons_of_mem _ hlink)) hd h3, hts _ (List.mem_cons_of_mem _ hstat)⟩ (km_preS hK hPc hDc) rfl hn hl hst (lv_room hrm) hdg h4
theorem km_rSN {host : String} (hE : km_E p s m meth c cc nL ret0 own nm (w0 :: WS) args) (hg : ∀ w ∈ WS, goodWord w = true) (hM : ∀ sz : Nat, Met l y (.code y bytes maxL ret :: WS) rm (km_P D cl tys nF nM As sz wc) (Qf sz) mc ms (va_A wc sz))
    (hcode : Cond.code y bytes maxL ret ∈ WS) (hlink : va_Nw (.methodLinkNest own index y host) s) (hstat : Cond.static y ∈ WS) (hini : Cond.initialized y.cls ∈ WS) (hd : km_D y n) (hR : km_R rm R maxL mc ms cells slots)
    (hK : km_K D cl tys nF nM s) (hPc : va_P D cl wc H) (hDc : va_D A wc) (hn : As.length = n) (hl : ls.size = nL) (hst : st0 = As.reverse ++ rest) (hrm : (rest.map fun v => v.category).sum ≤ 8) (hdg : decode cc pc = .ok (.invokestatic index, 3)) :
    va_Run p l e R s m args below meth c H locs cells slots mc ms (F0 m pc ls st0) rest (Qf H.size As.toArray) (va_A wc H.size) := by
  obtain ⟨hx, hb, hr, hml, hown, hts, hlk, -⟩ := hE
  obtain ⟨h1, h2, h3, h4⟩ := hR
  exact va_runSN (n := n) (bytes := bytes) (maxL := maxL) (ret := ret) (host := host) ⟨hx, hb, hml, hown, hts⟩ (hM H.size) ⟨va_cnB n hts (km_good hg hcode) rfl h1 h2 hlink (hts _ (List.mem_cons_of_mem _ hini)) hd h3, hts _ (List.mem_cons_of_mem _ hstat), trivial⟩ (km_preS hK hPc hDc) rfl hn hl hst (lv_room hrm) hdg h4
theorem km_rV {b q0 ci : Nat} {r : vw_C} {fs : List Value} (hE : km_E p s m meth c cc nL ret0 own nm (w0 :: WS) args) (hg : ∀ w ∈ WS, goodWord w = true) (hM : ∀ sz : Nat, Met l y (.code y bytes maxL ret :: WS) rm (km_P D cl tys nF nM (.ref b :: As) sz wc) (Qf sz) mc ms (va_A wc sz))
    (hcode : Cond.code y bytes maxL ret ∈ WS) (hlink : Cond.methodLink own index y ∈ WS) (hinst : Cond.instanceMethod y ∈ WS) (hsel : Cond.selects r.1 y y ∈ WS) (hini : Cond.initialized y.cls ∈ WS) (hd : km_D y n) (hR : km_R rm R maxL mc ms cells slots)
    (hK : km_K D cl tys nF nM s) (hPc : va_P D cl wc H) (hDc : va_D A wc) (hc : cl[ci]? = some r) (hP0 : va_P D cl ws H) (he : ws[q0]? = some (b, .inr (ci, fs))) (hn : As.length = n) (hl : ls.size = nL) (hst : st0 = As.reverse ++ .ref b :: rest) (hrm : (rest.map fun v => v.category).sum ≤ 8) (hdg : decode cc pc = .ok (.invokevirtual index, 3)) :
    va_Run p l e R s m args below meth c H locs cells slots mc ms (F0 m pc ls st0) rest (Qf H.size (Value.ref b :: As).toArray) (va_A wc H.size) := by
  obtain ⟨hx, hb, hr, hml, hown, hts, hlk, -⟩ := hE
  obtain ⟨h1, h2, h3, h4⟩ := hR
  exact va_runV (n := n) (C := r.1) (bytes := bytes) (maxL := maxL) (ret := ret) ⟨hx, hb, hml, hown, hts⟩ (hM H.size) ⟨callB_of n hts (km_good hg hcode) rfl h1 h2 (hts _ (List.mem_cons_of_mem _ hini)) (hts _ (List.mem_cons_of_mem _ hlink)) hd h3, hts _ (List.mem_cons_of_mem _ hinst), hts _ (List.mem_cons_of_mem _ hsel)⟩ (km_preV hK hPc hDc hc hP0 he) rfl hn hl hst (lv_room hrm) hdg h4
theorem km_rVN {host : String} {b q0 ci : Nat} {r : vw_C} {fs : List Value} (hE : km_E p s m meth c cc nL ret0 own nm (w0 :: WS) args) (hg : ∀ w ∈ WS, goodWord w = true) (hM : ∀ sz : Nat, Met l y (.code y bytes maxL ret :: WS) rm (km_P D cl tys nF nM (.ref b :: As) sz wc) (Qf sz) mc ms (va_A wc sz))
    (hcode : Cond.code y bytes maxL ret ∈ WS) (hlink : va_Nw (.methodLinkNest own index y host) s) (hinst : Cond.instanceMethod y ∈ WS) (hsel : Cond.selects r.1 y y ∈ WS) (hini : Cond.initialized y.cls ∈ WS) (hd : km_D y n) (hR : km_R rm R maxL mc ms cells slots)
    (hK : km_K D cl tys nF nM s) (hPc : va_P D cl wc H) (hDc : va_D A wc) (hc : cl[ci]? = some r) (hP0 : va_P D cl ws H) (he : ws[q0]? = some (b, .inr (ci, fs))) (hn : As.length = n) (hl : ls.size = nL) (hst : st0 = As.reverse ++ .ref b :: rest) (hrm : (rest.map fun v => v.category).sum ≤ 8) (hdg : decode cc pc = .ok (.invokevirtual index, 3)) :
    va_Run p l e R s m args below meth c H locs cells slots mc ms (F0 m pc ls st0) rest (Qf H.size (Value.ref b :: As).toArray) (va_A wc H.size) := by
  obtain ⟨hx, hb, hr, hml, hown, hts, hlk, -⟩ := hE
  obtain ⟨h1, h2, h3, h4⟩ := hR
  exact va_runVN (n := n) (C := r.1) (bytes := bytes) (maxL := maxL) (ret := ret) (host := host) ⟨hx, hb, hml, hown, hts⟩ (hM H.size) ⟨va_cnB n hts (km_good hg hcode) rfl h1 h2 hlink (hts _ (List.mem_cons_of_mem _ hini)) hd h3, hts _ (List.mem_cons_of_mem _ hinst), hts _ (List.mem_cons_of_mem _ hsel)⟩ (km_preV hK hPc hDc hc hP0 he) rfl hn hl hst (lv_room hrm) hdg h4
theorem km_rI {b : Nat} (hE : km_E p s m meth c cc nL ret0 own nm (w0 :: WS) args) (hg : ∀ w ∈ WS, goodWord w = true) (hM : ∀ sz : Nat, Met l y (.code y bytes maxL none :: WS) rm (km_P D cl tys nF nM (.ref b :: As) sz wc) (Qf sz) mc ms (va_A wc sz))
    (hcode : Cond.code y bytes maxL none ∈ WS) (hlink : Cond.methodLink own index y ∈ WS) (hinst : Cond.instanceMethod y ∈ WS) (hini : Cond.initialized y.cls ∈ WS) (hy : y.name = "<init>") (hd : km_D y n) (hR : km_R rm R maxL mc ms cells slots)
    (hK : km_K D cl tys nF nM s) (hPc : va_P D cl wc H) (hDc : va_D A wc) (hn : As.length = n) (hl : ls.size = nL) (hst : st0 = As.reverse ++ .ref b :: rest) (hrm : (rest.map fun v => v.category).sum ≤ 8) (hdg : decode cc pc = .ok (.invokespecial index, 3)) :
    va_Run p l e R s m args below meth c H locs cells slots mc ms (F0 m pc ls st0) rest (Qf H.size (Value.ref b :: As).toArray) (va_A wc H.size) := by
  obtain ⟨hx, hb, hr, hml, hown, hts, hlk, -⟩ := hE
  obtain ⟨h1, h2, h3, h4⟩ := hR
  exact va_runI (n := n) (bytes := bytes) (maxL := maxL) ⟨hx, hb, hml, hown, hts⟩ (hM H.size) ⟨callB_of n hts (km_good hg hcode) rfl h1 h2 (hts _ (List.mem_cons_of_mem _ hini)) (hts _ (List.mem_cons_of_mem _ hlink)) hd h3, hy, hts _ (List.mem_cons_of_mem _ hinst)⟩ (km_preS hK hPc hDc) rfl hn hl hst (lv_room hrm) hdg h4
theorem km_rIN {host : String} {b : Nat} (hE : km_E p s m meth c cc nL ret0 own nm (w0 :: WS) args) (hg : ∀ w ∈ WS, goodWord w = true) (hM : ∀ sz : Nat, Met l y (.code y bytes maxL none :: WS) rm (km_P D cl tys nF nM (.ref b :: As) sz wc) (Qf sz) mc ms (va_A wc sz))
    (hcode : Cond.code y bytes maxL none ∈ WS) (hlink : va_Nw (.methodLinkNest own index y host) s) (hinst : Cond.instanceMethod y ∈ WS) (hini : Cond.initialized y.cls ∈ WS) (hy : y.name = "<init>") (hd : km_D y n) (hR : km_R rm R maxL mc ms cells slots)
    (hK : km_K D cl tys nF nM s) (hPc : va_P D cl wc H) (hDc : va_D A wc) (hn : As.length = n) (hl : ls.size = nL) (hst : st0 = As.reverse ++ .ref b :: rest) (hrm : (rest.map fun v => v.category).sum ≤ 8) (hdg : decode cc pc = .ok (.invokespecial index, 3)) :
    va_Run p l e R s m args below meth c H locs cells slots mc ms (F0 m pc ls st0) rest (Qf H.size (Value.ref b :: As).toArray) (va_A wc H.size) := by
  obtain ⟨hx, hb, hr, hml, hown, hts, hlk, -⟩ := hE
  obtain ⟨h1, h2, h3, h4⟩ := hR
  exact va_runIN (n := n) (bytes := bytes) (maxL := maxL) (host := host) ⟨hx, hb, hml, hown, hts⟩ (hM H.size) ⟨va_cnB n hts (km_good hg hcode) rfl h1 h2 hlink (hts _ (List.mem_cons_of_mem _ hini)) hd h3, hy, hts _ (List.mem_cons_of_mem _ hinst)⟩ (km_preS hK hPc hDc) rfl hn hl hst (lv_room hrm) hdg h4
end KMR
section KMA
variable {p : Program} {l : Launch} {e : Env} {R : Room} {s : State} {m : MethodId} {args : Array Value} {below : List Frame} {meth : Method} {c : Code} {H : Heap} {locs : List Loc} {cells slots : Nat} {Q : State → Prop}
variable {cc : ByteArray} {pc : Nat} {ls : Array Slot} {rest : List Value} {D : va_G} {cl : List vw_C} {a : Nat} {tys : km_ty} {ws : va_W}
/-- a reference out of an array: which one is known -/
theorem km_ald (hexec : p.tables.exec = Jvm.exec) (hb : c.code = cc) (hK : va_K D cl tys s) (hP : va_P D cl ws H) (q0 t0 : Nat) {cA : ClassId} {C : String} {n k b : Nat} {f : Nat → Option Nat} (ha : ws[q0]? = some (a, .inl (cA, n, .inr (.inr (.inr (.inr f)))))) (ht : tys[t0]? = some (cA, .object C)) {i : Int32} (hi : i = nI k) (hk : k < n) (hn : n < 2 ^ 31) (hf : f k = some b) (hdg : decode cc pc = .ok (.aaload, 1))
    (kk : W p l e R s m args below meth c H locs cells slots Q (F0 m (pc + 1) ls (.ref b :: rest))) : W p l e R s m args below meth c H locs cells slots Q (F0 m pc ls (.int i :: .ref a :: rest)) := by
  subst hi
  refine va_aldq hexec hb hK hP q0 t0 ha ht (vp_in_nI hk hn) hdg ?_
  rw [nI_clamp (Nat.lt_trans hk hn), hf]
  exact kk
end KMA
