/-! core, third part: a constructor that must know an array class over a class of ours -/
def km_VA (l : Launch) (y : MethodName) (ws : List Cond) (rm : Room) (D : va_G) (cl : List vw_C) (tys : km_ty) (nF : km_TF) (nM : km_TM) (C : String) (av : List Value) (w : va_W) {S : Type} (post : S → Prop) (wf : S → va_W) (mc ms : Nat) : Prop :=
  ∀ sz : Nat, Met l y ws rm (fun v U => km_P D cl tys nF nM av sz w v U ∧ va_AO C U) (va_Qv post (km_B D cl (va_A w sz) wf) (va_A w sz)) mc ms (va_A w sz)
theorem km_startVA {l : Launch} {y : MethodName} {ws ws' : List Cond} {rm : Room} {D : va_G} {cl : List vw_C} {tys : km_ty} {nF : km_TF} {nM : km_TM} {C : String} {av : List Value} {w : va_W} {S : Type} {post : S → Prop} {wf : S → va_W} {mc ms : Nat} {cc : ByteArray} {maxL : Nat} {ret : Option FieldType}
    (hy : plainName y.cls = true) (hw : ws = Cond.code y cc maxL ret :: ws') (hn : (lg_sl av).length ≤ maxL)
    (body : ∀ (p : Program) (e : Env) (s : State) (m : MethodId) (below : List Frame) (meth : Method) (c : Code) (A : Nat → Prop) (ls : Array Slot), km_E p s m meth c cc maxL ret y.cls y.name ws av.toArray → (∀ q : Nat, s.heap.size ≤ q → A q) → km_K D cl tys nF nM s → va_AO C s → va_P D cl w s.heap → va_D A w → va_S A s.heap s.heap [] → lv_has ls maxL (lv_args 0 av) →
      W p l e rm s m av.toArray below meth c s.heap [] 0 0 (MQ below (va_Qv post (km_B D cl A wf) A) av.toArray s mc ms A) (F0 m 0 ls [])) : km_VA l y ws rm D cl tys nF nM C av w post wf mc ms := by
  intro sz
  refine Met.ofW hy hw ?_
  intro p e s m args below meth c s₁ B hml hv
  obtain ⟨⟨rfl, hsz, hP, hK, hD0⟩, hao⟩ := hv
  subst hsz
  rw [lg_entry_eq]
  exact body p e s m below meth c (va_A w s.heap.size) _ ⟨B.exec, B.bytes, B.returns, hml, findClass_of_methodNamed B.named, atoms_spec (ws := ws) B.pre, B.notSynchronized, (name_of_methodNamed B.named B.method).1⟩ (fun q h => Or.inr h) hK hao hP (hD0.self (sz := s.heap.size)) va_S.rf (lv_entry av hn)
