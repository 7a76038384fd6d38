/-! words that the walks take of the tables -/
set_option maxRecDepth 100000 in
theorem mw_12 : Jvm.Cond.classLink "SealedChainLaw" (7 : Nat) "SealedChain" ∈ kmW := km_w 12 (by first | rfl | decide +kernel) (by first | rfl | decide +kernel)
set_option maxRecDepth 100000 in
theorem mw_13 : Jvm.Cond.instantiable "SealedChain" (5 : Nat) ∈ kmW := km_w 13 (by first | rfl | decide +kernel) (by first | rfl | decide +kernel)
set_option maxRecDepth 100000 in
theorem mw_14 : Jvm.Cond.methodLink "SealedChainLaw" (9 : Nat) y_Ch_init ∈ kmW := km_w 14 (by first | rfl | decide +kernel) (by first | rfl | decide +kernel)
set_option maxRecDepth 100000 in
theorem mw_15 : Jvm.Cond.instanceMethod y_Ch_init ∈ kmW := km_w 15 (by first | rfl | decide +kernel) (by first | rfl | decide +kernel)
set_option maxRecDepth 100000 in
theorem mw_16 : Jvm.Cond.code y_Ch_init prog_1_method_1_code (2 : Nat) (Option.none : Option Jvm.ClassFile.FieldType) ∈ kmW := km_w 16 (by first | rfl | decide +kernel) (by first | rfl | decide +kernel)
set_option maxRecDepth 100000 in
theorem mw_421 : Jvm.Cond.classLink "SealedChainLaw" (10 : Nat) "SealedChainModel" ∈ kmW := km_w 421 (by first | rfl | decide +kernel) (by first | rfl | decide +kernel)
set_option maxRecDepth 100000 in
theorem mw_422 : Jvm.Cond.instantiable "SealedChainModel" (31 : Nat) ∈ kmW := km_w 422 (by first | rfl | decide +kernel) (by first | rfl | decide +kernel)
set_option maxRecDepth 100000 in
theorem mw_423 : Jvm.Cond.methodLink "SealedChainLaw" (12 : Nat) y_Md_init ∈ kmW := km_w 423 (by first | rfl | decide +kernel) (by first | rfl | decide +kernel)
set_option maxRecDepth 100000 in
theorem mw_424 : Jvm.Cond.instanceMethod y_Md_init ∈ kmW := km_w 424 (by first | rfl | decide +kernel) (by first | rfl | decide +kernel)
set_option maxRecDepth 100000 in
theorem mw_425 : Jvm.Cond.code y_Md_init prog_8_method_1_code (2 : Nat) (Option.none : Option Jvm.ClassFile.FieldType) ∈ kmW := km_w 425 (by first | rfl | decide +kernel) (by first | rfl | decide +kernel)
theorem km_rIA {p : Program} {l : Launch} {e : Env} {R : Room} {s : State} {m : MethodId} {args : Array Value} {below : List Frame} {meth : Method} {c : Code} {H : Heap} {locs : List Loc} {cells slots pc : Nat} {ls : Array Slot} {rest st0 : List Value} {A : Nat → Prop} {mc ms : Nat} {D : va_G} {cl : List vw_C} {wc : va_W} {tys : km_ty} {nF : km_TF} {nM : km_TM} {cc bytes : ByteArray} {nL maxL index n : Nat} {ret0 : Option FieldType} {own nm C : String} {WS : List Cond} {w0 : Cond} {y : MethodName} {rm : Room} {As : List Value} {Qf : Nat → Array Value → State → Outcome → State → Prop} {b : Nat} (hE : km_E p s m meth c cc nL ret0 own nm (w0 :: WS) args) (hg : ∀ w ∈ WS, goodWord w = true) (hM : ∀ sz : Nat, Met l y (.code y bytes maxL none :: WS) rm (fun v U => km_P D cl tys nF nM (.ref b :: As) sz wc v U ∧ va_AO C U) (Qf sz) mc ms (va_A wc sz))
    (hcode : Cond.code y bytes maxL none ∈ WS) (hlink : Cond.methodLink own index y ∈ WS) (hinst : Cond.instanceMethod y ∈ WS) (hini : Cond.initialized y.cls ∈ WS) (hy : y.name = "<init>") (hd : km_D y n) (hR : km_R rm R maxL mc ms cells slots)
    (hK : km_K D cl tys nF nM s) (hao : va_AO C s) (hPc : va_P D cl wc H) (hDc : va_D A wc) (hn : As.length = n) (hl : ls.size = nL) (hst : st0 = As.reverse ++ .ref b :: rest) (hrm : (rest.map fun v => v.category).sum ≤ 8) (hdg : decode cc pc = .ok (.invokespecial index, 3)) :
    va_Run p l e R s m args below meth c H locs cells slots mc ms (F0 m pc ls st0) rest (Qf H.size (Value.ref b :: As).toArray) (va_A wc H.size) := by
  obtain ⟨hx, hb, hr, hml, hown, hts, hlk, -⟩ := hE
  obtain ⟨h1, h2, h3, h4⟩ := hR
  refine va_runI (n := n) (bytes := bytes) (maxL := maxL) ⟨hx, hb, hml, hown, hts⟩ (hM H.size) ⟨callB_of n hts (km_good hg hcode) rfl h1 h2 (hts _ (List.mem_cons_of_mem _ hini)) (hts _ (List.mem_cons_of_mem _ hlink)) hd h3, hy, hts _ (List.mem_cons_of_mem _ hinst)⟩ ⟨fun a U g mk q => ⟨km_blind a U g mk q.1, va_AO.moved (u := U) (U := U.calling g mk a) (Vm.Alike.refl U.vm) q.2⟩, fun U hU hW => ⟨(km_preS hK hPc hDc).2 U hU hW, va_AO.moved hW.alike hao⟩⟩ rfl hn hl hst (lv_room hrm) hdg h4
set_option maxRecDepth 100000 in
theorem km_rowsF : kmF.map (fun q => some (Cond.fieldLinkNest q.1 q.2.1 q.2.2.1 q.2.2.2.1 q.2.2.2.2.1 q.2.2.2.2.2)) = [34, 35, 37, 39, 40, 42, 45, 67, 69, 71, 86, 87, 89, 91, 93, 94, 96, 98, 100, 101, 122, 124, 126, 128, 130, 132, 134, 136, 163, 165, 167].map (fun i => tables_1[i]?) := by decide +kernel
set_option maxRecDepth 100000 in
theorem km_rowsM : kmM.map (fun q => some (Cond.methodLinkNest q.1 q.2.1 q.2.2.1 q.2.2.2)) = [23, 29, 62, 81, 158, 210, 214, 222, 229, 233, 245, 249, 256, 263, 271, 275, 279, 283, 287, 291, 302, 307, 311, 319, 324, 328, 329, 333, 337, 346, 350, 364, 368, 373, 385].map (fun i => tables_1[i]?) := by decide +kernel
theorem km_inT {w : Cond} {is : List Nat} (h : some w ∈ is.map (fun i => tables_1[i]?)) : w ∈ lw_tbl := by
  obtain ⟨i, -, hi⟩ := List.mem_map.mp h
  exact List.mem_append_right _ (List.mem_of_getElem? hi)
set_option maxHeartbeats 4000000 in
set_option maxRecDepth 100000 in
theorem law_go (RI : RIT) (st_ask : ls_ask RI) (st_route : ls_route RI) (st_router : ls_router RI) (st_start : ls_start RI) (st_promise : ls_promise RI) (st_accept : ls_accept RI) (st_tell : ls_tell RI) (st_crash : ls_crash RI) (st_restart : ls_restart RI) (st_retire : ls_retire RI) (st_look : ls_look RI) (st_value : ls_value RI) (st_promised : ls_promised RI) (st_vote : ls_vote RI) (st_known : ls_known RI) (st_reply : ls_reply RI) (st_heard : ls_heard RI) (st_none : ls_none RI) (st_init : ls_init RI) {p : Program} {e : Env} {s : State} {m : MethodId} {below : List Frame} {meth : Method} {c : Code} (l : Launch) {b L : Nat} {xs : Nat → Int32} (hL : L ≤ 2048) (C0 : lw_At p s m meth c b L xs) : W p l e room_1 s m #[Value.ref b] below meth c s.heap [] 0 0 (lw_Z below #[Value.ref b] s) (entryFrame m ([Value.ref b] : List Value).toArray 4) := by
  obtain ⟨hx, hb, hr, hml, hown, htsT, hX, hbl, hlk, hgv⟩ := C0
  have hts : ∀ w ∈ kmW, w.before #[Value.ref b] s = true := fun w h => htsT w (List.mem_filter.mp h).1
  obtain ⟨c0, i0, k0⟩ := u_known (ws := kmW) hts iw_At (hts _ mw_80)
  obtain ⟨c1, i1, k1⟩ := u_known (ws := kmW) hts iw_Lg (hts _ mw_61)
  obtain ⟨c2, i2, k2⟩ := u_known (ws := kmW) hts iw_Nd (hts _ mw_22)
  obtain ⟨c3, i3, k3⟩ := u_known (ws := kmW) hts iw_Bk (hts _ mw_157)
  obtain ⟨c4, i4, k4⟩ := u_known (ws := kmW) hts iw_St (hts _ mw_28)
  obtain ⟨c5, i5, k5⟩ := u_known (ws := kmW) hts iw_Ch (hts _ mw_13)
  obtain ⟨c6, i6, k6⟩ := u_known (ws := kmW) hts iw_Md (hts _ mw_422)
  obtain ⟨cI, aI, rI⟩ := km_arr (ty := .int) (hts _ mw_59) (fun _ => rfl)
  obtain ⟨cZ, aZ, rZ⟩ := km_arr (ty := .boolean) (hts _ mw_521) (fun _ => rfl)
  have hao0 : (Cond.arrayOver (.object "SealedChain$Node")).before #[Value.ref b] s = true := htsT _ (List.mem_append_right _ (List.mem_of_getElem? (i := 21) rfl))
  obtain ⟨cN, aN, rN⟩ := km_arrO hao0
  have hao : va_AO "SealedChain$Node" s := va_AO.of hao0
  obtain ⟨D, hDe⟩ : ∃ D : va_G, D = (fun c => [c0, c1, c2, c3, c4, c5, c6].getD c 0, fun c => [i0, i1, i2, i3, i4, i5, i6].getD c (fun _ => 0)) := ⟨_, rfl⟩
  have hK : km_K D kmC (kmT cI cN cZ) kmF kmM s := by
    refine ⟨⟨fun c q hq => ?_, fun k q hk => ?_⟩, fun q hq => ?_, fun q hq => ?_⟩
    · subst hDe
      rcases (show c = 0 ∨ c = 1 ∨ c = 2 ∨ c = 3 ∨ c = 4 ∨ c = 5 ∨ c = 6 ∨ 7 ≤ c by omega) with rfl | rfl | rfl | rfl | rfl | rfl | rfl | h7
      · cases hq; exact k0
      · cases hq; exact k1
      · cases hq; exact k2
      · cases hq; exact k3
      · cases hq; exact k4
      · cases hq; exact k5
      · cases hq; exact k6
      · exact absurd (List.getElem?_eq_some_iff.mp hq).1 (Nat.not_lt.mpr h7)
    · rcases (show k = 0 ∨ k = 1 ∨ k = 2 ∨ 3 ≤ k by omega) with rfl | rfl | rfl | h3
      · cases hk; exact ⟨aI, rI⟩
      · cases hk; exact ⟨aN, rN⟩
      · cases hk; exact ⟨aZ, rZ⟩
      · exact absurd (List.getElem?_eq_some_iff.mp hk).1 (Nat.not_lt.mpr h3)
    · refine va_Nw.of rfl (htsT _ (km_inT (is := [34, 35, 37, 39, 40, 42, 45, 67, 69, 71, 86, 87, 89, 91, 93, 94, 96, 98, 100, 101, 122, 124, 126, 128, 130, 132, 134, 136, 163, 165, 167]) ?_))
      rw [← km_rowsF]; exact List.mem_map.mpr ⟨q, hq, rfl⟩
    · refine va_Nw.of rfl (htsT _ (km_inT (is := [23, 29, 62, 81, 158, 210, 214, 222, 229, 233, 245, 249, 256, 263, 271, 275, 279, 283, 287, 291, 302, 307, 311, 319, 324, 328, 329, 333, 337, 346, 350, 364, 368, 373, 385]) ?_))
      rw [← km_rowsM]; exact List.mem_map.mpr ⟨q, hq, rfl⟩
  have hE : km_E p s m meth c code 4 ret R_law meth.name (Cond.initialized "SealedChain" :: kmW) #[Value.ref b] := by
    refine ⟨hx, hb, hr, hml, hown, fun w h => ?_, hlk, rfl⟩
    rcases List.mem_cons.mp h with rfl | h
    · exact hts _ mw_1
    · exact hts w h
  have hA : ∀ q : Nat, s.heap.size ≤ q → (fun q => s.heap.size ≤ q) q := fun q h => h
  have hP : va_P D kmC [] s.heap := fun k q hk => by cases hk
  have hD : va_D (fun q => s.heap.size ≤ q) [] := ⟨(fun i j p q hp => by cases hp), (fun k q hk => by cases hk)⟩
  have hS : va_S (fun q => s.heap.size ≤ q) s.heap s.heap [] := va_S.rf
  rw [lg_entry_eq]
  have hl := lv_entry ([Value.ref b]) (n := 4) (Nat.le_of_ble_eq_true rfl)
  generalize (lg_sl ([Value.ref b]) ++ List.replicate (4 - (lg_sl ([Value.ref b])).length) Slot.unset).toArray = ls at hl ⊢
  have hl : lv_has ls 4 [(0, .ref b)] := hl
  refine va_new (ci := 5) (fs := [.null, .null, .null, .null, .int 0]) (C := R_Ch) (T := F_Ch) (N := 5) hx hb hts iw_Ch t_Ch t_Ch_ok hown (hts _ mw_12) (hts _ mw_13) (hts _ mw_1) hK.1 hP hD hS hA rfl (fun j hj => by rcases (show j = 0 ∨ j = 1 ∨ j = 2 ∨ j = 3 ∨ j = 4 by omega) with rfl | rfl | rfl | rfl | rfl <;> rfl) (Nat.le_of_ble_eq_true rfl) (Nat.le_of_ble_eq_true rfl) d_Lw_law_0 (fun q1 H hP hD hS => ?_)
  have hP : va_P D kmC [(q1, .inr (5, [.null, .null, .null, .null, .int 0]))] H := hP
  have hD : va_D (fun q => s.heap.size ≤ q) [(q1, .inr (5, [.null, .null, .null, .null, .int 0]))] := hD
  refine lv_dup hx hb d_Lw_law_3 rfl ?_
  refine km_cv (wr := []) (km_rIA (n := 0) hE kmG (c_Ch_init l D cI cN cZ q1) mw_16 mw_14 mw_15 mw_1 rfl (by decide) ⟨rfl, rfl, ⟨by decide, by decide⟩, by decide, by decide⟩ hK hao (km_cut hP [0] rfl) (hD.sub [0] (by decide) rfl) rfl hl.1 rfl (Nat.le_of_ble_eq_true rfl) d_Lw_law_4) hP hD hS hA [0] [] rfl rfl (by decide) (by decide) (fun u H locs hu hP2 hD2 hS2 => ?_)
  subst hu
  have hP : va_P D kmC (chW cI cN cZ u ch0 (fun k => nd0 (nI k))) H := hP2
  have hD : va_D (fun q => s.heap.size ≤ q) (chW cI cN cZ u ch0 (fun k => nd0 (nI k))) := hD2
  have hS := hS2
  refine lv_astore_n (lv' := [(1, .ref (u 6 0)), (0, .ref b)]) hx hb d_Lw_law_7 rfl hl (by decide) rfl (fun ls hl => ?_)
  refine va_new (ci := 6) (fs := [.int 0, .null, .null, .null, .null, .null, .int 0, .null, .int 0, .null, .null, .null, .null, .null, .null, .null, .null, .null, .null, .null, .null, .null, .null, .null, .null, .null, .null, .null, .int 0, .int 0, .int 0]) (C := R_Md) (T := F_Md) (N := 31) hx hb hts iw_Md t_Md t_Md_ok hown (hts _ mw_421) (hts _ mw_422) (hts _ mw_8) hK.1 hP hD hS hA rfl (fun j hj => by rcases (show j = 0 ∨ j = 1 ∨ j = 2 ∨ j = 3 ∨ j = 4 ∨ j = 5 ∨ j = 6 ∨ j = 7 ∨ j = 8 ∨ j = 9 ∨ j = 10 ∨ j = 11 ∨ j = 12 ∨ j = 13 ∨ j = 14 ∨ j = 15 ∨ j = 16 ∨ j = 17 ∨ j = 18 ∨ j = 19 ∨ j = 20 ∨ j = 21 ∨ j = 22 ∨ j = 23 ∨ j = 24 ∨ j = 25 ∨ j = 26 ∨ j = 27 ∨ j = 28 ∨ j = 29 ∨ j = 30 by omega) with rfl | rfl | rfl | rfl | rfl | rfl | rfl | rfl | rfl | rfl | rfl | rfl | rfl | rfl | rfl | rfl | rfl | rfl | rfl | rfl | rfl | rfl | rfl | rfl | rfl | rfl | rfl | rfl | rfl | rfl | rfl <;> rfl) (Nat.le_of_ble_eq_true rfl) (Nat.le_of_ble_eq_true rfl) d_Lw_law_8 (fun q2 H hP hD hS => ?_)
  refine lv_dup hx hb d_Lw_law_11 rfl ?_
  have hP := km_permP List.perm_append_comm hP
  have hD := km_permD List.perm_append_comm hD
  refine km_cvp (wc := [(q2, .inr (6, [.int 0, .null, .null, .null, .null, .null, .int 0, .null, .int 0, .null, .null, .null, .null, .null, .null, .null, .null, .null, .null, .null, .null, .null, .null, .null, .null, .null, .null, .null, .int 0, .int 0, .int 0]))]) (wr := chW cI cN cZ u ch0 (fun k => nd0 (nI k))) (km_rI (n := 0) hE kmG (c_Md_init l D cI cN cZ q2 _ st_init) mw_425 mw_423 mw_424 mw_8 rfl (by decide) ⟨rfl, rfl, ⟨by decide, by decide⟩, by decide, by decide⟩ hK (km_cutL hP) (km_cutD hD) rfl hl.1 rfl (Nat.le_of_ble_eq_true rfl) d_Lw_law_12) hP hD hS hA (fun v H locs hu hP2 hD2 hS2 => ?_)
  obtain ⟨am, zm⟩ := v
  obtain ⟨hu, hI⟩ := hu
  replace hu : am 0 = q2 := hu
  subst hu
  have hP : va_P D kmC (chW cI cN cZ u ch0 (fun k => nd0 (nI k)) ++ mmdW cI cN cZ am zm) H := hP2
  have hD : va_D (fun q => s.heap.size ≤ q) (chW cI cN cZ u ch0 (fun k => nd0 (nI k)) ++ mmdW cI cN cZ am zm) := hD2
  have hS := hS2
  refine lv_astore_n (lv' := [(2, .ref (am 0)), (1, .ref (u 6 0)), (0, .ref b)]) hx hb d_Lw_law_15 rfl hl (by decide) rfl (fun ls hl => ?_)
  refine lv_iconst (v := (0 : Int32)) hx hb d_Lw_law_16 (by decide) ?_
  refine lv_istore_n (lv' := [(3, .int (nI (4 * 0))), (2, .ref (am 0)), (1, .ref (u 6 0)), (0, .ref b)]) hx hb d_Lw_law_17 rfl hl (by decide) rfl (fun ls hl => ?_)
  refine W.widen (k := 94) (n := 2489) (Nat.le_of_ble_eq_true rfl) (Nat.le_of_ble_eq_true rfl) ?_
  exact lw_loop RI st_ask st_route st_router st_start st_promise st_accept st_tell st_crash st_restart st_retire st_look st_value st_promised st_vote st_known st_reply st_heard st_none hE hK hX hbl hL 513 0 (by omega) (by omega) ch0 (fun k => nd0 (nI k)) zm ls H locs hI hl hP hD hS
