set_option maxHeartbeats 4000000 in
set_option maxRecDepth 100000 in
theorem lc_ask {p : Program} {l : Launch} {e : Env} {s : State} {m : MethodId} {below : List Frame} {meth : Method} {c : Code} {D : va_G} {cI cN cZ : ClassId} {A : Nat → Prop} {w0 : Cond} {b L : Nat} {xs : Nat → Int32} {u : Nat → Nat → Nat} {am : Nat → Nat} (RI : RIT) (st_ask : ls_ask RI) (hE : km_E p s m meth c code 4 ret R_law meth.name (w0 :: kmW) #[Value.ref b]) (hK : km_K D kmC (kmT cI cN cZ) kmF kmM s) (hA : ∀ q : Nat, s.heap.size ≤ q → A q) (hX : va_X b L xs s s.heap) (hbl : b < s.heap.size) (hbA : ¬ A b) (t : Nat) (ht : t < 512) (hi1 : vp_in (nI (4 * t) + (1 : Int32)) L) (hi2 : vp_in (nI (4 * t) + (2 : Int32)) L) (hi3 : vp_in (nI (4 * t) + (3 : Int32)) L) (zc : MchT) (zn : Nat → MndT) (zm : MmdT) (hI : RI t zc zn zm) (ls : Array Slot) (H : Heap) (locs : List Loc) (hl : lv_has ls 4 [(3, .int (nI (4 * t))), (2, .ref (am 0)), (1, .ref (u 6 0)), (0, .ref b)]) (hP : va_P D kmC (chW cI cN cZ u zc zn ++ mmdW cI cN cZ am zm) H) (hD : va_D A (chW cI cN cZ u zc zn ++ mmdW cI cN cZ am zm)) (hS : va_S A s.heap H locs)
    (hk : ∀ (zc1 : MchT) (zn1 : Nat → MndT) (zm1 : MmdT) (ls : Array Slot) (H : Heap) (locs : List Loc), RI (t + 1) zc1 zn1 zm1 → lv_has ls 4 [(3, .int (nI (4 * t))), (2, .ref (am 0)), (1, .ref (u 6 0)), (0, .ref b)] → va_P D kmC (chW cI cN cZ u zc1 zn1 ++ mmdW cI cN cZ am zm1) H → va_D A (chW cI cN cZ u zc1 zn1 ++ mmdW cI cN cZ am zm1) → va_S A s.heap H locs → W p l e room_1 s m #[Value.ref b] below meth c H locs 94 2489 (lw_Z below #[Value.ref b] s) (F0 m 689 ls [])) : W p l e room_1 s m #[Value.ref b] below meth c H locs 94 2489 (lw_Z below #[Value.ref b] s) (F0 m 116 ls []) := by
  obtain ⟨hx, hb, hr, hml, hown, hts0, hlk, hnm⟩ := id hE
  refine lv_aload_n hx hb d_Lw_law_116 rfl (lv_at hl 2 rfl) ?_
  refine lv_aload_n hx hb d_Lw_law_117 rfl (lv_at hl 3 rfl) ?_
  refine lv_iload_n hx hb d_Lw_law_118 rfl (lv_at hl 0 rfl) ?_
  refine lv_iconst (v := (1 : Int32)) hx hb d_Lw_law_119 (by decide) ?_
  refine lv_iadd hx hb d_Lw_law_120 ?_
  refine va_sld hx hb hX hbl hbA hS hi1 d_Lw_law_121 ?_
  refine lv_aload_n hx hb d_Lw_law_122 rfl (lv_at hl 3 rfl) ?_
  refine lv_iload_n hx hb d_Lw_law_123 rfl (lv_at hl 0 rfl) ?_
  refine lv_iconst (v := (2 : Int32)) hx hb d_Lw_law_124 (by decide) ?_
  refine lv_iadd hx hb d_Lw_law_125 ?_
  refine va_sld hx hb hX hbl hbA hS hi2 d_Lw_law_126 ?_
  refine lv_aload_n hx hb d_Lw_law_127 rfl (lv_at hl 3 rfl) ?_
  refine lv_iload_n hx hb d_Lw_law_128 rfl (lv_at hl 0 rfl) ?_
  refine lv_iconst (v := (3 : Int32)) hx hb d_Lw_law_129 (by decide) ?_
  refine lv_iadd hx hb d_Lw_law_130 ?_
  refine va_sld hx hb hX hbl hbA hS hi3 d_Lw_law_131 ?_
  have hw := st_ask t zc zn zm (xs (nI (4 * t) + (1 : Int32)).toNatClampNeg) (xs (nI (4 * t) + (2 : Int32)).toNatClampNeg) (xs (nI (4 * t) + (3 : Int32)).toNatClampNeg) ht hI
  have hP := km_permP lx_p0 hP
  have hD := km_permD lx_p0 hD
  refine km_cip (wc := mchW cI cN cZ (u 6) (km_g u) zc) (wr := ((List.range 6).flatMap (lx_f cI cN cZ u zn) ++ mmdW cI cN cZ am zm)) (km_rV (n := 3) hE kmG (c_Ch_ask l D cI cN cZ (u 6) (km_g u) zc (xs (nI (4 * t) + (1 : Int32)).toNatClampNeg) (xs (nI (4 * t) + (2 : Int32)).toNatClampNeg) (xs (nI (4 * t) + (3 : Int32)).toNatClampNeg) _ hw) mw_197 mw_194 mw_195 mw_196 mw_1 (by decide) ⟨rfl, rfl, ⟨by decide, by decide⟩, by decide, by decide⟩ hK (km_cutL hP) (km_cutD hD) (ci := 5) rfl hP (q0 := 0) rfl rfl hl.1 rfl (Nat.le_of_ble_eq_true rfl) d_Lw_law_132) hP hD hS hA (fun r1 v H locs hw hP hD hS => ?_)
  obtain ⟨zc1, hv⟩ : ∃ z, z = v := ⟨_, rfl⟩
  subst hv
  have hP : va_P D kmC (chW cI cN cZ u zc1 zn ++ mmdW cI cN cZ am zm) H := km_permP lx_q0 hP
  have hD : va_D A (chW cI cN cZ u zc1 zn ++ mmdW cI cN cZ am zm) := km_permD lx_q0 hD
  refine lv_aload_n hx hb d_Lw_law_135 rfl (lv_at hl 1 rfl) ?_
  refine lv_aload_n hx hb d_Lw_law_136 rfl (lv_at hl 3 rfl) ?_
  refine lv_iload_n hx hb d_Lw_law_137 rfl (lv_at hl 0 rfl) ?_
  refine lv_iconst (v := (1 : Int32)) hx hb d_Lw_law_138 (by decide) ?_
  refine lv_iadd hx hb d_Lw_law_139 ?_
  refine va_sld hx hb hX hbl hbA hS hi1 d_Lw_law_140 ?_
  refine lv_aload_n hx hb d_Lw_law_141 rfl (lv_at hl 3 rfl) ?_
  refine lv_iload_n hx hb d_Lw_law_142 rfl (lv_at hl 0 rfl) ?_
  refine lv_iconst (v := (2 : Int32)) hx hb d_Lw_law_143 (by decide) ?_
  refine lv_iadd hx hb d_Lw_law_144 ?_
  refine va_sld hx hb hX hbl hbA hS hi2 d_Lw_law_145 ?_
  refine lv_aload_n hx hb d_Lw_law_146 rfl (lv_at hl 3 rfl) ?_
  refine lv_iload_n hx hb d_Lw_law_147 rfl (lv_at hl 0 rfl) ?_
  refine lv_iconst (v := (3 : Int32)) hx hb d_Lw_law_148 (by decide) ?_
  refine lv_iadd hx hb d_Lw_law_149 ?_
  refine va_sld hx hb hX hbl hbA hS hi3 d_Lw_law_150 ?_
  have hP := km_permP List.perm_append_comm hP
  have hD := km_permD List.perm_append_comm hD
  refine km_cip (wc := mmdW cI cN cZ am zm) (wr := chW cI cN cZ u zc1 zn) (km_rV (n := 3) hE kmG (c_Md_ask l D cI cN cZ am zm (xs (nI (4 * t) + (1 : Int32)).toNatClampNeg) (xs (nI (4 * t) + (2 : Int32)).toNatClampNeg) (xs (nI (4 * t) + (3 : Int32)).toNatClampNeg) _ hw) mw_525 mw_522 mw_523 mw_524 mw_8 (by decide) ⟨rfl, rfl, ⟨by decide, by decide⟩, by decide, by decide⟩ hK (km_cutL hP) (km_cutD hD) (ci := 6) rfl hP (q0 := 0) rfl rfl hl.1 rfl (Nat.le_of_ble_eq_true rfl) d_Lw_law_151) hP hD hS hA (fun r2 zm1 H locs hw hP hD hS => ?_)
  refine lv_icmp_eq (tgt := 689) hx hb d_Lw_law_154 (by first | rfl | decide) (fun _ => ?_) (fun h => absurd hw.1 h)
  exact hk _ _ _ ls H locs hw.2 hl hP hD hS
set_option maxHeartbeats 4000000 in
set_option maxRecDepth 100000 in
theorem lc_route {p : Program} {l : Launch} {e : Env} {s : State} {m : MethodId} {below : List Frame} {meth : Method} {c : Code} {D : va_G} {cI cN cZ : ClassId} {A : Nat → Prop} {w0 : Cond} {b L : Nat} {xs : Nat → Int32} {u : Nat → Nat → Nat} {am : Nat → Nat} (RI : RIT) (st_route : ls_route RI) (hE : km_E p s m meth c code 4 ret R_law meth.name (w0 :: kmW) #[Value.ref b]) (hK : km_K D kmC (kmT cI cN cZ) kmF kmM s) (hA : ∀ q : Nat, s.heap.size ≤ q → A q) (hX : va_X b L xs s s.heap) (hbl : b < s.heap.size) (hbA : ¬ A b) (t : Nat) (ht : t < 512) (hi1 : vp_in (nI (4 * t) + (1 : Int32)) L) (hi2 : vp_in (nI (4 * t) + (2 : Int32)) L) (zc : MchT) (zn : Nat → MndT) (zm : MmdT) (hI : RI t zc zn zm) (ls : Array Slot) (H : Heap) (locs : List Loc) (hl : lv_has ls 4 [(3, .int (nI (4 * t))), (2, .ref (am 0)), (1, .ref (u 6 0)), (0, .ref b)]) (hP : va_P D kmC (chW cI cN cZ u zc zn ++ mmdW cI cN cZ am zm) H) (hD : va_D A (chW cI cN cZ u zc zn ++ mmdW cI cN cZ am zm)) (hS : va_S A s.heap H locs)
    (hk : ∀ (zc1 : MchT) (zn1 : Nat → MndT) (zm1 : MmdT) (ls : Array Slot) (H : Heap) (locs : List Loc), RI (t + 1) zc1 zn1 zm1 → lv_has ls 4 [(3, .int (nI (4 * t))), (2, .ref (am 0)), (1, .ref (u 6 0)), (0, .ref b)] → va_P D kmC (chW cI cN cZ u zc1 zn1 ++ mmdW cI cN cZ am zm1) H → va_D A (chW cI cN cZ u zc1 zn1 ++ mmdW cI cN cZ am zm1) → va_S A s.heap H locs → W p l e room_1 s m #[Value.ref b] below meth c H locs 94 2489 (lw_Z below #[Value.ref b] s) (F0 m 689 ls [])) : W p l e room_1 s m #[Value.ref b] below meth c H locs 94 2489 (lw_Z below #[Value.ref b] s) (F0 m 159 ls []) := by
  obtain ⟨hx, hb, hr, hml, hown, hts0, hlk, hnm⟩ := id hE
  refine lv_aload_n hx hb d_Lw_law_159 rfl (lv_at hl 2 rfl) ?_
  refine lv_aload_n hx hb d_Lw_law_160 rfl (lv_at hl 3 rfl) ?_
  refine lv_iload_n hx hb d_Lw_law_161 rfl (lv_at hl 0 rfl) ?_
  refine lv_iconst (v := (1 : Int32)) hx hb d_Lw_law_162 (by decide) ?_
  refine lv_iadd hx hb d_Lw_law_163 ?_
  refine va_sld hx hb hX hbl hbA hS hi1 d_Lw_law_164 ?_
  refine lv_aload_n hx hb d_Lw_law_165 rfl (lv_at hl 3 rfl) ?_
  refine lv_iload_n hx hb d_Lw_law_166 rfl (lv_at hl 0 rfl) ?_
  refine lv_iconst (v := (2 : Int32)) hx hb d_Lw_law_167 (by decide) ?_
  refine lv_iadd hx hb d_Lw_law_168 ?_
  refine va_sld hx hb hX hbl hbA hS hi2 d_Lw_law_169 ?_
  have hw := st_route t zc zn zm (xs (nI (4 * t) + (1 : Int32)).toNatClampNeg) (xs (nI (4 * t) + (2 : Int32)).toNatClampNeg) ht hI
  obtain ⟨k, hk6, hw⟩ := hw
  have hP := km_permP (lx_p1 hk6) hP
  have hD := km_permD (lx_p1 hk6) hD
  refine km_cip (wc := (mchW cI cN cZ (u 6) (km_g u) zc ++ mndW cI cN cZ (u k) (zn k))) (wr := (lx_r1 cI cN cZ u zn k (mmdW cI cN cZ am zm))) (km_rV (n := 2) hE kmG (c_Ch_route l D cI cN cZ (u 6) (u k) (km_g u) k hk6 (lx_g hk6) zc (zn k) (xs (nI (4 * t) + (1 : Int32)).toNatClampNeg) (xs (nI (4 * t) + (2 : Int32)).toNatClampNeg) _ hw) mw_221 mw_218 mw_219 mw_220 mw_1 (by decide) ⟨rfl, rfl, ⟨by decide, by decide⟩, by decide, by decide⟩ hK (km_cutL hP) (km_cutD hD) (ci := 5) rfl hP (q0 := 0) rfl rfl hl.1 rfl (Nat.le_of_ble_eq_true rfl) d_Lw_law_170) hP hD hS hA (fun r1 v H locs hw hP hD hS => ?_)
  obtain ⟨zc1, y1⟩ := v
  have hP : va_P D kmC (chW cI cN cZ u zc1 (va_up zn k y1) ++ mmdW cI cN cZ am zm) H := km_permP (lx_q1 hk6) hP
  have hD : va_D A (chW cI cN cZ u zc1 (va_up zn k y1) ++ mmdW cI cN cZ am zm) := km_permD (lx_q1 hk6) hD
  refine lv_aload_n hx hb d_Lw_law_173 rfl (lv_at hl 1 rfl) ?_
  refine lv_aload_n hx hb d_Lw_law_174 rfl (lv_at hl 3 rfl) ?_
  refine lv_iload_n hx hb d_Lw_law_175 rfl (lv_at hl 0 rfl) ?_
  refine lv_iconst (v := (1 : Int32)) hx hb d_Lw_law_176 (by decide) ?_
  refine lv_iadd hx hb d_Lw_law_177 ?_
  refine va_sld hx hb hX hbl hbA hS hi1 d_Lw_law_178 ?_
  refine lv_aload_n hx hb d_Lw_law_179 rfl (lv_at hl 3 rfl) ?_
  refine lv_iload_n hx hb d_Lw_law_180 rfl (lv_at hl 0 rfl) ?_
  refine lv_iconst (v := (2 : Int32)) hx hb d_Lw_law_181 (by decide) ?_
  refine lv_iadd hx hb d_Lw_law_182 ?_
  refine va_sld hx hb hX hbl hbA hS hi2 d_Lw_law_183 ?_
  have hP := km_permP List.perm_append_comm hP
  have hD := km_permD List.perm_append_comm hD
  refine km_cip (wc := mmdW cI cN cZ am zm) (wr := chW cI cN cZ u zc1 (va_up zn k y1)) (km_rV (n := 2) hE kmG (c_Md_route l D cI cN cZ am zm (xs (nI (4 * t) + (1 : Int32)).toNatClampNeg) (xs (nI (4 * t) + (2 : Int32)).toNatClampNeg) _ hw) mw_532 mw_529 mw_530 mw_531 mw_8 (by decide) ⟨rfl, rfl, ⟨by decide, by decide⟩, by decide, by decide⟩ hK (km_cutL hP) (km_cutD hD) (ci := 6) rfl hP (q0 := 0) rfl rfl hl.1 rfl (Nat.le_of_ble_eq_true rfl) d_Lw_law_184) hP hD hS hA (fun r2 zm1 H locs hw hP hD hS => ?_)
  refine lv_icmp_eq (tgt := 689) hx hb d_Lw_law_187 (by first | rfl | decide) (fun _ => ?_) (fun h => absurd hw.1 h)
  exact hk _ _ _ ls H locs hw.2 hl hP hD hS
set_option maxHeartbeats 4000000 in
set_option maxRecDepth 100000 in
theorem lc_router {p : Program} {l : Launch} {e : Env} {s : State} {m : MethodId} {below : List Frame} {meth : Method} {c : Code} {D : va_G} {cI cN cZ : ClassId} {A : Nat → Prop} {w0 : Cond} {b L : Nat} {xs : Nat → Int32} {u : Nat → Nat → Nat} {am : Nat → Nat} (RI : RIT) (st_router : ls_router RI) (hE : km_E p s m meth c code 4 ret R_law meth.name (w0 :: kmW) #[Value.ref b]) (hK : km_K D kmC (kmT cI cN cZ) kmF kmM s) (hA : ∀ q : Nat, s.heap.size ≤ q → A q) (hX : va_X b L xs s s.heap) (hbl : b < s.heap.size) (hbA : ¬ A b) (t : Nat) (ht : t < 512)  (zc : MchT) (zn : Nat → MndT) (zm : MmdT) (hI : RI t zc zn zm) (ls : Array Slot) (H : Heap) (locs : List Loc) (hl : lv_has ls 4 [(3, .int (nI (4 * t))), (2, .ref (am 0)), (1, .ref (u 6 0)), (0, .ref b)]) (hP : va_P D kmC (chW cI cN cZ u zc zn ++ mmdW cI cN cZ am zm) H) (hD : va_D A (chW cI cN cZ u zc zn ++ mmdW cI cN cZ am zm)) (hS : va_S A s.heap H locs)
    (hk : ∀ (zc1 : MchT) (zn1 : Nat → MndT) (zm1 : MmdT) (ls : Array Slot) (H : Heap) (locs : List Loc), RI (t + 1) zc1 zn1 zm1 → lv_has ls 4 [(3, .int (nI (4 * t))), (2, .ref (am 0)), (1, .ref (u 6 0)), (0, .ref b)] → va_P D kmC (chW cI cN cZ u zc1 zn1 ++ mmdW cI cN cZ am zm1) H → va_D A (chW cI cN cZ u zc1 zn1 ++ mmdW cI cN cZ am zm1) → va_S A s.heap H locs → W p l e room_1 s m #[Value.ref b] below meth c H locs 94 2489 (lw_Z below #[Value.ref b] s) (F0 m 689 ls [])) : W p l e room_1 s m #[Value.ref b] below meth c H locs 94 2489 (lw_Z below #[Value.ref b] s) (F0 m 192 ls []) := by
  obtain ⟨hx, hb, hr, hml, hown, hts0, hlk, hnm⟩ := id hE
  refine lv_aload_n hx hb d_Lw_law_192 rfl (lv_at hl 2 rfl) ?_
  have hw := st_router t zc zn zm  ht hI
  have hP := km_permP lx_p0 hP
  have hD := km_permD lx_p0 hD
  refine km_cip (wc := mchW cI cN cZ (u 6) (km_g u) zc) (wr := ((List.range 6).flatMap (lx_f cI cN cZ u zn) ++ mmdW cI cN cZ am zm)) (km_rV (n := 0) hE kmG (c_Ch_router l D cI cN cZ (u 6) (km_g u) zc  _ hw) mw_240 mw_237 mw_238 mw_239 mw_1 (by decide) ⟨rfl, rfl, ⟨by decide, by decide⟩, by decide, by decide⟩ hK (km_cutL hP) (km_cutD hD) (ci := 5) rfl hP (q0 := 0) rfl rfl hl.1 rfl (Nat.le_of_ble_eq_true rfl) d_Lw_law_193) hP hD hS hA (fun r1 v H locs hw hP hD hS => ?_)
  obtain ⟨zc1, hv⟩ : ∃ z, z = v := ⟨_, rfl⟩
  subst hv
  have hP : va_P D kmC (chW cI cN cZ u zc1 zn ++ mmdW cI cN cZ am zm) H := km_permP lx_q0 hP
  have hD : va_D A (chW cI cN cZ u zc1 zn ++ mmdW cI cN cZ am zm) := km_permD lx_q0 hD
  refine lv_aload_n hx hb d_Lw_law_196 rfl (lv_at hl 1 rfl) ?_
  have hP := km_permP List.perm_append_comm hP
  have hD := km_permD List.perm_append_comm hD
  refine km_cip (wc := mmdW cI cN cZ am zm) (wr := chW cI cN cZ u zc1 zn) (km_rV (n := 0) hE kmG (c_Md_router l D cI cN cZ am zm  _ hw) mw_559 mw_556 mw_557 mw_558 mw_8 (by decide) ⟨rfl, rfl, ⟨by decide, by decide⟩, by decide, by decide⟩ hK (km_cutL hP) (km_cutD hD) (ci := 6) rfl hP (q0 := 0) rfl rfl hl.1 rfl (Nat.le_of_ble_eq_true rfl) d_Lw_law_197) hP hD hS hA (fun r2 zm1 H locs hw hP hD hS => ?_)
  refine lv_icmp_eq (tgt := 689) hx hb d_Lw_law_200 (by first | rfl | decide) (fun _ => ?_) (fun h => absurd hw.1 h)
  exact hk _ _ _ ls H locs hw.2 hl hP hD hS
set_option maxHeartbeats 4000000 in
set_option maxRecDepth 100000 in
theorem lc_start {p : Program} {l : Launch} {e : Env} {s : State} {m : MethodId} {below : List Frame} {meth : Method} {c : Code} {D : va_G} {cI cN cZ : ClassId} {A : Nat → Prop} {w0 : Cond} {b L : Nat} {xs : Nat → Int32} {u : Nat → Nat → Nat} {am : Nat → Nat} (RI : RIT) (st_start : ls_start RI) (hE : km_E p s m meth c code 4 ret R_law meth.name (w0 :: kmW) #[Value.ref b]) (hK : km_K D kmC (kmT cI cN cZ) kmF kmM s) (hA : ∀ q : Nat, s.heap.size ≤ q → A q) (hX : va_X b L xs s s.heap) (hbl : b < s.heap.size) (hbA : ¬ A b) (t : Nat) (ht : t < 512) (hi1 : vp_in (nI (4 * t) + (1 : Int32)) L) (hi2 : vp_in (nI (4 * t) + (2 : Int32)) L) (zc : MchT) (zn : Nat → MndT) (zm : MmdT) (hI : RI t zc zn zm) (ls : Array Slot) (H : Heap) (locs : List Loc) (hl : lv_has ls 4 [(3, .int (nI (4 * t))), (2, .ref (am 0)), (1, .ref (u 6 0)), (0, .ref b)]) (hP : va_P D kmC (chW cI cN cZ u zc zn ++ mmdW cI cN cZ am zm) H) (hD : va_D A (chW cI cN cZ u zc zn ++ mmdW cI cN cZ am zm)) (hS : va_S A s.heap H locs)
    (hk : ∀ (zc1 : MchT) (zn1 : Nat → MndT) (zm1 : MmdT) (ls : Array Slot) (H : Heap) (locs : List Loc), RI (t + 1) zc1 zn1 zm1 → lv_has ls 4 [(3, .int (nI (4 * t))), (2, .ref (am 0)), (1, .ref (u 6 0)), (0, .ref b)] → va_P D kmC (chW cI cN cZ u zc1 zn1 ++ mmdW cI cN cZ am zm1) H → va_D A (chW cI cN cZ u zc1 zn1 ++ mmdW cI cN cZ am zm1) → va_S A s.heap H locs → W p l e room_1 s m #[Value.ref b] below meth c H locs 94 2489 (lw_Z below #[Value.ref b] s) (F0 m 689 ls [])) : W p l e room_1 s m #[Value.ref b] below meth c H locs 94 2489 (lw_Z below #[Value.ref b] s) (F0 m 205 ls []) := by
  obtain ⟨hx, hb, hr, hml, hown, hts0, hlk, hnm⟩ := id hE
  refine lv_aload_n hx hb d_Lw_law_205 rfl (lv_at hl 2 rfl) ?_
  refine lv_aload_n hx hb d_Lw_law_206 rfl (lv_at hl 3 rfl) ?_
  refine lv_iload_n hx hb d_Lw_law_207 rfl (lv_at hl 0 rfl) ?_
  refine lv_iconst (v := (1 : Int32)) hx hb d_Lw_law_208 (by decide) ?_
  refine lv_iadd hx hb d_Lw_law_209 ?_
  refine va_sld hx hb hX hbl hbA hS hi1 d_Lw_law_210 ?_
  refine lv_aload_n hx hb d_Lw_law_211 rfl (lv_at hl 3 rfl) ?_
  refine lv_iload_n hx hb d_Lw_law_212 rfl (lv_at hl 0 rfl) ?_
  refine lv_iconst (v := (2 : Int32)) hx hb d_Lw_law_213 (by decide) ?_
  refine lv_iadd hx hb d_Lw_law_214 ?_
  refine va_sld hx hb hX hbl hbA hS hi2 d_Lw_law_215 ?_
  have hw := st_start t zc zn zm (xs (nI (4 * t) + (1 : Int32)).toNatClampNeg) (xs (nI (4 * t) + (2 : Int32)).toNatClampNeg) ht hI
  obtain ⟨k, hk6, hw⟩ := hw
  have hP := km_permP (lx_p1 hk6) hP
  have hD := km_permD (lx_p1 hk6) hD
  refine km_cip (wc := (mchW cI cN cZ (u 6) (km_g u) zc ++ mndW cI cN cZ (u k) (zn k))) (wr := (lx_r1 cI cN cZ u zn k (mmdW cI cN cZ am zm))) (km_rV (n := 2) hE kmG (c_Ch_start l D cI cN cZ (u 6) (u k) (km_g u) k hk6 (lx_g hk6) zc (zn k) (xs (nI (4 * t) + (1 : Int32)).toNatClampNeg) (xs (nI (4 * t) + (2 : Int32)).toNatClampNeg) _ hw) mw_244 mw_241 mw_242 mw_243 mw_1 (by decide) ⟨rfl, rfl, ⟨by decide, by decide⟩, by decide, by decide⟩ hK (km_cutL hP) (km_cutD hD) (ci := 5) rfl hP (q0 := 0) rfl rfl hl.1 rfl (Nat.le_of_ble_eq_true rfl) d_Lw_law_216) hP hD hS hA (fun r1 v H locs hw hP hD hS => ?_)
  obtain ⟨zc1, y1⟩ := v
  have hP : va_P D kmC (chW cI cN cZ u zc1 (va_up zn k y1) ++ mmdW cI cN cZ am zm) H := km_permP (lx_q1 hk6) hP
  have hD : va_D A (chW cI cN cZ u zc1 (va_up zn k y1) ++ mmdW cI cN cZ am zm) := km_permD (lx_q1 hk6) hD
  refine lv_aload_n hx hb d_Lw_law_219 rfl (lv_at hl 1 rfl) ?_
  refine lv_aload_n hx hb d_Lw_law_220 rfl (lv_at hl 3 rfl) ?_
  refine lv_iload_n hx hb d_Lw_law_221 rfl (lv_at hl 0 rfl) ?_
  refine lv_iconst (v := (1 : Int32)) hx hb d_Lw_law_222 (by decide) ?_
  refine lv_iadd hx hb d_Lw_law_223 ?_
  refine va_sld hx hb hX hbl hbA hS hi1 d_Lw_law_224 ?_
  refine lv_aload_n hx hb d_Lw_law_225 rfl (lv_at hl 3 rfl) ?_
  refine lv_iload_n hx hb d_Lw_law_226 rfl (lv_at hl 0 rfl) ?_
  refine lv_iconst (v := (2 : Int32)) hx hb d_Lw_law_227 (by decide) ?_
  refine lv_iadd hx hb d_Lw_law_228 ?_
  refine va_sld hx hb hX hbl hbA hS hi2 d_Lw_law_229 ?_
  have hP := km_permP List.perm_append_comm hP
  have hD := km_permD List.perm_append_comm hD
  refine km_cip (wc := mmdW cI cN cZ am zm) (wr := chW cI cN cZ u zc1 (va_up zn k y1)) (km_rV (n := 2) hE kmG (c_Md_start l D cI cN cZ am zm (xs (nI (4 * t) + (1 : Int32)).toNatClampNeg) (xs (nI (4 * t) + (2 : Int32)).toNatClampNeg) _ hw) mw_563 mw_560 mw_561 mw_562 mw_8 (by decide) ⟨rfl, rfl, ⟨by decide, by decide⟩, by decide, by decide⟩ hK (km_cutL hP) (km_cutD hD) (ci := 6) rfl hP (q0 := 0) rfl rfl hl.1 rfl (Nat.le_of_ble_eq_true rfl) d_Lw_law_230) hP hD hS hA (fun r2 zm1 H locs hw hP hD hS => ?_)
  refine lv_icmp_eq (tgt := 689) hx hb d_Lw_law_233 (by first | rfl | decide) (fun _ => ?_) (fun h => absurd hw.1 h)
  exact hk _ _ _ ls H locs hw.2 hl hP hD hS
set_option maxHeartbeats 4000000 in
set_option maxRecDepth 100000 in
theorem lc_promise {p : Program} {l : Launch} {e : Env} {s : State} {m : MethodId} {below : List Frame} {meth : Method} {c : Code} {D : va_G} {cI cN cZ : ClassId} {A : Nat → Prop} {w0 : Cond} {b L : Nat} {xs : Nat → Int32} {u : Nat → Nat → Nat} {am : Nat → Nat} (RI : RIT) (st_promise : ls_promise RI) (hE : km_E p s m meth c code 4 ret R_law meth.name (w0 :: kmW) #[Value.ref b]) (hK : km_K D kmC (kmT cI cN cZ) kmF kmM s) (hA : ∀ q : Nat, s.heap.size ≤ q → A q) (hX : va_X b L xs s s.heap) (hbl : b < s.heap.size) (hbA : ¬ A b) (t : Nat) (ht : t < 512) (hi1 : vp_in (nI (4 * t) + (1 : Int32)) L) (hi2 : vp_in (nI (4 * t) + (2 : Int32)) L) (hi3 : vp_in (nI (4 * t) + (3 : Int32)) L) (zc : MchT) (zn : Nat → MndT) (zm : MmdT) (hI : RI t zc zn zm) (ls : Array Slot) (H : Heap) (locs : List Loc) (hl : lv_has ls 4 [(3, .int (nI (4 * t))), (2, .ref (am 0)), (1, .ref (u 6 0)), (0, .ref b)]) (hP : va_P D kmC (chW cI cN cZ u zc zn ++ mmdW cI cN cZ am zm) H) (hD : va_D A (chW cI cN cZ u zc zn ++ mmdW cI cN cZ am zm)) (hS : va_S A s.heap H locs)
    (hk : ∀ (zc1 : MchT) (zn1 : Nat → MndT) (zm1 : MmdT) (ls : Array Slot) (H : Heap) (locs : List Loc), RI (t + 1) zc1 zn1 zm1 → lv_has ls 4 [(3, .int (nI (4 * t))), (2, .ref (am 0)), (1, .ref (u 6 0)), (0, .ref b)] → va_P D kmC (chW cI cN cZ u zc1 zn1 ++ mmdW cI cN cZ am zm1) H → va_D A (chW cI cN cZ u zc1 zn1 ++ mmdW cI cN cZ am zm1) → va_S A s.heap H locs → W p l e room_1 s m #[Value.ref b] below meth c H locs 94 2489 (lw_Z below #[Value.ref b] s) (F0 m 689 ls [])) : W p l e room_1 s m #[Value.ref b] below meth c H locs 94 2489 (lw_Z below #[Value.ref b] s) (F0 m 238 ls []) := by
  obtain ⟨hx, hb, hr, hml, hown, hts0, hlk, hnm⟩ := id hE
  refine lv_aload_n hx hb d_Lw_law_238 rfl (lv_at hl 2 rfl) ?_
  refine lv_aload_n hx hb d_Lw_law_239 rfl (lv_at hl 3 rfl) ?_
  refine lv_iload_n hx hb d_Lw_law_240 rfl (lv_at hl 0 rfl) ?_
  refine lv_iconst (v := (1 : Int32)) hx hb d_Lw_law_241 (by decide) ?_
  refine lv_iadd hx hb d_Lw_law_242 ?_
  refine va_sld hx hb hX hbl hbA hS hi1 d_Lw_law_243 ?_
  refine lv_aload_n hx hb d_Lw_law_244 rfl (lv_at hl 3 rfl) ?_
  refine lv_iload_n hx hb d_Lw_law_245 rfl (lv_at hl 0 rfl) ?_
  refine lv_iconst (v := (2 : Int32)) hx hb d_Lw_law_246 (by decide) ?_
  refine lv_iadd hx hb d_Lw_law_247 ?_
  refine va_sld hx hb hX hbl hbA hS hi2 d_Lw_law_248 ?_
  refine lv_aload_n hx hb d_Lw_law_249 rfl (lv_at hl 3 rfl) ?_
  refine lv_iload_n hx hb d_Lw_law_250 rfl (lv_at hl 0 rfl) ?_
  refine lv_iconst (v := (3 : Int32)) hx hb d_Lw_law_251 (by decide) ?_
  refine lv_iadd hx hb d_Lw_law_252 ?_
  refine va_sld hx hb hX hbl hbA hS hi3 d_Lw_law_253 ?_
  refine lv_if_eq (tgt := 261) hx hb d_Lw_law_254 (by first | rfl | decide) (fun hz => ?_) (fun hz => ?_)
  · skip
    refine lv_iconst (v := (0 : Int32)) hx hb d_Lw_law_261 (by decide) ?_
    have hw := st_promise t zc zn zm (xs (nI (4 * t) + (1 : Int32)).toNatClampNeg) (xs (nI (4 * t) + (2 : Int32)).toNatClampNeg) (0 : Int32) ht (by first | exact Or.inl rfl | exact Or.inr rfl) hI
    rcases hw with hw | hw
    · skip
      obtain ⟨k, j, hk6, hj6, hkj, hw⟩ := hw
      have hP := km_permP (lx_p2 hk6 hj6 hkj) hP
      have hD := km_permD (lx_p2 hk6 hj6 hkj) hD
      refine km_cip (wc := (mchW cI cN cZ (u 6) (km_g u) zc ++ mndW cI cN cZ (u k) (zn k) ++ mndW cI cN cZ (u j) (zn j))) (wr := (lx_r2 cI cN cZ u zn k j (mmdW cI cN cZ am zm))) (km_rV (n := 3) hE kmG (c_Ch_promise l D cI cN cZ (u 6) (u k) (u j) (km_g u) k hk6 (lx_g hk6) j hj6 (lx_g hj6) zc (zn k) (zn j) (xs (nI (4 * t) + (1 : Int32)).toNatClampNeg) (xs (nI (4 * t) + (2 : Int32)).toNatClampNeg) (0 : Int32) _ hw) mw_270 mw_267 mw_268 mw_269 mw_1 (by decide) ⟨rfl, rfl, ⟨by decide, by decide⟩, by decide, by decide⟩ hK (km_cutL hP) (km_cutD hD) (ci := 5) rfl hP (q0 := 0) rfl rfl hl.1 rfl (Nat.le_of_ble_eq_true rfl) d_Lw_law_262) hP hD hS hA (fun r1 v H locs hw hP hD hS => ?_)
      obtain ⟨zc1, y1, w1⟩ := v
      have hP : va_P D kmC (chW cI cN cZ u zc1 (va_up (va_up zn k y1) j w1) ++ mmdW cI cN cZ am zm) H := km_permP (lx_q2 hk6 hj6 hkj) hP
      have hD : va_D A (chW cI cN cZ u zc1 (va_up (va_up zn k y1) j w1) ++ mmdW cI cN cZ am zm) := km_permD (lx_q2 hk6 hj6 hkj) hD
      refine lv_aload_n hx hb d_Lw_law_265 rfl (lv_at hl 1 rfl) ?_
      refine lv_aload_n hx hb d_Lw_law_266 rfl (lv_at hl 3 rfl) ?_
      refine lv_iload_n hx hb d_Lw_law_267 rfl (lv_at hl 0 rfl) ?_
      refine lv_iconst (v := (1 : Int32)) hx hb d_Lw_law_268 (by decide) ?_
      refine lv_iadd hx hb d_Lw_law_269 ?_
      refine va_sld hx hb hX hbl hbA hS hi1 d_Lw_law_270 ?_
      refine lv_aload_n hx hb d_Lw_law_271 rfl (lv_at hl 3 rfl) ?_
      refine lv_iload_n hx hb d_Lw_law_272 rfl (lv_at hl 0 rfl) ?_
      refine lv_iconst (v := (2 : Int32)) hx hb d_Lw_law_273 (by decide) ?_
      refine lv_iadd hx hb d_Lw_law_274 ?_
      refine va_sld hx hb hX hbl hbA hS hi2 d_Lw_law_275 ?_
      refine lv_aload_n hx hb d_Lw_law_276 rfl (lv_at hl 3 rfl) ?_
      refine lv_iload_n hx hb d_Lw_law_277 rfl (lv_at hl 0 rfl) ?_
      refine lv_iconst (v := (3 : Int32)) hx hb d_Lw_law_278 (by decide) ?_
      refine lv_iadd hx hb d_Lw_law_279 ?_
      refine va_sld hx hb hX hbl hbA hS hi3 d_Lw_law_280 ?_
      refine lv_if_eq (tgt := 288) hx hb d_Lw_law_281 (by first | rfl | decide) (fun h => ?_) (fun h => absurd hz h)
      refine lv_iconst (v := (0 : Int32)) hx hb d_Lw_law_288 (by decide) ?_
      have hP := km_permP List.perm_append_comm hP
      have hD := km_permD List.perm_append_comm hD
      refine km_cip (wc := mmdW cI cN cZ am zm) (wr := chW cI cN cZ u zc1 (va_up (va_up zn k y1) j w1)) (km_rV (n := 3) hE kmG (c_Md_promise l D cI cN cZ am zm (xs (nI (4 * t) + (1 : Int32)).toNatClampNeg) (xs (nI (4 * t) + (2 : Int32)).toNatClampNeg) (0 : Int32) _ hw) mw_572 mw_569 mw_570 mw_571 mw_8 (by decide) ⟨rfl, rfl, ⟨by decide, by decide⟩, by decide, by decide⟩ hK (km_cutL hP) (km_cutD hD) (ci := 6) rfl hP (q0 := 0) rfl rfl hl.1 rfl (Nat.le_of_ble_eq_true rfl) d_Lw_law_289) hP hD hS hA (fun r2 zm1 H locs hw hP hD hS => ?_)
      refine lv_icmp_eq (tgt := 689) hx hb d_Lw_law_292 (by first | rfl | decide) (fun _ => ?_) (fun h => absurd hw.1 h)
      exact hk _ _ _ ls H locs hw.2 hl hP hD hS
    · skip
      obtain ⟨k, hk6, hw⟩ := hw
      have hP := km_permP (lx_p1 hk6) hP
      have hD := km_permD (lx_p1 hk6) hD
      refine km_cip (wc := (mchW cI cN cZ (u 6) (km_g u) zc ++ mndW cI cN cZ (u k) (zn k))) (wr := (lx_r1 cI cN cZ u zn k (mmdW cI cN cZ am zm))) (km_rV (n := 3) hE kmG (c_Ch_promise_al l D cI cN cZ (u 6) (u k) (km_g u) k hk6 (lx_g hk6) zc (zn k) (xs (nI (4 * t) + (1 : Int32)).toNatClampNeg) (xs (nI (4 * t) + (2 : Int32)).toNatClampNeg) (0 : Int32) _ hw) mw_270 mw_267 mw_268 mw_269 mw_1 (by decide) ⟨rfl, rfl, ⟨by decide, by decide⟩, by decide, by decide⟩ hK (km_cutL hP) (km_cutD hD) (ci := 5) rfl hP (q0 := 0) rfl rfl hl.1 rfl (Nat.le_of_ble_eq_true rfl) d_Lw_law_262) hP hD hS hA (fun r1 v H locs hw hP hD hS => ?_)
      obtain ⟨zc1, y1⟩ := v
      have hP : va_P D kmC (chW cI cN cZ u zc1 (va_up zn k y1) ++ mmdW cI cN cZ am zm) H := km_permP (lx_q1 hk6) hP
      have hD : va_D A (chW cI cN cZ u zc1 (va_up zn k y1) ++ mmdW cI cN cZ am zm) := km_permD (lx_q1 hk6) hD
      refine lv_aload_n hx hb d_Lw_law_265 rfl (lv_at hl 1 rfl) ?_
      refine lv_aload_n hx hb d_Lw_law_266 rfl (lv_at hl 3 rfl) ?_
      refine lv_iload_n hx hb d_Lw_law_267 rfl (lv_at hl 0 rfl) ?_
      refine lv_iconst (v := (1 : Int32)) hx hb d_Lw_law_268 (by decide) ?_
      refine lv_iadd hx hb d_Lw_law_269 ?_
      refine va_sld hx hb hX hbl hbA hS hi1 d_Lw_law_270 ?_
      refine lv_aload_n hx hb d_Lw_law_271 rfl (lv_at hl 3 rfl) ?_
      refine lv_iload_n hx hb d_Lw_law_272 rfl (lv_at hl 0 rfl) ?_
      refine lv_iconst (v := (2 : Int32)) hx hb d_Lw_law_273 (by decide) ?_
      refine lv_iadd hx hb d_Lw_law_274 ?_
      refine va_sld hx hb hX hbl hbA hS hi2 d_Lw_law_275 ?_
      refine lv_aload_n hx hb d_Lw_law_276 rfl (lv_at hl 3 rfl) ?_
      refine lv_iload_n hx hb d_Lw_law_277 rfl (lv_at hl 0 rfl) ?_
      refine lv_iconst (v := (3 : Int32)) hx hb d_Lw_law_278 (by decide) ?_
      refine lv_iadd hx hb d_Lw_law_279 ?_
      refine va_sld hx hb hX hbl hbA hS hi3 d_Lw_law_280 ?_
      refine lv_if_eq (tgt := 288) hx hb d_Lw_law_281 (by first | rfl | decide) (fun h => ?_) (fun h => absurd hz h)
      refine lv_iconst (v := (0 : Int32)) hx hb d_Lw_law_288 (by decide) ?_
      have hP := km_permP List.perm_append_comm hP
      have hD := km_permD List.perm_append_comm hD
      refine km_cip (wc := mmdW cI cN cZ am zm) (wr := chW cI cN cZ u zc1 (va_up zn k y1)) (km_rV (n := 3) hE kmG (c_Md_promise l D cI cN cZ am zm (xs (nI (4 * t) + (1 : Int32)).toNatClampNeg) (xs (nI (4 * t) + (2 : Int32)).toNatClampNeg) (0 : Int32) _ hw) mw_572 mw_569 mw_570 mw_571 mw_8 (by decide) ⟨rfl, rfl, ⟨by decide, by decide⟩, by decide, by decide⟩ hK (km_cutL hP) (km_cutD hD) (ci := 6) rfl hP (q0 := 0) rfl rfl hl.1 rfl (Nat.le_of_ble_eq_true rfl) d_Lw_law_289) hP hD hS hA (fun r2 zm1 H locs hw hP hD hS => ?_)
      refine lv_icmp_eq (tgt := 689) hx hb d_Lw_law_292 (by first | rfl | decide) (fun _ => ?_) (fun h => absurd hw.1 h)
      exact hk _ _ _ ls H locs hw.2 hl hP hD hS
  · skip
    refine lv_iconst (v := (1 : Int32)) hx hb d_Lw_law_257 (by decide) ?_
    refine lv_goto (tgt := 262) hx hb d_Lw_law_258 (by first | rfl | decide) ?_
    have hw := st_promise t zc zn zm (xs (nI (4 * t) + (1 : Int32)).toNatClampNeg) (xs (nI (4 * t) + (2 : Int32)).toNatClampNeg) (1 : Int32) ht (by first | exact Or.inl rfl | exact Or.inr rfl) hI
    rcases hw with hw | hw
    · skip
      obtain ⟨k, j, hk6, hj6, hkj, hw⟩ := hw
      have hP := km_permP (lx_p2 hk6 hj6 hkj) hP
      have hD := km_permD (lx_p2 hk6 hj6 hkj) hD
      refine km_cip (wc := (mchW cI cN cZ (u 6) (km_g u) zc ++ mndW cI cN cZ (u k) (zn k) ++ mndW cI cN cZ (u j) (zn j))) (wr := (lx_r2 cI cN cZ u zn k j (mmdW cI cN cZ am zm))) (km_rV (n := 3) hE kmG (c_Ch_promise l D cI cN cZ (u 6) (u k) (u j) (km_g u) k hk6 (lx_g hk6) j hj6 (lx_g hj6) zc (zn k) (zn j) (xs (nI (4 * t) + (1 : Int32)).toNatClampNeg) (xs (nI (4 * t) + (2 : Int32)).toNatClampNeg) (1 : Int32) _ hw) mw_270 mw_267 mw_268 mw_269 mw_1 (by decide) ⟨rfl, rfl, ⟨by decide, by decide⟩, by decide, by decide⟩ hK (km_cutL hP) (km_cutD hD) (ci := 5) rfl hP (q0 := 0) rfl rfl hl.1 rfl (Nat.le_of_ble_eq_true rfl) d_Lw_law_262) hP hD hS hA (fun r1 v H locs hw hP hD hS => ?_)
      obtain ⟨zc1, y1, w1⟩ := v
      have hP : va_P D kmC (chW cI cN cZ u zc1 (va_up (va_up zn k y1) j w1) ++ mmdW cI cN cZ am zm) H := km_permP (lx_q2 hk6 hj6 hkj) hP
      have hD : va_D A (chW cI cN cZ u zc1 (va_up (va_up zn k y1) j w1) ++ mmdW cI cN cZ am zm) := km_permD (lx_q2 hk6 hj6 hkj) hD
      refine lv_aload_n hx hb d_Lw_law_265 rfl (lv_at hl 1 rfl) ?_
      refine lv_aload_n hx hb d_Lw_law_266 rfl (lv_at hl 3 rfl) ?_
      refine lv_iload_n hx hb d_Lw_law_267 rfl (lv_at hl 0 rfl) ?_
      refine lv_iconst (v := (1 : Int32)) hx hb d_Lw_law_268 (by decide) ?_
      refine lv_iadd hx hb d_Lw_law_269 ?_
      refine va_sld hx hb hX hbl hbA hS hi1 d_Lw_law_270 ?_
      refine lv_aload_n hx hb d_Lw_law_271 rfl (lv_at hl 3 rfl) ?_
      refine lv_iload_n hx hb d_Lw_law_272 rfl (lv_at hl 0 rfl) ?_
      refine lv_iconst (v := (2 : Int32)) hx hb d_Lw_law_273 (by decide) ?_
      refine lv_iadd hx hb d_Lw_law_274 ?_
      refine va_sld hx hb hX hbl hbA hS hi2 d_Lw_law_275 ?_
      refine lv_aload_n hx hb d_Lw_law_276 rfl (lv_at hl 3 rfl) ?_
      refine lv_iload_n hx hb d_Lw_law_277 rfl (lv_at hl 0 rfl) ?_
      refine lv_iconst (v := (3 : Int32)) hx hb d_Lw_law_278 (by decide) ?_
      refine lv_iadd hx hb d_Lw_law_279 ?_
      refine va_sld hx hb hX hbl hbA hS hi3 d_Lw_law_280 ?_
      refine lv_if_eq (tgt := 288) hx hb d_Lw_law_281 (by first | rfl | decide) (fun h => absurd h hz) (fun h => ?_)
      refine lv_iconst (v := (1 : Int32)) hx hb d_Lw_law_284 (by decide) ?_
      refine lv_goto (tgt := 289) hx hb d_Lw_law_285 (by first | rfl | decide) ?_
      have hP := km_permP List.perm_append_comm hP
      have hD := km_permD List.perm_append_comm hD
      refine km_cip (wc := mmdW cI cN cZ am zm) (wr := chW cI cN cZ u zc1 (va_up (va_up zn k y1) j w1)) (km_rV (n := 3) hE kmG (c_Md_promise l D cI cN cZ am zm (xs (nI (4 * t) + (1 : Int32)).toNatClampNeg) (xs (nI (4 * t) + (2 : Int32)).toNatClampNeg) (1 : Int32) _ hw) mw_572 mw_569 mw_570 mw_571 mw_8 (by decide) ⟨rfl, rfl, ⟨by decide, by decide⟩, by decide, by decide⟩ hK (km_cutL hP) (km_cutD hD) (ci := 6) rfl hP (q0 := 0) rfl rfl hl.1 rfl (Nat.le_of_ble_eq_true rfl) d_Lw_law_289) hP hD hS hA (fun r2 zm1 H locs hw hP hD hS => ?_)
      refine lv_icmp_eq (tgt := 689) hx hb d_Lw_law_292 (by first | rfl | decide) (fun _ => ?_) (fun h => absurd hw.1 h)
      exact hk _ _ _ ls H locs hw.2 hl hP hD hS
    · skip
      obtain ⟨k, hk6, hw⟩ := hw
      have hP := km_permP (lx_p1 hk6) hP
      have hD := km_permD (lx_p1 hk6) hD
      refine km_cip (wc := (mchW cI cN cZ (u 6) (km_g u) zc ++ mndW cI cN cZ (u k) (zn k))) (wr := (lx_r1 cI cN cZ u zn k (mmdW cI cN cZ am zm))) (km_rV (n := 3) hE kmG (c_Ch_promise_al l D cI cN cZ (u 6) (u k) (km_g u) k hk6 (lx_g hk6) zc (zn k) (xs (nI (4 * t) + (1 : Int32)).toNatClampNeg) (xs (nI (4 * t) + (2 : Int32)).toNatClampNeg) (1 : Int32) _ hw) mw_270 mw_267 mw_268 mw_269 mw_1 (by decide) ⟨rfl, rfl, ⟨by decide, by decide⟩, by decide, by decide⟩ hK (km_cutL hP) (km_cutD hD) (ci := 5) rfl hP (q0 := 0) rfl rfl hl.1 rfl (Nat.le_of_ble_eq_true rfl) d_Lw_law_262) hP hD hS hA (fun r1 v H locs hw hP hD hS => ?_)
      obtain ⟨zc1, y1⟩ := v
      have hP : va_P D kmC (chW cI cN cZ u zc1 (va_up zn k y1) ++ mmdW cI cN cZ am zm) H := km_permP (lx_q1 hk6) hP
      have hD : va_D A (chW cI cN cZ u zc1 (va_up zn k y1) ++ mmdW cI cN cZ am zm) := km_permD (lx_q1 hk6) hD
      refine lv_aload_n hx hb d_Lw_law_265 rfl (lv_at hl 1 rfl) ?_
      refine lv_aload_n hx hb d_Lw_law_266 rfl (lv_at hl 3 rfl) ?_
      refine lv_iload_n hx hb d_Lw_law_267 rfl (lv_at hl 0 rfl) ?_
      refine lv_iconst (v := (1 : Int32)) hx hb d_Lw_law_268 (by decide) ?_
      refine lv_iadd hx hb d_Lw_law_269 ?_
      refine va_sld hx hb hX hbl hbA hS hi1 d_Lw_law_270 ?_
      refine lv_aload_n hx hb d_Lw_law_271 rfl (lv_at hl 3 rfl) ?_
      refine lv_iload_n hx hb d_Lw_law_272 rfl (lv_at hl 0 rfl) ?_
      refine lv_iconst (v := (2 : Int32)) hx hb d_Lw_law_273 (by decide) ?_
      refine lv_iadd hx hb d_Lw_law_274 ?_
      refine va_sld hx hb hX hbl hbA hS hi2 d_Lw_law_275 ?_
      refine lv_aload_n hx hb d_Lw_law_276 rfl (lv_at hl 3 rfl) ?_
      refine lv_iload_n hx hb d_Lw_law_277 rfl (lv_at hl 0 rfl) ?_
      refine lv_iconst (v := (3 : Int32)) hx hb d_Lw_law_278 (by decide) ?_
      refine lv_iadd hx hb d_Lw_law_279 ?_
      refine va_sld hx hb hX hbl hbA hS hi3 d_Lw_law_280 ?_
      refine lv_if_eq (tgt := 288) hx hb d_Lw_law_281 (by first | rfl | decide) (fun h => absurd h hz) (fun h => ?_)
      refine lv_iconst (v := (1 : Int32)) hx hb d_Lw_law_284 (by decide) ?_
      refine lv_goto (tgt := 289) hx hb d_Lw_law_285 (by first | rfl | decide) ?_
      have hP := km_permP List.perm_append_comm hP
      have hD := km_permD List.perm_append_comm hD
      refine km_cip (wc := mmdW cI cN cZ am zm) (wr := chW cI cN cZ u zc1 (va_up zn k y1)) (km_rV (n := 3) hE kmG (c_Md_promise l D cI cN cZ am zm (xs (nI (4 * t) + (1 : Int32)).toNatClampNeg) (xs (nI (4 * t) + (2 : Int32)).toNatClampNeg) (1 : Int32) _ hw) mw_572 mw_569 mw_570 mw_571 mw_8 (by decide) ⟨rfl, rfl, ⟨by decide, by decide⟩, by decide, by decide⟩ hK (km_cutL hP) (km_cutD hD) (ci := 6) rfl hP (q0 := 0) rfl rfl hl.1 rfl (Nat.le_of_ble_eq_true rfl) d_Lw_law_289) hP hD hS hA (fun r2 zm1 H locs hw hP hD hS => ?_)
      refine lv_icmp_eq (tgt := 689) hx hb d_Lw_law_292 (by first | rfl | decide) (fun _ => ?_) (fun h => absurd hw.1 h)
      exact hk _ _ _ ls H locs hw.2 hl hP hD hS
set_option maxHeartbeats 4000000 in
set_option maxRecDepth 100000 in
theorem lc_accept {p : Program} {l : Launch} {e : Env} {s : State} {m : MethodId} {below : List Frame} {meth : Method} {c : Code} {D : va_G} {cI cN cZ : ClassId} {A : Nat → Prop} {w0 : Cond} {b L : Nat} {xs : Nat → Int32} {u : Nat → Nat → Nat} {am : Nat → Nat} (RI : RIT) (st_accept : ls_accept RI) (hE : km_E p s m meth c code 4 ret R_law meth.name (w0 :: kmW) #[Value.ref b]) (hK : km_K D kmC (kmT cI cN cZ) kmF kmM s) (hA : ∀ q : Nat, s.heap.size ≤ q → A q) (hX : va_X b L xs s s.heap) (hbl : b < s.heap.size) (hbA : ¬ A b) (t : Nat) (ht : t < 512) (hi1 : vp_in (nI (4 * t) + (1 : Int32)) L) (hi2 : vp_in (nI (4 * t) + (2 : Int32)) L) (hi3 : vp_in (nI (4 * t) + (3 : Int32)) L) (zc : MchT) (zn : Nat → MndT) (zm : MmdT) (hI : RI t zc zn zm) (ls : Array Slot) (H : Heap) (locs : List Loc) (hl : lv_has ls 4 [(3, .int (nI (4 * t))), (2, .ref (am 0)), (1, .ref (u 6 0)), (0, .ref b)]) (hP : va_P D kmC (chW cI cN cZ u zc zn ++ mmdW cI cN cZ am zm) H) (hD : va_D A (chW cI cN cZ u zc zn ++ mmdW cI cN cZ am zm)) (hS : va_S A s.heap H locs)
    (hk : ∀ (zc1 : MchT) (zn1 : Nat → MndT) (zm1 : MmdT) (ls : Array Slot) (H : Heap) (locs : List Loc), RI (t + 1) zc1 zn1 zm1 → lv_has ls 4 [(3, .int (nI (4 * t))), (2, .ref (am 0)), (1, .ref (u 6 0)), (0, .ref b)] → va_P D kmC (chW cI cN cZ u zc1 zn1 ++ mmdW cI cN cZ am zm1) H → va_D A (chW cI cN cZ u zc1 zn1 ++ mmdW cI cN cZ am zm1) → va_S A s.heap H locs → W p l e room_1 s m #[Value.ref b] below meth c H locs 94 2489 (lw_Z below #[Value.ref b] s) (F0 m 689 ls [])) : W p l e room_1 s m #[Value.ref b] below meth c H locs 94 2489 (lw_Z below #[Value.ref b] s) (F0 m 297 ls []) := by
  obtain ⟨hx, hb, hr, hml, hown, hts0, hlk, hnm⟩ := id hE
  refine lv_aload_n hx hb d_Lw_law_297 rfl (lv_at hl 2 rfl) ?_
  refine lv_aload_n hx hb d_Lw_law_298 rfl (lv_at hl 3 rfl) ?_
  refine lv_iload_n hx hb d_Lw_law_299 rfl (lv_at hl 0 rfl) ?_
  refine lv_iconst (v := (1 : Int32)) hx hb d_Lw_law_300 (by decide) ?_
  refine lv_iadd hx hb d_Lw_law_301 ?_
  refine va_sld hx hb hX hbl hbA hS hi1 d_Lw_law_302 ?_
  refine lv_aload_n hx hb d_Lw_law_303 rfl (lv_at hl 3 rfl) ?_
  refine lv_iload_n hx hb d_Lw_law_304 rfl (lv_at hl 0 rfl) ?_
  refine lv_iconst (v := (2 : Int32)) hx hb d_Lw_law_305 (by decide) ?_
  refine lv_iadd hx hb d_Lw_law_306 ?_
  refine va_sld hx hb hX hbl hbA hS hi2 d_Lw_law_307 ?_
  refine lv_aload_n hx hb d_Lw_law_308 rfl (lv_at hl 3 rfl) ?_
  refine lv_iload_n hx hb d_Lw_law_309 rfl (lv_at hl 0 rfl) ?_
  refine lv_iconst (v := (3 : Int32)) hx hb d_Lw_law_310 (by decide) ?_
  refine lv_iadd hx hb d_Lw_law_311 ?_
  refine va_sld hx hb hX hbl hbA hS hi3 d_Lw_law_312 ?_
  refine lv_if_eq (tgt := 320) hx hb d_Lw_law_313 (by first | rfl | decide) (fun hz => ?_) (fun hz => ?_)
  · skip
    refine lv_iconst (v := (0 : Int32)) hx hb d_Lw_law_320 (by decide) ?_
    have hw := st_accept t zc zn zm (xs (nI (4 * t) + (1 : Int32)).toNatClampNeg) (xs (nI (4 * t) + (2 : Int32)).toNatClampNeg) (0 : Int32) ht (by first | exact Or.inl rfl | exact Or.inr rfl) hI
    rcases hw with hw | hw
    · skip
      obtain ⟨k, j, hk6, hj6, hkj, hw⟩ := hw
      have hP := km_permP (lx_p2 hk6 hj6 hkj) hP
      have hD := km_permD (lx_p2 hk6 hj6 hkj) hD
      refine km_cip (wc := (mchW cI cN cZ (u 6) (km_g u) zc ++ mndW cI cN cZ (u k) (zn k) ++ mndW cI cN cZ (u j) (zn j))) (wr := (lx_r2 cI cN cZ u zn k j (mmdW cI cN cZ am zm))) (km_rV (n := 3) hE kmG (c_Ch_accept l D cI cN cZ (u 6) (u k) (u j) (km_g u) k hk6 (lx_g hk6) j hj6 (lx_g hj6) zc (zn k) (zn j) (xs (nI (4 * t) + (1 : Int32)).toNatClampNeg) (xs (nI (4 * t) + (2 : Int32)).toNatClampNeg) (0 : Int32) _ hw) mw_318 mw_315 mw_316 mw_317 mw_1 (by decide) ⟨rfl, rfl, ⟨by decide, by decide⟩, by decide, by decide⟩ hK (km_cutL hP) (km_cutD hD) (ci := 5) rfl hP (q0 := 0) rfl rfl hl.1 rfl (Nat.le_of_ble_eq_true rfl) d_Lw_law_321) hP hD hS hA (fun r1 v H locs hw hP hD hS => ?_)
      obtain ⟨zc1, y1, w1⟩ := v
      have hP : va_P D kmC (chW cI cN cZ u zc1 (va_up (va_up zn k y1) j w1) ++ mmdW cI cN cZ am zm) H := km_permP (lx_q2 hk6 hj6 hkj) hP
      have hD : va_D A (chW cI cN cZ u zc1 (va_up (va_up zn k y1) j w1) ++ mmdW cI cN cZ am zm) := km_permD (lx_q2 hk6 hj6 hkj) hD
      refine lv_aload_n hx hb d_Lw_law_324 rfl (lv_at hl 1 rfl) ?_
      refine lv_aload_n hx hb d_Lw_law_325 rfl (lv_at hl 3 rfl) ?_
      refine lv_iload_n hx hb d_Lw_law_326 rfl (lv_at hl 0 rfl) ?_
      refine lv_iconst (v := (1 : Int32)) hx hb d_Lw_law_327 (by decide) ?_
      refine lv_iadd hx hb d_Lw_law_328 ?_
      refine va_sld hx hb hX hbl hbA hS hi1 d_Lw_law_329 ?_
      refine lv_aload_n hx hb d_Lw_law_330 rfl (lv_at hl 3 rfl) ?_
      refine lv_iload_n hx hb d_Lw_law_331 rfl (lv_at hl 0 rfl) ?_
      refine lv_iconst (v := (2 : Int32)) hx hb d_Lw_law_332 (by decide) ?_
      refine lv_iadd hx hb d_Lw_law_333 ?_
      refine va_sld hx hb hX hbl hbA hS hi2 d_Lw_law_334 ?_
      refine lv_aload_n hx hb d_Lw_law_335 rfl (lv_at hl 3 rfl) ?_
      refine lv_iload_n hx hb d_Lw_law_336 rfl (lv_at hl 0 rfl) ?_
      refine lv_iconst (v := (3 : Int32)) hx hb d_Lw_law_337 (by decide) ?_
      refine lv_iadd hx hb d_Lw_law_338 ?_
      refine va_sld hx hb hX hbl hbA hS hi3 d_Lw_law_339 ?_
      refine lv_if_eq (tgt := 347) hx hb d_Lw_law_340 (by first | rfl | decide) (fun h => ?_) (fun h => absurd hz h)
      refine lv_iconst (v := (0 : Int32)) hx hb d_Lw_law_347 (by decide) ?_
      have hP := km_permP List.perm_append_comm hP
      have hD := km_permD List.perm_append_comm hD
      refine km_cip (wc := mmdW cI cN cZ am zm) (wr := chW cI cN cZ u zc1 (va_up (va_up zn k y1) j w1)) (km_rV (n := 3) hE kmG (c_Md_accept l D cI cN cZ am zm (xs (nI (4 * t) + (1 : Int32)).toNatClampNeg) (xs (nI (4 * t) + (2 : Int32)).toNatClampNeg) (0 : Int32) _ hw) mw_600 mw_597 mw_598 mw_599 mw_8 (by decide) ⟨rfl, rfl, ⟨by decide, by decide⟩, by decide, by decide⟩ hK (km_cutL hP) (km_cutD hD) (ci := 6) rfl hP (q0 := 0) rfl rfl hl.1 rfl (Nat.le_of_ble_eq_true rfl) d_Lw_law_348) hP hD hS hA (fun r2 zm1 H locs hw hP hD hS => ?_)
      refine lv_icmp_eq (tgt := 689) hx hb d_Lw_law_351 (by first | rfl | decide) (fun _ => ?_) (fun h => absurd hw.1 h)
      exact hk _ _ _ ls H locs hw.2 hl hP hD hS
    · skip
      obtain ⟨k, hk6, hw⟩ := hw
      have hP := km_permP (lx_p1 hk6) hP
      have hD := km_permD (lx_p1 hk6) hD
      refine km_cip (wc := (mchW cI cN cZ (u 6) (km_g u) zc ++ mndW cI cN cZ (u k) (zn k))) (wr := (lx_r1 cI cN cZ u zn k (mmdW cI cN cZ am zm))) (km_rV (n := 3) hE kmG (c_Ch_accept_al l D cI cN cZ (u 6) (u k) (km_g u) k hk6 (lx_g hk6) zc (zn k) (xs (nI (4 * t) + (1 : Int32)).toNatClampNeg) (xs (nI (4 * t) + (2 : Int32)).toNatClampNeg) (0 : Int32) _ hw) mw_318 mw_315 mw_316 mw_317 mw_1 (by decide) ⟨rfl, rfl, ⟨by decide, by decide⟩, by decide, by decide⟩ hK (km_cutL hP) (km_cutD hD) (ci := 5) rfl hP (q0 := 0) rfl rfl hl.1 rfl (Nat.le_of_ble_eq_true rfl) d_Lw_law_321) hP hD hS hA (fun r1 v H locs hw hP hD hS => ?_)
      obtain ⟨zc1, y1⟩ := v
      have hP : va_P D kmC (chW cI cN cZ u zc1 (va_up zn k y1) ++ mmdW cI cN cZ am zm) H := km_permP (lx_q1 hk6) hP
      have hD : va_D A (chW cI cN cZ u zc1 (va_up zn k y1) ++ mmdW cI cN cZ am zm) := km_permD (lx_q1 hk6) hD
      refine lv_aload_n hx hb d_Lw_law_324 rfl (lv_at hl 1 rfl) ?_
      refine lv_aload_n hx hb d_Lw_law_325 rfl (lv_at hl 3 rfl) ?_
      refine lv_iload_n hx hb d_Lw_law_326 rfl (lv_at hl 0 rfl) ?_
      refine lv_iconst (v := (1 : Int32)) hx hb d_Lw_law_327 (by decide) ?_
      refine lv_iadd hx hb d_Lw_law_328 ?_
      refine va_sld hx hb hX hbl hbA hS hi1 d_Lw_law_329 ?_
      refine lv_aload_n hx hb d_Lw_law_330 rfl (lv_at hl 3 rfl) ?_
      refine lv_iload_n hx hb d_Lw_law_331 rfl (lv_at hl 0 rfl) ?_
      refine lv_iconst (v := (2 : Int32)) hx hb d_Lw_law_332 (by decide) ?_
      refine lv_iadd hx hb d_Lw_law_333 ?_
      refine va_sld hx hb hX hbl hbA hS hi2 d_Lw_law_334 ?_
      refine lv_aload_n hx hb d_Lw_law_335 rfl (lv_at hl 3 rfl) ?_
      refine lv_iload_n hx hb d_Lw_law_336 rfl (lv_at hl 0 rfl) ?_
      refine lv_iconst (v := (3 : Int32)) hx hb d_Lw_law_337 (by decide) ?_
      refine lv_iadd hx hb d_Lw_law_338 ?_
      refine va_sld hx hb hX hbl hbA hS hi3 d_Lw_law_339 ?_
      refine lv_if_eq (tgt := 347) hx hb d_Lw_law_340 (by first | rfl | decide) (fun h => ?_) (fun h => absurd hz h)
      refine lv_iconst (v := (0 : Int32)) hx hb d_Lw_law_347 (by decide) ?_
      have hP := km_permP List.perm_append_comm hP
      have hD := km_permD List.perm_append_comm hD
      refine km_cip (wc := mmdW cI cN cZ am zm) (wr := chW cI cN cZ u zc1 (va_up zn k y1)) (km_rV (n := 3) hE kmG (c_Md_accept l D cI cN cZ am zm (xs (nI (4 * t) + (1 : Int32)).toNatClampNeg) (xs (nI (4 * t) + (2 : Int32)).toNatClampNeg) (0 : Int32) _ hw) mw_600 mw_597 mw_598 mw_599 mw_8 (by decide) ⟨rfl, rfl, ⟨by decide, by decide⟩, by decide, by decide⟩ hK (km_cutL hP) (km_cutD hD) (ci := 6) rfl hP (q0 := 0) rfl rfl hl.1 rfl (Nat.le_of_ble_eq_true rfl) d_Lw_law_348) hP hD hS hA (fun r2 zm1 H locs hw hP hD hS => ?_)
      refine lv_icmp_eq (tgt := 689) hx hb d_Lw_law_351 (by first | rfl | decide) (fun _ => ?_) (fun h => absurd hw.1 h)
      exact hk _ _ _ ls H locs hw.2 hl hP hD hS
  · skip
    refine lv_iconst (v := (1 : Int32)) hx hb d_Lw_law_316 (by decide) ?_
    refine lv_goto (tgt := 321) hx hb d_Lw_law_317 (by first | rfl | decide) ?_
    have hw := st_accept t zc zn zm (xs (nI (4 * t) + (1 : Int32)).toNatClampNeg) (xs (nI (4 * t) + (2 : Int32)).toNatClampNeg) (1 : Int32) ht (by first | exact Or.inl rfl | exact Or.inr rfl) hI
    rcases hw with hw | hw
    · skip
      obtain ⟨k, j, hk6, hj6, hkj, hw⟩ := hw
      have hP := km_permP (lx_p2 hk6 hj6 hkj) hP
      have hD := km_permD (lx_p2 hk6 hj6 hkj) hD
      refine km_cip (wc := (mchW cI cN cZ (u 6) (km_g u) zc ++ mndW cI cN cZ (u k) (zn k) ++ mndW cI cN cZ (u j) (zn j))) (wr := (lx_r2 cI cN cZ u zn k j (mmdW cI cN cZ am zm))) (km_rV (n := 3) hE kmG (c_Ch_accept l D cI cN cZ (u 6) (u k) (u j) (km_g u) k hk6 (lx_g hk6) j hj6 (lx_g hj6) zc (zn k) (zn j) (xs (nI (4 * t) + (1 : Int32)).toNatClampNeg) (xs (nI (4 * t) + (2 : Int32)).toNatClampNeg) (1 : Int32) _ hw) mw_318 mw_315 mw_316 mw_317 mw_1 (by decide) ⟨rfl, rfl, ⟨by decide, by decide⟩, by decide, by decide⟩ hK (km_cutL hP) (km_cutD hD) (ci := 5) rfl hP (q0 := 0) rfl rfl hl.1 rfl (Nat.le_of_ble_eq_true rfl) d_Lw_law_321) hP hD hS hA (fun r1 v H locs hw hP hD hS => ?_)
      obtain ⟨zc1, y1, w1⟩ := v
      have hP : va_P D kmC (chW cI cN cZ u zc1 (va_up (va_up zn k y1) j w1) ++ mmdW cI cN cZ am zm) H := km_permP (lx_q2 hk6 hj6 hkj) hP
      have hD : va_D A (chW cI cN cZ u zc1 (va_up (va_up zn k y1) j w1) ++ mmdW cI cN cZ am zm) := km_permD (lx_q2 hk6 hj6 hkj) hD
      refine lv_aload_n hx hb d_Lw_law_324 rfl (lv_at hl 1 rfl) ?_
      refine lv_aload_n hx hb d_Lw_law_325 rfl (lv_at hl 3 rfl) ?_
      refine lv_iload_n hx hb d_Lw_law_326 rfl (lv_at hl 0 rfl) ?_
      refine lv_iconst (v := (1 : Int32)) hx hb d_Lw_law_327 (by decide) ?_
      refine lv_iadd hx hb d_Lw_law_328 ?_
      refine va_sld hx hb hX hbl hbA hS hi1 d_Lw_law_329 ?_
      refine lv_aload_n hx hb d_Lw_law_330 rfl (lv_at hl 3 rfl) ?_
      refine lv_iload_n hx hb d_Lw_law_331 rfl (lv_at hl 0 rfl) ?_
      refine lv_iconst (v := (2 : Int32)) hx hb d_Lw_law_332 (by decide) ?_
      refine lv_iadd hx hb d_Lw_law_333 ?_
      refine va_sld hx hb hX hbl hbA hS hi2 d_Lw_law_334 ?_
      refine lv_aload_n hx hb d_Lw_law_335 rfl (lv_at hl 3 rfl) ?_
      refine lv_iload_n hx hb d_Lw_law_336 rfl (lv_at hl 0 rfl) ?_
      refine lv_iconst (v := (3 : Int32)) hx hb d_Lw_law_337 (by decide) ?_
      refine lv_iadd hx hb d_Lw_law_338 ?_
      refine va_sld hx hb hX hbl hbA hS hi3 d_Lw_law_339 ?_
      refine lv_if_eq (tgt := 347) hx hb d_Lw_law_340 (by first | rfl | decide) (fun h => absurd h hz) (fun h => ?_)
      refine lv_iconst (v := (1 : Int32)) hx hb d_Lw_law_343 (by decide) ?_
      refine lv_goto (tgt := 348) hx hb d_Lw_law_344 (by first | rfl | decide) ?_
      have hP := km_permP List.perm_append_comm hP
      have hD := km_permD List.perm_append_comm hD
      refine km_cip (wc := mmdW cI cN cZ am zm) (wr := chW cI cN cZ u zc1 (va_up (va_up zn k y1) j w1)) (km_rV (n := 3) hE kmG (c_Md_accept l D cI cN cZ am zm (xs (nI (4 * t) + (1 : Int32)).toNatClampNeg) (xs (nI (4 * t) + (2 : Int32)).toNatClampNeg) (1 : Int32) _ hw) mw_600 mw_597 mw_598 mw_599 mw_8 (by decide) ⟨rfl, rfl, ⟨by decide, by decide⟩, by decide, by decide⟩ hK (km_cutL hP) (km_cutD hD) (ci := 6) rfl hP (q0 := 0) rfl rfl hl.1 rfl (Nat.le_of_ble_eq_true rfl) d_Lw_law_348) hP hD hS hA (fun r2 zm1 H locs hw hP hD hS => ?_)
      refine lv_icmp_eq (tgt := 689) hx hb d_Lw_law_351 (by first | rfl | decide) (fun _ => ?_) (fun h => absurd hw.1 h)
      exact hk _ _ _ ls H locs hw.2 hl hP hD hS
    · skip
      obtain ⟨k, hk6, hw⟩ := hw
      have hP := km_permP (lx_p1 hk6) hP
      have hD := km_permD (lx_p1 hk6) hD
      refine km_cip (wc := (mchW cI cN cZ (u 6) (km_g u) zc ++ mndW cI cN cZ (u k) (zn k))) (wr := (lx_r1 cI cN cZ u zn k (mmdW cI cN cZ am zm))) (km_rV (n := 3) hE kmG (c_Ch_accept_al l D cI cN cZ (u 6) (u k) (km_g u) k hk6 (lx_g hk6) zc (zn k) (xs (nI (4 * t) + (1 : Int32)).toNatClampNeg) (xs (nI (4 * t) + (2 : Int32)).toNatClampNeg) (1 : Int32) _ hw) mw_318 mw_315 mw_316 mw_317 mw_1 (by decide) ⟨rfl, rfl, ⟨by decide, by decide⟩, by decide, by decide⟩ hK (km_cutL hP) (km_cutD hD) (ci := 5) rfl hP (q0 := 0) rfl rfl hl.1 rfl (Nat.le_of_ble_eq_true rfl) d_Lw_law_321) hP hD hS hA (fun r1 v H locs hw hP hD hS => ?_)
      obtain ⟨zc1, y1⟩ := v
      have hP : va_P D kmC (chW cI cN cZ u zc1 (va_up zn k y1) ++ mmdW cI cN cZ am zm) H := km_permP (lx_q1 hk6) hP
      have hD : va_D A (chW cI cN cZ u zc1 (va_up zn k y1) ++ mmdW cI cN cZ am zm) := km_permD (lx_q1 hk6) hD
      refine lv_aload_n hx hb d_Lw_law_324 rfl (lv_at hl 1 rfl) ?_
      refine lv_aload_n hx hb d_Lw_law_325 rfl (lv_at hl 3 rfl) ?_
      refine lv_iload_n hx hb d_Lw_law_326 rfl (lv_at hl 0 rfl) ?_
      refine lv_iconst (v := (1 : Int32)) hx hb d_Lw_law_327 (by decide) ?_
      refine lv_iadd hx hb d_Lw_law_328 ?_
      refine va_sld hx hb hX hbl hbA hS hi1 d_Lw_law_329 ?_
      refine lv_aload_n hx hb d_Lw_law_330 rfl (lv_at hl 3 rfl) ?_
      refine lv_iload_n hx hb d_Lw_law_331 rfl (lv_at hl 0 rfl) ?_
      refine lv_iconst (v := (2 : Int32)) hx hb d_Lw_law_332 (by decide) ?_
      refine lv_iadd hx hb d_Lw_law_333 ?_
      refine va_sld hx hb hX hbl hbA hS hi2 d_Lw_law_334 ?_
      refine lv_aload_n hx hb d_Lw_law_335 rfl (lv_at hl 3 rfl) ?_
      refine lv_iload_n hx hb d_Lw_law_336 rfl (lv_at hl 0 rfl) ?_
      refine lv_iconst (v := (3 : Int32)) hx hb d_Lw_law_337 (by decide) ?_
      refine lv_iadd hx hb d_Lw_law_338 ?_
      refine va_sld hx hb hX hbl hbA hS hi3 d_Lw_law_339 ?_
      refine lv_if_eq (tgt := 347) hx hb d_Lw_law_340 (by first | rfl | decide) (fun h => absurd h hz) (fun h => ?_)
      refine lv_iconst (v := (1 : Int32)) hx hb d_Lw_law_343 (by decide) ?_
      refine lv_goto (tgt := 348) hx hb d_Lw_law_344 (by first | rfl | decide) ?_
      have hP := km_permP List.perm_append_comm hP
      have hD := km_permD List.perm_append_comm hD
      refine km_cip (wc := mmdW cI cN cZ am zm) (wr := chW cI cN cZ u zc1 (va_up zn k y1)) (km_rV (n := 3) hE kmG (c_Md_accept l D cI cN cZ am zm (xs (nI (4 * t) + (1 : Int32)).toNatClampNeg) (xs (nI (4 * t) + (2 : Int32)).toNatClampNeg) (1 : Int32) _ hw) mw_600 mw_597 mw_598 mw_599 mw_8 (by decide) ⟨rfl, rfl, ⟨by decide, by decide⟩, by decide, by decide⟩ hK (km_cutL hP) (km_cutD hD) (ci := 6) rfl hP (q0 := 0) rfl rfl hl.1 rfl (Nat.le_of_ble_eq_true rfl) d_Lw_law_348) hP hD hS hA (fun r2 zm1 H locs hw hP hD hS => ?_)
      refine lv_icmp_eq (tgt := 689) hx hb d_Lw_law_351 (by first | rfl | decide) (fun _ => ?_) (fun h => absurd hw.1 h)
      exact hk _ _ _ ls H locs hw.2 hl hP hD hS
set_option maxHeartbeats 4000000 in
set_option maxRecDepth 100000 in
theorem lc_tell {p : Program} {l : Launch} {e : Env} {s : State} {m : MethodId} {below : List Frame} {meth : Method} {c : Code} {D : va_G} {cI cN cZ : ClassId} {A : Nat → Prop} {w0 : Cond} {b L : Nat} {xs : Nat → Int32} {u : Nat → Nat → Nat} {am : Nat → Nat} (RI : RIT) (st_tell : ls_tell RI) (hE : km_E p s m meth c code 4 ret R_law meth.name (w0 :: kmW) #[Value.ref b]) (hK : km_K D kmC (kmT cI cN cZ) kmF kmM s) (hA : ∀ q : Nat, s.heap.size ≤ q → A q) (hX : va_X b L xs s s.heap) (hbl : b < s.heap.size) (hbA : ¬ A b) (t : Nat) (ht : t < 512) (hi1 : vp_in (nI (4 * t) + (1 : Int32)) L) (hi2 : vp_in (nI (4 * t) + (2 : Int32)) L) (zc : MchT) (zn : Nat → MndT) (zm : MmdT) (hI : RI t zc zn zm) (ls : Array Slot) (H : Heap) (locs : List Loc) (hl : lv_has ls 4 [(3, .int (nI (4 * t))), (2, .ref (am 0)), (1, .ref (u 6 0)), (0, .ref b)]) (hP : va_P D kmC (chW cI cN cZ u zc zn ++ mmdW cI cN cZ am zm) H) (hD : va_D A (chW cI cN cZ u zc zn ++ mmdW cI cN cZ am zm)) (hS : va_S A s.heap H locs)
    (hk : ∀ (zc1 : MchT) (zn1 : Nat → MndT) (zm1 : MmdT) (ls : Array Slot) (H : Heap) (locs : List Loc), RI (t + 1) zc1 zn1 zm1 → lv_has ls 4 [(3, .int (nI (4 * t))), (2, .ref (am 0)), (1, .ref (u 6 0)), (0, .ref b)] → va_P D kmC (chW cI cN cZ u zc1 zn1 ++ mmdW cI cN cZ am zm1) H → va_D A (chW cI cN cZ u zc1 zn1 ++ mmdW cI cN cZ am zm1) → va_S A s.heap H locs → W p l e room_1 s m #[Value.ref b] below meth c H locs 94 2489 (lw_Z below #[Value.ref b] s) (F0 m 689 ls [])) : W p l e room_1 s m #[Value.ref b] below meth c H locs 94 2489 (lw_Z below #[Value.ref b] s) (F0 m 356 ls []) := by
  obtain ⟨hx, hb, hr, hml, hown, hts0, hlk, hnm⟩ := id hE
  refine lv_aload_n hx hb d_Lw_law_356 rfl (lv_at hl 2 rfl) ?_
  refine lv_aload_n hx hb d_Lw_law_357 rfl (lv_at hl 3 rfl) ?_
  refine lv_iload_n hx hb d_Lw_law_358 rfl (lv_at hl 0 rfl) ?_
  refine lv_iconst (v := (1 : Int32)) hx hb d_Lw_law_359 (by decide) ?_
  refine lv_iadd hx hb d_Lw_law_360 ?_
  refine va_sld hx hb hX hbl hbA hS hi1 d_Lw_law_361 ?_
  refine lv_aload_n hx hb d_Lw_law_362 rfl (lv_at hl 3 rfl) ?_
  refine lv_iload_n hx hb d_Lw_law_363 rfl (lv_at hl 0 rfl) ?_
  refine lv_iconst (v := (2 : Int32)) hx hb d_Lw_law_364 (by decide) ?_
  refine lv_iadd hx hb d_Lw_law_365 ?_
  refine va_sld hx hb hX hbl hbA hS hi2 d_Lw_law_366 ?_
  have hw := st_tell t zc zn zm (xs (nI (4 * t) + (1 : Int32)).toNatClampNeg) (xs (nI (4 * t) + (2 : Int32)).toNatClampNeg) ht hI
  obtain ⟨k, j, hk6, hj6, hkj, hw⟩ := hw
  have hP := km_permP (lx_p2 hk6 hj6 hkj) hP
  have hD := km_permD (lx_p2 hk6 hj6 hkj) hD
  refine km_cip (wc := (mchW cI cN cZ (u 6) (km_g u) zc ++ mndW cI cN cZ (u k) (zn k) ++ mndW cI cN cZ (u j) (zn j))) (wr := (lx_r2 cI cN cZ u zn k j (mmdW cI cN cZ am zm))) (km_rV (n := 2) hE kmG (c_Ch_tell l D cI cN cZ (u 6) (u k) (u j) (km_g u) k hk6 (lx_g hk6) j hj6 (lx_g hj6) zc (zn k) (zn j) (xs (nI (4 * t) + (1 : Int32)).toNatClampNeg) (xs (nI (4 * t) + (2 : Int32)).toNatClampNeg) _ hw) mw_363 mw_360 mw_361 mw_362 mw_1 (by decide) ⟨rfl, rfl, ⟨by decide, by decide⟩, by decide, by decide⟩ hK (km_cutL hP) (km_cutD hD) (ci := 5) rfl hP (q0 := 0) rfl rfl hl.1 rfl (Nat.le_of_ble_eq_true rfl) d_Lw_law_367) hP hD hS hA (fun r1 v H locs hw hP hD hS => ?_)
  obtain ⟨zc1, y1, w1⟩ := v
  have hP : va_P D kmC (chW cI cN cZ u zc1 (va_up (va_up zn k y1) j w1) ++ mmdW cI cN cZ am zm) H := km_permP (lx_q2 hk6 hj6 hkj) hP
  have hD : va_D A (chW cI cN cZ u zc1 (va_up (va_up zn k y1) j w1) ++ mmdW cI cN cZ am zm) := km_permD (lx_q2 hk6 hj6 hkj) hD
  refine lv_aload_n hx hb d_Lw_law_370 rfl (lv_at hl 1 rfl) ?_
  refine lv_aload_n hx hb d_Lw_law_371 rfl (lv_at hl 3 rfl) ?_
  refine lv_iload_n hx hb d_Lw_law_372 rfl (lv_at hl 0 rfl) ?_
  refine lv_iconst (v := (1 : Int32)) hx hb d_Lw_law_373 (by decide) ?_
  refine lv_iadd hx hb d_Lw_law_374 ?_
  refine va_sld hx hb hX hbl hbA hS hi1 d_Lw_law_375 ?_
  refine lv_aload_n hx hb d_Lw_law_376 rfl (lv_at hl 3 rfl) ?_
  refine lv_iload_n hx hb d_Lw_law_377 rfl (lv_at hl 0 rfl) ?_
  refine lv_iconst (v := (2 : Int32)) hx hb d_Lw_law_378 (by decide) ?_
  refine lv_iadd hx hb d_Lw_law_379 ?_
  refine va_sld hx hb hX hbl hbA hS hi2 d_Lw_law_380 ?_
  have hP := km_permP List.perm_append_comm hP
  have hD := km_permD List.perm_append_comm hD
  refine km_cip (wc := mmdW cI cN cZ am zm) (wr := chW cI cN cZ u zc1 (va_up (va_up zn k y1) j w1)) (km_rV (n := 2) hE kmG (c_Md_tell l D cI cN cZ am zm (xs (nI (4 * t) + (1 : Int32)).toNatClampNeg) (xs (nI (4 * t) + (2 : Int32)).toNatClampNeg) _ hw) mw_612 mw_609 mw_610 mw_611 mw_8 (by decide) ⟨rfl, rfl, ⟨by decide, by decide⟩, by decide, by decide⟩ hK (km_cutL hP) (km_cutD hD) (ci := 6) rfl hP (q0 := 0) rfl rfl hl.1 rfl (Nat.le_of_ble_eq_true rfl) d_Lw_law_381) hP hD hS hA (fun r2 zm1 H locs hw hP hD hS => ?_)
  refine lv_icmp_eq (tgt := 689) hx hb d_Lw_law_384 (by first | rfl | decide) (fun _ => ?_) (fun h => absurd hw.1 h)
  exact hk _ _ _ ls H locs hw.2 hl hP hD hS
set_option maxHeartbeats 4000000 in
set_option maxRecDepth 100000 in
theorem lc_crash {p : Program} {l : Launch} {e : Env} {s : State} {m : MethodId} {below : List Frame} {meth : Method} {c : Code} {D : va_G} {cI cN cZ : ClassId} {A : Nat → Prop} {w0 : Cond} {b L : Nat} {xs : Nat → Int32} {u : Nat → Nat → Nat} {am : Nat → Nat} (RI : RIT) (st_crash : ls_crash RI) (hE : km_E p s m meth c code 4 ret R_law meth.name (w0 :: kmW) #[Value.ref b]) (hK : km_K D kmC (kmT cI cN cZ) kmF kmM s) (hA : ∀ q : Nat, s.heap.size ≤ q → A q) (hX : va_X b L xs s s.heap) (hbl : b < s.heap.size) (hbA : ¬ A b) (t : Nat) (ht : t < 512) (hi1 : vp_in (nI (4 * t) + (1 : Int32)) L) (zc : MchT) (zn : Nat → MndT) (zm : MmdT) (hI : RI t zc zn zm) (ls : Array Slot) (H : Heap) (locs : List Loc) (hl : lv_has ls 4 [(3, .int (nI (4 * t))), (2, .ref (am 0)), (1, .ref (u 6 0)), (0, .ref b)]) (hP : va_P D kmC (chW cI cN cZ u zc zn ++ mmdW cI cN cZ am zm) H) (hD : va_D A (chW cI cN cZ u zc zn ++ mmdW cI cN cZ am zm)) (hS : va_S A s.heap H locs)
    (hk : ∀ (zc1 : MchT) (zn1 : Nat → MndT) (zm1 : MmdT) (ls : Array Slot) (H : Heap) (locs : List Loc), RI (t + 1) zc1 zn1 zm1 → lv_has ls 4 [(3, .int (nI (4 * t))), (2, .ref (am 0)), (1, .ref (u 6 0)), (0, .ref b)] → va_P D kmC (chW cI cN cZ u zc1 zn1 ++ mmdW cI cN cZ am zm1) H → va_D A (chW cI cN cZ u zc1 zn1 ++ mmdW cI cN cZ am zm1) → va_S A s.heap H locs → W p l e room_1 s m #[Value.ref b] below meth c H locs 94 2489 (lw_Z below #[Value.ref b] s) (F0 m 689 ls [])) : W p l e room_1 s m #[Value.ref b] below meth c H locs 94 2489 (lw_Z below #[Value.ref b] s) (F0 m 389 ls []) := by
  obtain ⟨hx, hb, hr, hml, hown, hts0, hlk, hnm⟩ := id hE
  refine lv_aload_n hx hb d_Lw_law_389 rfl (lv_at hl 2 rfl) ?_
  refine lv_aload_n hx hb d_Lw_law_390 rfl (lv_at hl 3 rfl) ?_
  refine lv_iload_n hx hb d_Lw_law_391 rfl (lv_at hl 0 rfl) ?_
  refine lv_iconst (v := (1 : Int32)) hx hb d_Lw_law_392 (by decide) ?_
  refine lv_iadd hx hb d_Lw_law_393 ?_
  refine va_sld hx hb hX hbl hbA hS hi1 d_Lw_law_394 ?_
  have hw := st_crash t zc zn zm (xs (nI (4 * t) + (1 : Int32)).toNatClampNeg) ht hI
  obtain ⟨k, hk6, hw⟩ := hw
  have hP := km_permP (lx_p1 hk6) hP
  have hD := km_permD (lx_p1 hk6) hD
  refine km_cip (wc := (mchW cI cN cZ (u 6) (km_g u) zc ++ mndW cI cN cZ (u k) (zn k))) (wr := (lx_r1 cI cN cZ u zn k (mmdW cI cN cZ am zm))) (km_rV (n := 1) hE kmG (c_Ch_crash l D cI cN cZ (u 6) (u k) (km_g u) k hk6 (lx_g hk6) zc (zn k) (xs (nI (4 * t) + (1 : Int32)).toNatClampNeg) _ hw) mw_372 mw_369 mw_370 mw_371 mw_1 (by decide) ⟨rfl, rfl, ⟨by decide, by decide⟩, by decide, by decide⟩ hK (km_cutL hP) (km_cutD hD) (ci := 5) rfl hP (q0 := 0) rfl rfl hl.1 rfl (Nat.le_of_ble_eq_true rfl) d_Lw_law_395) hP hD hS hA (fun r1 v H locs hw hP hD hS => ?_)
  obtain ⟨zc1, y1⟩ := v
  have hP : va_P D kmC (chW cI cN cZ u zc1 (va_up zn k y1) ++ mmdW cI cN cZ am zm) H := km_permP (lx_q1 hk6) hP
  have hD : va_D A (chW cI cN cZ u zc1 (va_up zn k y1) ++ mmdW cI cN cZ am zm) := km_permD (lx_q1 hk6) hD
  refine lv_aload_n hx hb d_Lw_law_398 rfl (lv_at hl 1 rfl) ?_
  refine lv_aload_n hx hb d_Lw_law_399 rfl (lv_at hl 3 rfl) ?_
  refine lv_iload_n hx hb d_Lw_law_400 rfl (lv_at hl 0 rfl) ?_
  refine lv_iconst (v := (1 : Int32)) hx hb d_Lw_law_401 (by decide) ?_
  refine lv_iadd hx hb d_Lw_law_402 ?_
  refine va_sld hx hb hX hbl hbA hS hi1 d_Lw_law_403 ?_
  have hP := km_permP List.perm_append_comm hP
  have hD := km_permD List.perm_append_comm hD
  refine km_cip (wc := mmdW cI cN cZ am zm) (wr := chW cI cN cZ u zc1 (va_up zn k y1)) (km_rV (n := 1) hE kmG (c_Md_crash l D cI cN cZ am zm (xs (nI (4 * t) + (1 : Int32)).toNatClampNeg) _ hw) mw_616 mw_613 mw_614 mw_615 mw_8 (by decide) ⟨rfl, rfl, ⟨by decide, by decide⟩, by decide, by decide⟩ hK (km_cutL hP) (km_cutD hD) (ci := 6) rfl hP (q0 := 0) rfl rfl hl.1 rfl (Nat.le_of_ble_eq_true rfl) d_Lw_law_404) hP hD hS hA (fun r2 zm1 H locs hw hP hD hS => ?_)
  refine lv_icmp_eq (tgt := 689) hx hb d_Lw_law_407 (by first | rfl | decide) (fun _ => ?_) (fun h => absurd hw.1 h)
  exact hk _ _ _ ls H locs hw.2 hl hP hD hS
set_option maxHeartbeats 4000000 in
set_option maxRecDepth 100000 in
theorem lc_restart {p : Program} {l : Launch} {e : Env} {s : State} {m : MethodId} {below : List Frame} {meth : Method} {c : Code} {D : va_G} {cI cN cZ : ClassId} {A : Nat → Prop} {w0 : Cond} {b L : Nat} {xs : Nat → Int32} {u : Nat → Nat → Nat} {am : Nat → Nat} (RI : RIT) (st_restart : ls_restart RI) (hE : km_E p s m meth c code 4 ret R_law meth.name (w0 :: kmW) #[Value.ref b]) (hK : km_K D kmC (kmT cI cN cZ) kmF kmM s) (hA : ∀ q : Nat, s.heap.size ≤ q → A q) (hX : va_X b L xs s s.heap) (hbl : b < s.heap.size) (hbA : ¬ A b) (t : Nat) (ht : t < 512) (hi1 : vp_in (nI (4 * t) + (1 : Int32)) L) (zc : MchT) (zn : Nat → MndT) (zm : MmdT) (hI : RI t zc zn zm) (ls : Array Slot) (H : Heap) (locs : List Loc) (hl : lv_has ls 4 [(3, .int (nI (4 * t))), (2, .ref (am 0)), (1, .ref (u 6 0)), (0, .ref b)]) (hP : va_P D kmC (chW cI cN cZ u zc zn ++ mmdW cI cN cZ am zm) H) (hD : va_D A (chW cI cN cZ u zc zn ++ mmdW cI cN cZ am zm)) (hS : va_S A s.heap H locs)
    (hk : ∀ (zc1 : MchT) (zn1 : Nat → MndT) (zm1 : MmdT) (ls : Array Slot) (H : Heap) (locs : List Loc), RI (t + 1) zc1 zn1 zm1 → lv_has ls 4 [(3, .int (nI (4 * t))), (2, .ref (am 0)), (1, .ref (u 6 0)), (0, .ref b)] → va_P D kmC (chW cI cN cZ u zc1 zn1 ++ mmdW cI cN cZ am zm1) H → va_D A (chW cI cN cZ u zc1 zn1 ++ mmdW cI cN cZ am zm1) → va_S A s.heap H locs → W p l e room_1 s m #[Value.ref b] below meth c H locs 94 2489 (lw_Z below #[Value.ref b] s) (F0 m 689 ls [])) : W p l e room_1 s m #[Value.ref b] below meth c H locs 94 2489 (lw_Z below #[Value.ref b] s) (F0 m 412 ls []) := by
  obtain ⟨hx, hb, hr, hml, hown, hts0, hlk, hnm⟩ := id hE
  refine lv_aload_n hx hb d_Lw_law_412 rfl (lv_at hl 2 rfl) ?_
  refine lv_aload_n hx hb d_Lw_law_413 rfl (lv_at hl 3 rfl) ?_
  refine lv_iload_n hx hb d_Lw_law_414 rfl (lv_at hl 0 rfl) ?_
  refine lv_iconst (v := (1 : Int32)) hx hb d_Lw_law_415 (by decide) ?_
  refine lv_iadd hx hb d_Lw_law_416 ?_
  refine va_sld hx hb hX hbl hbA hS hi1 d_Lw_law_417 ?_
  have hw := st_restart t zc zn zm (xs (nI (4 * t) + (1 : Int32)).toNatClampNeg) ht hI
  obtain ⟨k, hk6, hw⟩ := hw
  have hP := km_permP (lx_p1 hk6) hP
  have hD := km_permD (lx_p1 hk6) hD
  refine km_cip (wc := (mchW cI cN cZ (u 6) (km_g u) zc ++ mndW cI cN cZ (u k) (zn k))) (wr := (lx_r1 cI cN cZ u zn k (mmdW cI cN cZ am zm))) (km_rV (n := 1) hE kmG (c_Ch_restart l D cI cN cZ (u 6) (u k) (km_g u) k hk6 (lx_g hk6) zc (zn k) (xs (nI (4 * t) + (1 : Int32)).toNatClampNeg) _ hw) mw_380 mw_377 mw_378 mw_379 mw_1 (by decide) ⟨rfl, rfl, ⟨by decide, by decide⟩, by decide, by decide⟩ hK (km_cutL hP) (km_cutD hD) (ci := 5) rfl hP (q0 := 0) rfl rfl hl.1 rfl (Nat.le_of_ble_eq_true rfl) d_Lw_law_418) hP hD hS hA (fun r1 v H locs hw hP hD hS => ?_)
  obtain ⟨zc1, y1⟩ := v
  have hP : va_P D kmC (chW cI cN cZ u zc1 (va_up zn k y1) ++ mmdW cI cN cZ am zm) H := km_permP (lx_q1 hk6) hP
  have hD : va_D A (chW cI cN cZ u zc1 (va_up zn k y1) ++ mmdW cI cN cZ am zm) := km_permD (lx_q1 hk6) hD
  refine lv_aload_n hx hb d_Lw_law_421 rfl (lv_at hl 1 rfl) ?_
  refine lv_aload_n hx hb d_Lw_law_422 rfl (lv_at hl 3 rfl) ?_
  refine lv_iload_n hx hb d_Lw_law_423 rfl (lv_at hl 0 rfl) ?_
  refine lv_iconst (v := (1 : Int32)) hx hb d_Lw_law_424 (by decide) ?_
  refine lv_iadd hx hb d_Lw_law_425 ?_
  refine va_sld hx hb hX hbl hbA hS hi1 d_Lw_law_426 ?_
  have hP := km_permP List.perm_append_comm hP
  have hD := km_permD List.perm_append_comm hD
  refine km_cip (wc := mmdW cI cN cZ am zm) (wr := chW cI cN cZ u zc1 (va_up zn k y1)) (km_rV (n := 1) hE kmG (c_Md_restart l D cI cN cZ am zm (xs (nI (4 * t) + (1 : Int32)).toNatClampNeg) _ hw) mw_620 mw_617 mw_618 mw_619 mw_8 (by decide) ⟨rfl, rfl, ⟨by decide, by decide⟩, by decide, by decide⟩ hK (km_cutL hP) (km_cutD hD) (ci := 6) rfl hP (q0 := 0) rfl rfl hl.1 rfl (Nat.le_of_ble_eq_true rfl) d_Lw_law_427) hP hD hS hA (fun r2 zm1 H locs hw hP hD hS => ?_)
  refine lv_icmp_eq (tgt := 689) hx hb d_Lw_law_430 (by first | rfl | decide) (fun _ => ?_) (fun h => absurd hw.1 h)
  exact hk _ _ _ ls H locs hw.2 hl hP hD hS
set_option maxHeartbeats 4000000 in
set_option maxRecDepth 100000 in
theorem lc_retire {p : Program} {l : Launch} {e : Env} {s : State} {m : MethodId} {below : List Frame} {meth : Method} {c : Code} {D : va_G} {cI cN cZ : ClassId} {A : Nat → Prop} {w0 : Cond} {b L : Nat} {xs : Nat → Int32} {u : Nat → Nat → Nat} {am : Nat → Nat} (RI : RIT) (st_retire : ls_retire RI) (hE : km_E p s m meth c code 4 ret R_law meth.name (w0 :: kmW) #[Value.ref b]) (hK : km_K D kmC (kmT cI cN cZ) kmF kmM s) (hA : ∀ q : Nat, s.heap.size ≤ q → A q) (hX : va_X b L xs s s.heap) (hbl : b < s.heap.size) (hbA : ¬ A b) (t : Nat) (ht : t < 512) (hi1 : vp_in (nI (4 * t) + (1 : Int32)) L) (zc : MchT) (zn : Nat → MndT) (zm : MmdT) (hI : RI t zc zn zm) (ls : Array Slot) (H : Heap) (locs : List Loc) (hl : lv_has ls 4 [(3, .int (nI (4 * t))), (2, .ref (am 0)), (1, .ref (u 6 0)), (0, .ref b)]) (hP : va_P D kmC (chW cI cN cZ u zc zn ++ mmdW cI cN cZ am zm) H) (hD : va_D A (chW cI cN cZ u zc zn ++ mmdW cI cN cZ am zm)) (hS : va_S A s.heap H locs)
    (hk : ∀ (zc1 : MchT) (zn1 : Nat → MndT) (zm1 : MmdT) (ls : Array Slot) (H : Heap) (locs : List Loc), RI (t + 1) zc1 zn1 zm1 → lv_has ls 4 [(3, .int (nI (4 * t))), (2, .ref (am 0)), (1, .ref (u 6 0)), (0, .ref b)] → va_P D kmC (chW cI cN cZ u zc1 zn1 ++ mmdW cI cN cZ am zm1) H → va_D A (chW cI cN cZ u zc1 zn1 ++ mmdW cI cN cZ am zm1) → va_S A s.heap H locs → W p l e room_1 s m #[Value.ref b] below meth c H locs 94 2489 (lw_Z below #[Value.ref b] s) (F0 m 689 ls [])) : W p l e room_1 s m #[Value.ref b] below meth c H locs 94 2489 (lw_Z below #[Value.ref b] s) (F0 m 435 ls []) := by
  obtain ⟨hx, hb, hr, hml, hown, hts0, hlk, hnm⟩ := id hE
  refine lv_aload_n hx hb d_Lw_law_435 rfl (lv_at hl 2 rfl) ?_
  refine lv_aload_n hx hb d_Lw_law_436 rfl (lv_at hl 3 rfl) ?_
  refine lv_iload_n hx hb d_Lw_law_437 rfl (lv_at hl 0 rfl) ?_
  refine lv_iconst (v := (1 : Int32)) hx hb d_Lw_law_438 (by decide) ?_
  refine lv_iadd hx hb d_Lw_law_439 ?_
  refine va_sld hx hb hX hbl hbA hS hi1 d_Lw_law_440 ?_
  have hw := st_retire t zc zn zm (xs (nI (4 * t) + (1 : Int32)).toNatClampNeg) ht hI
  obtain ⟨k, hk6, hw⟩ := hw
  have hP := km_permP (lx_p1 hk6) hP
  have hD := km_permD (lx_p1 hk6) hD
  refine km_cip (wc := (mchW cI cN cZ (u 6) (km_g u) zc ++ mndW cI cN cZ (u k) (zn k))) (wr := (lx_r1 cI cN cZ u zn k (mmdW cI cN cZ am zm))) (km_rV (n := 1) hE kmG (c_Ch_retire l D cI cN cZ (u 6) (u k) (km_g u) k hk6 (lx_g hk6) zc (zn k) (xs (nI (4 * t) + (1 : Int32)).toNatClampNeg) _ hw) mw_384 mw_381 mw_382 mw_383 mw_1 (by decide) ⟨rfl, rfl, ⟨by decide, by decide⟩, by decide, by decide⟩ hK (km_cutL hP) (km_cutD hD) (ci := 5) rfl hP (q0 := 0) rfl rfl hl.1 rfl (Nat.le_of_ble_eq_true rfl) d_Lw_law_441) hP hD hS hA (fun r1 v H locs hw hP hD hS => ?_)
  obtain ⟨zc1, y1⟩ := v
  have hP : va_P D kmC (chW cI cN cZ u zc1 (va_up zn k y1) ++ mmdW cI cN cZ am zm) H := km_permP (lx_q1 hk6) hP
  have hD : va_D A (chW cI cN cZ u zc1 (va_up zn k y1) ++ mmdW cI cN cZ am zm) := km_permD (lx_q1 hk6) hD
  refine lv_aload_n hx hb d_Lw_law_444 rfl (lv_at hl 1 rfl) ?_
  refine lv_aload_n hx hb d_Lw_law_445 rfl (lv_at hl 3 rfl) ?_
  refine lv_iload_n hx hb d_Lw_law_446 rfl (lv_at hl 0 rfl) ?_
  refine lv_iconst (v := (1 : Int32)) hx hb d_Lw_law_447 (by decide) ?_
  refine lv_iadd hx hb d_Lw_law_448 ?_
  refine va_sld hx hb hX hbl hbA hS hi1 d_Lw_law_449 ?_
  have hP := km_permP List.perm_append_comm hP
  have hD := km_permD List.perm_append_comm hD
  refine km_cip (wc := mmdW cI cN cZ am zm) (wr := chW cI cN cZ u zc1 (va_up zn k y1)) (km_rV (n := 1) hE kmG (c_Md_retire l D cI cN cZ am zm (xs (nI (4 * t) + (1 : Int32)).toNatClampNeg) _ hw) mw_624 mw_621 mw_622 mw_623 mw_8 (by decide) ⟨rfl, rfl, ⟨by decide, by decide⟩, by decide, by decide⟩ hK (km_cutL hP) (km_cutD hD) (ci := 6) rfl hP (q0 := 0) rfl rfl hl.1 rfl (Nat.le_of_ble_eq_true rfl) d_Lw_law_450) hP hD hS hA (fun r2 zm1 H locs hw hP hD hS => ?_)
  refine lv_icmp_eq (tgt := 689) hx hb d_Lw_law_453 (by first | rfl | decide) (fun _ => ?_) (fun h => absurd hw.1 h)
  exact hk _ _ _ ls H locs hw.2 hl hP hD hS
set_option maxHeartbeats 4000000 in
set_option maxRecDepth 100000 in
theorem lc_look {p : Program} {l : Launch} {e : Env} {s : State} {m : MethodId} {below : List Frame} {meth : Method} {c : Code} {D : va_G} {cI cN cZ : ClassId} {A : Nat → Prop} {w0 : Cond} {b L : Nat} {xs : Nat → Int32} {u : Nat → Nat → Nat} {am : Nat → Nat} (RI : RIT) (st_look : ls_look RI) (hE : km_E p s m meth c code 4 ret R_law meth.name (w0 :: kmW) #[Value.ref b]) (hK : km_K D kmC (kmT cI cN cZ) kmF kmM s) (hA : ∀ q : Nat, s.heap.size ≤ q → A q) (hX : va_X b L xs s s.heap) (hbl : b < s.heap.size) (hbA : ¬ A b) (t : Nat) (ht : t < 512) (hi1 : vp_in (nI (4 * t) + (1 : Int32)) L) (hi2 : vp_in (nI (4 * t) + (2 : Int32)) L) (zc : MchT) (zn : Nat → MndT) (zm : MmdT) (hI : RI t zc zn zm) (ls : Array Slot) (H : Heap) (locs : List Loc) (hl : lv_has ls 4 [(3, .int (nI (4 * t))), (2, .ref (am 0)), (1, .ref (u 6 0)), (0, .ref b)]) (hP : va_P D kmC (chW cI cN cZ u zc zn ++ mmdW cI cN cZ am zm) H) (hD : va_D A (chW cI cN cZ u zc zn ++ mmdW cI cN cZ am zm)) (hS : va_S A s.heap H locs)
    (hk : ∀ (zc1 : MchT) (zn1 : Nat → MndT) (zm1 : MmdT) (ls : Array Slot) (H : Heap) (locs : List Loc), RI (t + 1) zc1 zn1 zm1 → lv_has ls 4 [(3, .int (nI (4 * t))), (2, .ref (am 0)), (1, .ref (u 6 0)), (0, .ref b)] → va_P D kmC (chW cI cN cZ u zc1 zn1 ++ mmdW cI cN cZ am zm1) H → va_D A (chW cI cN cZ u zc1 zn1 ++ mmdW cI cN cZ am zm1) → va_S A s.heap H locs → W p l e room_1 s m #[Value.ref b] below meth c H locs 94 2489 (lw_Z below #[Value.ref b] s) (F0 m 689 ls [])) : W p l e room_1 s m #[Value.ref b] below meth c H locs 94 2489 (lw_Z below #[Value.ref b] s) (F0 m 458 ls []) := by
  obtain ⟨hx, hb, hr, hml, hown, hts0, hlk, hnm⟩ := id hE
  refine lv_aload_n hx hb d_Lw_law_458 rfl (lv_at hl 2 rfl) ?_
  refine lv_aload_n hx hb d_Lw_law_459 rfl (lv_at hl 3 rfl) ?_
  refine lv_iload_n hx hb d_Lw_law_460 rfl (lv_at hl 0 rfl) ?_
  refine lv_iconst (v := (1 : Int32)) hx hb d_Lw_law_461 (by decide) ?_
  refine lv_iadd hx hb d_Lw_law_462 ?_
  refine va_sld hx hb hX hbl hbA hS hi1 d_Lw_law_463 ?_
  refine lv_aload_n hx hb d_Lw_law_464 rfl (lv_at hl 3 rfl) ?_
  refine lv_iload_n hx hb d_Lw_law_465 rfl (lv_at hl 0 rfl) ?_
  refine lv_iconst (v := (2 : Int32)) hx hb d_Lw_law_466 (by decide) ?_
  refine lv_iadd hx hb d_Lw_law_467 ?_
  refine va_sld hx hb hX hbl hbA hS hi2 d_Lw_law_468 ?_
  have hw := st_look t zc zn zm (xs (nI (4 * t) + (1 : Int32)).toNatClampNeg) (xs (nI (4 * t) + (2 : Int32)).toNatClampNeg) ht hI
  obtain ⟨k, hk6, hw⟩ := hw
  have hP := km_permP (lx_p1 hk6) hP
  have hD := km_permD (lx_p1 hk6) hD
  refine km_cip (wc := (mchW cI cN cZ (u 6) (km_g u) zc ++ mndW cI cN cZ (u k) (zn k))) (wr := (lx_r1 cI cN cZ u zn k (mmdW cI cN cZ am zm))) (km_rV (n := 2) hE kmG (c_Ch_look l D cI cN cZ (u 6) (u k) (km_g u) k hk6 (lx_g hk6) zc (zn k) (xs (nI (4 * t) + (1 : Int32)).toNatClampNeg) (xs (nI (4 * t) + (2 : Int32)).toNatClampNeg) _ hw) mw_392 mw_389 mw_390 mw_391 mw_1 (by decide) ⟨rfl, rfl, ⟨by decide, by decide⟩, by decide, by decide⟩ hK (km_cutL hP) (km_cutD hD) (ci := 5) rfl hP (q0 := 0) rfl rfl hl.1 rfl (Nat.le_of_ble_eq_true rfl) d_Lw_law_469) hP hD hS hA (fun r1 v H locs hw hP hD hS => ?_)
  obtain ⟨zc1, y1⟩ := v
  have hP : va_P D kmC (chW cI cN cZ u zc1 (va_up zn k y1) ++ mmdW cI cN cZ am zm) H := km_permP (lx_q1 hk6) hP
  have hD : va_D A (chW cI cN cZ u zc1 (va_up zn k y1) ++ mmdW cI cN cZ am zm) := km_permD (lx_q1 hk6) hD
  refine lv_aload_n hx hb d_Lw_law_472 rfl (lv_at hl 1 rfl) ?_
  refine lv_aload_n hx hb d_Lw_law_473 rfl (lv_at hl 3 rfl) ?_
  refine lv_iload_n hx hb d_Lw_law_474 rfl (lv_at hl 0 rfl) ?_
  refine lv_iconst (v := (1 : Int32)) hx hb d_Lw_law_475 (by decide) ?_
  refine lv_iadd hx hb d_Lw_law_476 ?_
  refine va_sld hx hb hX hbl hbA hS hi1 d_Lw_law_477 ?_
  refine lv_aload_n hx hb d_Lw_law_478 rfl (lv_at hl 3 rfl) ?_
  refine lv_iload_n hx hb d_Lw_law_479 rfl (lv_at hl 0 rfl) ?_
  refine lv_iconst (v := (2 : Int32)) hx hb d_Lw_law_480 (by decide) ?_
  refine lv_iadd hx hb d_Lw_law_481 ?_
  refine va_sld hx hb hX hbl hbA hS hi2 d_Lw_law_482 ?_
  have hP := km_permP List.perm_append_comm hP
  have hD := km_permD List.perm_append_comm hD
  refine km_cip (wc := mmdW cI cN cZ am zm) (wr := chW cI cN cZ u zc1 (va_up zn k y1)) (km_rV (n := 2) hE kmG (c_Md_look l D cI cN cZ am zm (xs (nI (4 * t) + (1 : Int32)).toNatClampNeg) (xs (nI (4 * t) + (2 : Int32)).toNatClampNeg) _ hw) mw_628 mw_625 mw_626 mw_627 mw_8 (by decide) ⟨rfl, rfl, ⟨by decide, by decide⟩, by decide, by decide⟩ hK (km_cutL hP) (km_cutD hD) (ci := 6) rfl hP (q0 := 0) rfl rfl hl.1 rfl (Nat.le_of_ble_eq_true rfl) d_Lw_law_483) hP hD hS hA (fun r2 zm1 H locs hw hP hD hS => ?_)
  refine lv_icmp_eq (tgt := 689) hx hb d_Lw_law_486 (by first | rfl | decide) (fun _ => ?_) (fun h => absurd hw.1 h)
  exact hk _ _ _ ls H locs hw.2 hl hP hD hS
set_option maxHeartbeats 4000000 in
set_option maxRecDepth 100000 in
theorem lc_value {p : Program} {l : Launch} {e : Env} {s : State} {m : MethodId} {below : List Frame} {meth : Method} {c : Code} {D : va_G} {cI cN cZ : ClassId} {A : Nat → Prop} {w0 : Cond} {b L : Nat} {xs : Nat → Int32} {u : Nat → Nat → Nat} {am : Nat → Nat} (RI : RIT) (st_value : ls_value RI) (hE : km_E p s m meth c code 4 ret R_law meth.name (w0 :: kmW) #[Value.ref b]) (hK : km_K D kmC (kmT cI cN cZ) kmF kmM s) (hA : ∀ q : Nat, s.heap.size ≤ q → A q) (hX : va_X b L xs s s.heap) (hbl : b < s.heap.size) (hbA : ¬ A b) (t : Nat) (ht : t < 512) (hi1 : vp_in (nI (4 * t) + (1 : Int32)) L) (hi2 : vp_in (nI (4 * t) + (2 : Int32)) L) (zc : MchT) (zn : Nat → MndT) (zm : MmdT) (hI : RI t zc zn zm) (ls : Array Slot) (H : Heap) (locs : List Loc) (hl : lv_has ls 4 [(3, .int (nI (4 * t))), (2, .ref (am 0)), (1, .ref (u 6 0)), (0, .ref b)]) (hP : va_P D kmC (chW cI cN cZ u zc zn ++ mmdW cI cN cZ am zm) H) (hD : va_D A (chW cI cN cZ u zc zn ++ mmdW cI cN cZ am zm)) (hS : va_S A s.heap H locs)
    (hk : ∀ (zc1 : MchT) (zn1 : Nat → MndT) (zm1 : MmdT) (ls : Array Slot) (H : Heap) (locs : List Loc), RI (t + 1) zc1 zn1 zm1 → lv_has ls 4 [(3, .int (nI (4 * t))), (2, .ref (am 0)), (1, .ref (u 6 0)), (0, .ref b)] → va_P D kmC (chW cI cN cZ u zc1 zn1 ++ mmdW cI cN cZ am zm1) H → va_D A (chW cI cN cZ u zc1 zn1 ++ mmdW cI cN cZ am zm1) → va_S A s.heap H locs → W p l e room_1 s m #[Value.ref b] below meth c H locs 94 2489 (lw_Z below #[Value.ref b] s) (F0 m 689 ls [])) : W p l e room_1 s m #[Value.ref b] below meth c H locs 94 2489 (lw_Z below #[Value.ref b] s) (F0 m 491 ls []) := by
  obtain ⟨hx, hb, hr, hml, hown, hts0, hlk, hnm⟩ := id hE
  refine lv_aload_n hx hb d_Lw_law_491 rfl (lv_at hl 2 rfl) ?_
  refine lv_aload_n hx hb d_Lw_law_492 rfl (lv_at hl 3 rfl) ?_
  refine lv_iload_n hx hb d_Lw_law_493 rfl (lv_at hl 0 rfl) ?_
  refine lv_iconst (v := (1 : Int32)) hx hb d_Lw_law_494 (by decide) ?_
  refine lv_iadd hx hb d_Lw_law_495 ?_
  refine va_sld hx hb hX hbl hbA hS hi1 d_Lw_law_496 ?_
  refine lv_aload_n hx hb d_Lw_law_497 rfl (lv_at hl 3 rfl) ?_
  refine lv_iload_n hx hb d_Lw_law_498 rfl (lv_at hl 0 rfl) ?_
  refine lv_iconst (v := (2 : Int32)) hx hb d_Lw_law_499 (by decide) ?_
  refine lv_iadd hx hb d_Lw_law_500 ?_
  refine va_sld hx hb hX hbl hbA hS hi2 d_Lw_law_501 ?_
  have hw := st_value t zc zn zm (xs (nI (4 * t) + (1 : Int32)).toNatClampNeg) (xs (nI (4 * t) + (2 : Int32)).toNatClampNeg) ht hI
  obtain ⟨k, hk6, hw⟩ := hw
  have hP := km_permP (lx_p1 hk6) hP
  have hD := km_permD (lx_p1 hk6) hD
  refine km_cip (wc := (mchW cI cN cZ (u 6) (km_g u) zc ++ mndW cI cN cZ (u k) (zn k))) (wr := (lx_r1 cI cN cZ u zn k (mmdW cI cN cZ am zm))) (km_rV (n := 2) hE kmG (c_Ch_value l D cI cN cZ (u 6) (u k) (km_g u) k hk6 (lx_g hk6) zc (zn k) (xs (nI (4 * t) + (1 : Int32)).toNatClampNeg) (xs (nI (4 * t) + (2 : Int32)).toNatClampNeg) _ hw) mw_396 mw_393 mw_394 mw_395 mw_1 (by decide) ⟨rfl, rfl, ⟨by decide, by decide⟩, by decide, by decide⟩ hK (km_cutL hP) (km_cutD hD) (ci := 5) rfl hP (q0 := 0) rfl rfl hl.1 rfl (Nat.le_of_ble_eq_true rfl) d_Lw_law_502) hP hD hS hA (fun r1 v H locs hw hP hD hS => ?_)
  obtain ⟨zc1, y1⟩ := v
  have hP : va_P D kmC (chW cI cN cZ u zc1 (va_up zn k y1) ++ mmdW cI cN cZ am zm) H := km_permP (lx_q1 hk6) hP
  have hD : va_D A (chW cI cN cZ u zc1 (va_up zn k y1) ++ mmdW cI cN cZ am zm) := km_permD (lx_q1 hk6) hD
  refine lv_aload_n hx hb d_Lw_law_505 rfl (lv_at hl 1 rfl) ?_
  refine lv_aload_n hx hb d_Lw_law_506 rfl (lv_at hl 3 rfl) ?_
  refine lv_iload_n hx hb d_Lw_law_507 rfl (lv_at hl 0 rfl) ?_
  refine lv_iconst (v := (1 : Int32)) hx hb d_Lw_law_508 (by decide) ?_
  refine lv_iadd hx hb d_Lw_law_509 ?_
  refine va_sld hx hb hX hbl hbA hS hi1 d_Lw_law_510 ?_
  refine lv_aload_n hx hb d_Lw_law_511 rfl (lv_at hl 3 rfl) ?_
  refine lv_iload_n hx hb d_Lw_law_512 rfl (lv_at hl 0 rfl) ?_
  refine lv_iconst (v := (2 : Int32)) hx hb d_Lw_law_513 (by decide) ?_
  refine lv_iadd hx hb d_Lw_law_514 ?_
  refine va_sld hx hb hX hbl hbA hS hi2 d_Lw_law_515 ?_
  have hP := km_permP List.perm_append_comm hP
  have hD := km_permD List.perm_append_comm hD
  refine km_cip (wc := mmdW cI cN cZ am zm) (wr := chW cI cN cZ u zc1 (va_up zn k y1)) (km_rV (n := 2) hE kmG (c_Md_value l D cI cN cZ am zm (xs (nI (4 * t) + (1 : Int32)).toNatClampNeg) (xs (nI (4 * t) + (2 : Int32)).toNatClampNeg) _ hw) mw_632 mw_629 mw_630 mw_631 mw_8 (by decide) ⟨rfl, rfl, ⟨by decide, by decide⟩, by decide, by decide⟩ hK (km_cutL hP) (km_cutD hD) (ci := 6) rfl hP (q0 := 0) rfl rfl hl.1 rfl (Nat.le_of_ble_eq_true rfl) d_Lw_law_516) hP hD hS hA (fun r2 zm1 H locs hw hP hD hS => ?_)
  refine lv_icmp_eq (tgt := 689) hx hb d_Lw_law_519 (by first | rfl | decide) (fun _ => ?_) (fun h => absurd hw.1 h)
  exact hk _ _ _ ls H locs hw.2 hl hP hD hS
set_option maxHeartbeats 4000000 in
set_option maxRecDepth 100000 in
theorem lc_promised {p : Program} {l : Launch} {e : Env} {s : State} {m : MethodId} {below : List Frame} {meth : Method} {c : Code} {D : va_G} {cI cN cZ : ClassId} {A : Nat → Prop} {w0 : Cond} {b L : Nat} {xs : Nat → Int32} {u : Nat → Nat → Nat} {am : Nat → Nat} (RI : RIT) (st_promised : ls_promised RI) (hE : km_E p s m meth c code 4 ret R_law meth.name (w0 :: kmW) #[Value.ref b]) (hK : km_K D kmC (kmT cI cN cZ) kmF kmM s) (hA : ∀ q : Nat, s.heap.size ≤ q → A q) (hX : va_X b L xs s s.heap) (hbl : b < s.heap.size) (hbA : ¬ A b) (t : Nat) (ht : t < 512) (hi1 : vp_in (nI (4 * t) + (1 : Int32)) L) (hi2 : vp_in (nI (4 * t) + (2 : Int32)) L) (hi3 : vp_in (nI (4 * t) + (3 : Int32)) L) (zc : MchT) (zn : Nat → MndT) (zm : MmdT) (hI : RI t zc zn zm) (ls : Array Slot) (H : Heap) (locs : List Loc) (hl : lv_has ls 4 [(3, .int (nI (4 * t))), (2, .ref (am 0)), (1, .ref (u 6 0)), (0, .ref b)]) (hP : va_P D kmC (chW cI cN cZ u zc zn ++ mmdW cI cN cZ am zm) H) (hD : va_D A (chW cI cN cZ u zc zn ++ mmdW cI cN cZ am zm)) (hS : va_S A s.heap H locs)
    (hk : ∀ (zc1 : MchT) (zn1 : Nat → MndT) (zm1 : MmdT) (ls : Array Slot) (H : Heap) (locs : List Loc), RI (t + 1) zc1 zn1 zm1 → lv_has ls 4 [(3, .int (nI (4 * t))), (2, .ref (am 0)), (1, .ref (u 6 0)), (0, .ref b)] → va_P D kmC (chW cI cN cZ u zc1 zn1 ++ mmdW cI cN cZ am zm1) H → va_D A (chW cI cN cZ u zc1 zn1 ++ mmdW cI cN cZ am zm1) → va_S A s.heap H locs → W p l e room_1 s m #[Value.ref b] below meth c H locs 94 2489 (lw_Z below #[Value.ref b] s) (F0 m 689 ls [])) : W p l e room_1 s m #[Value.ref b] below meth c H locs 94 2489 (lw_Z below #[Value.ref b] s) (F0 m 524 ls []) := by
  obtain ⟨hx, hb, hr, hml, hown, hts0, hlk, hnm⟩ := id hE
  refine lv_aload_n hx hb d_Lw_law_524 rfl (lv_at hl 2 rfl) ?_
  refine lv_aload_n hx hb d_Lw_law_525 rfl (lv_at hl 3 rfl) ?_
  refine lv_iload_n hx hb d_Lw_law_526 rfl (lv_at hl 0 rfl) ?_
  refine lv_iconst (v := (1 : Int32)) hx hb d_Lw_law_527 (by decide) ?_
  refine lv_iadd hx hb d_Lw_law_528 ?_
  refine va_sld hx hb hX hbl hbA hS hi1 d_Lw_law_529 ?_
  refine lv_aload_n hx hb d_Lw_law_530 rfl (lv_at hl 3 rfl) ?_
  refine lv_iload_n hx hb d_Lw_law_531 rfl (lv_at hl 0 rfl) ?_
  refine lv_iconst (v := (2 : Int32)) hx hb d_Lw_law_532 (by decide) ?_
  refine lv_iadd hx hb d_Lw_law_533 ?_
  refine va_sld hx hb hX hbl hbA hS hi2 d_Lw_law_534 ?_
  refine lv_aload_n hx hb d_Lw_law_535 rfl (lv_at hl 3 rfl) ?_
  refine lv_iload_n hx hb d_Lw_law_536 rfl (lv_at hl 0 rfl) ?_
  refine lv_iconst (v := (3 : Int32)) hx hb d_Lw_law_537 (by decide) ?_
  refine lv_iadd hx hb d_Lw_law_538 ?_
  refine va_sld hx hb hX hbl hbA hS hi3 d_Lw_law_539 ?_
  have hw := st_promised t zc zn zm (xs (nI (4 * t) + (1 : Int32)).toNatClampNeg) (xs (nI (4 * t) + (2 : Int32)).toNatClampNeg) (xs (nI (4 * t) + (3 : Int32)).toNatClampNeg) ht hI
  obtain ⟨k, hk6, hw⟩ := hw
  have hP := km_permP (lx_p1 hk6) hP
  have hD := km_permD (lx_p1 hk6) hD
  refine km_cip (wc := (mchW cI cN cZ (u 6) (km_g u) zc ++ mndW cI cN cZ (u k) (zn k))) (wr := (lx_r1 cI cN cZ u zn k (mmdW cI cN cZ am zm))) (km_rV (n := 3) hE kmG (c_Ch_promised l D cI cN cZ (u 6) (u k) (km_g u) k hk6 (lx_g hk6) zc (zn k) (xs (nI (4 * t) + (1 : Int32)).toNatClampNeg) (xs (nI (4 * t) + (2 : Int32)).toNatClampNeg) (xs (nI (4 * t) + (3 : Int32)).toNatClampNeg) _ hw) mw_400 mw_397 mw_398 mw_399 mw_1 (by decide) ⟨rfl, rfl, ⟨by decide, by decide⟩, by decide, by decide⟩ hK (km_cutL hP) (km_cutD hD) (ci := 5) rfl hP (q0 := 0) rfl rfl hl.1 rfl (Nat.le_of_ble_eq_true rfl) d_Lw_law_540) hP hD hS hA (fun r1 v H locs hw hP hD hS => ?_)
  obtain ⟨zc1, y1⟩ := v
  have hP : va_P D kmC (chW cI cN cZ u zc1 (va_up zn k y1) ++ mmdW cI cN cZ am zm) H := km_permP (lx_q1 hk6) hP
  have hD : va_D A (chW cI cN cZ u zc1 (va_up zn k y1) ++ mmdW cI cN cZ am zm) := km_permD (lx_q1 hk6) hD
  refine lv_aload_n hx hb d_Lw_law_543 rfl (lv_at hl 1 rfl) ?_
  refine lv_aload_n hx hb d_Lw_law_544 rfl (lv_at hl 3 rfl) ?_
  refine lv_iload_n hx hb d_Lw_law_545 rfl (lv_at hl 0 rfl) ?_
  refine lv_iconst (v := (1 : Int32)) hx hb d_Lw_law_546 (by decide) ?_
  refine lv_iadd hx hb d_Lw_law_547 ?_
  refine va_sld hx hb hX hbl hbA hS hi1 d_Lw_law_548 ?_
  refine lv_aload_n hx hb d_Lw_law_549 rfl (lv_at hl 3 rfl) ?_
  refine lv_iload_n hx hb d_Lw_law_550 rfl (lv_at hl 0 rfl) ?_
  refine lv_iconst (v := (2 : Int32)) hx hb d_Lw_law_551 (by decide) ?_
  refine lv_iadd hx hb d_Lw_law_552 ?_
  refine va_sld hx hb hX hbl hbA hS hi2 d_Lw_law_553 ?_
  refine lv_aload_n hx hb d_Lw_law_554 rfl (lv_at hl 3 rfl) ?_
  refine lv_iload_n hx hb d_Lw_law_555 rfl (lv_at hl 0 rfl) ?_
  refine lv_iconst (v := (3 : Int32)) hx hb d_Lw_law_556 (by decide) ?_
  refine lv_iadd hx hb d_Lw_law_557 ?_
  refine va_sld hx hb hX hbl hbA hS hi3 d_Lw_law_558 ?_
  have hP := km_permP List.perm_append_comm hP
  have hD := km_permD List.perm_append_comm hD
  refine km_cip (wc := mmdW cI cN cZ am zm) (wr := chW cI cN cZ u zc1 (va_up zn k y1)) (km_rV (n := 3) hE kmG (c_Md_promised l D cI cN cZ am zm (xs (nI (4 * t) + (1 : Int32)).toNatClampNeg) (xs (nI (4 * t) + (2 : Int32)).toNatClampNeg) (xs (nI (4 * t) + (3 : Int32)).toNatClampNeg) _ hw) mw_636 mw_633 mw_634 mw_635 mw_8 (by decide) ⟨rfl, rfl, ⟨by decide, by decide⟩, by decide, by decide⟩ hK (km_cutL hP) (km_cutD hD) (ci := 6) rfl hP (q0 := 0) rfl rfl hl.1 rfl (Nat.le_of_ble_eq_true rfl) d_Lw_law_559) hP hD hS hA (fun r2 zm1 H locs hw hP hD hS => ?_)
  refine lv_icmp_eq (tgt := 689) hx hb d_Lw_law_562 (by first | rfl | decide) (fun _ => ?_) (fun h => absurd hw.1 h)
  exact hk _ _ _ ls H locs hw.2 hl hP hD hS
set_option maxHeartbeats 4000000 in
set_option maxRecDepth 100000 in
theorem lc_vote {p : Program} {l : Launch} {e : Env} {s : State} {m : MethodId} {below : List Frame} {meth : Method} {c : Code} {D : va_G} {cI cN cZ : ClassId} {A : Nat → Prop} {w0 : Cond} {b L : Nat} {xs : Nat → Int32} {u : Nat → Nat → Nat} {am : Nat → Nat} (RI : RIT) (st_vote : ls_vote RI) (hE : km_E p s m meth c code 4 ret R_law meth.name (w0 :: kmW) #[Value.ref b]) (hK : km_K D kmC (kmT cI cN cZ) kmF kmM s) (hA : ∀ q : Nat, s.heap.size ≤ q → A q) (hX : va_X b L xs s s.heap) (hbl : b < s.heap.size) (hbA : ¬ A b) (t : Nat) (ht : t < 512) (hi1 : vp_in (nI (4 * t) + (1 : Int32)) L) (hi2 : vp_in (nI (4 * t) + (2 : Int32)) L) (hi3 : vp_in (nI (4 * t) + (3 : Int32)) L) (zc : MchT) (zn : Nat → MndT) (zm : MmdT) (hI : RI t zc zn zm) (ls : Array Slot) (H : Heap) (locs : List Loc) (hl : lv_has ls 4 [(3, .int (nI (4 * t))), (2, .ref (am 0)), (1, .ref (u 6 0)), (0, .ref b)]) (hP : va_P D kmC (chW cI cN cZ u zc zn ++ mmdW cI cN cZ am zm) H) (hD : va_D A (chW cI cN cZ u zc zn ++ mmdW cI cN cZ am zm)) (hS : va_S A s.heap H locs)
    (hk : ∀ (zc1 : MchT) (zn1 : Nat → MndT) (zm1 : MmdT) (ls : Array Slot) (H : Heap) (locs : List Loc), RI (t + 1) zc1 zn1 zm1 → lv_has ls 4 [(3, .int (nI (4 * t))), (2, .ref (am 0)), (1, .ref (u 6 0)), (0, .ref b)] → va_P D kmC (chW cI cN cZ u zc1 zn1 ++ mmdW cI cN cZ am zm1) H → va_D A (chW cI cN cZ u zc1 zn1 ++ mmdW cI cN cZ am zm1) → va_S A s.heap H locs → W p l e room_1 s m #[Value.ref b] below meth c H locs 94 2489 (lw_Z below #[Value.ref b] s) (F0 m 689 ls [])) : W p l e room_1 s m #[Value.ref b] below meth c H locs 94 2489 (lw_Z below #[Value.ref b] s) (F0 m 567 ls []) := by
  obtain ⟨hx, hb, hr, hml, hown, hts0, hlk, hnm⟩ := id hE
  refine lv_aload_n hx hb d_Lw_law_567 rfl (lv_at hl 2 rfl) ?_
  refine lv_aload_n hx hb d_Lw_law_568 rfl (lv_at hl 3 rfl) ?_
  refine lv_iload_n hx hb d_Lw_law_569 rfl (lv_at hl 0 rfl) ?_
  refine lv_iconst (v := (1 : Int32)) hx hb d_Lw_law_570 (by decide) ?_
  refine lv_iadd hx hb d_Lw_law_571 ?_
  refine va_sld hx hb hX hbl hbA hS hi1 d_Lw_law_572 ?_
  refine lv_aload_n hx hb d_Lw_law_573 rfl (lv_at hl 3 rfl) ?_
  refine lv_iload_n hx hb d_Lw_law_574 rfl (lv_at hl 0 rfl) ?_
  refine lv_iconst (v := (2 : Int32)) hx hb d_Lw_law_575 (by decide) ?_
  refine lv_iadd hx hb d_Lw_law_576 ?_
  refine va_sld hx hb hX hbl hbA hS hi2 d_Lw_law_577 ?_
  refine lv_aload_n hx hb d_Lw_law_578 rfl (lv_at hl 3 rfl) ?_
  refine lv_iload_n hx hb d_Lw_law_579 rfl (lv_at hl 0 rfl) ?_
  refine lv_iconst (v := (3 : Int32)) hx hb d_Lw_law_580 (by decide) ?_
  refine lv_iadd hx hb d_Lw_law_581 ?_
  refine va_sld hx hb hX hbl hbA hS hi3 d_Lw_law_582 ?_
  have hw := st_vote t zc zn zm (xs (nI (4 * t) + (1 : Int32)).toNatClampNeg) (xs (nI (4 * t) + (2 : Int32)).toNatClampNeg) (xs (nI (4 * t) + (3 : Int32)).toNatClampNeg) ht hI
  obtain ⟨k, hk6, hw⟩ := hw
  have hP := km_permP (lx_p1 hk6) hP
  have hD := km_permD (lx_p1 hk6) hD
  refine km_cip (wc := (mchW cI cN cZ (u 6) (km_g u) zc ++ mndW cI cN cZ (u k) (zn k))) (wr := (lx_r1 cI cN cZ u zn k (mmdW cI cN cZ am zm))) (km_rV (n := 3) hE kmG (c_Ch_vote l D cI cN cZ (u 6) (u k) (km_g u) k hk6 (lx_g hk6) zc (zn k) (xs (nI (4 * t) + (1 : Int32)).toNatClampNeg) (xs (nI (4 * t) + (2 : Int32)).toNatClampNeg) (xs (nI (4 * t) + (3 : Int32)).toNatClampNeg) _ hw) mw_408 mw_405 mw_406 mw_407 mw_1 (by decide) ⟨rfl, rfl, ⟨by decide, by decide⟩, by decide, by decide⟩ hK (km_cutL hP) (km_cutD hD) (ci := 5) rfl hP (q0 := 0) rfl rfl hl.1 rfl (Nat.le_of_ble_eq_true rfl) d_Lw_law_583) hP hD hS hA (fun r1 v H locs hw hP hD hS => ?_)
  obtain ⟨zc1, y1⟩ := v
  have hP : va_P D kmC (chW cI cN cZ u zc1 (va_up zn k y1) ++ mmdW cI cN cZ am zm) H := km_permP (lx_q1 hk6) hP
  have hD : va_D A (chW cI cN cZ u zc1 (va_up zn k y1) ++ mmdW cI cN cZ am zm) := km_permD (lx_q1 hk6) hD
  refine lv_aload_n hx hb d_Lw_law_586 rfl (lv_at hl 1 rfl) ?_
  refine lv_aload_n hx hb d_Lw_law_587 rfl (lv_at hl 3 rfl) ?_
  refine lv_iload_n hx hb d_Lw_law_588 rfl (lv_at hl 0 rfl) ?_
  refine lv_iconst (v := (1 : Int32)) hx hb d_Lw_law_589 (by decide) ?_
  refine lv_iadd hx hb d_Lw_law_590 ?_
  refine va_sld hx hb hX hbl hbA hS hi1 d_Lw_law_591 ?_
  refine lv_aload_n hx hb d_Lw_law_592 rfl (lv_at hl 3 rfl) ?_
  refine lv_iload_n hx hb d_Lw_law_593 rfl (lv_at hl 0 rfl) ?_
  refine lv_iconst (v := (2 : Int32)) hx hb d_Lw_law_594 (by decide) ?_
  refine lv_iadd hx hb d_Lw_law_595 ?_
  refine va_sld hx hb hX hbl hbA hS hi2 d_Lw_law_596 ?_
  refine lv_aload_n hx hb d_Lw_law_597 rfl (lv_at hl 3 rfl) ?_
  refine lv_iload_n hx hb d_Lw_law_598 rfl (lv_at hl 0 rfl) ?_
  refine lv_iconst (v := (3 : Int32)) hx hb d_Lw_law_599 (by decide) ?_
  refine lv_iadd hx hb d_Lw_law_600 ?_
  refine va_sld hx hb hX hbl hbA hS hi3 d_Lw_law_601 ?_
  have hP := km_permP List.perm_append_comm hP
  have hD := km_permD List.perm_append_comm hD
  refine km_cip (wc := mmdW cI cN cZ am zm) (wr := chW cI cN cZ u zc1 (va_up zn k y1)) (km_rV (n := 3) hE kmG (c_Md_vote l D cI cN cZ am zm (xs (nI (4 * t) + (1 : Int32)).toNatClampNeg) (xs (nI (4 * t) + (2 : Int32)).toNatClampNeg) (xs (nI (4 * t) + (3 : Int32)).toNatClampNeg) _ hw) mw_643 mw_640 mw_641 mw_642 mw_8 (by decide) ⟨rfl, rfl, ⟨by decide, by decide⟩, by decide, by decide⟩ hK (km_cutL hP) (km_cutD hD) (ci := 6) rfl hP (q0 := 0) rfl rfl hl.1 rfl (Nat.le_of_ble_eq_true rfl) d_Lw_law_602) hP hD hS hA (fun r2 zm1 H locs hw hP hD hS => ?_)
  refine lv_icmp_eq (tgt := 689) hx hb d_Lw_law_605 (by first | rfl | decide) (fun _ => ?_) (fun h => absurd hw.1 h)
  exact hk _ _ _ ls H locs hw.2 hl hP hD hS
set_option maxHeartbeats 4000000 in
set_option maxRecDepth 100000 in
theorem lc_known {p : Program} {l : Launch} {e : Env} {s : State} {m : MethodId} {below : List Frame} {meth : Method} {c : Code} {D : va_G} {cI cN cZ : ClassId} {A : Nat → Prop} {w0 : Cond} {b L : Nat} {xs : Nat → Int32} {u : Nat → Nat → Nat} {am : Nat → Nat} (RI : RIT) (st_known : ls_known RI) (hE : km_E p s m meth c code 4 ret R_law meth.name (w0 :: kmW) #[Value.ref b]) (hK : km_K D kmC (kmT cI cN cZ) kmF kmM s) (hA : ∀ q : Nat, s.heap.size ≤ q → A q) (hX : va_X b L xs s s.heap) (hbl : b < s.heap.size) (hbA : ¬ A b) (t : Nat) (ht : t < 512) (hi1 : vp_in (nI (4 * t) + (1 : Int32)) L) (hi2 : vp_in (nI (4 * t) + (2 : Int32)) L) (zc : MchT) (zn : Nat → MndT) (zm : MmdT) (hI : RI t zc zn zm) (ls : Array Slot) (H : Heap) (locs : List Loc) (hl : lv_has ls 4 [(3, .int (nI (4 * t))), (2, .ref (am 0)), (1, .ref (u 6 0)), (0, .ref b)]) (hP : va_P D kmC (chW cI cN cZ u zc zn ++ mmdW cI cN cZ am zm) H) (hD : va_D A (chW cI cN cZ u zc zn ++ mmdW cI cN cZ am zm)) (hS : va_S A s.heap H locs)
    (hk : ∀ (zc1 : MchT) (zn1 : Nat → MndT) (zm1 : MmdT) (ls : Array Slot) (H : Heap) (locs : List Loc), RI (t + 1) zc1 zn1 zm1 → lv_has ls 4 [(3, .int (nI (4 * t))), (2, .ref (am 0)), (1, .ref (u 6 0)), (0, .ref b)] → va_P D kmC (chW cI cN cZ u zc1 zn1 ++ mmdW cI cN cZ am zm1) H → va_D A (chW cI cN cZ u zc1 zn1 ++ mmdW cI cN cZ am zm1) → va_S A s.heap H locs → W p l e room_1 s m #[Value.ref b] below meth c H locs 94 2489 (lw_Z below #[Value.ref b] s) (F0 m 689 ls [])) : W p l e room_1 s m #[Value.ref b] below meth c H locs 94 2489 (lw_Z below #[Value.ref b] s) (F0 m 610 ls []) := by
  obtain ⟨hx, hb, hr, hml, hown, hts0, hlk, hnm⟩ := id hE
  refine lv_aload_n hx hb d_Lw_law_610 rfl (lv_at hl 2 rfl) ?_
  refine lv_aload_n hx hb d_Lw_law_611 rfl (lv_at hl 3 rfl) ?_
  refine lv_iload_n hx hb d_Lw_law_612 rfl (lv_at hl 0 rfl) ?_
  refine lv_iconst (v := (1 : Int32)) hx hb d_Lw_law_613 (by decide) ?_
  refine lv_iadd hx hb d_Lw_law_614 ?_
  refine va_sld hx hb hX hbl hbA hS hi1 d_Lw_law_615 ?_
  refine lv_aload_n hx hb d_Lw_law_616 rfl (lv_at hl 3 rfl) ?_
  refine lv_iload_n hx hb d_Lw_law_617 rfl (lv_at hl 0 rfl) ?_
  refine lv_iconst (v := (2 : Int32)) hx hb d_Lw_law_618 (by decide) ?_
  refine lv_iadd hx hb d_Lw_law_619 ?_
  refine va_sld hx hb hX hbl hbA hS hi2 d_Lw_law_620 ?_
  have hw := st_known t zc zn zm (xs (nI (4 * t) + (1 : Int32)).toNatClampNeg) (xs (nI (4 * t) + (2 : Int32)).toNatClampNeg) ht hI
  obtain ⟨k, hk6, hw⟩ := hw
  have hP := km_permP (lx_p1 hk6) hP
  have hD := km_permD (lx_p1 hk6) hD
  refine km_cip (wc := (mchW cI cN cZ (u 6) (km_g u) zc ++ mndW cI cN cZ (u k) (zn k))) (wr := (lx_r1 cI cN cZ u zn k (mmdW cI cN cZ am zm))) (km_rV (n := 2) hE kmG (c_Ch_known l D cI cN cZ (u 6) (u k) (km_g u) k hk6 (lx_g hk6) zc (zn k) (xs (nI (4 * t) + (1 : Int32)).toNatClampNeg) (xs (nI (4 * t) + (2 : Int32)).toNatClampNeg) _ hw) mw_412 mw_409 mw_410 mw_411 mw_1 (by decide) ⟨rfl, rfl, ⟨by decide, by decide⟩, by decide, by decide⟩ hK (km_cutL hP) (km_cutD hD) (ci := 5) rfl hP (q0 := 0) rfl rfl hl.1 rfl (Nat.le_of_ble_eq_true rfl) d_Lw_law_621) hP hD hS hA (fun r1 v H locs hw hP hD hS => ?_)
  obtain ⟨zc1, y1⟩ := v
  have hP : va_P D kmC (chW cI cN cZ u zc1 (va_up zn k y1) ++ mmdW cI cN cZ am zm) H := km_permP (lx_q1 hk6) hP
  have hD : va_D A (chW cI cN cZ u zc1 (va_up zn k y1) ++ mmdW cI cN cZ am zm) := km_permD (lx_q1 hk6) hD
  refine lv_aload_n hx hb d_Lw_law_624 rfl (lv_at hl 1 rfl) ?_
  refine lv_aload_n hx hb d_Lw_law_625 rfl (lv_at hl 3 rfl) ?_
  refine lv_iload_n hx hb d_Lw_law_626 rfl (lv_at hl 0 rfl) ?_
  refine lv_iconst (v := (1 : Int32)) hx hb d_Lw_law_627 (by decide) ?_
  refine lv_iadd hx hb d_Lw_law_628 ?_
  refine va_sld hx hb hX hbl hbA hS hi1 d_Lw_law_629 ?_
  refine lv_aload_n hx hb d_Lw_law_630 rfl (lv_at hl 3 rfl) ?_
  refine lv_iload_n hx hb d_Lw_law_631 rfl (lv_at hl 0 rfl) ?_
  refine lv_iconst (v := (2 : Int32)) hx hb d_Lw_law_632 (by decide) ?_
  refine lv_iadd hx hb d_Lw_law_633 ?_
  refine va_sld hx hb hX hbl hbA hS hi2 d_Lw_law_634 ?_
  have hP := km_permP List.perm_append_comm hP
  have hD := km_permD List.perm_append_comm hD
  refine km_cip (wc := mmdW cI cN cZ am zm) (wr := chW cI cN cZ u zc1 (va_up zn k y1)) (km_rV (n := 2) hE kmG (c_Md_known l D cI cN cZ am zm (xs (nI (4 * t) + (1 : Int32)).toNatClampNeg) (xs (nI (4 * t) + (2 : Int32)).toNatClampNeg) _ hw) mw_647 mw_644 mw_645 mw_646 mw_8 (by decide) ⟨rfl, rfl, ⟨by decide, by decide⟩, by decide, by decide⟩ hK (km_cutL hP) (km_cutD hD) (ci := 6) rfl hP (q0 := 0) rfl rfl hl.1 rfl (Nat.le_of_ble_eq_true rfl) d_Lw_law_635) hP hD hS hA (fun r2 zm1 H locs hw hP hD hS => ?_)
  refine lv_icmp_eq (tgt := 689) hx hb d_Lw_law_638 (by first | rfl | decide) (fun _ => ?_) (fun h => absurd hw.1 h)
  exact hk _ _ _ ls H locs hw.2 hl hP hD hS
set_option maxHeartbeats 4000000 in
set_option maxRecDepth 100000 in
theorem lc_reply {p : Program} {l : Launch} {e : Env} {s : State} {m : MethodId} {below : List Frame} {meth : Method} {c : Code} {D : va_G} {cI cN cZ : ClassId} {A : Nat → Prop} {w0 : Cond} {b L : Nat} {xs : Nat → Int32} {u : Nat → Nat → Nat} {am : Nat → Nat} (RI : RIT) (st_reply : ls_reply RI) (hE : km_E p s m meth c code 4 ret R_law meth.name (w0 :: kmW) #[Value.ref b]) (hK : km_K D kmC (kmT cI cN cZ) kmF kmM s) (hA : ∀ q : Nat, s.heap.size ≤ q → A q) (hX : va_X b L xs s s.heap) (hbl : b < s.heap.size) (hbA : ¬ A b) (t : Nat) (ht : t < 512) (hi1 : vp_in (nI (4 * t) + (1 : Int32)) L) (zc : MchT) (zn : Nat → MndT) (zm : MmdT) (hI : RI t zc zn zm) (ls : Array Slot) (H : Heap) (locs : List Loc) (hl : lv_has ls 4 [(3, .int (nI (4 * t))), (2, .ref (am 0)), (1, .ref (u 6 0)), (0, .ref b)]) (hP : va_P D kmC (chW cI cN cZ u zc zn ++ mmdW cI cN cZ am zm) H) (hD : va_D A (chW cI cN cZ u zc zn ++ mmdW cI cN cZ am zm)) (hS : va_S A s.heap H locs)
    (hk : ∀ (zc1 : MchT) (zn1 : Nat → MndT) (zm1 : MmdT) (ls : Array Slot) (H : Heap) (locs : List Loc), RI (t + 1) zc1 zn1 zm1 → lv_has ls 4 [(3, .int (nI (4 * t))), (2, .ref (am 0)), (1, .ref (u 6 0)), (0, .ref b)] → va_P D kmC (chW cI cN cZ u zc1 zn1 ++ mmdW cI cN cZ am zm1) H → va_D A (chW cI cN cZ u zc1 zn1 ++ mmdW cI cN cZ am zm1) → va_S A s.heap H locs → W p l e room_1 s m #[Value.ref b] below meth c H locs 94 2489 (lw_Z below #[Value.ref b] s) (F0 m 689 ls [])) : W p l e room_1 s m #[Value.ref b] below meth c H locs 94 2489 (lw_Z below #[Value.ref b] s) (F0 m 643 ls []) := by
  obtain ⟨hx, hb, hr, hml, hown, hts0, hlk, hnm⟩ := id hE
  refine lv_aload_n hx hb d_Lw_law_643 rfl (lv_at hl 2 rfl) ?_
  refine lv_aload_n hx hb d_Lw_law_644 rfl (lv_at hl 3 rfl) ?_
  refine lv_iload_n hx hb d_Lw_law_645 rfl (lv_at hl 0 rfl) ?_
  refine lv_iconst (v := (1 : Int32)) hx hb d_Lw_law_646 (by decide) ?_
  refine lv_iadd hx hb d_Lw_law_647 ?_
  refine va_sld hx hb hX hbl hbA hS hi1 d_Lw_law_648 ?_
  have hw := st_reply t zc zn zm (xs (nI (4 * t) + (1 : Int32)).toNatClampNeg) ht hI
  have hP := km_permP lx_p0 hP
  have hD := km_permD lx_p0 hD
  refine km_cip (wc := mchW cI cN cZ (u 6) (km_g u) zc) (wr := ((List.range 6).flatMap (lx_f cI cN cZ u zn) ++ mmdW cI cN cZ am zm)) (km_rV (n := 1) hE kmG (c_Ch_reply l D cI cN cZ (u 6) (km_g u) zc (xs (nI (4 * t) + (1 : Int32)).toNatClampNeg) _ hw) mw_416 mw_413 mw_414 mw_415 mw_1 (by decide) ⟨rfl, rfl, ⟨by decide, by decide⟩, by decide, by decide⟩ hK (km_cutL hP) (km_cutD hD) (ci := 5) rfl hP (q0 := 0) rfl rfl hl.1 rfl (Nat.le_of_ble_eq_true rfl) d_Lw_law_649) hP hD hS hA (fun r1 v H locs hw hP hD hS => ?_)
  obtain ⟨zc1, hv⟩ : ∃ z, z = v := ⟨_, rfl⟩
  subst hv
  have hP : va_P D kmC (chW cI cN cZ u zc1 zn ++ mmdW cI cN cZ am zm) H := km_permP lx_q0 hP
  have hD : va_D A (chW cI cN cZ u zc1 zn ++ mmdW cI cN cZ am zm) := km_permD lx_q0 hD
  refine lv_aload_n hx hb d_Lw_law_652 rfl (lv_at hl 1 rfl) ?_
  refine lv_aload_n hx hb d_Lw_law_653 rfl (lv_at hl 3 rfl) ?_
  refine lv_iload_n hx hb d_Lw_law_654 rfl (lv_at hl 0 rfl) ?_
  refine lv_iconst (v := (1 : Int32)) hx hb d_Lw_law_655 (by decide) ?_
  refine lv_iadd hx hb d_Lw_law_656 ?_
  refine va_sld hx hb hX hbl hbA hS hi1 d_Lw_law_657 ?_
  have hP := km_permP List.perm_append_comm hP
  have hD := km_permD List.perm_append_comm hD
  refine km_cip (wc := mmdW cI cN cZ am zm) (wr := chW cI cN cZ u zc1 zn) (km_rV (n := 1) hE kmG (c_Md_reply l D cI cN cZ am zm (xs (nI (4 * t) + (1 : Int32)).toNatClampNeg) _ hw) mw_651 mw_648 mw_649 mw_650 mw_8 (by decide) ⟨rfl, rfl, ⟨by decide, by decide⟩, by decide, by decide⟩ hK (km_cutL hP) (km_cutD hD) (ci := 6) rfl hP (q0 := 0) rfl rfl hl.1 rfl (Nat.le_of_ble_eq_true rfl) d_Lw_law_658) hP hD hS hA (fun r2 zm1 H locs hw hP hD hS => ?_)
  refine lv_icmp_eq (tgt := 689) hx hb d_Lw_law_661 (by first | rfl | decide) (fun _ => ?_) (fun h => absurd hw.1 h)
  exact hk _ _ _ ls H locs hw.2 hl hP hD hS
set_option maxHeartbeats 4000000 in
set_option maxRecDepth 100000 in
theorem lc_heard {p : Program} {l : Launch} {e : Env} {s : State} {m : MethodId} {below : List Frame} {meth : Method} {c : Code} {D : va_G} {cI cN cZ : ClassId} {A : Nat → Prop} {w0 : Cond} {b L : Nat} {xs : Nat → Int32} {u : Nat → Nat → Nat} {am : Nat → Nat} (RI : RIT) (st_heard : ls_heard RI) (hE : km_E p s m meth c code 4 ret R_law meth.name (w0 :: kmW) #[Value.ref b]) (hK : km_K D kmC (kmT cI cN cZ) kmF kmM s) (hA : ∀ q : Nat, s.heap.size ≤ q → A q) (hX : va_X b L xs s s.heap) (hbl : b < s.heap.size) (hbA : ¬ A b) (t : Nat) (ht : t < 512) (hi1 : vp_in (nI (4 * t) + (1 : Int32)) L) (zc : MchT) (zn : Nat → MndT) (zm : MmdT) (hI : RI t zc zn zm) (ls : Array Slot) (H : Heap) (locs : List Loc) (hl : lv_has ls 4 [(3, .int (nI (4 * t))), (2, .ref (am 0)), (1, .ref (u 6 0)), (0, .ref b)]) (hP : va_P D kmC (chW cI cN cZ u zc zn ++ mmdW cI cN cZ am zm) H) (hD : va_D A (chW cI cN cZ u zc zn ++ mmdW cI cN cZ am zm)) (hS : va_S A s.heap H locs)
    (hk : ∀ (zc1 : MchT) (zn1 : Nat → MndT) (zm1 : MmdT) (ls : Array Slot) (H : Heap) (locs : List Loc), RI (t + 1) zc1 zn1 zm1 → lv_has ls 4 [(3, .int (nI (4 * t))), (2, .ref (am 0)), (1, .ref (u 6 0)), (0, .ref b)] → va_P D kmC (chW cI cN cZ u zc1 zn1 ++ mmdW cI cN cZ am zm1) H → va_D A (chW cI cN cZ u zc1 zn1 ++ mmdW cI cN cZ am zm1) → va_S A s.heap H locs → W p l e room_1 s m #[Value.ref b] below meth c H locs 94 2489 (lw_Z below #[Value.ref b] s) (F0 m 689 ls [])) : W p l e room_1 s m #[Value.ref b] below meth c H locs 94 2489 (lw_Z below #[Value.ref b] s) (F0 m 666 ls []) := by
  obtain ⟨hx, hb, hr, hml, hown, hts0, hlk, hnm⟩ := id hE
  refine lv_aload_n hx hb d_Lw_law_666 rfl (lv_at hl 2 rfl) ?_
  refine lv_aload_n hx hb d_Lw_law_667 rfl (lv_at hl 3 rfl) ?_
  refine lv_iload_n hx hb d_Lw_law_668 rfl (lv_at hl 0 rfl) ?_
  refine lv_iconst (v := (1 : Int32)) hx hb d_Lw_law_669 (by decide) ?_
  refine lv_iadd hx hb d_Lw_law_670 ?_
  refine va_sld hx hb hX hbl hbA hS hi1 d_Lw_law_671 ?_
  have hw := st_heard t zc zn zm (xs (nI (4 * t) + (1 : Int32)).toNatClampNeg) ht hI
  have hP := km_permP lx_p0 hP
  have hD := km_permD lx_p0 hD
  refine km_cip (wc := mchW cI cN cZ (u 6) (km_g u) zc) (wr := ((List.range 6).flatMap (lx_f cI cN cZ u zn) ++ mmdW cI cN cZ am zm)) (km_rV (n := 1) hE kmG (c_Ch_heard l D cI cN cZ (u 6) (km_g u) zc (xs (nI (4 * t) + (1 : Int32)).toNatClampNeg) _ hw) mw_420 mw_417 mw_418 mw_419 mw_1 (by decide) ⟨rfl, rfl, ⟨by decide, by decide⟩, by decide, by decide⟩ hK (km_cutL hP) (km_cutD hD) (ci := 5) rfl hP (q0 := 0) rfl rfl hl.1 rfl (Nat.le_of_ble_eq_true rfl) d_Lw_law_672) hP hD hS hA (fun r1 v H locs hw hP hD hS => ?_)
  obtain ⟨zc1, hv⟩ : ∃ z, z = v := ⟨_, rfl⟩
  subst hv
  have hP : va_P D kmC (chW cI cN cZ u zc1 zn ++ mmdW cI cN cZ am zm) H := km_permP lx_q0 hP
  have hD : va_D A (chW cI cN cZ u zc1 zn ++ mmdW cI cN cZ am zm) := km_permD lx_q0 hD
  refine lv_aload_n hx hb d_Lw_law_675 rfl (lv_at hl 1 rfl) ?_
  refine lv_aload_n hx hb d_Lw_law_676 rfl (lv_at hl 3 rfl) ?_
  refine lv_iload_n hx hb d_Lw_law_677 rfl (lv_at hl 0 rfl) ?_
  refine lv_iconst (v := (1 : Int32)) hx hb d_Lw_law_678 (by decide) ?_
  refine lv_iadd hx hb d_Lw_law_679 ?_
  refine va_sld hx hb hX hbl hbA hS hi1 d_Lw_law_680 ?_
  have hP := km_permP List.perm_append_comm hP
  have hD := km_permD List.perm_append_comm hD
  refine km_cip (wc := mmdW cI cN cZ am zm) (wr := chW cI cN cZ u zc1 zn) (km_rV (n := 1) hE kmG (c_Md_heard l D cI cN cZ am zm (xs (nI (4 * t) + (1 : Int32)).toNatClampNeg) _ hw) mw_655 mw_652 mw_653 mw_654 mw_8 (by decide) ⟨rfl, rfl, ⟨by decide, by decide⟩, by decide, by decide⟩ hK (km_cutL hP) (km_cutD hD) (ci := 6) rfl hP (q0 := 0) rfl rfl hl.1 rfl (Nat.le_of_ble_eq_true rfl) d_Lw_law_681) hP hD hS hA (fun r2 zm1 H locs hw hP hD hS => ?_)
  refine lv_icmp_eq (tgt := 689) hx hb d_Lw_law_684 (by first | rfl | decide) (fun _ => ?_) (fun h => absurd hw.1 h)
  exact hk _ _ _ ls H locs hw.2 hl hP hD hS
