theorem lw_gt {L t : Nat} (hL : L ≤ 2048) (h : ¬ (Int32.ofNat L - (4 : Int32)) < nI (4 * t)) (ht : 4 * t < 2 ^ 30) : 4 * t + 4 ≤ L := by
  have e : (Int32.ofNat L - (4 : Int32)).toInt = (L : Int) - 4 := pk_sub_toInt (a := L) (b := 4) (by omega) (by decide)
  rw [Int32.lt_iff_toInt_lt, e, nI_toInt (by omega)] at h
  omega
theorem lw_ix {L t j : Nat} (hL : L ≤ 2048) (h : 4 * t + j < L) : vp_in (nI (4 * t) + nI j) L := by
  rw [nI_add]; exact vp_in_nI h (by omega)
set_option maxHeartbeats 4000000 in
set_option maxRecDepth 100000 in
theorem lw_loop {p : Program} {l : Launch} {e : Env} {s : State} {m : MethodId} {below : List Frame} {meth : Method} {c : Code} {D : va_G} {cI cN cZ : ClassId} {w0 : Cond} {b L : Nat} {xs : Nat → Int32} {u : Nat → Nat → Nat} {am : Nat → Nat} (RI : RIT) (st_ask : ls_ask RI) (st_route : ls_route RI) (st_router : ls_router RI) (st_start : ls_start RI) (st_promise : ls_promise RI) (st_accept : ls_accept RI) (st_tell : ls_tell RI) (st_crash : ls_crash RI) (st_restart : ls_restart RI) (st_retire : ls_retire RI) (st_look : ls_look RI) (st_value : ls_value RI) (st_promised : ls_promised RI) (st_vote : ls_vote RI) (st_known : ls_known RI) (st_reply : ls_reply RI) (st_heard : ls_heard RI) (st_none : ls_none RI) (hE : km_E p s m meth c code 4 ret R_law meth.name (w0 :: kmW) #[Value.ref b]) (hK : km_K D kmC (kmT cI cN cZ) kmF kmM s) (hX : va_X b L xs s s.heap) (hbl : b < s.heap.size) (hL : L ≤ 2048) : ∀ (n t : Nat), 513 ≤ t + n → t ≤ 512 → ∀ (zc : MchT) (zn : Nat → MndT) (zm : MmdT) (ls : Array Slot) (H : Heap) (locs : List Loc), RI t zc zn zm → lv_has ls 4 [(3, .int (nI (4 * t))), (2, .ref (am 0)), (1, .ref (u 6 0)), (0, .ref b)] → va_P D kmC (chW cI cN cZ u zc zn ++ mmdW cI cN cZ am zm) H → va_D (fun q => s.heap.size ≤ q) (chW cI cN cZ u zc zn ++ mmdW cI cN cZ am zm) → va_S (fun q => s.heap.size ≤ q) s.heap H locs → W p l e room_1 s m #[Value.ref b] below meth c H locs 94 2489 (lw_Z below #[Value.ref b] s) (F0 m 18 ls []) := by
  obtain ⟨hx, hb, hr, hml, hown, hts0, hlk, hnm⟩ := id hE
  have hA : ∀ q : Nat, s.heap.size ≤ q → (fun q => s.heap.size ≤ q) q := fun q h => h
  have hbA : ¬ (fun q => s.heap.size ≤ q) b := Nat.not_le.mpr hbl
  intro n
  induction n with
  | zero => intro t h1 h2; omega
  | succ n ih =>
    intro t h1 h2 zc zn zm ls H locs hI hl hP hD hS
    refine lv_iload_n hx hb d_Lw_law_18 rfl (lv_at hl 0 rfl) ?_
    refine lv_aload_n hx hb d_Lw_law_19 rfl (lv_at hl 3 rfl) ?_
    refine va_slen hx hb hX hbl hbA hS d_Lw_law_20 ?_
    refine lv_iconst (v := (4 : Int32)) hx hb d_Lw_law_21 (by decide) ?_
    refine lv_isub hx hb d_Lw_law_22 ?_
    refine lv_icmp_gt (tgt := 695) hx hb d_Lw_law_23 (by first | rfl | decide) (fun hg => ?_) (fun hg => ?_)
    · refine lv_iconst (v := (1 : Int32)) hx hb d_Lw_law_695 (by decide) ?_
      refine va_forget (fun q hq => hS.2.2 q hq) ?_
      refine W.widen (k := 600000) (n := 7302250) (by decide) (by decide) ?_
      exact lw_ret hx hb hr hlk d_Lw_law_696
    · have h4 := lw_gt hL hg (by omega)
      have ht : t < 512 := by omega
      have hi0 : vp_in (nI (4 * t)) L := vp_in_nI (by omega) (by omega)
      have hi1 : vp_in (nI (4 * t) + (1 : Int32)) L := lw_ix (j := 1) hL (by omega)
      have hi2 : vp_in (nI (4 * t) + (2 : Int32)) L := lw_ix (j := 2) hL (by omega)
      have hi3 : vp_in (nI (4 * t) + (3 : Int32)) L := lw_ix (j := 3) hL (by omega)
      have hk : ∀ (zc1 : MchT) (zn1 : Nat → MndT) (zm1 : MmdT) (ls : Array Slot) (H : Heap) (locs : List Loc), RI (t + 1) zc1 zn1 zm1 → lv_has ls 4 [(3, .int (nI (4 * t))), (2, .ref (am 0)), (1, .ref (u 6 0)), (0, .ref b)] → va_P D kmC (chW cI cN cZ u zc1 zn1 ++ mmdW cI cN cZ am zm1) H → va_D (fun q => s.heap.size ≤ q) (chW cI cN cZ u zc1 zn1 ++ mmdW cI cN cZ am zm1) → va_S (fun q => s.heap.size ≤ q) s.heap H locs → W p l e room_1 s m #[Value.ref b] below meth c H locs 94 2489 (lw_Z below #[Value.ref b] s) (F0 m 689 ls []) := by
        intro zc1 zn1 zm1 ls H locs hI hl hP hD hS
        refine lv_iinc (v := nI (4 * (t + 1))) (lv' := [(3, .int (nI (4 * (t + 1)))), (2, .ref (am 0)), (1, .ref (u 6 0)), (0, .ref b)]) hx hb d_Lw_law_689 hl (k := 0) rfl (by rw [show Int32.ofInt 4 = nI 4 by decide, nI_add]; rfl) (by decide) rfl (fun ls hl => ?_)
        refine lv_goto (tgt := 18) hx hb d_Lw_law_692 (by first | rfl | decide) ?_
        exact ih (t + 1) (by omega) (by omega) zc1 zn1 zm1 ls H locs hI hl hP hD hS
      refine lv_aload_n hx hb d_Lw_law_26 rfl (lv_at hl 3 rfl) ?_
      refine lv_iload_n hx hb d_Lw_law_27 rfl (lv_at hl 0 rfl) ?_
      refine va_sld hx hb hX hbl hbA hS hi0 d_Lw_law_28 ?_
      refine lv_bipush (v := (31 : Int32)) hx hb d_Lw_law_29 (by decide) ?_
      refine lv_iand hx hb d_Lw_law_31 ?_
      obtain ⟨v, hv⟩ : ∃ z : Int32, z = (xs (nI (4 * t)).toNatClampNeg &&& (31 : Int32)) := ⟨_, rfl⟩
      rw [← hv]
      by_cases g0 : v = (0 : Int32)
      · refine lv_tableIn (tgt := 116) (off := 84) hx hb d_Lw_law_32 (by rw [g0]; decide) (by rw [g0]; decide) (by rw [g0]; rfl) (by first | rfl | decide) ?_
        exact lc_ask RI st_ask hE hK hA hX hbl hbA t ht hi1 hi2 hi3 zc zn zm hI ls H locs hl hP hD hS hk
      by_cases g1 : v = (1 : Int32)
      · refine lv_tableIn (tgt := 159) (off := 127) hx hb d_Lw_law_32 (by rw [g1]; decide) (by rw [g1]; decide) (by rw [g1]; rfl) (by first | rfl | decide) ?_
        exact lc_route RI st_route hE hK hA hX hbl hbA t ht hi1 hi2 zc zn zm hI ls H locs hl hP hD hS hk
      by_cases g2 : v = (2 : Int32)
      · refine lv_tableIn (tgt := 192) (off := 160) hx hb d_Lw_law_32 (by rw [g2]; decide) (by rw [g2]; decide) (by rw [g2]; rfl) (by first | rfl | decide) ?_
        exact lc_router RI st_router hE hK hA hX hbl hbA t ht  zc zn zm hI ls H locs hl hP hD hS hk
      by_cases g3 : v = (3 : Int32)
      · refine lv_tableIn (tgt := 205) (off := 173) hx hb d_Lw_law_32 (by rw [g3]; decide) (by rw [g3]; decide) (by rw [g3]; rfl) (by first | rfl | decide) ?_
        exact lc_start RI st_start hE hK hA hX hbl hbA t ht hi1 hi2 zc zn zm hI ls H locs hl hP hD hS hk
      by_cases g4 : v = (4 : Int32)
      · refine lv_tableIn (tgt := 238) (off := 206) hx hb d_Lw_law_32 (by rw [g4]; decide) (by rw [g4]; decide) (by rw [g4]; rfl) (by first | rfl | decide) ?_
        exact lc_promise RI st_promise hE hK hA hX hbl hbA t ht hi1 hi2 hi3 zc zn zm hI ls H locs hl hP hD hS hk
      by_cases g5 : v = (5 : Int32)
      · refine lv_tableIn (tgt := 297) (off := 265) hx hb d_Lw_law_32 (by rw [g5]; decide) (by rw [g5]; decide) (by rw [g5]; rfl) (by first | rfl | decide) ?_
        exact lc_accept RI st_accept hE hK hA hX hbl hbA t ht hi1 hi2 hi3 zc zn zm hI ls H locs hl hP hD hS hk
      by_cases g6 : v = (6 : Int32)
      · refine lv_tableIn (tgt := 356) (off := 324) hx hb d_Lw_law_32 (by rw [g6]; decide) (by rw [g6]; decide) (by rw [g6]; rfl) (by first | rfl | decide) ?_
        exact lc_tell RI st_tell hE hK hA hX hbl hbA t ht hi1 hi2 zc zn zm hI ls H locs hl hP hD hS hk
      by_cases g7 : v = (7 : Int32)
      · refine lv_tableIn (tgt := 389) (off := 357) hx hb d_Lw_law_32 (by rw [g7]; decide) (by rw [g7]; decide) (by rw [g7]; rfl) (by first | rfl | decide) ?_
        exact lc_crash RI st_crash hE hK hA hX hbl hbA t ht hi1 zc zn zm hI ls H locs hl hP hD hS hk
      by_cases g8 : v = (8 : Int32)
      · refine lv_tableIn (tgt := 412) (off := 380) hx hb d_Lw_law_32 (by rw [g8]; decide) (by rw [g8]; decide) (by rw [g8]; rfl) (by first | rfl | decide) ?_
        exact lc_restart RI st_restart hE hK hA hX hbl hbA t ht hi1 zc zn zm hI ls H locs hl hP hD hS hk
      by_cases g9 : v = (9 : Int32)
      · refine lv_tableIn (tgt := 435) (off := 403) hx hb d_Lw_law_32 (by rw [g9]; decide) (by rw [g9]; decide) (by rw [g9]; rfl) (by first | rfl | decide) ?_
        exact lc_retire RI st_retire hE hK hA hX hbl hbA t ht hi1 zc zn zm hI ls H locs hl hP hD hS hk
      by_cases g10 : v = (10 : Int32)
      · refine lv_tableIn (tgt := 458) (off := 426) hx hb d_Lw_law_32 (by rw [g10]; decide) (by rw [g10]; decide) (by rw [g10]; rfl) (by first | rfl | decide) ?_
        exact lc_look RI st_look hE hK hA hX hbl hbA t ht hi1 hi2 zc zn zm hI ls H locs hl hP hD hS hk
      by_cases g11 : v = (11 : Int32)
      · refine lv_tableIn (tgt := 491) (off := 459) hx hb d_Lw_law_32 (by rw [g11]; decide) (by rw [g11]; decide) (by rw [g11]; rfl) (by first | rfl | decide) ?_
        exact lc_value RI st_value hE hK hA hX hbl hbA t ht hi1 hi2 zc zn zm hI ls H locs hl hP hD hS hk
      by_cases g12 : v = (12 : Int32)
      · refine lv_tableIn (tgt := 524) (off := 492) hx hb d_Lw_law_32 (by rw [g12]; decide) (by rw [g12]; decide) (by rw [g12]; rfl) (by first | rfl | decide) ?_
        exact lc_promised RI st_promised hE hK hA hX hbl hbA t ht hi1 hi2 hi3 zc zn zm hI ls H locs hl hP hD hS hk
      by_cases g13 : v = (13 : Int32)
      · refine lv_tableIn (tgt := 567) (off := 535) hx hb d_Lw_law_32 (by rw [g13]; decide) (by rw [g13]; decide) (by rw [g13]; rfl) (by first | rfl | decide) ?_
        exact lc_vote RI st_vote hE hK hA hX hbl hbA t ht hi1 hi2 hi3 zc zn zm hI ls H locs hl hP hD hS hk
      by_cases g14 : v = (14 : Int32)
      · refine lv_tableIn (tgt := 610) (off := 578) hx hb d_Lw_law_32 (by rw [g14]; decide) (by rw [g14]; decide) (by rw [g14]; rfl) (by first | rfl | decide) ?_
        exact lc_known RI st_known hE hK hA hX hbl hbA t ht hi1 hi2 zc zn zm hI ls H locs hl hP hD hS hk
      by_cases g15 : v = (15 : Int32)
      · refine lv_tableIn (tgt := 643) (off := 611) hx hb d_Lw_law_32 (by rw [g15]; decide) (by rw [g15]; decide) (by rw [g15]; rfl) (by first | rfl | decide) ?_
        exact lc_reply RI st_reply hE hK hA hX hbl hbA t ht hi1 zc zn zm hI ls H locs hl hP hD hS hk
      by_cases g16 : v = (16 : Int32)
      · refine lv_tableIn (tgt := 666) (off := 634) hx hb d_Lw_law_32 (by rw [g16]; decide) (by rw [g16]; decide) (by rw [g16]; rfl) (by first | rfl | decide) ?_
        exact lc_heard RI st_heard hE hK hA hX hbl hbA t ht hi1 zc zn zm hI ls H locs hl hP hD hS hk
      refine lv_tableOut (tgt := 689) hx hb d_Lw_law_32 (by have g0T := lv_neT (a := 0) g0 (by decide); have g1T := lv_neT (a := 1) g1 (by decide); have g2T := lv_neT (a := 2) g2 (by decide); have g3T := lv_neT (a := 3) g3 (by decide); have g4T := lv_neT (a := 4) g4 (by decide); have g5T := lv_neT (a := 5) g5 (by decide); have g6T := lv_neT (a := 6) g6 (by decide); have g7T := lv_neT (a := 7) g7 (by decide); have g8T := lv_neT (a := 8) g8 (by decide); have g9T := lv_neT (a := 9) g9 (by decide); have g10T := lv_neT (a := 10) g10 (by decide); have g11T := lv_neT (a := 11) g11 (by decide); have g12T := lv_neT (a := 12) g12 (by decide); have g13T := lv_neT (a := 13) g13 (by decide); have g14T := lv_neT (a := 14) g14 (by decide); have g15T := lv_neT (a := 15) g15 (by decide); have g16T := lv_neT (a := 16) g16 (by decide); omega) (by first | rfl | decide) ?_
      exact hk zc zn zm ls H locs (st_none t zc zn zm hI) hl hP hD hS
