/-! route -/
theorem p_isDone {z : MstT} {q : Nat} {post : Int32 → MstT → Prop} (hq : q < 32) (h : post (if dn_b (mst_doneBits z) q = true then 1 else 0) z) : wp_St_isDone z (nI q) post := by
  unfold wp_St_isDone
  rw [dn_bit _ q hq]
  split
  · rename_i hb
    rw [if_pos hb] at h
    exact ⟨fun z => absurd z (by decide), fun _ => h⟩
  · rename_i hb
    rw [if_neg hb] at h
    exact ⟨fun _ => h, fun z => absurd rfl z⟩
theorem p_hasMember {r : RR} {n : Nat} {post : Int32 → MstT → Prop} (hn : n < 32) (h : post (if r.2.2.1.testBit n = true then 1 else 0) (st_of r)) : wp_St_hasMember (st_of r) (nI n) post := by
  have e : (((mst_membership (st_of r)) >>> (nI n &&& 31)) &&& (1 : Int32)) = if r.2.2.1.testBit n = true then 1 else 0 := bi_bitN r.2.2.1 n hn
  unfold wp_St_hasMember
  rw [e]
  split
  · rename_i hb
    rw [if_pos hb] at h
    exact ⟨fun z => absurd z (by decide), fun _ => h⟩
  · rename_i hb
    rw [if_neg hb] at h
    exact ⟨fun _ => h, fun z => absurd rfl z⟩
theorem upd_pe (E : PE) (r k : Nat) (v : Int32) : upd (E r) k v = pe_set E r k v r := by
  funext j
  by_cases hj : j = k
  · subst hj; simp [upd, pe_set]
  · simp [upd, pe_set, hj]
theorem st_route : ls_route RI := by
  intro t zc zn zm x1 x2 _ ⟨M, E, va, dn, an, mb, ac, ae, hI, hc, hn, hm⟩
  subst hc; subst hm
  have hq30 := hI.1.1
  rcases dc_r x1 (lo := 1) (hi := M 0 0) (by omega) (by omega) with hq | ⟨q, hq1, hq2, rfl⟩
  · refine ⟨0, by omega, p_has0 hq (br0 ?_)⟩
    have hs : RI (t + 1) (ch_of M E) (va_up zn 0 (zn 0)) (md_of M E va dn an mb ac ae) := RI_same hI rfl (hn 0 (by omega)) hn rfl
    refine ⟨fun _ => ⟨rfl, hs⟩, fun a => ⟨fun _ => ⟨rfl, hs⟩, fun b => ?_⟩⟩
    rcases hq with hq | hq
    · exact absurd hq a
    · exact absurd hq b
  · have hqn : ¬ (nI q < 1 ∨ nI (M 0 0) < nI q) := dc_rn hq1 hq2 (by omega)
    have hqv : vp_in (nI q) 31 := vp_in_nI (by omega) (by decide)
    have hqN : (nI q).toNatClampNeg = q := nI_clamp (by omega)
    rcases dc_n x2 with h1 | ⟨n, hn6, rfl⟩
    · refine ⟨0, by omega, p_has1 hqn (br1 (p_node0 h1 (br0 ?_)))⟩
      have hs : RI (t + 1) (ch_of M E) (va_up zn 0 (zn 0)) (md_of M E va dn an mb ac ae) := RI_same hI rfl (hn 0 (by omega)) hn rfl
      exact ⟨fun a => absurd (Or.inl a) hqn, fun _ => ⟨fun a => absurd (Or.inr a) hqn, fun _ => p_mnode0 h1 (br0 ⟨rfl, hs⟩)⟩⟩
    · refine ⟨n, hn6, p_has1 hqn (br1 (p_node1 (dc_k hn6) (br1 ⟨rfl, ?_⟩)))⟩
      rw [hn n hn6]
      have h3 := hI.2.2.1 n hn6
      have hb := nd_mem hI.1 hI.2.1 h3
      have hs : RI (t + 1) (ch_of M E) (va_up zn n (nd_of M E n)) (md_of M E va dn an mb ac ae) := RI_same hI rfl rfl hn rfl
      have hv : vp_in (nI n) 6 := vp_in_nI hn6 (by decide)
      have hu : mnd_up (nd_of M E n) = up_of M n := rfl
      have ec : mst_configuration (mnd_state (nd_of M E n)) = nI (M 5 n) := by
        show nI (rr_nd M E n).1 = _
        rw [hb.2.1]
      have ec' : mmd_configuration (md_of M E va dn an mb ac ae) (nI n).toNatClampNeg = nI (M 5 n) := rdN M 5 hn6
      have er : mch_routerConfiguration (ch_of M E) = nI (M 0 1) := rfl
      have er' : mmd_router (md_of M E va dn an mb ac ae) = nI (M 0 1) := rfl
      have h01 := hI.1.2.1
      -- the model, up to its test of up
      have hmd : ∀ {r1 : Int32} {P : Int32 → MmdT → Prop}, (up_of M n = 0 → P 0 (md_of M E va dn an mb ac ae)) → (up_of M n = 1 → ((nI (M 0 1) ≤ nI (M 5 n) → (nI (M 5 n) ≤ nI (M 0 1) → wp_Md_replayOf (md_of M E va dn an mb ac ae) (nI n) (fun u11 => vp_in (nI q) 31 ∧ ((mmd_done u11 (nI q).toNatClampNeg = 0 → ((((mmd_members u11 >>> (nI n &&& 31)) &&& 1) = 0 → P 3 u11) ∧ (¬ ((mmd_members u11 >>> (nI n &&& 31)) &&& 1) = 0 → vp_in (nI n) 6 ∧ ∀ w14 : MmdT, w14 = mmd_s_pending u11 (upd (mmd_pending u11) (nI n).toNatClampNeg (nI q)) → P 2 w14))) ∧ (¬ mmd_done u11 (nI q).toNatClampNeg = 0 → wp_Md_hear u11 (nI q) (fun u16 => P 1 u16))))) ∧ (¬ nI (M 5 n) ≤ nI (M 0 1) → ∀ w17 : MmdT, w17 = mmd_s_router (md_of M E va dn an mb ac ae) (nI (M 5 n)) → P 5 w17)) ∧ (¬ nI (M 0 1) ≤ nI (M 5 n) → P 4 (md_of M E va dn an mb ac ae)))) → wp_Md_route (md_of M E va dn an mb ac ae) (nI q) (nI n) P := by
        intro r1 P h0 h1
        refine ⟨fun a => absurd (Or.inl a) hqn, fun _ => ⟨fun a => absurd (Or.inr a) hqn, fun _ => p_mnode1 (dc_k hn6) (br1 (p_isUp hn6 ?_))⟩⟩
        rcases up_cases M n with ⟨u0, ub⟩ | ⟨u1, ub⟩
        · rw [u0]; exact br0 (h0 u0)
        · rw [u1]
          obtain ⟨k1, k2⟩ := h1 u1
          refine br1 ⟨hv, ?_⟩
          rw [ec', er']
          exact ⟨fun a => ⟨hv, fun b => (k1 a).1 b, fun b => ⟨hv, (k1 a).2 b⟩⟩, k2⟩
      rw [hu, ec, er]
      rcases up_cases M n with ⟨u0, ub⟩ | ⟨u1, ub⟩
      · rw [u0]
        exact br0 (hmd (r1 := 0) (fun _ => ⟨rfl, hs⟩) (fun z => absurd (u0.symm.trans z) (by decide)))
      · rw [u1]
        have hno : ∀ {A : Prop}, up_of M n = 0 → A := fun z => absurd (u1.symm.trans z) (by decide)
        refine br1 ⟨fun hle => ⟨fun hge => ?_, fun hge => ?_⟩, fun hle => ?_⟩
        · refine p_isDone (by omega) ?_
          have ed : mst_doneBits (mnd_state (nd_of M E n)) = (rr_nd M E n).2.2.2.2.1 := rfl
          rw [ed]
          have edm : ∀ {va' dn' an' : Nat → Int32}, mmd_done (md_r M E (rr_nd M E n) va' dn' an') (nI q).toNatClampNeg = if dn_b (rr_nd M E n).2.2.2.2.1 q = true then 1 else 0 := by
            intro va' dn' an'
            show (if (nI q).toNatClampNeg < 31 then (if dn_b (rr_nd M E n).2.2.2.2.1 (nI q).toNatClampNeg = true then 1 else 0) else dn' (nI q).toNatClampNeg) = _
            rw [hqN, if_pos (by omega)]
          by_cases hd : dn_b (rr_nd M E n).2.2.2.2.1 q = true
          · rw [if_pos hd]
            refine br1 ⟨hqv, hqv, hqv, hqv, hmd (r1 := 0) hno (fun _ => ⟨fun _ => ⟨fun _ => p_replayOf hI.1 hI.2.1 hn6 h3 ⟨hqv, ?_⟩, fun z => absurd hge z⟩, fun z => absurd hle z⟩)⟩
            rw [edm, if_pos hd]
            refine br1 ⟨hqv, hqv, fun w1 e1 => ⟨hqv, hqv, fun w2 e2 => ⟨rfl, ?_⟩⟩⟩
            obtain ⟨E', hE'⟩ : ∃ E' : PE, E' = pe_set (pe_set E 1 q (E 1 q + 1)) 2 q ((rr_nd M E n).2.2.2.2.2 q) := ⟨_, rfl⟩
            have e12 : w2 = md_r M E' (rr_nd M E n) va dn an := by
              rw [e2, e1]
              have s1 : mmd_s_heardOf (md_r M E (rr_nd M E n) va dn an) (upd (mmd_heardOf (md_r M E (rr_nd M E n) va dn an)) (nI q).toNatClampNeg (mmd_heardOf (md_r M E (rr_nd M E n) va dn an) (nI q).toNatClampNeg + 1)) = md_r M (pe_set E 1 q (E 1 q + 1)) (rr_nd M E n) va dn an := by
                rw [hqN]; exact ms_heardOf M E _ _ _ _ _ _ q (E 1 q + 1)
              rw [s1]
              have s2 : mmd_answers (md_r M (pe_set E 1 q (E 1 q + 1)) (rr_nd M E n) va dn an) (nI q).toNatClampNeg = (rr_nd M E n).2.2.2.2.2 q := by
                show (if (nI q).toNatClampNeg < 31 then (rr_nd M E n).2.2.2.2.2 (nI q).toNatClampNeg else an (nI q).toNatClampNeg) = _
                rw [hqN, if_pos (by omega)]
              rw [s2, hqN, hE']
              exact ms_replyOf M (pe_set E 1 q (E 1 q + 1)) _ _ _ _ _ _ q _
            subst e12
            have gE : E' 0 = E 0 := by rw [hE', pe_reg _ (by decide), pe_reg _ (by decide)]
            have hN := nv_upd (M := M) (M' := M) (E := E) (E' := E') hI hn6 gE rfl rfl rfl rfl rfl rfl rfl rfl (fun i _ r _ _ => rfl) (Nat.le_refl _) (by have := (hI.2.2.2.1.1 n hn6).1; omega) h01 hI.1.2.2.1 rfl rfl (nv_n_ext (px_ext_of hI gE rfl rfl rfl rfl) (fun r _ _ => rfl) h3) (Or.inr ⟨rfl, fun r _ _ => rfl⟩)
            have hnd : nd_of M E' n = nd_of M E n := nd_ext hN.2 h3 (fun r _ _ => rfl) (fun j _ _ => ⟨rfl, rfl, rfl⟩) rfl
            refine RI_upd hI hN (fun i _ r _ _ => rfl) rfl rfl rfl (fun i _ => rfl) ?_ (by rw [hnd]; rfl) hn rfl
            show ((bk_of M E, upd (E 2) (nI q).toNatClampNeg ((rr_nd M E n).2.2.2.2.2 (nI q).toNatClampNeg), upd (E 1) (nI q).toNatClampNeg (E 1 (nI q).toNatClampNeg + 1), nI (M 0 1)) : MchT) = (bk_of M E', E' 2, E' 1, nI (M 0 1))
            have b1 : bk_of M E' = bk_of M E := by unfold bk_of; rw [gE]
            rw [b1, hqN, upd_pe, upd_pe, hE']
            have b2 : pe_set (pe_set E 1 q (E 1 q + 1)) 2 q ((rr_nd M E n).2.2.2.2.2 q) 1 = pe_set E 1 q (E 1 q + 1) 1 := pe_reg _ (by decide)
            have b3 : pe_set (pe_set E 1 q (E 1 q + 1)) 2 q ((rr_nd M E n).2.2.2.2.2 q) 2 = pe_set E 2 q ((rr_nd M E n).2.2.2.2.2 q) 2 := by
              rw [← upd_pe, ← upd_pe, pe_reg _ (by decide)]
            rw [b2, b3]
          · rw [if_neg hd]
            refine br0 (p_hasMember (r := rr_nd M E n) (by omega) ?_)
            have emm : ∀ {va' dn' an' : Nat → Int32}, (((mmd_members (md_r M E (rr_nd M E n) va' dn' an')) >>> (nI n &&& 31)) &&& (1 : Int32)) = if (rr_nd M E n).2.2.1.testBit n = true then 1 else 0 := fun {_ _ _} => bi_bitN (rr_nd M E n).2.2.1 n (by omega)
            by_cases hm : (rr_nd M E n).2.2.1.testBit n = true
            · rw [if_pos hm]
              refine br1 (hmd (r1 := 0) hno (fun _ => ⟨fun _ => ⟨fun _ => p_replayOf hI.1 hI.2.1 hn6 h3 ⟨hqv, ?_⟩, fun z => absurd hge z⟩, fun z => absurd hle z⟩))
              rw [edm, if_neg hd]
              refine br0 ?_
              rw [emm, if_pos hm]
              refine br1 ⟨hv, fun w e => ⟨rfl, ?_⟩⟩
              obtain rfl := e.trans (show _ = md_r (ps_set M 10 n q) E (rr_nd M E n) va dn an from mw_pending q hn6)
              have g : ∀ r, r ≠ 10 → ps_set M 10 n q r = M r := fun r a => ps_reg M a
              have g10 : ps_set M 10 n q 10 n = q := ps_eq _ _ _ _
              have hss : ∀ i, i ≠ n → ns_at M (ps_set M 10 n q) i := fun i hi r _ _ => ps_nei M hi
              have hx := px_ext_of (M' := ps_set M 10 n q) (E' := E) hI rfl (by rw [g 0 (by decide)]) (g 1 (by decide)) (g 2 (by decide)) (g 3 (by decide))
              have hk : nv_n (ps_set M 10 n q) E n := by
                obtain ⟨-, q9, q10, q7, qk, q11, qa, q13, q14, q16, q17⟩ := h3
                unfold nv_n
                rw [g 9 (by decide), g10, g 0 (by decide), g 7 (by decide), g 11 (by decide), g 13 (by decide), g 14 (by decide), g 16 (by decide), g 17 (by decide), g 5 (by decide), g 6 (by decide), g 3 (by decide)]
                refine ⟨?_, q9, hq2, q7, qk, q11, qa, q13, q14, q16, q17⟩
                have := nv_path (M' := ps_set M 10 n q) (E' := E) hx (hI.2.2.1 n hn6) (by rw [g 5 (by decide)]) (by rw [g 6 (by decide)])
                rw [g 5 (by decide), g 6 (by decide)] at this
                exact this
              have h8 := (hI.2.2.2.1.1 n hn6).1
              have hN := nv_upd (M' := ps_set M 10 n q) (E' := E) hI hn6 rfl (by rw [g 0 (by decide)]) (g 1 (by decide)) (g 2 (by decide)) (g 3 (by decide)) (g 9 (by decide)) (g 18 (by decide)) (g 19 (by decide)) (g 20 (by decide)) hss (by rw [g 8 (by decide)]; exact Nat.le_refl _) (by rw [g 8 (by decide)]; omega) (by rw [g 0 (by decide)]; exact h01) (by rw [g 0 (by decide)]; exact hI.1.2.2.1) (by rw [g 12 (by decide)]) (by rw [g 15 (by decide)]) hk (Or.inr ⟨by rw [g 5 (by decide)], fun r _ _ => by rw [g r (by omega)]⟩)
              refine RI_upd hI hN hss (g 18 (by decide)) (g 19 (by decide)) (g 20 (by decide)) (fun i _ => by rw [g 0 (by decide)]) (ch_same (by rw [g 0 (by decide)]) (by rw [g 0 (by decide)]) (g 1 (by decide)) (g 2 (by decide)) rfl).symm ?_ hn rfl
              refine nd_mk (M := ps_set M 10 n q) ?_ ?_ (lg_same (g 18 (by decide)) (g 19 (by decide)) (g 20 (by decide))).symm (by rw [g 8 (by decide)]; rfl) (by rw [g 9 (by decide)]; rfl) ?_ (by rw [g10]) ?_
              · unfold up_of; rw [g 0 (by decide)]; rfl
              · rw [rr_nd_ext hx h3 (by rw [g 5 (by decide)]) (by rw [g 6 (by decide)])]; rfl
              · unfold kn_of; rw [g 7 (by decide), g 5 (by decide), g 3 (by decide)]; rfl
              · unfold at_of; rw [g 11 (by decide), g 12 (by decide), g 13 (by decide), g 14 (by decide), g 15 (by decide), g 16 (by decide), g 17 (by decide)]; rfl
            · rw [if_neg hm]
              refine br0 (hmd (r1 := 0) hno (fun _ => ⟨fun _ => ⟨fun _ => p_replayOf hI.1 hI.2.1 hn6 h3 ⟨hqv, ?_⟩, fun z => absurd hge z⟩, fun z => absurd hle z⟩))
              rw [edm, if_neg hd]
              refine br0 ?_
              rw [emm, if_neg hm]
              exact br0 ⟨rfl, RI_same hI rfl rfl hn rfl⟩
        · refine hmd (r1 := 0) hno (fun _ => ⟨fun _ => ⟨fun z => absurd z hge, fun _ w e => ⟨rfl, ?_⟩⟩, fun z => absurd hle z⟩)
          obtain rfl := e.trans (ms_router M E va dn an mb ac ae (M 5 n))
          have g : ∀ r, r ≠ 0 → ps_set M 0 1 (M 5 n) r = M r := fun r a => ps_reg M a
          have g00 : ps_set M 0 1 (M 5 n) 0 0 = M 0 0 := by simp [ps_set]
          have g01 : ps_set M 0 1 (M 5 n) 0 1 = M 5 n := by simp [ps_set]
          have g02 : ps_set M 0 1 (M 5 n) 0 2 = M 0 2 := by simp [ps_set]
          have hss : ∀ i, ns_at M (ps_set M 0 1 (M 5 n)) i := fun i r h5 _ => by rw [g r (by omega)]
          have hx := px_ext_of (M' := ps_set M 0 1 (M 5 n)) (E' := E) hI rfl g00 (g 1 (by decide)) (g 2 (by decide)) (g 3 (by decide))
          have h8 := (hI.2.2.2.1.1 n hn6).1
          have hN := nv_upd (M' := ps_set M 0 1 (M 5 n)) (E' := E) hI hn6 rfl g00 (g 1 (by decide)) (g 2 (by decide)) (g 3 (by decide)) (g 9 (by decide)) (g 18 (by decide)) (g 19 (by decide)) (g 20 (by decide)) (fun i _ => hss i) (by rw [g 8 (by decide)]; exact Nat.le_refl _) (by rw [g 8 (by decide)]; omega) (by rw [g01]; exact hb.2.2.2.1) (by rw [g02]; exact hI.1.2.2.1) (by rw [g 12 (by decide)]) (by rw [g 15 (by decide)]) (nv_n_ext hx (hss n) h3) (Or.inr ⟨by rw [g 5 (by decide)], fun r _ _ => by rw [g r (by omega)]⟩)
          have hnd : nd_of (ps_set M 0 1 (M 5 n)) E n = nd_of M E n := nd_ext hN.2 h3 (hss n) (fun j _ _ => ⟨by rw [g 18 (by decide)], by rw [g 19 (by decide)], by rw [g 20 (by decide)]⟩) (by rw [g02])
          refine RI_upd hI hN (fun i _ => hss i) (g 18 (by decide)) (g 19 (by decide)) (g 20 (by decide)) (fun i _ => by rw [g02]) ?_ hnd.symm hn rfl
          show ((bk_of M E, E 2, E 1, nI (M 5 n)) : MchT) = (bk_of (ps_set M 0 1 (M 5 n)) E, E 2, E 1, nI (ps_set M 0 1 (M 5 n) 0 1))
          have b1 : bk_of (ps_set M 0 1 (M 5 n)) E = bk_of M E := by unfold bk_of; rw [g00, g 1 (by decide), g 2 (by decide)]
          rw [b1, g01]
        · exact hmd (r1 := 0) hno (fun _ => ⟨fun z => absurd z hle, fun _ => ⟨rfl, hs⟩⟩)
