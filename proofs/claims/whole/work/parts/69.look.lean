/-! look, value, known -/
theorem rdN (M : PM) (r : Nat) {n : Nat} (hn : n < 6) : nI (M r (nI n).toNatClampNeg) = nI (M r n) := by rw [nI_clamp (by omega)]
theorem st_value : ls_value RI := by
  intro t zc zn zm x1 x2 _ ⟨M, E, va, dn, an, mb, ac, ae, hI, hc, hn, hm⟩
  subst hc; subst hm
  rcases dc_n x1 with h1 | ⟨n, hn6, rfl⟩
  · exact ⟨0, by omega, p_node0 h1 (br0 (p_mnode0 h1 (br0 ⟨rfl, RI_same hI rfl (hn 0 (by omega)) hn rfl⟩)))⟩
  · refine ⟨n, hn6, p_node1 (dc_k hn6) (br1 ?_)⟩
    have hs : RI (t + 1) (ch_of M E) (va_up zn n (nd_of M E n)) (md_of M E va dn an mb ac ae) := RI_same hI rfl rfl hn rfl
    rw [hn n hn6]
    rcases dc_r x2 (lo := 0) (hi := 3) (by omega) (by decide) with h2 | ⟨k, -, hk3, rfl⟩
    · refine p_key0 (h2.imp id (fun h => (lt_le_succ (n := 3) (by decide)).mpr h)) (br0 (p_mnode1 (dc_k hn6) (br1 ⟨fun _ => ⟨rfl, hs⟩, fun a => ⟨fun b => ?_, fun _ => ⟨rfl, hs⟩⟩⟩)))
      rcases h2 with h2 | h2
      · exact absurd h2 a
      · exact absurd b (nle_of_lt h2)
    · refine p_key1 (fun q => dc_rn (k := k) (lo := 0) (hi := 3) (by omega) hk3 (by decide) (q.imp id (fun h => (lt_le_succ (n := 3) (by decide)).mp h))) (br1 ⟨rfl, vp_in_nI (by omega) (by decide), ?_⟩)
      refine p_mnode1 (dc_k hn6) (br1 ⟨fun a => absurd a (nI_pos (by omega)), fun _ => ⟨fun _ => ?_, fun b => absurd (nI_le hk3 (by decide)) b⟩⟩)
      refine p_replayOf hI.1 hI.2.1 hn6 (hI.2.2.1 n hn6) ⟨vp_in_nI (by omega) (by decide), ?_, RI_same hI rfl rfl hn rfl⟩
      show (rr_nd M E n).2.2.2.1 (nI k).toNatClampNeg = (if (nI k).toNatClampNeg < 4 then (rr_nd M E n).2.2.2.1 (nI k).toNatClampNeg else va (nI k).toNatClampNeg)
      rw [nI_clamp (by omega), if_pos (by omega)]
theorem st_known : ls_known RI := by
  intro t zc zn zm x1 x2 _ ⟨M, E, va, dn, an, mb, ac, ae, hI, hc, hn, hm⟩
  subst hc; subst hm
  rcases dc_n x1 with h1 | ⟨n, hn6, rfl⟩
  · exact ⟨0, by omega, p_node0 h1 (br0 (p_cell0 (Or.inl h1) (br0 ⟨rfl, RI_same hI rfl (hn 0 (by omega)) hn rfl⟩)))⟩
  · refine ⟨n, hn6, p_node1 (dc_k hn6) (br1 ?_)⟩
    have hs : RI (t + 1) (ch_of M E) (va_up zn n (nd_of M E n)) (md_of M E va dn an mb ac ae) := RI_same hI rfl rfl hn rfl
    rw [hn n hn6]
    rcases dc_s x2 with h2 | ⟨s, hs1, hs8, rfl⟩
    · exact p_slot0 h2 (br0 (p_cell0 (Or.inr (Or.inr h2)) (br0 ⟨rfl, hs⟩)))
    · refine p_slot1 (dc_s8 hs1 hs8) (br1 ⟨rfl, vp_in_nI (by omega) (by decide), ?_⟩)
      refine p_cell1 (dc_cell (c := 0) hn6 (by omega) hs1 hs8) (br1 ?_)
      have hb := nd_mem hI.1 hI.2.1 (hI.2.2.1 n hn6)
      have ek : mnd_knownCommands (nd_of M E n) (nI s).toNatClampNeg = if (M 7 n).testBit s = true then nI (M 3 (9 * M 5 n + s)) - 1 else -1 := by
        show (if (nI s).toNatClampNeg < 9 then (if (M 7 n).testBit (nI s).toNatClampNeg = true then nI (M 3 (9 * M 5 n + (nI s).toNatClampNeg)) - 1 else -1) else 0) = _
        rw [nI_clamp (by omega), if_pos (by omega)]
      rw [ek]
      refine p_knows hn6 (by omega) ?_
      split
      · refine br1 ⟨vp_in_nI hn6 (by decide), ?_⟩
        rw [show mmd_configuration (md_of M E va dn an mb ac ae) (nI n).toNatClampNeg = nI (M 5 n) from rdN M 5 hn6, ix_92]
        refine ⟨vp_in_nI (by omega) (by decide), ?_, hs⟩
        rw [dec_rd M E va dn an mb ac ae (by omega)]
      · exact br0 ⟨rfl, hs⟩

theorem at_rd {M : PM} {n : Nat} (h : M 11 n ≠ 0) : at_of M n = (nI (M 11 n), nI (M 12 n), nI (M 13 n), nI (M 14 n), nI (M 15 n), nI (M 16 n), nI (M 17 n) - 1) := if_neg h
theorem at_no {M : PM} {n : Nat} (h : M 11 n = 0) : at_of M n = at0 := if_pos h
theorem lk_c {t : Nat} {zn : Nat → MndT} {M : PM} {E : PE} {va dn an : Nat → Int32} {mb ac ae : Int32} (hI : nv_I M E t) (hz : ∀ n, n < 6 → zn n = nd_of M E n) {n : Nat} (hn6 : n < 6) (h11 : M 11 n = 0) (x2 : Int32) : wp_Ch_look n (ch_of M E) (nd_of M E n) (nI n) x2 (fun (r1 : Int32) (zc' : MchT) (y : MndT) => wp_Md_look (md_of M E va dn an mb ac ae) (nI n) x2 (fun (r2 : Int32) (zm' : MmdT) => r1 = r2 ∧ RI (t + 1) zc' (va_up zn n y) zm')) := by
  have hs : RI (t + 1) (ch_of M E) (va_up zn n (nd_of M E n)) (md_of M E va dn an mb ac ae) := RI_same hI rfl rfl hz rfl
  have hb := nd_mem hI.1 hI.2.1 (hI.2.2.1 n hn6)
  have hv : vp_in (nI n) 6 := vp_in_nI hn6 (by decide)
  have h8 := (hI.2.2.1 n hn6).2.2.2.2.2.1
  have e11 : mmd_slot (md_of M E va dn an mb ac ae) (nI n).toNatClampNeg = nI (M 11 n) := rdN M 11 hn6
  refine p_node1 (dc_k hn6) (br1 ⟨rfl, ?_⟩)
  refine ⟨fun e => ?_, fun n0 => ?_⟩
  · subst e
    have eu : (((mmd_up (md_of M E va dn an mb ac ae)) >>> (nI n &&& 31)) &&& (1 : Int32)) = mnd_up (nd_of M E n) := bi_bitN (M 0 2) n (by omega)
    refine ⟨fun z => ?_, fun z => ?_⟩
    · exact p_mnode1 (dc_k hn6) (br1 ⟨hv, fun _ => ⟨fun _ => ⟨by rw [eu]; exact z.symm, hs⟩, fun z => absurd rfl z⟩, fun z => absurd (by rw [e11, h11]; decide) z⟩)
    · have z1 : mnd_up (nd_of M E n) = 1 := by
        have : mnd_up (nd_of M E n) = up_of M n := rfl
        rw [this] at z ⊢
        unfold up_of at z ⊢
        split
        · rfl
        · rename_i hq; rw [if_neg hq] at z; exact absurd rfl z
      exact p_mnode1 (dc_k hn6) (br1 ⟨hv, fun _ => ⟨fun _ => ⟨by rw [eu]; exact z1.symm, hs⟩, fun z => absurd rfl z⟩, fun z => absurd (by rw [e11, h11]; decide) z⟩)
  refine ⟨fun e => ?_, fun n1 => ?_⟩
  · subst e
    exact p_mnode1 (dc_k hn6) (br1 ⟨hv, fun _ => ⟨fun z => absurd z (by decide), fun _ => ⟨fun _ => ⟨hv, by show nI (rr_nd M E n).1 = nI (M 5 (nI n).toNatClampNeg); rw [rdN M 5 hn6, hb.2.1], hs⟩, fun z => absurd rfl z⟩⟩, fun z => absurd (by rw [e11, h11]; decide) z⟩)
  refine ⟨fun e => ?_, fun n2 => ?_⟩
  · subst e
    exact p_mnode1 (dc_k hn6) (br1 ⟨hv, fun _ => ⟨fun z => absurd z (by decide), fun _ => ⟨fun z => absurd z (by decide), fun _ => ⟨fun _ => ⟨hv, by show nI (rr_nd M E n).2.1 = nI (M 6 (nI n).toNatClampNeg); rw [rdN M 6 hn6, hb.2.2.1], hs⟩, fun z => absurd rfl z⟩⟩⟩, fun z => absurd (by rw [e11, h11]; decide) z⟩)
  refine ⟨fun e => ?_, fun n3 => ?_⟩
  · subst e
    exact p_mnode1 (dc_k hn6) (br1 ⟨hv, fun _ => ⟨fun z => absurd z (by decide), fun _ => ⟨fun z => absurd z (by decide), fun _ => ⟨fun z => absurd z (by decide), fun _ => ⟨fun _ => p_membersOf hI.1 hI.2.1 hn6 (hI.2.2.1 n hn6) ⟨rfl, RI_same hI rfl rfl hz rfl⟩, fun z => absurd rfl z⟩⟩⟩⟩, fun z => absurd (by rw [e11, h11]; decide) z⟩)
  refine ⟨fun e => ?_, fun n4 => ?_⟩
  · subst e
    exact p_mnode1 (dc_k hn6) (br1 ⟨hv, fun _ => ⟨fun z => absurd z (by decide), fun _ => ⟨fun z => absurd z (by decide), fun _ => ⟨fun z => absurd z (by decide), fun _ => ⟨fun z => absurd z (by decide), fun _ => ⟨fun _ => ⟨hv, by show nI (M 8 n) = nI (M 8 (nI n).toNatClampNeg); rw [rdN M 8 hn6], hs⟩, fun z => absurd rfl z⟩⟩⟩⟩⟩, fun z => absurd (by rw [e11, h11]; decide) z⟩)
  refine ⟨fun e => ?_, fun n5 => ?_⟩
  · subst e
    exact p_mnode1 (dc_k hn6) (br1 ⟨hv, fun _ => ⟨fun z => absurd z (by decide), fun _ => ⟨fun z => absurd z (by decide), fun _ => ⟨fun z => absurd z (by decide), fun _ => ⟨fun z => absurd z (by decide), fun _ => ⟨fun z => absurd z (by decide), fun _ => ⟨fun _ => ⟨hv, by show nI (M 9 n) = nI (M 9 (nI n).toNatClampNeg); rw [rdN M 9 hn6], hs⟩, fun z => absurd rfl z⟩⟩⟩⟩⟩⟩, fun z => absurd (by rw [e11, h11]; decide) z⟩)
  refine ⟨fun e => ?_, fun n6 => ?_⟩
  · subst e
    exact p_mnode1 (dc_k hn6) (br1 ⟨hv, fun _ => ⟨fun z => absurd z (by decide), fun _ => ⟨fun z => absurd z (by decide), fun _ => ⟨fun z => absurd z (by decide), fun _ => ⟨fun z => absurd z (by decide), fun _ => ⟨fun z => absurd z (by decide), fun _ => ⟨fun z => absurd z (by decide), fun _ => ⟨fun _ => ⟨hv, by show nI (M 10 n) = nI (M 10 (nI n).toNatClampNeg); rw [rdN M 10 hn6], hs⟩, fun z => absurd rfl z⟩⟩⟩⟩⟩⟩⟩, fun z => absurd (by rw [e11, h11]; decide) z⟩)
  refine ⟨fun e => ?_, fun n7 => ?_⟩
  · subst e
    exact p_mnode1 (dc_k hn6) (br1 ⟨hv, fun _ => ⟨fun z => absurd z (by decide), fun _ => ⟨fun z => absurd z (by decide), fun _ => ⟨fun z => absurd z (by decide), fun _ => ⟨fun z => absurd z (by decide), fun _ => ⟨fun z => absurd z (by decide), fun _ => ⟨fun z => absurd z (by decide), fun _ => ⟨fun z => absurd z (by decide), fun _ => ⟨fun _ => ⟨hv, by rw [e11, h11]; show mat_slot (at_of M n) = nI 0; rw [at_no h11]; rfl, hs⟩, fun z => absurd rfl z⟩⟩⟩⟩⟩⟩⟩⟩, fun z => absurd (by rw [e11, h11]; decide) z⟩)
  refine ⟨fun e => ?_, fun n8 => ?_⟩
  · subst e
    exact p_mnode1 (dc_k hn6) (br1 ⟨hv, fun _ => ⟨fun z => absurd z (by decide), fun _ => ⟨fun z => absurd z (by decide), fun _ => ⟨fun z => absurd z (by decide), fun _ => ⟨fun z => absurd z (by decide), fun _ => ⟨fun z => absurd z (by decide), fun _ => ⟨fun z => absurd z (by decide), fun _ => ⟨fun z => absurd z (by decide), fun _ => ⟨fun z => absurd z (by decide), fun _ => ⟨fun _ => ⟨by show mat_ballot (at_of M n) = 0; rw [at_no h11]; rfl, hs⟩, fun z => absurd rfl z⟩⟩⟩⟩⟩⟩⟩⟩⟩, fun z => absurd (by rw [e11, h11]; decide) z⟩)
  refine ⟨fun e => ?_, fun n9 => ?_⟩
  · subst e
    exact p_mnode1 (dc_k hn6) (br1 ⟨hv, fun _ => ⟨fun z => absurd z (by decide), fun _ => ⟨fun z => absurd z (by decide), fun _ => ⟨fun z => absurd z (by decide), fun _ => ⟨fun z => absurd z (by decide), fun _ => ⟨fun z => absurd z (by decide), fun _ => ⟨fun z => absurd z (by decide), fun _ => ⟨fun z => absurd z (by decide), fun _ => ⟨fun z => absurd z (by decide), fun _ => ⟨fun z => absurd z (by decide), fun _ => ⟨fun _ => ⟨by show mat_promisers (at_of M n) = 0; rw [at_no h11]; rfl, hs⟩, fun z => absurd rfl z⟩⟩⟩⟩⟩⟩⟩⟩⟩⟩, fun z => absurd (by rw [e11, h11]; decide) z⟩)
  refine ⟨fun e => ?_, fun n10 => ?_⟩
  · subst e
    exact p_mnode1 (dc_k hn6) (br1 ⟨hv, fun _ => ⟨fun z => absurd z (by decide), fun _ => ⟨fun z => absurd z (by decide), fun _ => ⟨fun z => absurd z (by decide), fun _ => ⟨fun z => absurd z (by decide), fun _ => ⟨fun z => absurd z (by decide), fun _ => ⟨fun z => absurd z (by decide), fun _ => ⟨fun z => absurd z (by decide), fun _ => ⟨fun z => absurd z (by decide), fun _ => ⟨fun z => absurd z (by decide), fun _ => ⟨fun z => absurd z (by decide), fun _ => ⟨fun _ => ⟨by show mat_voters (at_of M n) = 0; rw [at_no h11]; rfl, hs⟩, fun z => absurd rfl z⟩⟩⟩⟩⟩⟩⟩⟩⟩⟩⟩, fun z => absurd (by rw [e11, h11]; decide) z⟩)
  exact p_mnode1 (dc_k hn6) (br1 ⟨hv, fun _ => ⟨fun z => absurd z n0, fun _ => ⟨fun z => absurd z n1, fun _ => ⟨fun z => absurd z n2, fun _ => ⟨fun z => absurd z n3, fun _ => ⟨fun z => absurd z n4, fun _ => ⟨fun z => absurd z n5, fun _ => ⟨fun z => absurd z n6, fun _ => ⟨fun z => absurd z n7, fun _ => ⟨fun z => absurd z n8, fun _ => ⟨fun z => absurd z n9, fun _ => ⟨fun z => absurd z n10, fun _ => ⟨rfl, hs⟩⟩⟩⟩⟩⟩⟩⟩⟩⟩⟩⟩, fun z => absurd (by rw [e11, h11]; decide) z⟩)
theorem lk_o {t : Nat} {zn : Nat → MndT} {M : PM} {E : PE} {va dn an : Nat → Int32} {mb ac ae : Int32} (hI : nv_I M E t) (hz : ∀ n, n < 6 → zn n = nd_of M E n) {n : Nat} (hn6 : n < 6) (h11 : M 11 n ≠ 0) (x2 : Int32) : wp_Ch_look n (ch_of M E) (nd_of M E n) (nI n) x2 (fun (r1 : Int32) (zc' : MchT) (y : MndT) => wp_Md_look (md_of M E va dn an mb ac ae) (nI n) x2 (fun (r2 : Int32) (zm' : MmdT) => r1 = r2 ∧ RI (t + 1) zc' (va_up zn n y) zm')) := by
  have hs : RI (t + 1) (ch_of M E) (va_up zn n (nd_of M E n)) (md_of M E va dn an mb ac ae) := RI_same hI rfl rfl hz rfl
  have hb := nd_mem hI.1 hI.2.1 (hI.2.2.1 n hn6)
  have hv : vp_in (nI n) 6 := vp_in_nI hn6 (by decide)
  have h8 := (hI.2.2.1 n hn6).2.2.2.2.2.1
  have e11 : mmd_slot (md_of M E va dn an mb ac ae) (nI n).toNatClampNeg = nI (M 11 n) := rdN M 11 hn6
  refine p_node1 (dc_k hn6) (br1 ⟨rfl, ?_⟩)
  refine ⟨fun e => ?_, fun n0 => ?_⟩
  · subst e
    have eu : (((mmd_up (md_of M E va dn an mb ac ae)) >>> (nI n &&& 31)) &&& (1 : Int32)) = mnd_up (nd_of M E n) := bi_bitN (M 0 2) n (by omega)
    refine ⟨fun z => ?_, fun z => ?_⟩
    · exact p_mnode1 (dc_k hn6) (br1 ⟨hv, fun z => absurd z (by rw [e11]; exact nI_nle (by omega) (by omega)), fun _ => ⟨fun _ => ⟨by rw [eu]; exact z.symm, hs⟩, fun z => absurd rfl z⟩⟩)
    · have z1 : mnd_up (nd_of M E n) = 1 := by
        have : mnd_up (nd_of M E n) = up_of M n := rfl
        rw [this] at z ⊢
        unfold up_of at z ⊢
        split
        · rfl
        · rename_i hq; rw [if_neg hq] at z; exact absurd rfl z
      exact p_mnode1 (dc_k hn6) (br1 ⟨hv, fun z => absurd z (by rw [e11]; exact nI_nle (by omega) (by omega)), fun _ => ⟨fun _ => ⟨by rw [eu]; exact z1.symm, hs⟩, fun z => absurd rfl z⟩⟩)
  refine ⟨fun e => ?_, fun n1 => ?_⟩
  · subst e
    exact p_mnode1 (dc_k hn6) (br1 ⟨hv, fun z => absurd z (by rw [e11]; exact nI_nle (by omega) (by omega)), fun _ => ⟨fun z => absurd z (by decide), fun _ => ⟨fun _ => ⟨hv, by show nI (rr_nd M E n).1 = nI (M 5 (nI n).toNatClampNeg); rw [rdN M 5 hn6, hb.2.1], hs⟩, fun z => absurd rfl z⟩⟩⟩)
  refine ⟨fun e => ?_, fun n2 => ?_⟩
  · subst e
    exact p_mnode1 (dc_k hn6) (br1 ⟨hv, fun z => absurd z (by rw [e11]; exact nI_nle (by omega) (by omega)), fun _ => ⟨fun z => absurd z (by decide), fun _ => ⟨fun z => absurd z (by decide), fun _ => ⟨fun _ => ⟨hv, by show nI (rr_nd M E n).2.1 = nI (M 6 (nI n).toNatClampNeg); rw [rdN M 6 hn6, hb.2.2.1], hs⟩, fun z => absurd rfl z⟩⟩⟩⟩)
  refine ⟨fun e => ?_, fun n3 => ?_⟩
  · subst e
    exact p_mnode1 (dc_k hn6) (br1 ⟨hv, fun z => absurd z (by rw [e11]; exact nI_nle (by omega) (by omega)), fun _ => ⟨fun z => absurd z (by decide), fun _ => ⟨fun z => absurd z (by decide), fun _ => ⟨fun z => absurd z (by decide), fun _ => ⟨fun _ => p_membersOf hI.1 hI.2.1 hn6 (hI.2.2.1 n hn6) ⟨rfl, RI_same hI rfl rfl hz rfl⟩, fun z => absurd rfl z⟩⟩⟩⟩⟩)
  refine ⟨fun e => ?_, fun n4 => ?_⟩
  · subst e
    exact p_mnode1 (dc_k hn6) (br1 ⟨hv, fun z => absurd z (by rw [e11]; exact nI_nle (by omega) (by omega)), fun _ => ⟨fun z => absurd z (by decide), fun _ => ⟨fun z => absurd z (by decide), fun _ => ⟨fun z => absurd z (by decide), fun _ => ⟨fun z => absurd z (by decide), fun _ => ⟨fun _ => ⟨hv, by show nI (M 8 n) = nI (M 8 (nI n).toNatClampNeg); rw [rdN M 8 hn6], hs⟩, fun z => absurd rfl z⟩⟩⟩⟩⟩⟩)
  refine ⟨fun e => ?_, fun n5 => ?_⟩
  · subst e
    exact p_mnode1 (dc_k hn6) (br1 ⟨hv, fun z => absurd z (by rw [e11]; exact nI_nle (by omega) (by omega)), fun _ => ⟨fun z => absurd z (by decide), fun _ => ⟨fun z => absurd z (by decide), fun _ => ⟨fun z => absurd z (by decide), fun _ => ⟨fun z => absurd z (by decide), fun _ => ⟨fun z => absurd z (by decide), fun _ => ⟨fun _ => ⟨hv, by show nI (M 9 n) = nI (M 9 (nI n).toNatClampNeg); rw [rdN M 9 hn6], hs⟩, fun z => absurd rfl z⟩⟩⟩⟩⟩⟩⟩)
  refine ⟨fun e => ?_, fun n6 => ?_⟩
  · subst e
    exact p_mnode1 (dc_k hn6) (br1 ⟨hv, fun z => absurd z (by rw [e11]; exact nI_nle (by omega) (by omega)), fun _ => ⟨fun z => absurd z (by decide), fun _ => ⟨fun z => absurd z (by decide), fun _ => ⟨fun z => absurd z (by decide), fun _ => ⟨fun z => absurd z (by decide), fun _ => ⟨fun z => absurd z (by decide), fun _ => ⟨fun z => absurd z (by decide), fun _ => ⟨fun _ => ⟨hv, by show nI (M 10 n) = nI (M 10 (nI n).toNatClampNeg); rw [rdN M 10 hn6], hs⟩, fun z => absurd rfl z⟩⟩⟩⟩⟩⟩⟩⟩)
  refine ⟨fun e => ?_, fun n7 => ?_⟩
  · subst e
    exact p_mnode1 (dc_k hn6) (br1 ⟨hv, fun z => absurd z (by rw [e11]; exact nI_nle (by omega) (by omega)), fun _ => ⟨fun z => absurd z (by decide), fun _ => ⟨fun z => absurd z (by decide), fun _ => ⟨fun z => absurd z (by decide), fun _ => ⟨fun z => absurd z (by decide), fun _ => ⟨fun z => absurd z (by decide), fun _ => ⟨fun z => absurd z (by decide), fun _ => ⟨fun z => absurd z (by decide), fun _ => ⟨fun _ => ⟨hv, by rw [e11]; show mat_slot (at_of M n) = _; rw [at_rd h11]; rfl, hs⟩, fun z => absurd rfl z⟩⟩⟩⟩⟩⟩⟩⟩⟩)
  refine ⟨fun e => ?_, fun n8 => ?_⟩
  · subst e
    exact p_mnode1 (dc_k hn6) (br1 ⟨hv, fun z => absurd z (by rw [e11]; exact nI_nle (by omega) (by omega)), fun _ => ⟨fun z => absurd z (by decide), fun _ => ⟨fun z => absurd z (by decide), fun _ => ⟨fun z => absurd z (by decide), fun _ => ⟨fun z => absurd z (by decide), fun _ => ⟨fun z => absurd z (by decide), fun _ => ⟨fun z => absurd z (by decide), fun _ => ⟨fun z => absurd z (by decide), fun _ => ⟨fun z => absurd z (by decide), fun _ => ⟨fun _ => ⟨hv, by show mat_ballot (at_of M n) = nI (M 12 (nI n).toNatClampNeg); rw [rdN M 12 hn6, at_rd h11]; rfl, hs⟩, fun z => absurd rfl z⟩⟩⟩⟩⟩⟩⟩⟩⟩⟩)
  refine ⟨fun e => ?_, fun n9 => ?_⟩
  · subst e
    exact p_mnode1 (dc_k hn6) (br1 ⟨hv, fun z => absurd z (by rw [e11]; exact nI_nle (by omega) (by omega)), fun _ => ⟨fun z => absurd z (by decide), fun _ => ⟨fun z => absurd z (by decide), fun _ => ⟨fun z => absurd z (by decide), fun _ => ⟨fun z => absurd z (by decide), fun _ => ⟨fun z => absurd z (by decide), fun _ => ⟨fun z => absurd z (by decide), fun _ => ⟨fun z => absurd z (by decide), fun _ => ⟨fun z => absurd z (by decide), fun _ => ⟨fun z => absurd z (by decide), fun _ => ⟨fun _ => ⟨hv, by show mat_promisers (at_of M n) = nI (M 13 (nI n).toNatClampNeg); rw [rdN M 13 hn6, at_rd h11]; rfl, hs⟩, fun z => absurd rfl z⟩⟩⟩⟩⟩⟩⟩⟩⟩⟩⟩)
  refine ⟨fun e => ?_, fun n10 => ?_⟩
  · subst e
    exact p_mnode1 (dc_k hn6) (br1 ⟨hv, fun z => absurd z (by rw [e11]; exact nI_nle (by omega) (by omega)), fun _ => ⟨fun z => absurd z (by decide), fun _ => ⟨fun z => absurd z (by decide), fun _ => ⟨fun z => absurd z (by decide), fun _ => ⟨fun z => absurd z (by decide), fun _ => ⟨fun z => absurd z (by decide), fun _ => ⟨fun z => absurd z (by decide), fun _ => ⟨fun z => absurd z (by decide), fun _ => ⟨fun z => absurd z (by decide), fun _ => ⟨fun z => absurd z (by decide), fun _ => ⟨fun z => absurd z (by decide), fun _ => ⟨fun _ => ⟨hv, by show mat_voters (at_of M n) = nI (M 14 (nI n).toNatClampNeg); rw [rdN M 14 hn6, at_rd h11]; rfl, hs⟩, fun z => absurd rfl z⟩⟩⟩⟩⟩⟩⟩⟩⟩⟩⟩⟩)
  exact p_mnode1 (dc_k hn6) (br1 ⟨hv, fun z => absurd z (by rw [e11]; exact nI_nle (by omega) (by omega)), fun _ => ⟨fun z => absurd z n0, fun _ => ⟨fun z => absurd z n1, fun _ => ⟨fun z => absurd z n2, fun _ => ⟨fun z => absurd z n3, fun _ => ⟨fun z => absurd z n4, fun _ => ⟨fun z => absurd z n5, fun _ => ⟨fun z => absurd z n6, fun _ => ⟨fun z => absurd z n7, fun _ => ⟨fun z => absurd z n8, fun _ => ⟨fun z => absurd z n9, fun _ => ⟨fun z => absurd z n10, fun _ => ⟨rfl, hs⟩⟩⟩⟩⟩⟩⟩⟩⟩⟩⟩⟩⟩)
theorem st_look : ls_look RI := by
  intro t zc zn zm x1 x2 _ ⟨M, E, va, dn, an, mb, ac, ae, hI, hc, hn, hm⟩
  subst hc; subst hm
  rcases dc_n x1 with h1 | ⟨n, hn6, rfl⟩
  · exact ⟨0, by omega, p_node0 h1 (br0 (p_mnode0 h1 (br0 ⟨rfl, RI_same hI rfl (hn 0 (by omega)) hn rfl⟩)))⟩
  · refine ⟨n, hn6, ?_⟩
    rw [hn n hn6]
    by_cases h11 : M 11 n = 0
    · exact lk_c hI hn hn6 h11 x2
    · exact lk_o hI hn hn6 h11 x2
