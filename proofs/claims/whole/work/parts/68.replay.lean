theorem nI_m1 {k : Nat} (h : k ≠ 0) : nI k - 1 = nI (k - 1) := by
  rw [show (1 : Int32) = nI 1 from rfl, pk_sub (by omega)]
theorem dec_rd (M : PM) (E : PE) (va dn an : Nat → Int32) (mb ac ae : Int32) {k : Nat} (hk : k < 45) : mmd_decided (md_of M E va dn an mb ac ae) (nI k).toNatClampNeg = nI (M 3 k) - 1 := by
  show (if (nI k).toNatClampNeg < 45 then nI (M 3 (nI k).toNatClampNeg) - 1 else 0) = _
  rw [nI_clamp (by omega), if_pos hk]
theorem ix_9 (c e : Nat) : ((9 : Int32) * nI c + nI e) + 1 = nI (9 * c + e + 1) := by
  rw [show (9 : Int32) = nI 9 from rfl, pk_mul, nI_add, nI_1]
theorem ix_92 (c e : Nat) : (9 : Int32) * nI c + nI e = nI (9 * c + e) := by
  rw [show (9 : Int32) = nI 9 from rfl, pk_mul, nI_add]
theorem p_rep66 {M : PM} {E : PE} {va dn an : Nat → Int32} {J : Nat} {K : Int32 → Int32 → Int32 → MmdT → Prop} (h1 : nv_1 M E) (h2 : nv_2 M) (hJ : rr_ok M E J) (h : K (nI (rr_pth M E J).1) (nI (rr_pth M E J).2.1) (nI J) (md_r M E (rr_pth M E J) va dn an)) : ∀ d k : Nat, k + d = J → wp_Md_replay_L66 K (d + 1) (nI (rr_pth M E J).1) (nI (rr_pth M E J).2.1) (nI k) (md_r M E (rr_pth M E k) va dn an)
  | 0, k, e => by
    have ek : k = J := by omega
    subst ek
    exact ⟨fun _ => h, fun _ => ⟨fun z => absurd z (nlt_of_le (Int32.le_refl _)), fun _ => ⟨fun _ => h, fun z => absurd (Int32.le_refl _) z⟩⟩⟩
  | d + 1, k, e => by
    have hb := rr_pth_bd hJ
    have hbk := rr_pth_bd (rr_ok_le hJ (show k ≤ J by omega))
    obtain ⟨hc0, he8⟩ := hJ k (by omega)
    have hlt : 9 * (rr_pth M E k).1 + (rr_pth M E k).2.1 + 1 < 45 := by omega
    have hex : vp_in ((((9 : Int32) * nI (rr_pth M E k).1) + nI (rr_pth M E k).2.1) + 1) 45 ∧ wp_Md_execute (md_r M E (rr_pth M E k) va dn an) (mmd_decided (md_r M E (rr_pth M E k) va dn an) ((((9 : Int32) * nI (rr_pth M E k).1) + nI (rr_pth M E k).2.1) + 1).toNatClampNeg) (fun u => ∀ v : Int32, v = nI k + 1 → wp_Md_replay_L66 K (d + 1) (nI (rr_pth M E J).1) (nI (rr_pth M E J).2.1) v u) := by
      rw [ix_9]
      refine ⟨vp_in_nI hlt (by decide), ?_⟩
      rw [show mmd_decided (md_r M E (rr_pth M E k) va dn an) (nI (9 * (rr_pth M E k).1 + (rr_pth M E k).2.1 + 1)).toNatClampNeg = nI (rr_cmd M (rr_pth M E k)) - 1 from dec_rd M E _ _ _ _ _ _ hlt, nI_m1 hc0]
      refine p_mexec h1 (by have := h2 (9 * (rr_pth M E k).1 + (rr_pth M E k).2.1 + 1); unfold rr_cmd; omega) hbk.1 (fun v hv => ?_)
      have hv2 : v = nI (k + 1) := by rw [hv]; exact (nI_succ k).symm
      subst hv2
      exact p_rep66 h1 h2 hJ h d (k + 1) (by omega)
    refine ⟨fun z => absurd z (nI_ge (a := k) (b := 41) (by omega) (by decide)), fun _ => ⟨fun _ => hex, fun hge => ⟨fun hle => ?_, fun _ => hex⟩⟩⟩
    exfalso
    have hge' : ¬ (rr_pth M E k).1 < (rr_pth M E J).1 := fun z => hge (nI_lt z (by omega))
    have hle' : (rr_pth M E J).2.1 ≤ (rr_pth M E k).2.1 := (nI_leI (by omega) (by omega)).mp hle
    rcases rr_mono hJ (show k < J by omega) with z | ⟨z1, z2, -⟩
    · exact hge' z
    · omega
theorem p_rep2' {M : PM} {E : PE} {va dn an : Nat → Int32} {mb ac ae y1 y2 : Int32} {K : Int32 → Int32 → Int32 → MmdT → Prop} (h : K y1 y2 4 (md_of M E (fun k => if k < 4 then 0 else va k) dn an mb ac ae)) : wp_Md_replay_L2 K 5 y1 y2 0 (md_of M E va dn an mb ac ae) := by
  have k := p_rep2 h 4 0 rfl
  have e0 : ∀ f : Nat → Int32, (fun j => if j < 0 then 0 else f j) = f := fun f => by funext j; simp
  rw [e0, nI_0] at k
  exact k
theorem p_rep22' {M : PM} {E : PE} {va dn an : Nat → Int32} {mb ac ae y1 y2 : Int32} {K : Int32 → Int32 → Int32 → MmdT → Prop} (h : K y1 y2 31 (md_of M E va (fun k => if k < 31 then 0 else dn k) (fun k => if k < 31 then 0 else an k) mb ac ae)) : wp_Md_replay_L22 K 32 y1 y2 0 (md_of M E va dn an mb ac ae) := by
  have k := p_rep22 h 31 0 rfl
  have e0 : ∀ f : Nat → Int32, (fun j => if j < 0 then 0 else f j) = f := fun f => by funext j; simp
  rw [e0, e0, nI_0] at k
  exact k
theorem p_replay {M : PM} {E : PE} {va dn an : Nat → Int32} {mb ac ae : Int32} {J : Nat} {post : MmdT → Prop} (h1 : nv_1 M E) (h2 : nv_2 M) (hJ : rr_ok M E J) (h : post (md_r M E (rr_pth M E J) va dn an)) : wp_Md_replay (md_of M E va dn an mb ac ae) (nI (rr_pth M E J).1) (nI (rr_pth M E J).2.1) post := by
  refine ⟨5, p_rep2' ⟨32, p_rep22' ?_⟩⟩
  intro w8 e8 w9 e9 w10 e10
  have e : w10 = md_r M E (rr_pth M E 0) va dn an := by
    rw [e10, e9, e8]
    show md_of M E (fun k => if k < 4 then 0 else va k) (fun k => if k < 31 then 0 else dn k) (fun k => if k < 31 then 0 else an k) 7 0 0 = md_of M E (md_v rr0 va) (md_d rr0 dn) (md_a rr0 an) (nI 7) (nI 0) (nI 0)
    have ed : (fun k => if k < 31 then 0 else dn k) = md_d rr0 dn := by
      funext k
      show _ = (if k < 31 then (if dn_b 0 k = true then 1 else 0) else dn k)
      have : dn_b 0 k = false := b_0 k
      rw [this]
      rfl
    rw [ed]
    rfl
  subst e
  exact ⟨J + 1, p_rep66 h1 h2 hJ h J 0 (by omega)⟩
/-- a node's place on the path -/
theorem nd_path {M : PM} {E : PE} {n : Nat} (h : nv_n M E n) : ∃ J, rr_ok M E J ∧ (rr_pth M E J).1 = M 5 n ∧ (rr_pth M E J).2.1 = M 6 n ∧ rr_nd M E n = rr_pth M E J := by
  obtain ⟨⟨J, h1, h2, h3⟩, -⟩ := h
  refine ⟨J, h1, h2, h3, ?_⟩
  unfold rr_nd
  rw [← h2, ← h3]
  exact rr_at_pth h1
theorem p_replayOf {M : PM} {E : PE} {va dn an : Nat → Int32} {mb ac ae : Int32} {n : Nat} {post : MmdT → Prop} (h1 : nv_1 M E) (h2 : nv_2 M) (hn : n < 6) (h3 : nv_n M E n) (h : post (md_r M E (rr_nd M E n) va dn an)) : wp_Md_replayOf (md_of M E va dn an mb ac ae) (nI n) post := by
  obtain ⟨J, hJ, e5, e6, er⟩ := nd_path h3
  rw [er] at h
  refine ⟨vp_in_nI hn (by decide), vp_in_nI hn (by decide), ?_⟩
  have r5 : mmd_configuration (md_of M E va dn an mb ac ae) (nI n).toNatClampNeg = nI (rr_pth M E J).1 := by
    show nI (M 5 (nI n).toNatClampNeg) = _
    rw [nI_clamp (by omega), e5]
  have r6 : mmd_executed (md_of M E va dn an mb ac ae) (nI n).toNatClampNeg = nI (rr_pth M E J).2.1 := by
    show nI (M 6 (nI n).toNatClampNeg) = _
    rw [nI_clamp (by omega), e6]
  rw [r5, r6]
  exact p_replay h1 h2 hJ h
theorem rr_cmd_le {M : PM} (h2 : nv_2 M) (r : RR) : rr_cmd M r - 1 ≤ M 0 0 := by
  have := h2 (9 * r.1 + r.2.1 + 1)
  unfold rr_cmd
  omega
theorem rr_mem {M : PM} {E : PE} (h1 : nv_1 M E) (h2 : nv_2 M) : ∀ {J : Nat}, rr_ok M E J → (rr_pth M E J).2.2.1 < 64
  | 0, _ => by simp [rr_pth, rr0]
  | J + 1, h => by
    have ih := rr_mem h1 h2 (rr_ok_le h (show J ≤ J + 1 by omega))
    show (rr_step M E (rr_pth M E J) (rr_cmd M (rr_pth M E J) - 1)).2.2.1 < 64
    unfold rr_step
    split
    · exact ih
    · rename_i hq
      split
      · rename_i hk
        split
        · exact ih
        · obtain ⟨v, hv, e⟩ := (h1.2.2.2 (rr_cmd M (rr_pth M E J) - 1) (by
            rcases Nat.eq_zero_or_pos (rr_cmd M (rr_pth M E J) - 1) with z | z
            · exact absurd (Or.inl z) hq
            · exact z) (rr_cmd_le h2 _)).2.2 hk
          show (E 0 (rr_cmd M (rr_pth M E J) - 1)).toNatClampNeg < 64
          rw [e, nI_clamp (by omega)]
          exact hv
      · split
        · exact ih
        · split
          · exact ih
          · exact ih
theorem nd_mem {M : PM} {E : PE} {n : Nat} (h1 : nv_1 M E) (h2 : nv_2 M) (h3 : nv_n M E n) : (rr_nd M E n).2.2.1 < 64 ∧ (rr_nd M E n).1 = M 5 n ∧ (rr_nd M E n).2.1 = M 6 n ∧ M 5 n ≤ 4 ∧ M 6 n ≤ 8 ∧ px_mb M E (M 5 n) = (rr_nd M E n).2.2.1 := by
  obtain ⟨J, hJ, e5, e6, er⟩ := nd_path h3
  have hb := rr_pth_bd hJ
  rw [er]
  refine ⟨rr_mem h1 h2 hJ, e5, e6, by omega, by omega, ?_⟩
  rw [← e5]
  exact px_mb_pth hJ
theorem p_membersOf {M : PM} {E : PE} {va dn an : Nat → Int32} {mb ac ae : Int32} {n : Nat} {post : Int32 → MmdT → Prop} (h1 : nv_1 M E) (h2 : nv_2 M) (hn : n < 6) (h3 : nv_n M E n) (h : post (nI (rr_nd M E n).2.2.1) (md_r M E (rr_nd M E n) va dn an)) : wp_Md_membersOf (md_of M E va dn an mb ac ae) (nI n) post :=
  p_replayOf h1 h2 hn h3 h
theorem p_majority {M : PM} {E : PE} {va dn an : Nat → Int32} {mb ac ae : Int32} {n Q : Nat} {post : Int32 → MmdT → Prop} (h1 : nv_1 M E) (h2 : nv_2 M) (hn : n < 6) (h3 : nv_n M E n) (hQ : Q < 64) (hy : px_maj (rr_nd M E n).2.2.1 Q → post 1 (md_r M E (rr_nd M E n) va dn an)) (hx : ¬ px_maj (rr_nd M E n).2.2.1 Q → post 0 (md_r M E (rr_nd M E n) va dn an)) : wp_Md_majority (md_of M E va dn an mb ac ae) (nI Q) (nI n) post := by
  refine p_membersOf h1 h2 hn h3 ?_
  have hm := (nd_mem h1 h2 h3).1
  show wp_Md_count (nI Q &&& nI (rr_nd M E n).2.2.1) _
  rw [nx_and]
  refine p_count (Nat.lt_of_le_of_lt Nat.and_le_left hQ) (p_count hm ⟨fun z => hx (p_maj.mp z), fun z => ?_⟩)
  by_cases hj : px_maj (rr_nd M E n).2.2.1 Q
  · exact hy hj
  · exact absurd (p_maj.mpr hj) z
theorem p_isUp {M : PM} {E : PE} {va dn an : Nat → Int32} {mb ac ae : Int32} {n : Nat} {post : Int32 → MmdT → Prop} (hn : n < 6) (h : post (up_of M n) (md_of M E va dn an mb ac ae)) : wp_Md_isUp (md_of M E va dn an mb ac ae) (nI n) post := by
  refine p_mnode1 (dc_k hn) (br1 ?_)
  have e : (((mmd_up (md_of M E va dn an mb ac ae)) >>> (nI n &&& 31)) &&& (1 : Int32)) = up_of M n := bi_bitN (M 0 2) n (by omega)
  rw [e]
  unfold up_of at h ⊢
  split
  · rename_i hb
    rw [if_pos hb] at h
    exact ⟨fun _ => h, fun z => absurd rfl z⟩
  · rename_i hb
    rw [if_neg hb] at h
    exact ⟨fun z => absurd z (by decide), fun _ => h⟩
theorem p_knows {M : PM} {E : PE} {va dn an : Nat → Int32} {mb ac ae : Int32} {n s : Nat} {post : Int32 → MmdT → Prop} (hn : n < 6) (hs : s < 32) (h : post (if (M 7 n).testBit s = true then 1 else 0) (md_of M E va dn an mb ac ae)) : wp_Md_knows (md_of M E va dn an mb ac ae) (nI n) (nI s) post := by
  refine ⟨vp_in_nI hn (by decide), ?_⟩
  have e : (((mmd_known (md_of M E va dn an mb ac ae) (nI n).toNatClampNeg) >>> (nI s &&& 31)) &&& (1 : Int32)) = if (M 7 n).testBit s = true then 1 else 0 := by
    show (nI (M 7 (nI n).toNatClampNeg) >>> (nI s &&& 31)) &&& (1 : Int32) = _
    rw [nI_clamp (by omega)]
    exact bi_bitN (M 7 n) s hs
  rw [e]
  split
  · rename_i hb
    rw [if_pos hb] at h
    exact ⟨fun _ => h, fun z => absurd rfl z⟩
  · rename_i hb
    rw [if_neg hb] at h
    exact ⟨fun z => absurd z (by decide), fun _ => h⟩
