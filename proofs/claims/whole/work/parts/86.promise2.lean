theorem p_barx {z : MmdT} {x1 x2 x3 : Int32} {post : Int32 → MmdT → Prop} (h1 : x1 < 0 ∨ 6 ≤ x1) (h : post (-1) z) : wp_Md_barred z x1 x2 x3 post := p_mnode0 h1 (br0 h)
theorem p_bary {z : MmdT} {n : Nat} {x2 x3 : Int32} {post : Int32 → MmdT → Prop} (hn : n < 6) (h1 : x2 < 0 ∨ 6 ≤ x2) (h : post (-1) z) : wp_Md_barred z (nI n) x2 x3 post := p_mnode1 (dc_k hn) (br1 (p_mnode0 h1 (br0 h)))
theorem op_p1_sx {M : PM} {E : PE} {t n : Nat} (a : Nat) (hI : nv_I M E t) (hn : n < 6) : sx M (op_p1 M n a) n a :=
  pm_sx (hI.2.2.1 n hn).2.2.2.2.2.1 (nd_mem hI.1 hI.2.1 (hI.2.2.1 n hn)).2.2.2.1
theorem op_p2_sx {M : PM} {E : PE} {t n : Nat} (a : Nat) (hI : nv_I M E t) (hn : n < 6) : sx M (op_p2 M n a) n a := by
  rw [op_p2_eq]
  exact sx_trans (op_p1_sx a hI hn) (ps_at_sx _ n a _ _ _ _ _)
theorem op_p2_lg (M : PM) (n a i : Nat) : lg_of (op_p2 M n a) i = lg_of (op_p1 M n a) i := by
  rw [op_p2_eq]
  exact lg_same (ps_at_r _ (by decide) (by decide) (by decide) (by decide) (by decide)) (ps_at_r _ (by decide) (by decide) (by decide) (by decide) (by decide)) (ps_at_r _ (by decide) (by decide) (by decide) (by decide) (by decide))
theorem at_p1 {M : PM} {n a i : Nat} : at_of (op_p1 M n a) i = at_of M i := by
  unfold at_of
  rw [op_p1_r M n a (show 11 ≠ 18 by decide), op_p1_r M n a (show 12 ≠ 18 by decide), op_p1_r M n a (show 13 ≠ 18 by decide), op_p1_r M n a (show 14 ≠ 18 by decide), op_p1_r M n a (show 15 ≠ 18 by decide), op_p1_r M n a (show 16 ≠ 18 by decide), op_p1_r M n a (show 17 ≠ 18 by decide)]
theorem p_addP {M : PM} {n a : Nat} {post : MatT → Prop} (ha : a < 6) (h0 : M 11 n ≠ 0) (h15 : M 15 n < 2 ^ 30) (h19 : M 19 (ci M n a) < 2 ^ 30) (h : post (at_of (op_p2 M n a) n)) : wp_At_addPromiser (at_of M n) (nI a) (nI (M 19 (ci M n a))) (nI (M 20 (ci M n a))) post := by
  have e11 : op_p2 M n a 11 n = M 11 n := by rw [op_p2_eq]; simp [ps_at]; rw [op_p1_r M n a (by decide)]
  have e12 : op_p2 M n a 12 n = M 12 n := by rw [op_p2_eq]; simp [ps_at]; rw [op_p1_r M n a (by decide)]
  have e13 : op_p2 M n a 13 n = M 13 n ||| 2 ^ a := by rw [op_p2_eq]; simp [ps_at]
  have e14 : op_p2 M n a 14 n = M 14 n := by rw [op_p2_eq]; simp [ps_at]
  have e15 : op_p2 M n a 15 n = if M 15 n < M 19 (ci M n a) then M 19 (ci M n a) else M 15 n := by rw [op_p2_eq]; simp [ps_at]
  have e16 : op_p2 M n a 16 n = if M 15 n < M 19 (ci M n a) then M 20 (ci M n a) else M 16 n := by rw [op_p2_eq]; simp [ps_at]
  have e17 : op_p2 M n a 17 n = M 17 n := by rw [op_p2_eq]; simp [ps_at]
  rw [at_rd (M := op_p2 M n a) (by rw [e11]; exact h0), e11, e12, e13, e14, e15, e16, e17] at h
  rw [at_rd h0]
  unfold wp_At_addPromiser
  have eb : mat_bestBallot (nI (M 11 n), nI (M 12 n), nI (M 13 n), nI (M 14 n), nI (M 15 n), nI (M 16 n), nI (M 17 n) - 1) = nI (M 15 n) := rfl
  have ep : mat_promisers (nI (M 11 n), nI (M 12 n), nI (M 13 n), nI (M 14 n), nI (M 15 n), nI (M 16 n), nI (M 17 n) - 1) = nI (M 13 n) := rfl
  rw [eb, ep, bi_set _ _ (by omega)]
  refine ⟨fun z => ?_, fun z => ?_⟩
  · have k : M 19 (ci M n a) ≤ M 15 n := (nI_leI (by omega) (by omega)).mp z
    rw [if_neg (by omega), if_neg (by omega)] at h
    exact h
  · have k : ¬ M 19 (ci M n a) ≤ M 15 n := fun q => z (nI_le q (by omega))
    rw [if_pos (by omega), if_pos (by omega)] at h
    exact h
/-- nothing but the ledger of a changes: the node n beside it -/
theorem nd_p1n {M : PM} {E : PE} {t n a : Nat} (hI : nv_I M E t) (hn : n < 6) (hne : a ≠ n) : nd_of (op_p1 M n a) E n = nd_of M E n := by
  have hs := op_p1_sx a hI hn
  rw [sx_two hs hI hn (fun r _ _ => by rw [op_p1_r M n a (by omega)]), sx_lg hs (Ne.symm hne), at_p1]
  rfl
theorem nd_p1a {M : PM} {E : PE} {t n a : Nat} (hI : nv_I M E t) (hn : n < 6) (ha : a < 6) (h0 : M 11 n ≠ 0) : mnd_s_ledger_promisedBallots (nd_of M E a) (upd (mlg_promisedBallots (mnd_ledger (nd_of M E a))) (nI (8 * M 5 n + M 11 n - 1)).toNatClampNeg (nI (M 12 n))) = nd_of (op_p1 M n a) E a := by
  have hs := op_p1_sx a hI hn
  have h3 := hI.2.2.1 n hn
  have bn := nd_mem hI.1 hI.2.1 h3
  rw [sx_two hs hI ha (fun r _ _ => by rw [op_p1_r M n a (by omega)]), at_p1]
  have := pm_lg (M := M) (n := n) (a := a) (b := M 12 n) h0 h3.2.2.2.2.2.1 bn.2.2.2.1
  show _ = mnd_s_attempt (mnd_s_ledger (nd_of M E a) (lg_of (ps_set M 18 (ci M n a) (M 12 n)) a)) (at_of M a)
  rw [this]
  rfl
theorem nd_p2n {M : PM} {E : PE} {t n a : Nat} (hI : nv_I M E t) (hn : n < 6) (hne : a ≠ n) : mnd_s_attempt (nd_of M E n) (at_of (op_p2 M n a) n) = nd_of (op_p2 M n a) E n := by
  have hs := op_p2_sx a hI hn
  rw [sx_two hs hI hn (fun r _ _ => by rw [op_p2_eq, ps_at_r _ (by omega) (by omega) (by omega) (by omega) (by omega), op_p1_r M n a (by omega)]), sx_lg hs (Ne.symm hne)]
  rfl
theorem nd_p2a {M : PM} {E : PE} {t n a : Nat} (hI : nv_I M E t) (hn : n < 6) (ha : a < 6) (h0 : M 11 n ≠ 0) (hne : a ≠ n) : mnd_s_ledger_promisedBallots (nd_of M E a) (upd (mlg_promisedBallots (mnd_ledger (nd_of M E a))) (nI (8 * M 5 n + M 11 n - 1)).toNatClampNeg (nI (M 12 n))) = nd_of (op_p2 M n a) E a := by
  rw [nd_p1a hI hn ha h0, sx_a (op_p1_sx a hI hn) hI ha hne, sx_a (op_p2_sx a hI hn) hI ha hne, op_p2_lg]
theorem nd_p2al {M : PM} {E : PE} {t n : Nat} (hI : nv_I M E t) (hn : n < 6) (h0 : M 11 n ≠ 0) : mnd_s_attempt (mnd_s_ledger_promisedBallots (nd_of M E n) (upd (mlg_promisedBallots (mnd_ledger (nd_of M E n))) (nI (8 * M 5 n + M 11 n - 1)).toNatClampNeg (nI (M 12 n)))) (at_of (op_p2 M n n) n) = nd_of (op_p2 M n n) E n := by
  have h3 := hI.2.2.1 n hn
  have bn := nd_mem hI.1 hI.2.1 h3
  have hs := op_p2_sx n hI hn
  rw [sx_two hs hI hn (fun r _ _ => by rw [op_p2_eq, ps_at_r _ (by omega) (by omega) (by omega) (by omega) (by omega), op_p1_r M n n (by omega)]), op_p2_lg]
  have := pm_lg (M := M) (n := n) (a := n) (b := M 12 n) h0 h3.2.2.2.2.2.1 bn.2.2.2.1
  show _ = mnd_s_attempt (mnd_s_ledger (nd_of M E n) (lg_of (ps_set M 18 (ci M n n) (M 12 n)) n)) _
  rw [this]
  rfl
theorem nd_in_a {M : PM} {E : PE} {t n a : Nat} (hI : nv_I M E t) (ha : a < 6) (hne : a ≠ n) : nd_of (op_in M a n) E a = nd_of M E a := sg_nd (op_in_sg M a n) hI ha hne
theorem nd_la_a {M : PM} {E : PE} {t n a b : Nat} (hI : nv_I M E t) (ha : a < 6) (hne : a ≠ n) : nd_of (op_la M n b) E a = nd_of M E a := by
  refine nd_ext (sx_ext (op_la_sx M n n b) hI.2.1) (hI.2.2.1 a ha) ((op_la_sx M n n b).2.2.1 a hne) (fun j _ _ => ⟨by rw [op_la_r M n b (by decide)], by rw [op_la_r M n b (by decide)], by rw [op_la_r M n b (by decide)]⟩) (by rw [op_la_r M n b (by decide)])
theorem p_cell {M : PM} {E : PE} {t n : Nat} {post : Int32 → Prop} (hI : nv_I M E t) (hn : n < 6) (h0 : M 11 n ≠ 0) (h : post (nI (8 * M 5 n + M 11 n - 1))) : wp_Lg_cellOf (mst_configuration (mnd_state (nd_of M E n))) (mat_slot (mnd_attempt (nd_of M E n))) post := by
  have bn := nd_mem hI.1 hI.2.1 (hI.2.2.1 n hn)
  have e1 : mst_configuration (mnd_state (nd_of M E n)) = nI (M 5 n) := by
    show nI (rr_nd M E n).1 = _
    rw [bn.2.1]
  have e2 : mat_slot (mnd_attempt (nd_of M E n)) = nI (M 11 n) := at_slot
  unfold wp_Lg_cellOf
  rw [e1, e2, ix_c (by omega)]
  exact h
theorem at_bal {M : PM} {E : PE} {n : Nat} (h0 : M 11 n ≠ 0) : mat_ballot (mnd_attempt (nd_of M E n)) = nI (M 12 n) := by
  show mat_ballot (at_of M n) = _
  rw [at_rd h0]; rfl
theorem st_promise : ls_promise RI := by
  intro t zc zn zm x1 x2 x3 ht hx3 ⟨M, E, va, dn, an, mb, ac, ae, hI, hc, hz, hm⟩
  subst hc; subst hm
  rcases dc_n x1 with h1 | ⟨n, hn, rfl⟩
  · exact Or.inl ⟨0, 1, by omega, by omega, by omega, p_node0 h1 (br0 (p_barx h1 ⟨fun z => absurd z (by decide), fun _ => ⟨rfl, RI_same2 hI rfl (by omega) (by omega) (hz 0 (by omega)) (hz 1 (by omega)) hz rfl⟩⟩))⟩
  · rcases dc_n x2 with h2 | ⟨a, ha, rfl⟩
    · exact Or.inl ⟨0, 1, by omega, by omega, by omega, p_node1 (dc_k hn) (br1 (p_node0 h2 (br0 (p_bary hn h2 ⟨fun z => absurd z (by decide), fun _ => ⟨rfl, RI_same2 hI rfl (by omega) (by omega) (hz 0 (by omega)) (hz 1 (by omega)) hz rfl⟩⟩))))⟩
    · have hI' := nv_mono hI
      have h3 := hI.2.2.1 n hn
      have bn := nd_mem hI.1 hI.2.1 h3
      have h11 := h3.2.2.2.2.2.1
      have h4 := hI.2.2.2.1.1 n hn
      have h5 := hI.2.2.2.1.2 (ci M n a)
      have hun : mnd_up (nd_of M E n) = up_of M n := rfl
      have hua : mnd_up (nd_of M E a) = up_of M a := rfl
      by_cases hne : a = n
      · subst hne
        refine Or.inr ⟨a, hn, p_node1 (dc_k hn) (br1 (p_node1 (dc_k ha) (br1 ⟨rfl, rfl, ?_⟩)))⟩
        rw [hz a hn]
        have hs : ∀ (va dn an : Nat → Int32) (mb ac ae : Int32), RI (t + 1) (ch_of M E) (va_up zn a (nd_of M E a)) (md_of M E va dn an mb ac ae) := fun va dn an mb ac ae => RI_fin1 hI hI' (sx_refl M a a) hz rfl rfl
        refine p_mayAsk hI hn ha (fun q => br1 ?_) (fun q => br0 ?_)
        · have h0 := q.2.1
          rw [hun]
          rcases up_cases M a with ⟨u0, -⟩ | ⟨u1, -⟩
          · exact absurd (u0.symm.trans q.1) (by decide)
          rw [u1]
          have nu : ∀ {A : Prop}, up_of M a = 0 → A := fun z => absurd (u1.symm.trans z) (by decide)
          refine br1 (p_ref_al hI' (by omega) hn h0 (fun k1 k2 => br0 (p_cell hI hn h0 ⟨vp_in_nI (by omega) (by decide), fun z3 => ?_, fun z3 => ⟨vp_in_nI (by omega) (by decide), vp_in_nI (by omega) (by decide), ?_⟩⟩)) (fun k1 k2 z3 => ⟨fun z => absurd z (by decide), fun _ => ?_⟩) (fun k1 k2 z3 => ⟨fun z => absurd z (by decide), fun _ => ?_⟩))
          · rw [at_bal h0, nd_p1a hI hn hn h0]
            exact p_promM hI' (by omega) hn ha (fun z => absurd q z) (fun _ z => nu z) (fun _ _ _ _ _ va dn an mb ac ae => ⟨rfl, RI_fin1 hI (pm_I hI' hn k2) (op_p1_sx a hI hn) hz rfl rfl⟩) (fun _ _ _ _ z => absurd z3 z) (fun _ _ _ z => absurd z (by omega)) (fun _ _ _ z => absurd z (by omega)) (fun _ _ z => absurd z (by omega)) (fun _ _ z => absurd z (by omega))
          · obtain ⟨l1, l2, l3⟩ := lg_rd (M := M) (n := a) (a := a) h0 h11 bn.2.2.2.1
            have el : mnd_ledger (nd_of M E a) = lg_of M a := rfl
            have ea : mnd_attempt (nd_of M E a) = at_of M a := rfl
            rw [at_bal h0]
            show wp_At_addPromiser (at_of M a) (nI a) (mlg_voteBallots (lg_of M a) (nI (8 * M 5 a + M 11 a - 1)).toNatClampNeg) (mlg_voteCommands (lg_of M a) (nI (8 * M 5 a + M 11 a - 1)).toNatClampNeg) _
            rw [l2, l3]
            refine p_addP ha h0 (by omega) (by omega) ?_
            rw [nd_p2al hI hn h0]
            exact p_promM hI' (by omega) hn ha (fun z => absurd q z) (fun _ z => nu z) (fun _ _ _ _ z => absurd z z3) (fun _ _ _ _ _ va dn an mb ac ae => ⟨rfl, RI_fin1 hI (op_p2_I hI' hn ha h0 k1 k2) (op_p2_sx a hI hn) hz rfl rfl⟩) (fun _ _ _ z => absurd z (by omega)) (fun _ _ _ z => absurd z (by omega)) (fun _ _ z => absurd z (by omega)) (fun _ _ z => absurd z (by omega))
          · exact p_promM hI' (by omega) hn ha (fun z => absurd q z) (fun _ z => nu z) (fun _ _ _ z => absurd z (by omega)) (fun _ _ _ z => absurd z (by omega)) (fun _ _ _ _ _ va dn an mb ac ae => ⟨rfl, hs va dn an mb ac ae⟩) (fun _ _ _ _ z => absurd z3 z) (fun _ _ z => absurd z (by omega)) (fun _ _ z => absurd z (by omega))
          · exact p_promM hI' (by omega) hn ha (fun z => absurd q z) (fun _ z => nu z) (fun _ _ _ z => absurd z (by omega)) (fun _ _ _ z => absurd z (by omega)) (fun _ _ _ _ z => absurd z z3) (fun _ _ _ _ _ va dn an mb ac ae => ⟨rfl, RI_fin1 hI (op_la_I hI' hn (by omega)) (op_la_sx M a a _) hz rfl rfl⟩) (fun _ _ z => absurd z (by omega)) (fun _ _ z => absurd z (by omega))
        · exact p_promM hI' (by omega) hn ha (fun _ va dn an mb ac ae => ⟨rfl, hs va dn an mb ac ae⟩) (fun z => absurd z q) (fun z => absurd z q) (fun z => absurd z q) (fun z => absurd z q) (fun z => absurd z q) (fun z => absurd z q) (fun z => absurd z q)
      · refine Or.inl ⟨n, a, hn, ha, Ne.symm hne, p_node1 (dc_k hn) (br1 (p_node1 (dc_k ha) (br1 ⟨rfl, rfl, ?_⟩)))⟩
        rw [hz n hn, hz a ha]
        have h9a := (hI.2.2.1 a ha).2.1
        have hs : ∀ (va dn an : Nat → Int32) (mb ac ae : Int32), RI (t + 1) (ch_of M E) (va_up (va_up zn n (nd_of M E n)) a (nd_of M E a)) (md_of M E va dn an mb ac ae) := fun va dn an mb ac ae => RI_fin2 hI hI' (sx_refl M n a) hz rfl rfl rfl
        refine p_mayAsk hI hn ha (fun q => br1 ?_) (fun q => br0 ?_)
        · have h0 := q.2.1
          rw [hua]
          rcases up_cases M a with ⟨u0, -⟩ | ⟨u1, -⟩
          · rw [u0]
            have nu : ∀ {A : Prop}, up_of M a = 1 → A := fun z => absurd (u0.symm.trans z) (by decide)
            exact br0 (p_promM hI' (by omega) hn ha (fun z => absurd q z) (fun _ _ va dn an mb ac ae => ⟨rfl, hs va dn an mb ac ae⟩) (fun _ z => nu z) (fun _ z => nu z) (fun _ z => nu z) (fun _ z => nu z) (fun _ z => nu z) (fun _ z => nu z))
          rw [u1]
          have nu : ∀ {A : Prop}, up_of M a = 0 → A := fun z => absurd (u1.symm.trans z) (by decide)
          refine br1 (p_ref hI' (by omega) hn ha h0 (fun k1 k2 => br0 (p_cell hI hn h0 ⟨vp_in_nI (by omega) (by decide), fun z3 => ?_, fun z3 => ⟨vp_in_nI (by omega) (by decide), vp_in_nI (by omega) (by decide), ?_⟩⟩)) (fun k1 k2 z3 => ⟨fun z => absurd z (by decide), fun _ => ?_⟩) (fun k1 k2 z3 => ⟨fun z => absurd z (by decide), fun _ => ?_⟩) (fun k1 z3 => ⟨fun z => absurd z (by decide), fun _ => ?_⟩) (fun k1 z3 => ⟨fun z => absurd z (by decide), fun _ => ?_⟩))
          · rw [at_bal h0, nd_p1a hI hn ha h0, ← nd_p1n hI hn hne]
            exact p_promM hI' (by omega) hn ha (fun z => absurd q z) (fun _ z => nu z) (fun _ _ _ _ _ va dn an mb ac ae => ⟨rfl, RI_fin2 hI (pm_I hI' hn k2) (op_p1_sx a hI hn) hz rfl rfl rfl⟩) (fun _ _ _ _ z => absurd z3 z) (fun _ _ _ z => absurd z (by omega)) (fun _ _ _ z => absurd z (by omega)) (fun _ _ z => absurd z (by omega)) (fun _ _ z => absurd z (by omega))
          · obtain ⟨l1, l2, l3⟩ := lg_rd (M := M) (n := n) (a := a) h0 h11 bn.2.2.2.1
            rw [at_bal h0]
            show wp_At_addPromiser (at_of M n) (nI a) (mlg_voteBallots (lg_of M a) (nI (8 * M 5 n + M 11 n - 1)).toNatClampNeg) (mlg_voteCommands (lg_of M a) (nI (8 * M 5 n + M 11 n - 1)).toNatClampNeg) _
            rw [l2, l3]
            refine p_addP ha h0 (by omega) (by omega) ?_
            rw [nd_p2n hI hn hne, nd_p2a hI hn ha h0 hne]
            exact p_promM hI' (by omega) hn ha (fun z => absurd q z) (fun _ z => nu z) (fun _ _ _ _ z => absurd z z3) (fun _ _ _ _ _ va dn an mb ac ae => ⟨rfl, RI_fin2 hI (op_p2_I hI' hn ha h0 k1 k2) (op_p2_sx a hI hn) hz rfl rfl rfl⟩) (fun _ _ _ z => absurd z (by omega)) (fun _ _ _ z => absurd z (by omega)) (fun _ _ z => absurd z (by omega)) (fun _ _ z => absurd z (by omega))
          · exact p_promM hI' (by omega) hn ha (fun z => absurd q z) (fun _ z => nu z) (fun _ _ _ z => absurd z (by omega)) (fun _ _ _ z => absurd z (by omega)) (fun _ _ _ _ _ va dn an mb ac ae => ⟨rfl, hs va dn an mb ac ae⟩) (fun _ _ _ _ z => absurd z3 z) (fun _ _ z => absurd z (by omega)) (fun _ _ z => absurd z (by omega))
          · exact p_promM hI' (by omega) hn ha (fun z => absurd q z) (fun _ z => nu z) (fun _ _ _ z => absurd z (by omega)) (fun _ _ _ z => absurd z (by omega)) (fun _ _ _ _ z => absurd z z3) (fun _ _ _ _ _ va dn an mb ac ae => ⟨rfl, RI_fin2 hI (op_la_I hI' hn (by omega)) (op_la_sx M n a _) hz rfl rfl (nd_la_a hI ha hne).symm⟩) (fun _ _ z => absurd z (by omega)) (fun _ _ z => absurd z (by omega))
          · exact p_promM hI' (by omega) hn ha (fun z => absurd q z) (fun _ z => nu z) (fun _ _ z => absurd z (by omega)) (fun _ _ z => absurd z (by omega)) (fun _ _ z => absurd z (by omega)) (fun _ _ z => absurd z (by omega)) (fun _ _ _ _ va dn an mb ac ae => ⟨rfl, hs va dn an mb ac ae⟩) (fun _ _ _ z => absurd z3 z)
          · exact p_promM hI' (by omega) hn ha (fun z => absurd q z) (fun _ z => nu z) (fun _ _ z => absurd z (by omega)) (fun _ _ z => absurd z (by omega)) (fun _ _ z => absurd z (by omega)) (fun _ _ z => absurd z (by omega)) (fun _ _ _ z => absurd z z3) (fun _ _ _ _ va dn an mb ac ae => ⟨rfl, RI_fin2 hI (op_in_nv ha hn hI' (by omega)) (sx_sg a (op_in_sg M a n)) hz rfl rfl (nd_in_a hI ha hne).symm⟩)
        · exact p_promM hI' (by omega) hn ha (fun _ va dn an mb ac ae => ⟨rfl, hs va dn an mb ac ae⟩) (fun z => absurd z q) (fun z => absurd z q) (fun z => absurd z q) (fun z => absurd z q) (fun z => absurd z q) (fun z => absurd z q) (fun z => absurd z q)
