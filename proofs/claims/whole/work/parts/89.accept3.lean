/-! accept: the model's front, the class's votes -/
theorem p_acM {M : PM} {E : PE} {t n a : Nat} {va dn an : Nat → Int32} {mb ac ae x3 : Int32} {P : Int32 → MmdT → Prop} (hI : nv_I M E t) (ht : t ≤ 512) (hn : n < 6) (ha : a < 6)
    (h0 : ¬ (may M E n a ∧ px_maj (rr_nd M E n).2.2.1 (M 13 n)) → ∀ (va dn an : Nat → Int32) (mb ac ae : Int32), P 0 (md_of M E va dn an mb ac ae))
    (hd : may M E n a → px_maj (rr_nd M E n).2.2.1 (M 13 n) → up_of M a = 0 → ∀ (va dn an : Nat → Int32) (mb ac ae : Int32), P (-2) (md_of M E va dn an mb ac ae))
    (hN : may M E n a → px_maj (rr_nd M E n).2.2.1 (M 13 n) → up_of M a = 1 → ∀ (va dn an : Nat → Int32) (mb ac ae : Int32), acB P (nI n) (nI a) x3 (md_of (op_se M E n) E va dn an mb ac ae)) : wp_Md_accept (md_of M E va dn an mb ac ae) (nI n) (nI a) x3 P := by
  have hv : vp_in (nI n) 6 := vp_in_nI hn (by decide)
  have q17 := (hI.2.2.1 n hn).2.2.2.2.2.2.2.2.2.2
  have h30 := hI.1.1
  refine p_bar1 hI hn ha (fun q va dn an mb ac ae => ⟨fun z => absurd z (by decide), fun _ => h0 q _ _ _ _ _ _⟩) (fun q j w va dn an mb ac ae => ⟨fun z => absurd z (by decide), fun _ => hd q j w _ _ _ _ _ _⟩) (fun q j w va dn an mb ac ae => ⟨fun _ => ⟨hv, fun z => ?_, fun z => ?_⟩, fun z => absurd (by decide) z⟩)
  · have rc : mmd_command (md_of M E va dn an mb ac ae) (nI n).toNatClampNeg = nI (M 17 n) - 1 := by
      show nI (M 17 (nI n).toNatClampNeg) - 1 = _
      rw [nI_clamp (by omega)]
    rw [rc] at z
    have h17 := (le0_dec (by omega)).mp z
    have := hN q j w va dn an mb ac ae
    have e : op_se M E n = M := by
      unfold op_se
      rw [if_neg h17, ps_self]
    rw [e] at this
    exact this
  · have rc : mmd_command (md_of M E va dn an mb ac ae) (nI n).toNatClampNeg = nI (M 17 n) - 1 := by
      show nI (M 17 (nI n).toNatClampNeg) - 1 = _
      rw [nI_clamp (by omega)]
    rw [rc] at z
    have h17 : M 17 n = 0 := by
      apply Classical.byContradiction
      intro k
      exact z ((le0_dec (by omega)).mpr k)
    exact p_chM hI hn ht h17 (fun va dn an mb ac ae => hN q j w va dn an mb ac ae)
theorem p_isMaj {r : RR} {Q : Nat} {post : Int32 → MstT → Prop} (hm : r.2.2.1 < 64) (hQ : Q < 64) (hy : px_maj r.2.2.1 Q → post 1 (st_of r)) (hx : ¬ px_maj r.2.2.1 Q → post 0 (st_of r)) : wp_St_isMajority (st_of r) (nI Q) post := by
  have em : mst_membership (st_of r) = nI r.2.2.1 := rfl
  unfold wp_St_isMajority
  rw [em, nx_and]
  refine p_bitCount (Nat.lt_of_le_of_lt Nat.and_le_left hQ) (p_bitCount hm ⟨fun z => hx (p_maj.mp z), fun z => ?_⟩)
  by_cases hj : px_maj r.2.2.1 Q
  · exact hy hj
  · exact absurd (p_maj.mpr hj) z
theorem at_v1 {N : PM} {n a i : Nat} : at_of (op_v1 N n a) i = at_of N i := by
  unfold at_of
  rw [op_v1_r N n a (r := 11) (by decide) (by decide) (by decide), op_v1_r N n a (r := 12) (by decide) (by decide) (by decide), op_v1_r N n a (r := 13) (by decide) (by decide) (by decide), op_v1_r N n a (r := 14) (by decide) (by decide) (by decide), op_v1_r N n a (r := 15) (by decide) (by decide) (by decide), op_v1_r N n a (r := 16) (by decide) (by decide) (by decide), op_v1_r N n a (r := 17) (by decide) (by decide) (by decide)]
theorem nd_v1n {N : PM} {E : PE} {t n a : Nat} (hI : nv_I N E t) (hn : n < 6) (hne : a ≠ n) : nd_of (op_v1 N n a) E n = nd_of N E n := by
  have hs := op_v1_sx a hI hn
  rw [sx_two hs hI hn (fun r _ _ => by rw [op_v1_r N n a (by omega) (by omega) (by omega)]), sx_lg hs (Ne.symm hne), at_v1]
  rfl
theorem nd_v1a {N : PM} {E : PE} {t n a : Nat} (hI : nv_I N E t) (hn : n < 6) (ha : a < 6) (h0 : N 11 n ≠ 0) : mnd_s_ledger (nd_of N E a) (mlg_s_voteCommands (mlg_s_voteBallots (mlg_s_promisedBallots (mnd_ledger (nd_of N E a)) (upd (mlg_promisedBallots (mnd_ledger (nd_of N E a))) (nI (8 * N 5 n + N 11 n - 1)).toNatClampNeg (nI (N 12 n)))) (upd (mlg_voteBallots (mnd_ledger (nd_of N E a))) (nI (8 * N 5 n + N 11 n - 1)).toNatClampNeg (nI (N 12 n)))) (upd (mlg_voteCommands (mnd_ledger (nd_of N E a))) (nI (8 * N 5 n + N 11 n - 1)).toNatClampNeg (nI (N 17 n - 1)))) = nd_of (op_v1 N n a) E a := by
  have hs := op_v1_sx a hI hn
  have h3 := hI.2.2.1 n hn
  have bn := nd_mem hI.1 hI.2.1 h3
  rw [sx_two hs hI ha (fun r _ _ => by rw [op_v1_r N n a (by omega) (by omega) (by omega)]), at_v1]
  have u18 := lg_up (M := N) (M' := op_v1 N n a) (n := n) (a := a) (b := N 12 n) (r := 18) h0 h3.2.2.2.2.2.1 bn.2.2.2.1 (by unfold op_v1 ps_vote; simp) (fun j hj => op_v1_ne N n a hj)
  have u19 := lg_up (M := N) (M' := op_v1 N n a) (n := n) (a := a) (b := N 12 n) (r := 19) h0 h3.2.2.2.2.2.1 bn.2.2.2.1 (by unfold op_v1 ps_vote; simp) (fun j hj => op_v1_ne N n a hj)
  have u20 := lg_up (M := N) (M' := op_v1 N n a) (n := n) (a := a) (b := N 17 n - 1) (r := 20) h0 h3.2.2.2.2.2.1 bn.2.2.2.1 (by unfold op_v1 ps_vote; simp) (fun j hj => op_v1_ne N n a hj)
  have el : lg_of (op_v1 N n a) a = mlg_s_voteCommands (mlg_s_voteBallots (mlg_s_promisedBallots (lg_of N a) (upd (mlg_promisedBallots (lg_of N a)) (nI (8 * N 5 n + N 11 n - 1)).toNatClampNeg (nI (N 12 n)))) (upd (mlg_voteBallots (lg_of N a)) (nI (8 * N 5 n + N 11 n - 1)).toNatClampNeg (nI (N 12 n)))) (upd (mlg_voteCommands (lg_of N a)) (nI (8 * N 5 n + N 11 n - 1)).toNatClampNeg (nI (N 17 n - 1))) := by
    show ((fun i => if i < 40 then nI (op_v1 N n a 18 (45 * a + 9 * (i / 8) + i % 8 + 1)) else 0), (fun i => if i < 40 then nI (op_v1 N n a 19 (45 * a + 9 * (i / 8) + i % 8 + 1)) else 0), (fun i => if i < 40 then nI (op_v1 N n a 20 (45 * a + 9 * (i / 8) + i % 8 + 1)) else 0)) = _
    rw [u18, u19, u20]
    rfl
  rw [el]
  rfl
theorem nd_v2n {N : PM} {E : PE} {t n a : Nat} (I1 : nv_I (op_v1 N n a) E t) (hn : n < 6) (h0 : N 11 n ≠ 0) : mnd_s_attempt_voters (nd_of (op_v1 N n a) E n) (nI (N 14 n ||| 2 ^ a)) = nd_of (op_v2 N n a) E n := by
  have hs : sx (op_v1 N n a) (op_v2 N n a) n n := by
    unfold op_v2; rw [ps_at_14]; exact ps_at_sx _ n n _ _ _ _ _
  have hr : ∀ r, r ≠ 14 → op_v2 N n a r = op_v1 N n a r := fun r h => ps_reg _ h
  have e11 : op_v1 N n a 11 n = N 11 n := by rw [op_v1_r N n a (by decide) (by decide) (by decide)]
  have e14 : op_v2 N n a 14 n = N 14 n ||| 2 ^ a := ps_eq _ 14 n _
  rw [sx_two hs I1 hn (fun r _ _ => by rw [hr r (by omega)]), lg_same (hr 18 (by decide)) (hr 19 (by decide)) (hr 20 (by decide)), at_rd (M := op_v2 N n a) (by rw [hr 11 (by decide), e11]; exact h0), hr 11 (by decide), hr 12 (by decide), hr 13 (by decide), hr 15 (by decide), hr 16 (by decide), hr 17 (by decide), e14]
  unfold mnd_s_attempt_voters
  have : mnd_attempt (nd_of (op_v1 N n a) E n) = (nI (op_v1 N n a 11 n), nI (op_v1 N n a 12 n), nI (op_v1 N n a 13 n), nI (op_v1 N n a 14 n), nI (op_v1 N n a 15 n), nI (op_v1 N n a 16 n), nI (op_v1 N n a 17 n) - 1) := at_rd (by rw [e11]; exact h0)
  rw [this]
  rfl
theorem sx_bk {M M' : PM} {E : PE} {n a : Nat} (h : sx M M' n a) : bk_of M' E = bk_of M E := by
  unfold bk_of
  rw [h.1.1, h.1.2.1, h.1.2.2]
/-- the vote counted: what the class and the model come to -/
theorem ac_fin {N : PM} {E : PE} {t n a : Nat} (hI : nv_I N E t) (hn : n < 6) (ha : a < 6) (h0 : N 11 n ≠ 0) (h17 : N 17 n ≠ 0) (h9 : N 9 a ≤ N 5 n) (hle : N 18 (ci N n a) ≤ N 12 n) : ∃ M' : PM, nv_I M' E t ∧ (∀ b, sx (op_v2 N n a) M' n b) ∧
    (∀ post : MndT → MbkT → Prop, post (nd_of M' E n) (bk_of N E) → wp_Nd_countVoter (nd_of (op_v1 N n a) E n) (bk_of N E) (nI a) post) ∧
    (∀ P : Int32 → MmdT → Prop, (∀ (va dn an : Nat → Int32) (mb ac ae : Int32), P 1 (md_of M' E va dn an mb ac ae)) → (¬ px_maj (rr_nd (op_v2 N n a) E n).2.2.1 (op_v2 N n a 14 n) → ∀ (va dn an : Nat → Int32) (mb ac ae : Int32), P 1 (md_of (op_v2 N n a) E va dn an mb ac ae)) ∧ (px_maj (rr_nd (op_v2 N n a) E n).2.2.1 (op_v2 N n a 14 n) → ∀ (va dn an : Nat → Int32) (mb ac ae : Int32), wp_Md_goOn (md_of (op_k (op_v2 N n a) n) E va dn an mb ac ae) (nI n) (fun u => P 1 u))) := by
  obtain ⟨I1, I2⟩ := op_v_I hI hn ha h0 h17 h9 hle
  have h3 := I1.2.2.1 n hn
  have b1 := nd_mem I1.1 I1.2.1 h3
  have hs : sx (op_v1 N n a) (op_v2 N n a) n n := by
    unfold op_v2; rw [ps_at_14]; exact ps_at_sx _ n n _ _ _ _ _
  have hr : ∀ r, r ≠ 14 → op_v2 N n a r = op_v1 N n a r := fun r h => ps_reg _ h
  have er : rr_nd (op_v2 N n a) E n = rr_nd (op_v1 N n a) E n := rr_nd_ext (sx_ext hs I1.2.1) h3 (by rw [hr 5 (by decide)]) (by rw [hr 6 (by decide)])
  have e11 : op_v1 N n a 11 n = N 11 n := by rw [op_v1_r N n a (by decide) (by decide) (by decide)]
  have e14' : op_v1 N n a 14 n = N 14 n := by rw [op_v1_r N n a (by decide) (by decide) (by decide)]
  have e14 : op_v2 N n a 14 n = N 14 n ||| 2 ^ a := ps_eq _ 14 n _
  have v11 : op_v2 N n a 11 n = N 11 n := by rw [hr 11 (by decide), e11]
  have q14 : N 14 n < 64 := by rw [← e14']; exact h3.2.2.2.2.2.2.2.2.1
  have q11 : N 11 n ≤ 8 := by rw [← e11]; exact h3.2.2.2.2.2.1
  have evot : mat_voters (mnd_attempt (nd_of (op_v1 N n a) E n)) = nI (N 14 n) := by
    rw [← e14']
    show mat_voters (at_of (op_v1 N n a) n) = _
    rw [at_rd (by rw [e11]; exact h0)]; rfl
  have nd2 := nd_v2n I1 hn h0
  have est : mnd_state (nd_of (op_v1 N n a) E n) = st_of (rr_nd (op_v1 N n a) E n) := rfl
  by_cases hj : px_maj (rr_nd (op_v2 N n a) E n).2.2.1 (op_v2 N n a 14 n)
  · obtain ⟨hg, ek⟩ := op_k_I I2 hn (by rw [v11]; exact h0) hj
    obtain ⟨M', hI2, hs3, gC, gM⟩ := go_on hn hg
    refine ⟨M', hI2, fun b => sx_trans (op_k_sx _ n b) (sx_sg b hs3), fun post h => ?_, fun P hP => ⟨fun z => absurd hj z, fun _ va dn an mb ac ae => gM va dn an mb ac ae _ hP⟩⟩
    have hbk : bk_of (op_k (op_v2 N n a) n) E = bk_of N E := by
      rw [sx_bk (op_k_sx (op_v2 N n a) n a), sx_bk (op_v2_sx a hI hn)]
    unfold wp_Nd_countVoter
    rw [evot, bi_set _ _ (by omega), est]
    refine p_isMaj b1.1 (or_lt q14 ha) (fun z => br1 ?_) (fun z => ?_)
    · rw [nd2]
      have es : mat_slot (mnd_attempt (nd_of (op_v2 N n a) E n)) = nI (op_v2 N n a 11 n) := at_slot
      have ec : mat_command (mnd_attempt (nd_of (op_v2 N n a) E n)) = nI (op_v2 N n a 17 n) - 1 := by
        show mat_command (at_of (op_v2 N n a) n) = _
        rw [at_rd (by rw [v11]; exact h0)]; rfl
      rw [es, ec, nI_clamp (n := op_v2 N n a 11 n) (by omega)]
      refine ⟨vp_in_nI (by omega) (by decide), ?_⟩
      have est2 : mnd_s_state (nd_of (op_v2 N n a) E n) (st_of (rr_nd (op_v1 N n a) E n)) = nd_of (op_v2 N n a) E n := by
        rw [← er]; rfl
      rw [est2]
      have ekn : mnd_knownCommands (nd_of (op_v2 N n a) E n) = kn_of (op_v2 N n a) n := rfl
      rw [ekn, ← ek, ← hbk]
      refine gC _ ?_
      rw [hbk]
      exact h
    · rw [e14, er] at hj
      exact absurd hj z
  · refine ⟨op_v2 N n a, I2, fun b => sx_refl _ n b, fun post h => ?_, fun P hP => ⟨fun _ va dn an mb ac ae => hP va dn an mb ac ae, fun z => absurd z hj⟩⟩
    unfold wp_Nd_countVoter
    rw [evot, bi_set _ _ (by omega), est]
    refine p_isMaj b1.1 (or_lt q14 ha) (fun z => ?_) (fun z => br0 ?_)
    · rw [e14, er] at hj
      exact absurd z hj
    · rw [nd2]
      have est2 : mnd_s_state (nd_of (op_v2 N n a) E n) (st_of (rr_nd (op_v1 N n a) E n)) = nd_of (op_v2 N n a) E n := by
        rw [← er]; rfl
      rw [est2]
      exact h
