/-! the class's executeNext, the model's pass -/
theorem kn_ex {M : PM} {E : PE} {n : Nat} (h8 : M 6 n < 8) (a : (rr_nx M E n).1 = M 5 n) : upd (kn_of M n) (M 6 n + 1) (-1) = kn_of (op_ex M E n) n := by
  funext s
  unfold kn_of
  rw [op_ex_7, op_ex_5, if_pos a, a, sg_r (op_ex_sg M E n) (r := 3) (by decide) (by decide) (by decide) (by decide), n_cl_bit]
  by_cases hs : s = M 6 n + 1
  · subst hs
    simp [upd, h8]
  · simp [upd, hs]
theorem nd_ex1 {M : PM} {E : PE} {t n : Nat} (hg : gI M E t n) (h8 : M 6 n < 8) (hb : (M 7 n).testBit (M 6 n + 1) = true) (a : (rr_nx M E n).1 = M 5 n) : mnd_s_state (mnd_s_knownCommands (nd_of M E n) (upd (kn_of M n) (M 6 n + 1) (-1))) (st_of (rr_nx M E n)) = nd_of (op_ex M E n) E n := by
  have hs := op_ex_sg M E n
  have gg := fun r (a : r ≠ 5) (b : r ≠ 6) (c : r ≠ 7) (d : r ≠ 11) => sg_r (r := r) hs a b c d
  have g8 := gg 8 (by decide) (by decide) (by decide) (by decide)
  have g9 := gg 9 (by decide) (by decide) (by decide) (by decide)
  have g10 := gg 10 (by decide) (by decide) (by decide) (by decide)
  refine nd_mk (M := op_ex M E n) (E := E) (n := n) ?_ ?_ (lg_same (gg 18 (by decide) (by decide) (by decide) (by decide)) (gg 19 (by decide) (by decide) (by decide) (by decide)) (gg 20 (by decide) (by decide) (by decide) (by decide))).symm (by rw [g8]; rfl) (by rw [g9]; rfl) (kn_ex h8 a) (by rw [g10]; rfl) ?_
  · unfold up_of; rw [gg 0 (by decide) (by decide) (by decide) (by decide)]; rfl
  · rw [(op_ex_I hg h8 hb).2.1]
  · unfold at_of
    rw [op_ex_11, if_pos a, gg 12 (by decide) (by decide) (by decide) (by decide), gg 13 (by decide) (by decide) (by decide) (by decide), gg 14 (by decide) (by decide) (by decide) (by decide), gg 15 (by decide) (by decide) (by decide) (by decide), gg 16 (by decide) (by decide) (by decide) (by decide), gg 17 (by decide) (by decide) (by decide) (by decide)]
    rfl
theorem nd_ex2 {M : PM} {E : PE} {t n : Nat} (hg : gI M E t n) (h8 : M 6 n < 8) (hb : (M 7 n).testBit (M 6 n + 1) = true) (a : ¬ (rr_nx M E n).1 = M 5 n) : mnd_s_attempt (mnd_s_knownCommands (mnd_s_state (mnd_s_knownCommands (nd_of M E n) (upd (kn_of M n) (M 6 n + 1) (-1))) (st_of (rr_nx M E n))) (fun j => if j < 9 then -1 else mnd_knownCommands (mnd_s_state (mnd_s_knownCommands (nd_of M E n) (upd (kn_of M n) (M 6 n + 1) (-1))) (st_of (rr_nx M E n))) j)) at0 = nd_of (op_ex M E n) E n := by
  have hs := op_ex_sg M E n
  have gg := fun r (a : r ≠ 5) (b : r ≠ 6) (c : r ≠ 7) (d : r ≠ 11) => sg_r (r := r) hs a b c d
  have g8 := gg 8 (by decide) (by decide) (by decide) (by decide)
  have g9 := gg 9 (by decide) (by decide) (by decide) (by decide)
  have g10 := gg 10 (by decide) (by decide) (by decide) (by decide)
  refine nd_mk (M := op_ex M E n) (E := E) (n := n) ?_ ?_ (lg_same (gg 18 (by decide) (by decide) (by decide) (by decide)) (gg 19 (by decide) (by decide) (by decide) (by decide)) (gg 20 (by decide) (by decide) (by decide) (by decide))).symm (by rw [g8]; rfl) (by rw [g9]; rfl) ?_ (by rw [g10]; rfl) ?_
  · unfold up_of; rw [gg 0 (by decide) (by decide) (by decide) (by decide)]; rfl
  · rw [(op_ex_I hg h8 hb).2.1]; rfl
  · rw [kn_none (M := op_ex M E n) (n := n) (by rw [op_ex_7, if_neg a])]
    funext j
    show (if j < 9 then (-1 : Int32) else upd (kn_of M n) (M 6 n + 1) (-1) j) = _
    by_cases hj : j < 9
    · rw [if_pos hj, if_pos hj]
    · rw [if_neg hj, if_neg hj]
      unfold upd kn_of
      rw [if_neg (by omega), if_neg hj]
  · unfold at_of
    rw [op_ex_11, if_neg a, if_pos rfl]
theorem p_exn {M : PM} {E : PE} {t n : Nat} {post : MndT → MbkT → Prop} (hg : gI M E t n) (h8 : M 6 n < 8) (hb : (M 7 n).testBit (M 6 n + 1) = true) (h : post (nd_of (op_ex M E n) E n) (bk_of M E)) : wp_Nd_executeNext (nd_of M E n) (bk_of M E) post := by
  have hm := g_mem hg
  have hk := hg.2.2.2.1.2.2.2.2.1
  have h0 := (hk _ hb).2.2
  intro v1 e1
  have e1' : v1 = nI (M 6 n + 1) := by
    rw [e1]
    show nI (rr_nd M E n).2.1 + 1 = _
    rw [hm.2.1, nI_1]
  subst e1'
  refine p_kat hg.2.1 hg.1.1 hk (by omega) ?_
  rw [if_pos ⟨hb, by omega⟩]
  refine br1 ⟨vp_in_nI (by omega) (by decide), fun v5 e5 => ⟨vp_in_nI (by omega) (by decide), fun v6 e6 => ?_⟩⟩
  have e5' : v5 = nI (rr_cmd M (rr_nd M E n) - 1) := by
    rw [e5]
    show (if (nI (M 6 n + 1)).toNatClampNeg < 9 then (if (M 7 n).testBit (nI (M 6 n + 1)).toNatClampNeg = true then nI (M 3 (9 * M 5 n + (nI (M 6 n + 1)).toNatClampNeg)) - 1 else -1) else 0) = _
    rw [nI_clamp (by omega), if_pos (by omega), if_pos hb, nI_m1 h0]
    unfold rr_cmd
    rw [hm.1, hm.2.1]; rfl
  have e6' : v6 = nI (M 5 n) := by
    rw [e6]
    show nI (rr_nd M E n).1 = _
    rw [hm.1]
  subst e5'; subst e6'
  refine p_stexec hg.1 (rr_cmd_le hg.2.1 _) (by rw [hm.1]; exact hm.2.2.1) ?_
  have hc := (op_ex_I hg h8 hb).2.2
  rw [nI_clamp (by omega)]
  have hcf : mst_configuration (st_of (rr_step M E (rr_nd M E n) (rr_cmd M (rr_nd M E n) - 1))) = nI (rr_nx M E n).1 := rfl
  rw [hcf]
  refine ⟨fun z => ?_, fun z => ?_⟩
  · have a : (rr_nx M E n).1 = M 5 n := (nI_eq (by omega) (by omega)).mp z
    have := nd_ex1 hg h8 hb a
    rw [← this] at h
    exact h
  · have a : ¬ (rr_nx M E n).1 = M 5 n := fun q => z (by rw [q])
    have := nd_ex2 hg h8 hb a
    rw [← this] at h
    exact p_leaveList h
theorem p_exn0 {M : PM} {E : PE} {t n : Nat} {post : MndT → MbkT → Prop} (hg : gI M E t n) (hb : ¬ (M 6 n < 8 ∧ (M 7 n).testBit (M 6 n + 1) = true)) (h : post (nd_of M E n) (bk_of M E)) : wp_Nd_executeNext (nd_of M E n) (bk_of M E) post := by
  have hm := g_mem hg
  have hk := hg.2.2.2.1.2.2.2.2.1
  intro v1 e1
  have e1' : v1 = nI (M 6 n + 1) := by
    rw [e1]
    show nI (rr_nd M E n).2.1 + 1 = _
    rw [hm.2.1, nI_1]
  subst e1'
  refine p_kat hg.2.1 hg.1.1 hk (by omega) ?_
  rw [if_neg (fun z => hb ⟨by have := hk _ z.1; omega, z.1⟩)]
  exact br0 h
def go_it (E : PE) (n : Nat) : Nat → PM → PM
  | 0, M => M
  | k + 1, M => if M 6 n < 8 ∧ (M 7 n).testBit (M 6 n + 1) = true then go_it E n k (op_ex M E n) else M
theorem go_it_stop {E : PE} {n k : Nat} {M : PM} (h : ¬ (M 6 n < 8 ∧ (M 7 n).testBit (M 6 n + 1) = true)) : go_it E n k M = M := by
  cases k with
  | zero => rfl
  | succ k => exact if_neg h
theorem go_it_I {E : PE} {t n : Nat} : ∀ (k : Nat) {M : PM}, gI M E t n → gI (go_it E n k M) E t n ∧ sg M (go_it E n k M) n
  | 0, M, hg => ⟨hg, sg_refl M n⟩
  | k + 1, M, hg => by
    unfold go_it
    by_cases h : M 6 n < 8 ∧ (M 7 n).testBit (M 6 n + 1) = true
    · rw [if_pos h]
      obtain ⟨a, b⟩ := go_it_I k (op_ex_I hg h.1 h.2).1
      exact ⟨a, sg_trans (op_ex_sg M E n) b⟩
    · rw [if_neg h]
      exact ⟨hg, sg_refl M n⟩
theorem p_goC {E : PE} {t n : Nat} {K : Int32 → MndT → MbkT → Prop} {bk : MbkT} : ∀ (k : Nat) {M : PM}, k ≤ 8 → bk = bk_of M E → gI M E t n → (∀ y, K y (nd_of (go_it E n k M) E n) bk) → wp_Nd_goOn_L2 K (k + 1) (nI (8 - k)) (nd_of M E n) bk
  | 0, M, _, _, hg, h => ⟨fun _ => h _, fun z => absurd (Int32.le_refl _) z⟩
  | k + 1, M, hk, hbk, hg, h => by
    refine ⟨fun z => absurd z (nI_ge (a := 8 - (k + 1)) (b := 8) (by omega) (by decide)), fun _ => ?_⟩
    by_cases hc : M 6 n < 8 ∧ (M 7 n).testBit (M 6 n + 1) = true
    · have e : go_it E n (k + 1) M = go_it E n k (op_ex M E n) := if_pos hc
      rw [e] at h
      rw [hbk]
      refine p_exn hg hc.1 hc.2 (fun v ev => ?_)
      have ev' : v = nI (8 - k) := by rw [ev, nI_1, show 8 - (k + 1) + 1 = 8 - k by omega]
      subst ev'
      rw [← hbk]
      exact p_goC k (by omega) (by rw [hbk, sg_bk (op_ex_sg M E n)]) (op_ex_I hg hc.1 hc.2).1 h
    · rw [go_it_stop hc] at h
      rw [hbk]
      refine p_exn0 hg hc (fun v ev => ?_)
      have ev' : v = nI (8 - k) := by rw [ev, nI_1, show 8 - (k + 1) + 1 = 8 - k by omega]
      subst ev'
      rw [← hbk]
      exact p_goC k (by omega) hbk hg (by rw [go_it_stop hc]; exact h)
/-! the model -/
def cl_n (k : Nat) : Nat → Nat
  | 0 => k
  | j + 1 => n_cl (cl_n k j) (j + 1)
theorem n_cl_id {k q : Nat} (h : k.testBit q = false) : n_cl k q = k := by
  apply Nat.eq_of_testBit_eq
  intro i
  rw [n_cl_bit]
  by_cases e : i = q
  · subst e; rw [h]; rfl
  · simp [e]
theorem cl_n_id {k : Nat} : ∀ {j : Nat}, (∀ i, i ≤ j → k.testBit i = false) → cl_n k j = k
  | 0, _ => rfl
  | j + 1, h => by
    show n_cl (cl_n k j) (j + 1) = k
    rw [cl_n_id (fun i hi => h i (by omega)), n_cl_id (h _ (by omega))]
theorem ps_twice (M : PM) (r i a b : Nat) : ps_set (ps_set M r i a) r i b = ps_set M r i b := by
  funext r' i'
  unfold ps_set
  by_cases h : r' = r ∧ i' = i
  · rw [if_pos h, if_pos h]
  · rw [if_neg h, if_neg h, if_neg h]
theorem ps_self (M : PM) (r i : Nat) : ps_set M r i (M r i) = M := by
  funext r' i'
  unfold ps_set
  by_cases h : r' = r ∧ i' = i
  · rw [if_pos h, h.1, h.2]
  · rw [if_neg h]
theorem p_cl104 {M : PM} {E : PE} {va dn an : Nat → Int32} {mb ac : Int32} {e n : Nat} {K : Int32 → Int32 → MmdT → Prop} (hn : n < 6) (he : e ≤ 9) (h : ∀ y2, K (nI n) y2 (md_of (ps_set M 7 n (cl_n (M 7 n) e)) E va dn an mb ac (nI e))) : ∀ d j : Nat, j + d = e → wp_Md_goOn_L104 K (d + 1) (nI n) (nI (j + 1)) (md_of (ps_set M 7 n (cl_n (M 7 n) j)) E va dn an mb ac (nI e))
  | 0, j, ej => by
    have : j = e := by omega
    subst this
    exact ⟨fun _ => h _, fun z => absurd (nI_lt (a := j) (b := j + 1) (by omega) (by omega)) z⟩
  | d + 1, j, ej => by
    have hv : vp_in (nI n) 6 := vp_in_nI hn (by decide)
    refine ⟨fun z => absurd z (nI_nlt (a := e) (b := j + 1) (by omega) (by omega)), fun _ => ⟨hv, hv, fun w ew v ev => ?_⟩⟩
    have e7 : mmd_known (md_of (ps_set M 7 n (cl_n (M 7 n) j)) E va dn an mb ac (nI e)) (nI n).toNatClampNeg = nI (cl_n (M 7 n) j) := by
      rw [nI_clamp (by omega)]
      show nI (ps_set M 7 n (cl_n (M 7 n) j) 7 n) = _
      rw [ps_eq]
    rw [e7, bi_clr _ _ (by omega)] at ew
    obtain rfl := ew.trans (mw_known (cl_n (M 7 n) (j + 1)) hn)
    rw [ps_twice]
    rw [nI_1] at ev
    subst ev
    exact p_cl104 hn he h d (j + 1) (by omega)
theorem op_ex_eq1 {M : PM} {E : PE} {n : Nat} (a : (rr_nx M E n).1 = M 5 n) : ps_set (ps_set (ps_set M 5 n (rr_nx M E n).1) 6 n (rr_nx M E n).2.1) 7 n (n_cl (M 7 n) (M 6 n + 1)) = op_ex M E n := by
  funext r i
  by_cases hi : i = n
  · subst hi
    by_cases h5 : r = 5
    · subst h5; simp [ps_set, op_ex]
    · by_cases h6 : r = 6
      · subst h6; simp [ps_set, op_ex]
      · by_cases h7 : r = 7
        · subst h7; simp [ps_set, op_ex, a]
        · by_cases h11 : r = 11
          · subst h11; simp [ps_set, op_ex, a]
          · simp [ps_set, op_ex, h5, h6, h7, h11]
  · simp [ps_set, op_ex, hi]
theorem op_ex_eq2 {M : PM} {E : PE} {n : Nat} (a : ¬ (rr_nx M E n).1 = M 5 n) : ps_set (ps_set (ps_set (ps_set M 7 n 0) 11 n 0) 5 n (rr_nx M E n).1) 6 n (rr_nx M E n).2.1 = op_ex M E n := by
  funext r i
  by_cases hi : i = n
  · subst hi
    by_cases h5 : r = 5
    · subst h5; simp [ps_set, op_ex]
    · by_cases h6 : r = 6
      · subst h6; simp [ps_set, op_ex]
      · by_cases h7 : r = 7
        · subst h7; simp [ps_set, op_ex, a]
        · by_cases h11 : r = 11
          · subst h11; simp [ps_set, op_ex, a]
          · simp [ps_set, op_ex, h5, h6, h7, h11]
  · simp [ps_set, op_ex, hi]
theorem p_goM {E : PE} {t n : Nat} {K : Int32 → MmdT → Prop} (hn : n < 6) : ∀ (k : Nat) {M : PM} {va dn an : Nat → Int32} {mb ac ae : Int32}, gI M E t n → (8 ≤ M 6 n + k ∨ M 7 n = 0) → (∀ (va dn an : Nat → Int32) (mb ac ae : Int32), K (nI n) (md_of (go_it E n k M) E va dn an mb ac ae)) → wp_Md_goOn_L0 K (k + 1) (nI n) (md_of M E va dn an mb ac ae)
  | k, M, va, dn, an, mb, ac, ae, hg, hk, h => by
    have hv : vp_in (nI n) 6 := vp_in_nI hn (by decide)
    have hm := g_mem hg
    have hkn := hg.2.2.2.1.2.2.2.2.1
    have e6 : mmd_executed (md_of M E va dn an mb ac ae) (nI n).toNatClampNeg = nI (M 6 n) := rdN M 6 hn
    unfold wp_Md_goOn_L0
    rw [e6, nI_1]
    refine ⟨hv, fun z => ?_, fun z => ⟨hv, p_knows hn (by omega) ?_⟩⟩
    · have : 8 ≤ M 6 n := (nI_leI (a := 8) (by decide) (by omega)).mp z
      rw [go_it_stop (by omega)] at h
      exact h _ _ _ _ _ _
    · have h8 : M 6 n < 8 := by
        apply Classical.byContradiction
        intro q
        exact z (nI_le (a := 8) (by omega) (by omega))
      by_cases hb : (M 7 n).testBit (M 6 n + 1) = true
      · rw [if_pos hb]
        have hk0 : M 7 n ≠ 0 := fun q => by rw [q, Nat.zero_testBit] at hb; exact absurd hb (by decide)
        obtain ⟨k', rfl⟩ : ∃ k', k = k' + 1 := ⟨k - 1, by omega⟩
        have e : go_it E n (k' + 1) M = go_it E n k' (op_ex M E n) := if_pos ⟨h8, hb⟩
        rw [e] at h
        obtain ⟨hg', hnd, hc⟩ := op_ex_I hg h8 hb
        refine br1 (g_replayOf hg.1 hg.2.1 hn hg.2.2.2.1.1 ?_)
        have hidx : ((9 : Int32) * mmd_atC (md_r M E (rr_nd M E n) va dn an)) + mmd_atE (md_r M E (rr_nd M E n) va dn an) + 1 = nI (9 * (rr_nd M E n).1 + (rr_nd M E n).2.1 + 1) := ix_9 _ _
        have hlt : 9 * (rr_nd M E n).1 + (rr_nd M E n).2.1 + 1 < 45 := by omega
        rw [hidx]
        refine ⟨vp_in_nI hlt (by decide), ?_⟩
        have h0 : rr_cmd M (rr_nd M E n) ≠ 0 := by
          unfold rr_cmd
          rw [hm.1, hm.2.1]
          exact (hkn _ hb).2.2
        rw [show mmd_decided (md_r M E (rr_nd M E n) va dn an) (nI (9 * (rr_nd M E n).1 + (rr_nd M E n).2.1 + 1)).toNatClampNeg = nI (rr_cmd M (rr_nd M E n)) - 1 from dec_rd M E _ _ _ _ _ _ hlt, nI_m1 h0]
        refine p_mexec hg.1 (rr_cmd_le hg.2.1 _) (by omega) ?_
        have e5 : mmd_configuration (md_r M E (rr_step M E (rr_nd M E n) (rr_cmd M (rr_nd M E n) - 1)) va dn an) (nI n).toNatClampNeg = nI (M 5 n) := rdN M 5 hn
        have eC : mmd_atC (md_r M E (rr_step M E (rr_nd M E n) (rr_cmd M (rr_nd M E n) - 1)) va dn an) = nI (rr_nx M E n).1 := rfl
        rw [e5, eC]
        refine ⟨hv, fun z2 => ?_, fun z2 => ?_⟩
        · have hle : (rr_nx M E n).1 ≤ M 5 n := (nI_leI (by omega) (by omega)).mp z2
          have a : (rr_nx M E n).1 = M 5 n := by omega
          have b : (rr_nx M E n).2.1 = M 6 n + 1 := by omega
          refine ⟨hv, fun w ew => ?_⟩
          obtain rfl := ew.trans (mw_configuration (rr_nx M E n).1 hn)
          refine ⟨hv, fun w ew => ?_⟩
          obtain rfl := ew.trans (mw_executed (rr_nx M E n).2.1 hn)
          refine ⟨M 6 n + 1 + 1, ?_⟩
          have e7 : (ps_set (ps_set M 5 n (rr_nx M E n).1) 6 n (rr_nx M E n).2.1) 7 n = M 7 n := by simp [ps_set]
          have key := p_cl104 (M := ps_set (ps_set M 5 n (rr_nx M E n).1) 6 n (rr_nx M E n).2.1) (E := E) (va := md_v (rr_nx M E n) va) (dn := md_d (rr_nx M E n) dn) (an := md_a (rr_nx M E n) an) (mb := nI (rr_nx M E n).2.2.1) (ac := nI (rr_nx M E n).1) (e := M 6 n + 1) (n := n) (K := fun (y1 : Int32) (y2 : Int32) (z1 : MmdT) => wp_Md_goOn_L0 K (k' + 1) y1 z1) hn (by omega) (fun y2 => ?_) (M 6 n + 1) 0 (by omega)
          · rw [show cl_n (ps_set (ps_set M 5 n (rr_nx M E n).1) 6 n (rr_nx M E n).2.1 7 n) 0 = ps_set (ps_set M 5 n (rr_nx M E n).1) 6 n (rr_nx M E n).2.1 7 n from rfl, ps_self, ← b] at key
            rw [← b]
            exact key
          · rw [e7]
            have : cl_n (M 7 n) (M 6 n + 1) = n_cl (M 7 n) (M 6 n + 1) := by
              show n_cl (cl_n (M 7 n) (M 6 n)) (M 6 n + 1) = _
              rw [cl_n_id (fun i hi => ?_)]
              cases hh : (M 7 n).testBit i
              · rfl
              · have := hkn i hh; omega
            rw [this, op_ex_eq1 a]
            exact p_goM hn k' hg' (Or.inl (by rw [op_ex_6, b]; omega)) h
        · have a : ¬ (rr_nx M E n).1 = M 5 n := fun q => z2 (by rw [q]; exact Int32.le_refl _)
          have b : (rr_nx M E n).2.1 = 0 := by omega
          refine ⟨hv, fun w ew => ?_⟩
          rw [← nI_0] at ew
          obtain rfl := ew.trans (mw_known 0 hn)
          refine ⟨hv, fun w ew => ?_⟩
          rw [← nI_0] at ew
          obtain rfl := ew.trans (mw_slot 0 hn)
          refine ⟨hv, fun w ew => ?_⟩
          obtain rfl := ew.trans (mw_configuration (rr_nx M E n).1 hn)
          refine ⟨hv, fun w ew => ?_⟩
          obtain rfl := ew.trans (mw_executed (rr_nx M E n).2.1 hn)
          rw [op_ex_eq2 a]
          refine ⟨1, fun _ => ?_, fun q => absurd ?_ q⟩
          · exact p_goM hn k' hg' (Or.inr (by rw [op_ex_7, if_neg a])) h
          · show nI (rr_nx M E n).2.1 < 1
            rw [b]; decide
      · rw [if_neg hb]
        rw [go_it_stop (fun q => hb q.2)] at h
        exact br0 (h _ _ _ _ _ _)
