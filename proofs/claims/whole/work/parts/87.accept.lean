/-! accept: the states -/
theorem ps_at_17 (M : PM) (n v : Nat) : ps_set M 17 n v = ps_at M n (M 13 n) (M 14 n) (M 15 n) (M 16 n) v := by
  funext r i
  unfold ps_set ps_at
  by_cases hi : i = n
  · subst hi
    by_cases h13 : r = 13
    · subst h13; simp
    · by_cases h14 : r = 14
      · subst h14; simp
      · by_cases h15 : r = 15
        · subst h15; simp
        · by_cases h16 : r = 16
          · subst h16; simp
          · by_cases h17 : r = 17
            · subst h17; simp
            · simp [h13, h14, h15, h16, h17]
  · simp [hi]
theorem ps_at_14 (M : PM) (n v : Nat) : ps_set M 14 n v = ps_at M n (M 13 n) v (M 15 n) (M 16 n) (M 17 n) := by
  funext r i
  unfold ps_set ps_at
  by_cases hi : i = n
  · subst hi
    by_cases h13 : r = 13
    · subst h13; simp
    · by_cases h14 : r = 14
      · subst h14; simp
      · by_cases h15 : r = 15
        · subst h15; simp
        · by_cases h16 : r = 16
          · subst h16; simp
          · by_cases h17 : r = 17
            · subst h17; simp
            · simp [h13, h14, h15, h16, h17]
  · simp [hi]
/-- the command that node n settles on -/
def sv (M : PM) (E : PE) (n : Nat) : Nat := if M 15 n = 0 then (if M 10 n = 0 then 0 else if dn_b (rr_nd M E n).2.2.2.2.1 (M 10 n) = true then 0 else M 10 n) else M 16 n
def op_se (M : PM) (E : PE) (n : Nat) : PM := ps_set M 17 n (if M 17 n = 0 then sv M E n + 1 else M 17 n)
theorem op_se_r (M : PM) (E : PE) (n : Nat) {r : Nat} (h : r ≠ 17) : op_se M E n r = M r := ps_reg M h
theorem op_se_17 (M : PM) (E : PE) (n : Nat) : op_se M E n 17 n = if M 17 n = 0 then sv M E n + 1 else M 17 n := ps_eq M 17 n _
theorem op_se_sx (M : PM) (E : PE) (n a : Nat) : sx M (op_se M E n) n a := by
  unfold op_se
  rw [ps_at_17]
  exact ps_at_sx M n a _ _ _ _ _
theorem sv_le {M : PM} {E : PE} {n : Nat} (h10 : M 10 n ≤ M 0 0) (h16 : M 16 n ≤ M 0 0) : sv M E n ≤ M 0 0 := by
  unfold sv
  split
  · split
    · omega
    · split <;> omega
  · exact h16
theorem op_se_I {M : PM} {E : PE} {t n : Nat} (hI : nv_I M E t) (hn : n < 6) (h0 : M 11 n ≠ 0) (hm : px_maj (rr_nd M E n).2.2.1 (M 13 n)) : nv_I (op_se M E n) E t ∧ op_se M E n 17 n ≠ 0 := by
  have h3 := hI.2.2.1 n hn
  have bn := nd_mem hI.1 hI.2.1 h3
  have h4 := hI.2.2.2.1.1 n hn
  obtain ⟨hp, q9, q10, q7, qk, q11, qa, q13, q14, q16, q17⟩ := id h3
  by_cases h17 : M 17 n = 0
  · have hv := sv_le (E := E) q10 q16
    obtain ⟨J, hJ, e5, e6⟩ := hp
    have hpx := px_settle (v := sv M E n) hI.2.1 hn hJ e5 h0 q11 h17 hv (fun q => by unfold sv; rw [if_neg q]) (by rw [bn.2.2.2.2.2]; exact hm) hI.2.2.2.2.2
    refine ⟨?_, by rw [op_se_17, if_pos h17]; omega⟩
    unfold op_se
    rw [if_pos h17, ps_at_17]
    exact ps_at_I hI hn q13 q14 h4.2.2 q16 (by omega) hpx
  · refine ⟨?_, by rw [op_se_17, if_neg h17]; exact h17⟩
    unfold op_se
    rw [if_neg h17, ps_self]
    exact hI
theorem nd_se {M : PM} {E : PE} {t n a : Nat} (hI : nv_I M E t) (hn : n < 6) : nd_of (op_se M E n) E n = mnd_s_attempt (nd_of M E n) (at_of (op_se M E n) n) := by
  rw [sx_two (op_se_sx M E n n) hI hn (fun r _ _ => by rw [op_se_r M E n (by omega)]), lg_same (op_se_r M E n (by decide)) (op_se_r M E n (by decide)) (op_se_r M E n (by decide))]
  rfl
theorem p_setC {M : PM} {E : PE} {t n : Nat} {post : MndT → Prop} (hI : nv_I M E t) (ht : t ≤ 513) (hn : n < 6) (h0 : M 11 n ≠ 0) (h : post (nd_of (op_se M E n) E n)) : wp_Nd_settleCommand (nd_of M E n) post := by
  have h3 := hI.2.2.1 n hn
  have h30 := hI.1.1
  have h4 := hI.2.2.2.1.1 n hn
  obtain ⟨hp, q9, q10, q7, qk, q11, qa, q13, q14, q16, q17⟩ := id h3
  have ea : mnd_attempt (nd_of M E n) = (nI (M 11 n), nI (M 12 n), nI (M 13 n), nI (M 14 n), nI (M 15 n), nI (M 16 n), nI (M 17 n) - 1) := at_rd h0
  have ec : mat_command (mnd_attempt (nd_of M E n)) = nI (M 17 n) - 1 := by rw [ea]; rfl
  have eb : mat_bestBallot (mnd_attempt (nd_of M E n)) = nI (M 15 n) := by rw [ea]; rfl
  have em : mat_bestCommand (mnd_attempt (nd_of M E n)) = nI (M 16 n) := by rw [ea]; rfl
  have ep : mnd_pending (nd_of M E n) = nI (M 10 n) := rfl
  by_cases h17 : M 17 n = 0
  · have key : ∀ v, sv M E n = v → post (mnd_s_attempt_command (nd_of M E n) (nI v)) := by
      intro v hv
      rw [nd_se (a := n) hI hn, at_rd (M := op_se M E n) (by rw [op_se_r M E n (by decide)]; exact h0), op_se_17, if_pos h17, hv, nI_pred, op_se_r M E n (show 11 ≠ 17 by decide), op_se_r M E n (show 12 ≠ 17 by decide), op_se_r M E n (show 13 ≠ 17 by decide), op_se_r M E n (show 14 ≠ 17 by decide), op_se_r M E n (show 15 ≠ 17 by decide), op_se_r M E n (show 16 ≠ 17 by decide)] at h
      unfold mnd_s_attempt_command
      rw [ea]
      exact h
    unfold wp_Nd_settleCommand
    rw [ec, eb, em, ep, h17]
    refine ⟨fun _ => ⟨fun z => ⟨fun z2 => ?_, fun z2 => ?_⟩, fun z => ?_⟩, fun z => absurd rfl z⟩
    · have k1 : M 15 n = 0 := (nI_eq (b := 0) (by omega) (by decide)).mp z
      have k2 : M 10 n = 0 := (nI_eq (b := 0) (by omega) (by decide)).mp z2
      exact key 0 (by unfold sv; rw [if_pos k1, if_pos k2])
    · have k1 : M 15 n = 0 := (nI_eq (b := 0) (by omega) (by decide)).mp z
      have k2 : ¬ M 10 n = 0 := fun q => z2 (by rw [q]; rfl)
      refine p_isDone (by omega) ?_
      have ed : mst_doneBits (mnd_state (nd_of M E n)) = (rr_nd M E n).2.2.2.2.1 := rfl
      rw [ed]
      by_cases hd : dn_b (rr_nd M E n).2.2.2.2.1 (M 10 n) = true
      · rw [if_pos hd]
        exact br1 (key 0 (by unfold sv; rw [if_pos k1, if_neg k2, if_pos hd]))
      · rw [if_neg hd]
        exact br0 (key (M 10 n) (by unfold sv; rw [if_pos k1, if_neg k2, if_neg hd]))
    · have k1 : ¬ M 15 n = 0 := fun q => z (by rw [q]; rfl)
      exact key (M 16 n) (by unfold sv; rw [if_neg k1])
  · have e : op_se M E n = M := by
      unfold op_se
      rw [if_neg h17, ps_self]
    rw [e] at h
    unfold wp_Nd_settleCommand
    rw [ec]
    refine ⟨fun z => ?_, fun _ => h⟩
    exfalso
    rw [nI_m1 h17] at z
    have z1 := congrArg Int32.toInt z
    rw [nI_toInt (by omega)] at z1
    have z2 : (-1 : Int32).toInt = -1 := by decide
    rw [z2] at z1
    omega
theorem p_chM {M : PM} {E : PE} {t n : Nat} {va dn an : Nat → Int32} {mb ac ae : Int32} {post : MmdT → Prop} (hI : nv_I M E t) (hn : n < 6) (ht : t ≤ 512) (h17 : M 17 n = 0) (h : ∀ (va dn an : Nat → Int32) (mb ac ae : Int32), post (md_of (op_se M E n) E va dn an mb ac ae)) : wp_Md_choose (md_of M E va dn an mb ac ae) (nI n) post := by
  have h3 := hI.2.2.1 n hn
  have h30 := hI.1.1
  have h4 := hI.2.2.2.1.1 n hn
  obtain ⟨hp, q9, q10, q7, qk, q11, qa, q13, q14, q16, q17⟩ := id h3
  have hv : vp_in (nI n) 6 := vp_in_nI hn (by decide)
  refine p_replayOf hI.1 hI.2.1 hn h3 ⟨hv, fun v3 e3 => ⟨hv, ?_⟩⟩
  have e3' : v3 = nI (M 10 n) := e3.trans (rdN M 10 hn)
  subst e3'
  have eb : mmd_bestBallot (md_r M E (rr_nd M E n) va dn an) (nI n).toNatClampNeg = nI (M 15 n) := rdN M 15 hn
  have em : mmd_bestCommand (md_r M E (rr_nd M E n) va dn an) (nI n).toNatClampNeg = nI (M 16 n) := rdN M 16 hn
  rw [eb, em]
  have key : ∀ v, sv M E n = v → ∀ w : MmdT, w = mmd_s_command (md_r M E (rr_nd M E n) va dn an) (upd (mmd_command (md_r M E (rr_nd M E n) va dn an)) (nI n).toNatClampNeg (nI v)) → post w := by
    intro v hv w ew
    rw [← nI_pred v] at ew
    obtain rfl := ew.trans (mw_command (v + 1) hn)
    have := h (md_v (rr_nd M E n) va) (md_d (rr_nd M E n) dn) (md_a (rr_nd M E n) an) (nI (rr_nd M E n).2.2.1) (nI (rr_nd M E n).1) (nI (rr_nd M E n).2.1)
    unfold op_se at this
    rw [if_pos h17, hv] at this
    exact this
  refine ⟨fun z => ⟨fun z2 => ⟨hv, key 0 ?_⟩, fun z2 => ⟨vp_in_nI (by omega) (by decide), ?_⟩⟩, fun z => ⟨hv, hv, key (M 16 n) ?_⟩⟩
  · have k1 : M 15 n = 0 := by have := (nI_leI (b := 0) (by omega) (by decide)).mp z; omega
    have k2 : M 10 n = 0 := by have := (nI_leI (b := 0) (by omega) (by decide)).mp z2; omega
    unfold sv; rw [if_pos k1, if_pos k2]
  · have k1 : M 15 n = 0 := by have := (nI_leI (b := 0) (by omega) (by decide)).mp z; omega
    have k2 : ¬ M 10 n = 0 := fun q => z2 (by rw [q]; exact Int32.le_refl _)
    have ed : mmd_done (md_r M E (rr_nd M E n) va dn an) (nI (M 10 n)).toNatClampNeg = if dn_b (rr_nd M E n).2.2.2.2.1 (M 10 n) = true then 1 else 0 := by
      rw [nI_clamp (by omega)]
      show (if M 10 n < 31 then (if dn_b (rr_nd M E n).2.2.2.2.1 (M 10 n) = true then (1 : Int32) else 0) else dn (M 10 n)) = _
      rw [if_pos (by omega)]
    rw [ed]
    by_cases hd : dn_b (rr_nd M E n).2.2.2.2.1 (M 10 n) = true
    · rw [if_pos hd]
      exact br1 ⟨hv, key 0 (by unfold sv; rw [if_pos k1, if_neg k2, if_pos hd])⟩
    · rw [if_neg hd]
      exact br0 ⟨hv, key (M 10 n) (by unfold sv; rw [if_pos k1, if_neg k2, if_neg hd])⟩
  · have k1 : ¬ M 15 n = 0 := fun q => z (by rw [q]; exact Int32.le_refl _)
    unfold sv; rw [if_neg k1]
/-! the vote -/
def op_v1 (N : PM) (n a : Nat) : PM := ps_vote N (ci N n a) (N 12 n) (N 17 n - 1)
def op_v2 (N : PM) (n a : Nat) : PM := ps_set (op_v1 N n a) 14 n (N 14 n ||| 2 ^ a)
theorem op_v1_r (N : PM) (n a : Nat) {r : Nat} (h18 : r ≠ 18) (h19 : r ≠ 19) (h20 : r ≠ 20) : op_v1 N n a r = N r := ps_vote_r N h18 h19 h20
theorem op_v2_r (N : PM) (n a : Nat) {r : Nat} (h14 : r ≠ 14) (h18 : r ≠ 18) (h19 : r ≠ 19) (h20 : r ≠ 20) : op_v2 N n a r = N r := by
  unfold op_v2; rw [ps_reg _ h14, op_v1_r N n a h18 h19 h20]
theorem op_v1_ne (N : PM) (n a : Nat) {r j : Nat} (h : j ≠ ci N n a) : op_v1 N n a r j = N r j := by
  unfold op_v1 ps_vote; rw [if_neg h]
theorem op_v1_sx {N : PM} {E : PE} {t n : Nat} (a : Nat) (hI : nv_I N E t) (hn : n < 6) : sx N (op_v1 N n a) n a :=
  ⟨⟨op_v1_r N n a (by decide) (by decide) (by decide), op_v1_r N n a (by decide) (by decide) (by decide), op_v1_r N n a (by decide) (by decide) (by decide)⟩, fun k _ => by rw [op_v1_r N n a (by decide) (by decide) (by decide)], fun i hi r _ _ => by rw [op_v1_r N n a (by omega) (by omega) (by omega)], fun i hi j h1 h2 => by
    have hj := ci_in (M := N) (n := n) (hI.2.2.1 n hn).2.2.2.2.2.1 (nd_mem hI.1 hI.2.1 (hI.2.2.1 n hn)).2.2.2.1 hi h1 h2
    exact ⟨op_v1_ne N n a hj, op_v1_ne N n a hj, op_v1_ne N n a hj⟩⟩
theorem px_pos {M : PM} {E : PE} {n : Nat} (hn : n < 6) (h0 : M 11 n ≠ 0) (h : px_I M E) : 0 < M 12 n := by
  obtain ⟨H, C, p1, p2, p3, p4, p5, p6⟩ := h
  exact (p5 n hn h0).2.2.1
theorem op_v_I {N : PM} {E : PE} {t n a : Nat} (hI : nv_I N E t) (hn : n < 6) (ha : a < 6) (h0 : N 11 n ≠ 0) (h17 : N 17 n ≠ 0) (h9 : N 9 a ≤ N 5 n) (hle : N 18 (ci N n a) ≤ N 12 n) : nv_I (op_v1 N n a) E t ∧ nv_I (op_v2 N n a) E t := by
  have h3 := hI.2.2.1 n hn
  have bn := nd_mem hI.1 hI.2.1 h3
  have h4 := hI.2.2.2.1.1 n hn
  obtain ⟨hp, q9, q10, q7, qk, q11, qa, q13, q14, q16, q17⟩ := id h3
  have h118 : ∀ j, j < 6 → N 11 j ≤ 8 := fun j hj => (hI.2.2.1 j hj).2.2.2.2.2.1
  have hv1 : N 17 n = N 17 n - 1 + 1 := by omega
  have px1 := px_vote (v := N 17 n - 1) (vt := N 14 n) hI.2.1 hn ha bn.2.2.2.1 h0 h118 rfl h9 hle hv1 (Or.inl rfl) hI.2.2.2.2.2
  have px2 := px_vote (v := N 17 n - 1) (vt := N 14 n ||| 2 ^ a) hI.2.1 hn ha bn.2.2.2.1 h0 h118 rfl h9 hle hv1 (Or.inr rfl) hI.2.2.2.2.2
  have g := fun r (h18 : r ≠ 18) (h19 : r ≠ 19) (h20 : r ≠ 20) => op_v1_r N n a h18 h19 h20
  have e13 : op_v1 N n a 13 n = N 13 n := by rw [g 13 (by decide) (by decide) (by decide)]
  have e14 : op_v1 N n a 14 n = N 14 n := by rw [g 14 (by decide) (by decide) (by decide)]
  have e15 : op_v1 N n a 15 n = N 15 n := by rw [g 15 (by decide) (by decide) (by decide)]
  have e16 : op_v1 N n a 16 n = N 16 n := by rw [g 16 (by decide) (by decide) (by decide)]
  have e17 : op_v1 N n a 17 n = N 17 n - 1 + 1 := by rw [g 17 (by decide) (by decide) (by decide)]; exact hv1
  have px1' : px_I (op_v1 N n a) E := by
    have e := ps_at_17 (op_v1 N n a) n (op_v1 N n a 17 n)
    rw [ps_self, e13, e14, e15, e16, e17] at e
    rw [e]
    exact px1
  have hs := op_v1_sx a hI hn
  have hx : px_ext N E (op_v1 N n a) E := sx_ext hs hI.2.1
  have hpos := px_pos hn h0 hI.2.2.2.2.2
  have I1 : nv_I (op_v1 N n a) E t := by
    refine nv_mk hI hs (g 3 (by decide) (by decide) (by decide)) (nv_n_at hx h3 (by rw [g 0 (by decide) (by decide) (by decide)]) (fun r _ _ _ => by rw [g r (by omega) (by omega) (by omega)]) (by rw [e13]; exact q13) (by rw [e14]; exact q14) (by rw [e16]; exact q16) (by rw [e17]; omega)) ?_ ?_ ?_ px1'
    · rw [g 8 (by decide) (by decide) (by decide), g 12 (by decide) (by decide) (by decide), e15]; exact h4
    · intro j
      by_cases e : j = ci N n a
      · subst e
        unfold op_v1 ps_vote
        simp
        omega
      · rw [op_v1_ne N n a e, op_v1_ne N n a e, op_v1_ne N n a e]
        exact hI.2.2.2.1.2 j
    · refine ⟨fun j hj => ?_, fun j hj => ?_⟩
      · by_cases e : j = ci N n a
        · subst e
          have : op_v1 N n a 19 (ci N n a) = N 12 n := by unfold op_v1 ps_vote; simp
          omega
        · rw [op_v1_ne N n a e] at hj ⊢
          exact hI.2.2.2.2.1.1 j hj
      · have e : j ≠ ci N n a := by unfold ci; omega
        rw [op_v1_ne N n a e]
        exact hI.2.2.2.2.1.2 j hj
  refine ⟨I1, ?_⟩
  have px2' : px_I (ps_at (op_v1 N n a) n (op_v1 N n a 13 n) (N 14 n ||| 2 ^ a) (op_v1 N n a 15 n) (op_v1 N n a 16 n) (op_v1 N n a 17 n)) E := by
    rw [e13, e15, e16, e17]
    exact px2
  unfold op_v2
  rw [ps_at_14]
  refine ps_at_I I1 hn (by rw [e13]; exact q13) (or_lt q14 ha) (by rw [e15]; exact h4.2.2) (by rw [e16, g 0 (by decide) (by decide) (by decide)]; exact q16) (by rw [e17, g 0 (by decide) (by decide) (by decide)]; omega) px2'
theorem op_v2_sx {N : PM} {E : PE} {t n : Nat} (a : Nat) (hI : nv_I N E t) (hn : n < 6) : sx N (op_v2 N n a) n a := by
  unfold op_v2
  rw [ps_at_14]
  exact sx_trans (op_v1_sx a hI hn) (ps_at_sx _ n a _ _ _ _ _)
