/-! a majority of votes: decided and known -/
def cl (V : PM) (n : Nat) : Nat := 9 * V 5 n + V 11 n
def op_d (V : PM) (n : Nat) : PM := ps_set V 3 (cl V n) (if V 3 (cl V n) = 0 then V 17 n else V 3 (cl V n))
def op_k (V : PM) (n : Nat) : PM := ps_set (op_d V n) 7 n (V 7 n ||| 2 ^ V 11 n)
theorem op_d_r (V : PM) (n : Nat) {r : Nat} (h : r ≠ 3) : op_d V n r = V r := ps_reg V h
theorem op_k_r (V : PM) (n : Nat) {r : Nat} (h : r ≠ 3) (h7 : r ≠ 7) : op_k V n r = V r := by
  unfold op_k; rw [ps_reg _ h7, op_d_r V n h]
theorem op_d_ne (V : PM) (n : Nat) {k : Nat} (h : k ≠ cl V n) : op_d V n 3 k = V 3 k := ps_nei V h
theorem op_d_ext (V : PM) (n : Nat) : ∀ k, V 3 k ≠ 0 → op_d V n 3 k = V 3 k := by
  intro k hk
  by_cases e : k = cl V n
  · subst e
    unfold op_d
    rw [ps_eq, if_neg hk]
  · exact op_d_ne V n e
theorem op_d_sx (V : PM) (n a : Nat) : sx V (op_d V n) n a :=
  ⟨⟨op_d_r V n (by decide), op_d_r V n (by decide), op_d_r V n (by decide)⟩, op_d_ext V n, fun i _ r _ _ => by rw [op_d_r V n (by omega)], fun i _ j _ _ => ⟨by rw [op_d_r V n (by decide)], by rw [op_d_r V n (by decide)], by rw [op_d_r V n (by decide)]⟩⟩
theorem op_k_sg (V : PM) (n : Nat) : sg (op_d V n) (op_k V n) n := by
  intro r i h
  unfold op_k ps_set
  rw [if_neg (by omega)]
theorem op_k_sx (V : PM) (n a : Nat) : sx V (op_k V n) n a := sx_trans (op_d_sx V n a) (sx_sg a (op_k_sg V n))
theorem op_d_I {V : PM} {E : PE} {t n : Nat} (hI : nv_I V E t) (hn : n < 6) (h0 : V 11 n ≠ 0) (hm : px_maj (rr_nd V E n).2.2.1 (V 14 n)) : nv_I (op_d V n) E t ∧ op_d V n 3 (cl V n) = V 17 n ∧ V 17 n ≠ 0 := by
  have h3 := hI.2.2.1 n hn
  have bn := nd_mem hI.1 hI.2.1 h3
  obtain ⟨hp, q9, q10, q7, qk, q11, qa, q13, q14, q16, q17⟩ := id h3
  have hm' : px_maj (px_mb V E (V 5 n)) (V 14 n) := by rw [bn.2.2.2.2.2]; exact hm
  obtain ⟨k1, k2⟩ := px_same hn bn.2.2.2.1 h0 q11 hm' hI.2.2.2.2.2
  have hs := op_d_sx V n n
  have hx : px_ext V E (op_d V n) E := sx_ext hs hI.2.1
  have e3 : op_d V n 3 (cl V n) = V 17 n := by
    unfold op_d
    rw [ps_eq]
    by_cases z : V 3 (cl V n) = 0
    · rw [if_pos z]
    · rw [if_neg z]; exact k2 z
  refine ⟨?_, e3, k1⟩
  have hpx : px_I (op_d V n) E := by
    unfold op_d
    by_cases z : V 3 (cl V n) = 0
    · rw [if_pos z]
      exact px_decide hI.2.1 hn bn.2.2.2.1 h0 q11 hm' z hI.2.2.2.2.2
    · rw [if_neg z, ps_self]
      exact hI.2.2.2.2.2
  obtain ⟨n1, n2, n3, n4, n5, n6⟩ := hI
  refine ⟨?_, ?_, ?_, ?_, ?_, hpx⟩
  · unfold nv_1; rw [op_d_r V n (show 0 ≠ 3 by decide), op_d_r V n (show 1 ≠ 3 by decide), op_d_r V n (show 2 ≠ 3 by decide)]; exact n1
  · intro j
    rw [op_d_r V n (show 0 ≠ 3 by decide)]
    by_cases e : j = cl V n
    · subst e; rw [e3]; exact q17
    · rw [op_d_ne V n e]; exact n2 j
  · intro i hi
    exact nv_n_ext hx (fun r _ _ => by rw [op_d_r V n (by omega)]) (n3 i hi)
  · unfold nv_4; rw [op_d_r V n (show 8 ≠ 3 by decide), op_d_r V n (show 12 ≠ 3 by decide), op_d_r V n (show 15 ≠ 3 by decide), op_d_r V n (show 18 ≠ 3 by decide), op_d_r V n (show 19 ≠ 3 by decide), op_d_r V n (show 20 ≠ 3 by decide), op_d_r V n (show 0 ≠ 3 by decide)]; exact n4
  · unfold nv_5; rw [op_d_r V n (show 19 ≠ 3 by decide), op_d_r V n (show 20 ≠ 3 by decide)]; exact n5
theorem op_k_I {V : PM} {E : PE} {t n : Nat} (hI : nv_I V E t) (hn : n < 6) (h0 : V 11 n ≠ 0) (hm : px_maj (rr_nd V E n).2.2.1 (V 14 n)) : gI (op_k V n) E t n ∧ nd_of (op_k V n) E n = mnd_s_knownCommands (nd_of V E n) (upd (kn_of V n) (V 11 n) (nI (V 17 n) - 1)) := by
  obtain ⟨hD, e3, h17⟩ := op_d_I hI hn h0 hm
  have hg := gI_of hn hD
  have hs := op_k_sg V n
  have hx2 : px_ext (op_d V n) E (op_k V n) E := sg_ext hs hD.2.1
  have hx1 : px_ext V E (op_d V n) E := sx_ext (op_d_sx V n n) hI.2.1
  have h3 := hI.2.2.1 n hn
  obtain ⟨hp, q9, q10, q7, qk, q11, qa, q13, q14, q16, q17⟩ := id h3
  have e7 : op_k V n 7 n = V 7 n ||| 2 ^ V 11 n := ps_eq _ 7 n _
  have ek3 : op_k V n 3 = op_d V n 3 := ps_reg _ (by decide)
  have g := fun r (h : r ≠ 3) (h7 : r ≠ 7) => op_k_r V n h h7
  obtain ⟨J, hJ, j5, j6⟩ := hp
  obtain ⟨p1, p2⟩ := rr_ext hx1 hJ
  obtain ⟨p3, p4⟩ := rr_ext hx2 p2
  have hpn : rr_nd (op_k V n) E n = rr_nd V E n := by
    have er : rr_nd V E n = rr_pth V E J := by
      unfold rr_nd
      rw [← j5, ← j6]
      exact rr_at_pth hJ
    rw [er, ← p1, ← p3]
    unfold rr_nd
    rw [g 5 (by decide) (by decide), g 6 (by decide) (by decide), ← j5, ← j6, ← p1, ← p3]
    exact rr_at_pth p4
  refine ⟨sg_I hg hs ?_ (Or.inr ⟨by rw [g 11 (by decide) (by decide), op_d_r V n (by decide)], by rw [g 5 (by decide) (by decide), op_d_r V n (by decide)]⟩), ?_⟩
  · unfold nv_g
    rw [e7, ek3, g 5 (by decide) (by decide), g 6 (by decide) (by decide), g 9 (by decide) (by decide), g 10 (by decide) (by decide), g 0 (by decide) (by decide), g 11 (by decide) (by decide), g 13 (by decide) (by decide), g 14 (by decide) (by decide), g 16 (by decide) (by decide), g 17 (by decide) (by decide)]
    refine ⟨⟨J, p4, by rw [p3, p1]; exact j5, by rw [p3, p1]; exact j6⟩, q9, q10, ?_, fun s hs => ?_, q11, q13, q14, q16, q17⟩
    · exact Nat.or_lt_two_pow (n := 9) q7 (Nat.pow_lt_pow_right (by decide) (by omega))
    · rcases px_bit_or.mp hs with z | z
      · have := qk s z
        refine ⟨this.1, this.2.1, ?_⟩
        rw [op_d_ext V n _ this.2.2]
        exact this.2.2
      · subst z
        refine ⟨(qa h0).1, q11, ?_⟩
        have : op_d V n 3 (9 * V 5 n + V 11 n) = V 17 n := e3
        rw [this]
        exact h17
  · symm
    refine nd_mk (M := op_k V n) (E := E) (n := n) ?_ ?_ (lg_same (g 18 (by decide) (by decide)) (g 19 (by decide) (by decide)) (g 20 (by decide) (by decide))).symm (by rw [g 8 (by decide) (by decide)]; rfl) (by rw [g 9 (by decide) (by decide)]; rfl) ?_ (by rw [g 10 (by decide) (by decide)]; rfl) ?_
    · unfold up_of; rw [g 0 (by decide) (by decide)]; rfl
    · rw [hpn]; rfl
    · show upd (kn_of V n) (V 11 n) (nI (V 17 n) - 1) = kn_of (op_k V n) n
      funext s
      unfold kn_of
      rw [e7, ek3, g 5 (by decide) (by decide)]
      by_cases e : s = V 11 n
      · subst e
        have hb : (V 7 n ||| 2 ^ V 11 n).testBit (V 11 n) = true := px_bit_or.mpr (Or.inr rfl)
        have : op_d V n 3 (9 * V 5 n + V 11 n) = V 17 n := e3
        rw [if_pos (by omega), if_pos hb, this]
        exact if_pos rfl
      · have hb : (V 7 n ||| 2 ^ V 11 n).testBit s = (V 7 n).testBit s := by
          cases hh : (V 7 n).testBit s
          · cases hh2 : (V 7 n ||| 2 ^ V 11 n).testBit s
            · rfl
            · rcases px_bit_or.mp hh2 with z | z
              · rw [hh] at z; exact absurd z (by decide)
              · exact absurd z e
          · exact px_bit_or.mpr (Or.inl hh)
        rw [hb]
        show (if s = V 11 n then nI (V 17 n) - 1 else (if s < 9 then (if (V 7 n).testBit s = true then nI (V 3 (9 * V 5 n + s)) - 1 else -1) else 0)) = _
        rw [if_neg e, op_d_ne V n (show 9 * V 5 n + s ≠ cl V n by unfold cl; omega)]
    · unfold at_of
      rw [g 11 (by decide) (by decide), g 12 (by decide) (by decide), g 13 (by decide) (by decide), g 14 (by decide) (by decide), g 15 (by decide) (by decide), g 16 (by decide) (by decide), g 17 (by decide) (by decide)]
      rfl
/-! the model's accept behind the settling -/
def acB (P : Int32 → MmdT → Prop) (x1 x2 x3 : Int32) (u2 : MmdT) : Prop := (vp_in x1 6 ∧ (vp_in x1 6 ∧ (∀ v5 : Int32, v5 = (((9 : Int32) * ((mmd_configuration u2) (x1).toNatClampNeg)) + ((mmd_slot u2) (x1).toNatClampNeg)) → (wp_Md_answer u2 x1 x2 x3 (fun (r6 : Int32) (u7 : MmdT) => ((r6 = (1 : Int32) → (vp_in x1 6 ∧ (vp_in (((45 : Int32) * x2) + v5) 270 ∧ (∀ w9 : MmdT, w9 = mmd_s_voteBallot u7 (upd (mmd_voteBallot u7) ((((45 : Int32) * x2) + v5)).toNatClampNeg ((mmd_ballot u7) (x1).toNatClampNeg)) → (vp_in x1 6 ∧ (vp_in (((45 : Int32) * x2) + v5) 270 ∧ (∀ w10 : MmdT, w10 = mmd_s_voteCommand w9 (upd (mmd_voteCommand w9) ((((45 : Int32) * x2) + v5)).toNatClampNeg ((mmd_command w9) (x1).toNatClampNeg)) → ((x3 = (0 : Int32) → (P (1 : Int32) w10)) ∧ (¬ x3 = (0 : Int32) → (vp_in x1 6 ∧ (vp_in x1 6 ∧ (∀ w12 : MmdT, w12 = mmd_s_voters w10 (upd (mmd_voters w10) (x1).toNatClampNeg (((mmd_voters w10) (x1).toNatClampNeg) ||| ((1 : Int32) <<< (x2 &&& 31)))) → (vp_in x1 6 ∧ (wp_Md_majority w12 ((mmd_voters w12) (x1).toNatClampNeg) x1 (fun (r13 : Int32) (u14 : MmdT) => ((r13 = (0 : Int32) → (P (1 : Int32) u14)) ∧ (¬ r13 = (0 : Int32) → (vp_in v5 45 ∧ (((0 : Int32) ≤ ((mmd_decided u14) (v5).toNatClampNeg) → (vp_in x1 6 ∧ (vp_in x1 6 ∧ (vp_in x1 6 ∧ (∀ w17 : MmdT, w17 = mmd_s_known u14 (upd (mmd_known u14) (x1).toNatClampNeg (((mmd_known u14) (x1).toNatClampNeg) ||| ((1 : Int32) <<< (((mmd_slot u14) (x1).toNatClampNeg) &&& 31)))) → (wp_Md_goOn w17 x1 (fun (u19 : MmdT) => (P (1 : Int32) u19)))))))) ∧ (¬ (0 : Int32) ≤ ((mmd_decided u14) (v5).toNatClampNeg) → (vp_in x1 6 ∧ (vp_in v5 45 ∧ (∀ w20 : MmdT, w20 = mmd_s_decided u14 (upd (mmd_decided u14) (v5).toNatClampNeg ((mmd_command u14) (x1).toNatClampNeg)) → (vp_in x1 6 ∧ (vp_in x1 6 ∧ (vp_in x1 6 ∧ (∀ w21 : MmdT, w21 = mmd_s_known w20 (upd (mmd_known w20) (x1).toNatClampNeg (((mmd_known w20) (x1).toNatClampNeg) ||| ((1 : Int32) <<< (((mmd_slot w20) (x1).toNatClampNeg) &&& 31)))) → (wp_Md_goOn w21 x1 (fun (u23 : MmdT) => (P (1 : Int32) u23)))))))))))))))))))))))))))))) ∧ (¬ r6 = (1 : Int32) → (P r6 u7))))))))
theorem op_v1_eq (N : PM) (n a : Nat) : ps_set (ps_set (ps_set N 18 (ci N n a) (N 12 n)) 19 (ci N n a) (N 12 n)) 20 (ci N n a) (N 17 n - 1) = op_v1 N n a := by
  funext r i
  unfold op_v1 ps_vote ps_set
  by_cases hi : i = ci N n a
  · subst hi
    by_cases h18 : r = 18
    · subst h18; simp
    · by_cases h19 : r = 19
      · subst h19; simp
      · by_cases h20 : r = 20
        · subst h20; simp
        · simp [h18, h19, h20]
  · simp [hi]
theorem le0_dec {k : Nat} (hk : k < 2 ^ 30) : ((0 : Int32) ≤ nI k - 1) ↔ k ≠ 0 := by
  constructor
  · intro h e
    subst e
    exact absurd h (by decide)
  · intro h
    rw [nI_m1 h]
    exact nI_pos' (by omega)
theorem p_acB {N : PM} {E : PE} {t n a : Nat} {va dn an : Nat → Int32} {mb ac ae x3 : Int32} {P : Int32 → MmdT → Prop} (hI : nv_I N E t) (ht : t ≤ 512) (hn : n < 6) (ha : a < 6) (h0 : N 11 n ≠ 0) (h17 : N 17 n ≠ 0)
    (hA0 : N 9 a ≤ N 5 n → N 18 (ci N n a) ≤ N 12 n → x3 = 0 → ∀ (va dn an : Nat → Int32) (mb ac ae : Int32), P 1 (md_of (op_v1 N n a) E va dn an mb ac ae))
    (hAn : N 9 a ≤ N 5 n → N 18 (ci N n a) ≤ N 12 n → x3 ≠ 0 → ¬ px_maj (rr_nd (op_v2 N n a) E n).2.2.1 (op_v2 N n a 14 n) → ∀ (va dn an : Nat → Int32) (mb ac ae : Int32), P 1 (md_of (op_v2 N n a) E va dn an mb ac ae))
    (hAy : N 9 a ≤ N 5 n → N 18 (ci N n a) ≤ N 12 n → x3 ≠ 0 → px_maj (rr_nd (op_v2 N n a) E n).2.2.1 (op_v2 N n a 14 n) → ∀ (va dn an : Nat → Int32) (mb ac ae : Int32), wp_Md_goOn (md_of (op_k (op_v2 N n a) n) E va dn an mb ac ae) (nI n) (fun u => P 1 u))
    (hB0 : N 9 a ≤ N 5 n → N 12 n < N 18 (ci N n a) → x3 = 0 → ∀ (va dn an : Nat → Int32) (mb ac ae : Int32), P 2 (md_of N E va dn an mb ac ae))
    (hB1 : N 9 a ≤ N 5 n → N 12 n < N 18 (ci N n a) → x3 ≠ 0 → ∀ (va dn an : Nat → Int32) (mb ac ae : Int32), P 2 (md_of (op_la N n (N 18 (ci N n a))) E va dn an mb ac ae))
    (hC0 : N 5 n < N 9 a → x3 = 0 → ∀ (va dn an : Nat → Int32) (mb ac ae : Int32), P 3 (md_of N E va dn an mb ac ae))
    (hC1 : N 5 n < N 9 a → x3 ≠ 0 → ∀ (va dn an : Nat → Int32) (mb ac ae : Int32), P 3 (md_of (op_in N a n) E va dn an mb ac ae)) : acB P (nI n) (nI a) x3 (md_of N E va dn an mb ac ae) := by
  have h3 := hI.2.2.1 n hn
  have bn := nd_mem hI.1 hI.2.1 h3
  have h9n := h3.2.1
  have h9a := (hI.2.2.1 a ha).2.1
  obtain ⟨-, -, -, q7, -, q11, qa, q13, q14, q16, q17⟩ := id h3
  have h30 := hI.1.1
  have hv : vp_in (nI n) 6 := vp_in_nI hn (by decide)
  have hva : vp_in (nI a) 6 := vp_in_nI ha (by decide)
  have hc : ci N n a < 270 := by unfold ci; omega
  have hvc : vp_in (nI (ci N n a)) 270 := vp_in_nI hc (by decide)
  have hcl : cl N n < 45 := by unfold cl; omega
  have h4 := hI.2.2.2.1.1 n hn
  have h5 := hI.2.2.2.1.2 (ci N n a)
  have e5 : mmd_configuration (md_of N E va dn an mb ac ae) (nI n).toNatClampNeg = nI (N 5 n) := rdN N 5 hn
  have e11 : mmd_slot (md_of N E va dn an mb ac ae) (nI n).toNatClampNeg = nI (N 11 n) := rdN N 11 hn
  refine ⟨hv, hv, fun v5 e5v => ?_⟩
  rw [e5, e11, ix_92] at e5v
  have e5' : v5 = nI (cl N n) := e5v
  subst e5'
  have eci : (45 : Int32) * nI a + nI (cl N n) = nI (ci N n a) := by
    rw [show (45 : Int32) = nI 45 from rfl, pk_mul, nI_add]
    unfold ci cl
    rw [Nat.add_assoc]
  rw [eci]
  refine p_ans hI ht hn ha (fun k1 k2 => ⟨fun _ => ⟨hv, hvc, fun w9 e9 => ⟨hv, hvc, fun w10 e10 => ?_⟩⟩, fun z => absurd rfl z⟩) (fun k1 k2 z3 => ⟨fun z => absurd z (by decide), fun _ => hB0 k1 k2 z3 _ _ _ _ _ _⟩) (fun k1 k2 z3 => ⟨fun z => absurd z (by decide), fun _ => hB1 k1 k2 z3 _ _ _ _ _ _⟩) (fun k1 z3 => ⟨fun z => absurd z (by decide), fun _ => hC0 k1 z3 _ _ _ _ _ _⟩) (fun k1 z3 => ?_)
  · obtain ⟨I1, I2⟩ := op_v_I hI hn ha h0 h17 k1 k2
    have r12 : mmd_ballot (md_of (ps_set N 18 (ci N n a) (N 12 n)) E va dn an mb ac ae) (nI n).toNatClampNeg = nI (N 12 n) := by
      rw [rd_ballot, ps_reg N (by decide)]; exact rdN N 12 hn
    rw [r12] at e9
    obtain rfl := e9.trans (mx_voteBallot (N 12 n) hc)
    have r17 : mmd_command (md_of (ps_set (ps_set N 18 (ci N n a) (N 12 n)) 19 (ci N n a) (N 12 n)) E va dn an mb ac ae) (nI n).toNatClampNeg = nI (N 17 n - 1) := by
      rw [rd_command, ps_reg _ (by decide), ps_reg N (by decide), nI_clamp (by omega), ← nI_m1 h17]
    rw [r17] at e10
    obtain rfl := e10.trans (mx_voteCommand (N 17 n - 1) hc)
    rw [op_v1_eq]
    refine ⟨fun z3 => hA0 k1 k2 z3 _ _ _ _ _ _, fun z3 => ⟨hv, hv, fun w12 e12 => ⟨hv, ?_⟩⟩⟩
    have r14 : mmd_voters (md_of (op_v1 N n a) E va dn an mb ac ae) (nI n).toNatClampNeg = nI (N 14 n) := by
      rw [rd_voters, op_v1_r N n a (by decide) (by decide) (by decide)]; exact rdN N 14 hn
    rw [r14, bi_set _ _ (by omega)] at e12
    obtain rfl := e12.trans (mw_voters (N 14 n ||| 2 ^ a) hn)
    have hVe : ps_set (op_v1 N n a) 14 n (N 14 n ||| 2 ^ a) = op_v2 N n a := rfl
    rw [hVe]
    have v14 : op_v2 N n a 14 n = N 14 n ||| 2 ^ a := ps_eq _ 14 n _
    have v11 : op_v2 N n a 11 n = N 11 n := by rw [op_v2_r N n a (by decide) (by decide) (by decide) (by decide)]
    have v5' : op_v2 N n a 5 n = N 5 n := by rw [op_v2_r N n a (by decide) (by decide) (by decide) (by decide)]
    have v17 : op_v2 N n a 17 n = N 17 n := by rw [op_v2_r N n a (by decide) (by decide) (by decide) (by decide)]
    have v3 : op_v2 N n a 3 = N 3 := op_v2_r N n a (by decide) (by decide) (by decide) (by decide)
    have vcl : cl (op_v2 N n a) n = cl N n := by unfold cl; rw [v5', v11]
    have r14' : mmd_voters (md_of (op_v2 N n a) E va dn an mb ac ae) (nI n).toNatClampNeg = nI (op_v2 N n a 14 n) := rdN (op_v2 N n a) 14 hn
    rw [r14']
    obtain ⟨V, hV⟩ : ∃ V, V = op_v2 N n a := ⟨_, rfl⟩
    have kAn := hAn k1 k2 z3
    have kAy := hAy k1 k2 z3
    rw [← hV] at I2 v14 v11 v5' v17 v3 vcl kAn kAy ⊢
    have w3 := I2.2.2.1 n hn
    refine p_majority I2.1 I2.2.1 hn w3 w3.2.2.2.2.2.2.2.2.1 (fun hj => br1 ?_) (fun hj => br0 (kAn hj _ _ _ _ _ _))
    have kgo := kAy hj
    have rd : mmd_decided (md_r V E (rr_nd V E n) va dn an) (nI (cl N n)).toNatClampNeg = nI (V 3 (cl V n)) - 1 := by
      rw [vcl]
      exact dec_rd V E _ _ _ _ _ _ hcl
    have d3 := I2.2.1 (cl V n)
    have d30 := I2.1.1
    rw [rd]
    refine ⟨vp_in_nI hcl (by decide), fun z => ⟨hv, hv, hv, fun w ew => ?_⟩, fun z => ⟨hv, vp_in_nI hcl (by decide), fun w20 e20 => ⟨hv, hv, hv, fun w21 e21 => ?_⟩⟩⟩
    · have zc : V 3 (cl V n) ≠ 0 := (le0_dec (by omega)).mp z
      have rk : mmd_known (md_r V E (rr_nd V E n) va dn an) (nI n).toNatClampNeg = nI (V 7 n) := rdN V 7 hn
      have rs : mmd_slot (md_r V E (rr_nd V E n) va dn an) (nI n).toNatClampNeg = nI (V 11 n) := rdN V 11 hn
      rw [rk, rs, bi_set _ _ (by omega)] at ew
      obtain rfl := ew.trans (mw_known (V 7 n ||| 2 ^ V 11 n) hn)
      have : op_k V n = ps_set V 7 n (V 7 n ||| 2 ^ V 11 n) := by
        unfold op_k op_d
        rw [if_neg zc, ps_self]
      rw [this] at kgo
      exact kgo _ _ _ _ _ _
    · have zc : V 3 (cl V n) = 0 := by
        apply Classical.byContradiction
        intro q
        exact z ((le0_dec (by omega)).mpr q)
      have rc : mmd_command (md_r V E (rr_nd V E n) va dn an) (nI n).toNatClampNeg = nI (V 17 n) - 1 := by
        show nI (V 17 (nI n).toNatClampNeg) - 1 = _
        rw [nI_clamp (by omega)]
      have e20' : w20 = md_of (op_d V n) E (md_v (rr_nd V E n) va) (md_d (rr_nd V E n) dn) (md_a (rr_nd V E n) an) (nI (rr_nd V E n).2.2.1) (nI (rr_nd V E n).1) (nI (rr_nd V E n).2.1) := by
        rw [e20, rc, nI_clamp (n := cl N n) (by omega), ← vcl]
        unfold op_d
        rw [if_pos zc]
        exact ms_decided V E _ _ _ _ _ _ (cl V n) (V 17 n) (by rw [vcl]; exact hcl)
      subst e20'
      have rk : mmd_known (md_of (op_d V n) E (md_v (rr_nd V E n) va) (md_d (rr_nd V E n) dn) (md_a (rr_nd V E n) an) (nI (rr_nd V E n).2.2.1) (nI (rr_nd V E n).1) (nI (rr_nd V E n).2.1)) (nI n).toNatClampNeg = nI (V 7 n) := by
        rw [rd_known, op_d_r V n (by decide)]; exact rdN V 7 hn
      have rs : mmd_slot (md_of (op_d V n) E (md_v (rr_nd V E n) va) (md_d (rr_nd V E n) dn) (md_a (rr_nd V E n) an) (nI (rr_nd V E n).2.2.1) (nI (rr_nd V E n).1) (nI (rr_nd V E n).2.1)) (nI n).toNatClampNeg = nI (V 11 n) := by
        rw [rd_slot, op_d_r V n (by decide)]; exact rdN V 11 hn
      rw [rk, rs, bi_set _ _ (by omega)] at e21
      obtain rfl := e21.trans (mw_known (V 7 n ||| 2 ^ V 11 n) hn)
      exact kgo _ _ _ _ _ _
  · have hne : a ≠ n := fun e => by subst e; omega
    have hl : lat N a n := by unfold lat; omega
    exact p_instM ha hn hI hne (fun _ => ⟨fun z => absurd z (by decide), fun _ => hC1 k1 z3 _ _ _ _ _ _⟩) (fun q => absurd hl q)
