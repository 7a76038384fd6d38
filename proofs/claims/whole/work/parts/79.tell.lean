/-! tell -/
theorem rr_fix {M : PM} {E : PE} (h1 : nv_1 M E) (h2 : nv_2 M) : ∀ {J : Nat}, rr_ok M E J → (∀ k, 4 ≤ k → (rr_pth M E J).2.2.2.1 k = 0) ∧ (∀ k, 31 ≤ k → (rr_pth M E J).2.2.2.2.2 k = 0)
  | 0, _ => ⟨fun _ _ => rfl, fun _ _ => rfl⟩
  | J + 1, h => by
    obtain ⟨iv, ia⟩ := rr_fix h1 h2 (rr_ok_le h (show J ≤ J + 1 by omega))
    have hq := rr_cmd_le h2 (rr_pth M E J)
    have h30 := h1.1
    show (∀ k, 4 ≤ k → (rr_step M E (rr_pth M E J) (rr_cmd M (rr_pth M E J) - 1)).2.2.2.1 k = 0) ∧ (∀ k, 31 ≤ k → (rr_step M E (rr_pth M E J) (rr_cmd M (rr_pth M E J) - 1)).2.2.2.2.2 k = 0)
    have ha : ∀ x k, 31 ≤ k → upd (rr_pth M E J).2.2.2.2.2 (rr_cmd M (rr_pth M E J) - 1) x k = 0 := fun x k hk => by
      unfold upd; rw [if_neg (by omega)]; exact ia k hk
    unfold rr_step
    split
    · exact ⟨iv, ia⟩
    · rename_i hq0
      have hq1 : 1 ≤ rr_cmd M (rr_pth M E J) - 1 := by
        rcases Nat.eq_zero_or_pos (rr_cmd M (rr_pth M E J) - 1) with z | z
        · exact absurd (Or.inl z) hq0
        · exact z
      have hk3 := (h1.2.2.2 _ hq1 hq).2.1
      have hv : ∀ x k, 4 ≤ k → upd (rr_pth M E J).2.2.2.1 (M 2 (rr_cmd M (rr_pth M E J) - 1)) x k = 0 := fun x k hk => by
        unfold upd; rw [if_neg (by omega)]; exact iv k hk
      split
      · split
        · exact ⟨iv, ha _⟩
        · exact ⟨iv, ha _⟩
      · split
        · exact ⟨iv, ha _⟩
        · split
          · exact ⟨hv _, ha _⟩
          · exact ⟨hv _, ha _⟩
theorem cpy_eq {f g : Nat → Int32} {n : Nat} (hf : ∀ k, n ≤ k → f k = 0) (hg : ∀ k, n ≤ k → g k = 0) : va_cpy f g 0 0 n = f := by
  funext k
  unfold va_cpy
  by_cases h : k < n
  · rw [if_pos ⟨by omega, by omega⟩, show 0 + (k - 0) = k by omega]
  · rw [if_neg (by omega), hf k (by omega), hg k (by omega)]
theorem gI_of {M : PM} {E : PE} {t n : Nat} (hn : n < 6) (h : nv_I M E t) : gI M E t n := by
  obtain ⟨n1, n2, n3, n4, n5, n6⟩ := h
  obtain ⟨a1, a2, a3, a4, a5, a6, -, a7, a8, a9, a10⟩ := n3 n hn
  exact ⟨n1, n2, fun i hi _ => n3 i hi, ⟨a1, a2, a3, a4, a5, a6, a7, a8, a9, a10⟩, n4, n5, n6⟩
def op_in (M : PM) (a n : Nat) : PM := fun r i => if i = n then (if r = 5 then M 5 a else if r = 6 then M 6 a else if r = 7 ∨ r = 11 then 0 else M r i) else M r i
theorem op_in_sg (M : PM) (a n : Nat) : sg M (op_in M a n) n := by
  intro r i h
  unfold op_in
  rcases h with h | ⟨h5, h6, h7, h11⟩
  · rw [if_neg h]
  · simp [h5, h6, h7, h11]
theorem op_in_eq (M : PM) (a n : Nat) (ha : a ≠ n) : ps_set (ps_set (ps_set (ps_set M 5 n (M 5 a)) 6 n (M 6 a)) 7 n 0) 11 n 0 = op_in M a n := by
  funext r i
  by_cases hi : i = n
  · subst hi
    by_cases h5 : r = 5
    · subst h5; simp [ps_set, op_in]
    · by_cases h6 : r = 6
      · subst h6; simp [ps_set, op_in]
      · by_cases h7 : r = 7
        · subst h7; simp [ps_set, op_in]
        · by_cases h11 : r = 11
          · subst h11; simp [ps_set, op_in]
          · simp [ps_set, op_in, h5, h6, h7, h11]
  · simp [ps_set, op_in, hi]
theorem op_in_I {M : PM} {E : PE} {t a n : Nat} (ha : a < 6) (hn : n < 6) (hI : nv_I M E t) (hl : M 5 n ≤ M 5 a) : gI (op_in M a n) E t n ∧ rr_nd (op_in M a n) E n = rr_nd M E a := by
  have hs := op_in_sg M a n
  have hg := gI_of hn hI
  have hx : px_ext M E (op_in M a n) E := sg_ext hs hg.2.1
  obtain ⟨hp, q9, q10, q7, qk, q11, q13, q14, q16, q17⟩ := hg.2.2.2.1
  obtain ⟨J, hJ, e5, e6, er⟩ := nd_path (hI.2.2.1 a ha)
  obtain ⟨p1, p2⟩ := rr_ext hx hJ
  have a5 : op_in M a n 5 n = M 5 a := by simp [op_in]
  have a6 : op_in M a n 6 n = M 6 a := by simp [op_in]
  have a7 : op_in M a n 7 n = 0 := by simp [op_in]
  have a11 : op_in M a n 11 n = 0 := by simp [op_in]
  refine ⟨sg_I hg hs ?_ (Or.inl a11), ?_⟩
  · have gg := fun r (a : r ≠ 5) (b : r ≠ 6) (c : r ≠ 7) (d : r ≠ 11) => sg_r (r := r) hs a b c d
    unfold nv_g
    rw [gg 9 (by decide) (by decide) (by decide) (by decide), gg 10 (by decide) (by decide) (by decide) (by decide), gg 0 (by decide) (by decide) (by decide) (by decide), gg 13 (by decide) (by decide) (by decide) (by decide), gg 14 (by decide) (by decide) (by decide) (by decide), gg 16 (by decide) (by decide) (by decide) (by decide), gg 17 (by decide) (by decide) (by decide) (by decide), a5, a6, a7, a11]
    refine ⟨⟨J, p2, by rw [p1]; exact e5, by rw [p1]; exact e6⟩, by omega, q10, by decide, fun s hs => ?_, by decide, q13, q14, q16, q17⟩
    rw [Nat.zero_testBit] at hs
    exact absurd hs (by decide)
  · rw [er, ← p1]
    unfold rr_nd
    rw [a5, a6, ← e5, ← e6, ← p1]
    exact rr_at_pth p2
theorem nd_in {M : PM} {E : PE} {t a n : Nat} (ha : a < 6) (hn : n < 6) (hI : nv_I M E t) (hl : M 5 n ≤ M 5 a) : mnd_s_attempt (mnd_s_knownCommands (mnd_s_state (nd_of M E n) (st_of (rr_nd M E a))) (fun j => if j < 9 then -1 else mnd_knownCommands (mnd_s_state (nd_of M E n) (st_of (rr_nd M E a))) j)) at0 = nd_of (op_in M a n) E n := by
  have hs := op_in_sg M a n
  have gg := fun r (a : r ≠ 5) (b : r ≠ 6) (c : r ≠ 7) (d : r ≠ 11) => sg_r (r := r) hs a b c d
  refine nd_mk (M := op_in M a n) (E := E) (n := n) ?_ ?_ (lg_same (gg 18 (by decide) (by decide) (by decide) (by decide)) (gg 19 (by decide) (by decide) (by decide) (by decide)) (gg 20 (by decide) (by decide) (by decide) (by decide))).symm (by rw [gg 8 (by decide) (by decide) (by decide) (by decide)]; rfl) (by rw [gg 9 (by decide) (by decide) (by decide) (by decide)]; rfl) ?_ (by rw [gg 10 (by decide) (by decide) (by decide) (by decide)]; rfl) ?_
  · unfold up_of; rw [gg 0 (by decide) (by decide) (by decide) (by decide)]; rfl
  · rw [(op_in_I ha hn hI hl).2]; rfl
  · rw [kn_none (M := op_in M a n) (n := n) (by simp [op_in])]
    exact kn_fill
  · unfold at_of
    rw [show op_in M a n 11 n = 0 by simp [op_in], if_pos rfl]
/-- a is later than n -/
def lat (M : PM) (a n : Nat) : Prop := M 5 n < M 5 a ∨ (M 5 a = M 5 n ∧ M 6 n < M 6 a)
theorem p_instC {M : PM} {E : PE} {t a n : Nat} {post : Int32 → MndT → MstT → Prop} (ha : a < 6) (hn : n < 6) (hI : nv_I M E t) (hy : lat M a n → post 1 (nd_of (op_in M a n) E n) (st_of (rr_nd M E a))) (hx : ¬ lat M a n → post 0 (nd_of M E n) (st_of (rr_nd M E a))) : wp_Nd_install (nd_of M E n) (mnd_state (nd_of M E a)) post := by
  have ba := nd_mem hI.1 hI.2.1 (hI.2.2.1 a ha)
  have bn := nd_mem hI.1 hI.2.1 (hI.2.2.1 n hn)
  have e1 : mst_configuration (mnd_state (nd_of M E a)) = nI (M 5 a) := by
    show nI (rr_nd M E a).1 = _
    rw [ba.2.1]
  have e2 : mst_configuration (mnd_state (nd_of M E n)) = nI (M 5 n) := by
    show nI (rr_nd M E n).1 = _
    rw [bn.2.1]
  have e3 : mst_executed (mnd_state (nd_of M E a)) = nI (M 6 a) := by
    show nI (rr_nd M E a).2.1 = _
    rw [ba.2.2.1]
  have e4 : mst_executed (mnd_state (nd_of M E n)) = nI (M 6 n) := by
    show nI (rr_nd M E n).2.1 = _
    rw [bn.2.2.1]
  have hno : ¬ lat M a n → ((0 : Int32) = 0 → (post (0 : Int32) (mnd_s_state (nd_of M E n) (mnd_state (nd_of M E n))) (mnd_state (nd_of M E a)))) := fun z _ => hx z
  have hys : lat M a n → wp_St_copyFrom (mnd_state (nd_of M E n)) (mnd_state (nd_of M E a)) (fun (u6 : MstT) (u7 : MstT) => (wp_Nd_leaveList (mnd_s_state (mnd_s_state (nd_of M E n) (mnd_state (nd_of M E n))) u6) (fun (u9 : MndT) => (post (1 : Int32) u9 u7)))) := by
    intro hl
    obtain ⟨J, hJ, -, -, er⟩ := nd_path (hI.2.2.1 a ha)
    obtain ⟨J', hJ', -, -, er'⟩ := nd_path (hI.2.2.1 n hn)
    obtain ⟨f1, f2⟩ := rr_fix hI.1 hI.2.1 hJ
    obtain ⟨f3, f4⟩ := rr_fix hI.1 hI.2.1 hJ'
    rw [← er] at f1 f2
    rw [← er'] at f3 f4
    have hle : M 5 n ≤ M 5 a := by unfold lat at hl; omega
    unfold wp_St_copyFrom
    refine p_leaveList ?_
    have ev : va_cpy (mst_values (mnd_state (nd_of M E a))) (mst_values (mnd_state (nd_of M E n))) ((0 : Int32)).toNatClampNeg ((0 : Int32)).toNatClampNeg ((4 : Int32)).toNatClampNeg = (rr_nd M E a).2.2.2.1 := cpy_eq (n := 4) f1 f3
    have ew : va_cpy (mst_answers (mnd_state (nd_of M E a))) (mst_answers (mnd_state (nd_of M E n))) ((0 : Int32)).toNatClampNeg ((0 : Int32)).toNatClampNeg ((31 : Int32)).toNatClampNeg = (rr_nd M E a).2.2.2.2.2 := cpy_eq (n := 31) f2 f4
    rw [ev, ew]
    have := hy hl
    rw [← nd_in ha hn hI hle] at this
    exact this
  unfold wp_Nd_install wp_St_isLaterThan
  rw [e1, e2, e3, e4]
  refine ⟨fun z => ⟨fun z2 => ?_, fun z2 => ?_⟩, fun z => ⟨fun z2 => ?_, fun z2 => ?_⟩⟩
  · have q1 : M 5 a = M 5 n := (nI_eq (by omega) (by omega)).mp z
    have q2 : M 6 a ≤ M 6 n := (nI_leI (by omega) (by omega)).mp z2
    exact br0 (hx (by unfold lat; omega))
  · have q1 : M 5 a = M 5 n := (nI_eq (by omega) (by omega)).mp z
    have q2 : ¬ M 6 a ≤ M 6 n := fun q => z2 (nI_le q (by omega))
    exact br1 (hys (Or.inr ⟨q1, by omega⟩))
  · have q1 : ¬ M 5 a = M 5 n := fun q => z (by rw [q])
    have q2 : M 5 a ≤ M 5 n := (nI_leI (by omega) (by omega)).mp z2
    exact br0 (hx (by unfold lat; omega))
  · have q2 : ¬ M 5 a ≤ M 5 n := fun q => z2 (nI_le q (by omega))
    exact br1 (hys (Or.inl (by omega)))
theorem p_instM {M : PM} {E : PE} {t a n : Nat} {va dn an : Nat → Int32} {mb ac ae : Int32} {post : MmdT → Prop} (ha : a < 6) (hn : n < 6) (hI : nv_I M E t) (hne : a ≠ n) (hy : lat M a n → post (md_of (op_in M a n) E va dn an mb ac ae)) (hx : ¬ lat M a n → post (md_of M E va dn an mb ac ae)) : wp_Md_install (md_of M E va dn an mb ac ae) (nI n) (nI a) post := by
  have ba := nd_mem hI.1 hI.2.1 (hI.2.2.1 a ha)
  have bn := nd_mem hI.1 hI.2.1 (hI.2.2.1 n hn)
  have hv : vp_in (nI n) 6 := vp_in_nI hn (by decide)
  have hva : vp_in (nI a) 6 := vp_in_nI ha (by decide)
  have e1 : mmd_configuration (md_of M E va dn an mb ac ae) (nI a).toNatClampNeg = nI (M 5 a) := rdN M 5 ha
  have e2 : mmd_configuration (md_of M E va dn an mb ac ae) (nI n).toNatClampNeg = nI (M 5 n) := rdN M 5 hn
  have e3 : mmd_executed (md_of M E va dn an mb ac ae) (nI a).toNatClampNeg = nI (M 6 a) := rdN M 6 ha
  have e4 : mmd_executed (md_of M E va dn an mb ac ae) (nI n).toNatClampNeg = nI (M 6 n) := rdN M 6 hn
  unfold wp_Md_install wp_Md_later
  rw [e1, e2, e3, e4]
  have hys : lat M a n → (vp_in (nI a) 6 ∧ (vp_in (nI n) 6 ∧ (∀ w4 : MmdT, w4 = mmd_s_configuration (md_of M E va dn an mb ac ae) (upd (mmd_configuration (md_of M E va dn an mb ac ae)) (nI n).toNatClampNeg ((mmd_configuration (md_of M E va dn an mb ac ae)) (nI a).toNatClampNeg)) → (vp_in (nI a) 6 ∧ (vp_in (nI n) 6 ∧ (∀ w5 : MmdT, w5 = mmd_s_executed w4 (upd (mmd_executed w4) (nI n).toNatClampNeg ((mmd_executed w4) (nI a).toNatClampNeg)) → (vp_in (nI n) 6 ∧ (∀ w6 : MmdT, w6 = mmd_s_known w5 (upd (mmd_known w5) (nI n).toNatClampNeg (0 : Int32)) → (vp_in (nI n) 6 ∧ (∀ w7 : MmdT, w7 = mmd_s_slot w6 (upd (mmd_slot w6) (nI n).toNatClampNeg (0 : Int32)) → (post w7))))))))))) := by
    intro hl
    refine ⟨hva, hv, fun w ew => ?_⟩
    rw [e1] at ew
    obtain rfl := ew.trans (mw_configuration (M 5 a) hn)
    refine ⟨hva, hv, fun w ew => ?_⟩
    have e6 : mmd_executed (md_of (ps_set M 5 n (M 5 a)) E va dn an mb ac ae) (nI a).toNatClampNeg = nI (M 6 a) := by
      rw [rd_executed, ps_reg M (by decide)]
      exact rdN M 6 ha
    rw [e6] at ew
    obtain rfl := ew.trans (mw_executed (M 6 a) hn)
    refine ⟨hv, fun w ew => ?_⟩
    rw [← nI_0] at ew
    obtain rfl := ew.trans (mw_known 0 hn)
    refine ⟨hv, fun w ew => ?_⟩
    rw [← nI_0] at ew
    obtain rfl := ew.trans (mw_slot 0 hn)
    rw [op_in_eq M a n hne]
    exact hy hl
  refine ⟨hva, hva, hv, fun z => br1 (hys ?_), fun z => ⟨hv, fun z2 => ⟨hv, fun z3 => br0 (hx ?_), fun z3 => br1 (hys ?_)⟩, fun z2 => br0 (hx ?_)⟩⟩
  · exact Or.inl ((nI_ltI (by omega) (by omega)).mp z)
  · have q1 : M 5 a = M 5 n := (nI_eq (by omega) (by omega)).mp z2
    have q2 : M 6 a ≤ M 6 n := (nI_leI (by omega) (by omega)).mp z3
    unfold lat; omega
  · have q1 : M 5 a = M 5 n := (nI_eq (by omega) (by omega)).mp z2
    have q2 : ¬ M 6 a ≤ M 6 n := fun q => z3 (nI_le q (by omega))
    exact Or.inr ⟨q1, by omega⟩
  · have q1 : ¬ M 5 n < M 5 a := fun q => z (nI_lt q (by omega))
    have q2 : ¬ M 5 a = M 5 n := fun q => z2 (by rw [q])
    unfold lat; omega
