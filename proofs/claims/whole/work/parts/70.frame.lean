/-! writes of the model, by the node -/
theorem mw_configuration {M : PM} {E : PE} {va dn an : Nat → Int32} {mb ac ae : Int32} {n : Nat} (v : Nat) (hn : n < 6) : mmd_s_configuration (md_of M E va dn an mb ac ae) (upd (mmd_configuration (md_of M E va dn an mb ac ae)) (nI n).toNatClampNeg (nI v)) = md_of (ps_set M 5 n v) E va dn an mb ac ae := by
  rw [nI_clamp (by omega)]; exact ms_configuration M E va dn an mb ac ae n v
theorem mw_executed {M : PM} {E : PE} {va dn an : Nat → Int32} {mb ac ae : Int32} {n : Nat} (v : Nat) (hn : n < 6) : mmd_s_executed (md_of M E va dn an mb ac ae) (upd (mmd_executed (md_of M E va dn an mb ac ae)) (nI n).toNatClampNeg (nI v)) = md_of (ps_set M 6 n v) E va dn an mb ac ae := by
  rw [nI_clamp (by omega)]; exact ms_executed M E va dn an mb ac ae n v
theorem mw_known {M : PM} {E : PE} {va dn an : Nat → Int32} {mb ac ae : Int32} {n : Nat} (v : Nat) (hn : n < 6) : mmd_s_known (md_of M E va dn an mb ac ae) (upd (mmd_known (md_of M E va dn an mb ac ae)) (nI n).toNatClampNeg (nI v)) = md_of (ps_set M 7 n v) E va dn an mb ac ae := by
  rw [nI_clamp (by omega)]; exact ms_known M E va dn an mb ac ae n v
theorem mw_last {M : PM} {E : PE} {va dn an : Nat → Int32} {mb ac ae : Int32} {n : Nat} (v : Nat) (hn : n < 6) : mmd_s_last (md_of M E va dn an mb ac ae) (upd (mmd_last (md_of M E va dn an mb ac ae)) (nI n).toNatClampNeg (nI v)) = md_of (ps_set M 8 n v) E va dn an mb ac ae := by
  rw [nI_clamp (by omega)]; exact ms_last M E va dn an mb ac ae n v
theorem mw_retired {M : PM} {E : PE} {va dn an : Nat → Int32} {mb ac ae : Int32} {n : Nat} (v : Nat) (hn : n < 6) : mmd_s_retired (md_of M E va dn an mb ac ae) (upd (mmd_retired (md_of M E va dn an mb ac ae)) (nI n).toNatClampNeg (nI v)) = md_of (ps_set M 9 n v) E va dn an mb ac ae := by
  rw [nI_clamp (by omega)]; exact ms_retired M E va dn an mb ac ae n v
theorem mw_pending {M : PM} {E : PE} {va dn an : Nat → Int32} {mb ac ae : Int32} {n : Nat} (v : Nat) (hn : n < 6) : mmd_s_pending (md_of M E va dn an mb ac ae) (upd (mmd_pending (md_of M E va dn an mb ac ae)) (nI n).toNatClampNeg (nI v)) = md_of (ps_set M 10 n v) E va dn an mb ac ae := by
  rw [nI_clamp (by omega)]; exact ms_pending M E va dn an mb ac ae n v
theorem mw_slot {M : PM} {E : PE} {va dn an : Nat → Int32} {mb ac ae : Int32} {n : Nat} (v : Nat) (hn : n < 6) : mmd_s_slot (md_of M E va dn an mb ac ae) (upd (mmd_slot (md_of M E va dn an mb ac ae)) (nI n).toNatClampNeg (nI v)) = md_of (ps_set M 11 n v) E va dn an mb ac ae := by
  rw [nI_clamp (by omega)]; exact ms_slot M E va dn an mb ac ae n v
theorem mw_ballot {M : PM} {E : PE} {va dn an : Nat → Int32} {mb ac ae : Int32} {n : Nat} (v : Nat) (hn : n < 6) : mmd_s_ballot (md_of M E va dn an mb ac ae) (upd (mmd_ballot (md_of M E va dn an mb ac ae)) (nI n).toNatClampNeg (nI v)) = md_of (ps_set M 12 n v) E va dn an mb ac ae := by
  rw [nI_clamp (by omega)]; exact ms_ballot M E va dn an mb ac ae n v
theorem mw_promisers {M : PM} {E : PE} {va dn an : Nat → Int32} {mb ac ae : Int32} {n : Nat} (v : Nat) (hn : n < 6) : mmd_s_promisers (md_of M E va dn an mb ac ae) (upd (mmd_promisers (md_of M E va dn an mb ac ae)) (nI n).toNatClampNeg (nI v)) = md_of (ps_set M 13 n v) E va dn an mb ac ae := by
  rw [nI_clamp (by omega)]; exact ms_promisers M E va dn an mb ac ae n v
theorem mw_voters {M : PM} {E : PE} {va dn an : Nat → Int32} {mb ac ae : Int32} {n : Nat} (v : Nat) (hn : n < 6) : mmd_s_voters (md_of M E va dn an mb ac ae) (upd (mmd_voters (md_of M E va dn an mb ac ae)) (nI n).toNatClampNeg (nI v)) = md_of (ps_set M 14 n v) E va dn an mb ac ae := by
  rw [nI_clamp (by omega)]; exact ms_voters M E va dn an mb ac ae n v
theorem mw_bestBallot {M : PM} {E : PE} {va dn an : Nat → Int32} {mb ac ae : Int32} {n : Nat} (v : Nat) (hn : n < 6) : mmd_s_bestBallot (md_of M E va dn an mb ac ae) (upd (mmd_bestBallot (md_of M E va dn an mb ac ae)) (nI n).toNatClampNeg (nI v)) = md_of (ps_set M 15 n v) E va dn an mb ac ae := by
  rw [nI_clamp (by omega)]; exact ms_bestBallot M E va dn an mb ac ae n v
theorem mw_bestCommand {M : PM} {E : PE} {va dn an : Nat → Int32} {mb ac ae : Int32} {n : Nat} (v : Nat) (hn : n < 6) : mmd_s_bestCommand (md_of M E va dn an mb ac ae) (upd (mmd_bestCommand (md_of M E va dn an mb ac ae)) (nI n).toNatClampNeg (nI v)) = md_of (ps_set M 16 n v) E va dn an mb ac ae := by
  rw [nI_clamp (by omega)]; exact ms_bestCommand M E va dn an mb ac ae n v
/-! what stays of a node -/
def ns_at (M M' : PM) (i : Nat) : Prop := ∀ r, 5 ≤ r → r ≤ 17 → M' r i = M r i
theorem rr_nd_ext {M M' : PM} {E E' : PE} {n : Nat} (hx : px_ext M E M' E') (h : nv_n M E n) (h5 : M' 5 n = M 5 n) (h6 : M' 6 n = M 6 n) : rr_nd M' E' n = rr_nd M E n := by
  obtain ⟨J, hJ, e5, e6, er⟩ := nd_path h
  obtain ⟨p1, p2⟩ := rr_ext hx hJ
  rw [er, ← p1]
  unfold rr_nd
  have := rr_at_pth p2
  rw [p1, e5, e6] at this
  rw [h5, h6, this, p1]
theorem nv_n_ext {M M' : PM} {E E' : PE} {n : Nat} (hx : px_ext M E M' E') (hs : ns_at M M' n) (h : nv_n M E n) : nv_n M' E' n := by
  obtain ⟨⟨J, hJ, e5, e6⟩, h9, h10, h7, hk, h11, ha, h13, h14, h16, h17⟩ := h
  obtain ⟨p1, p2⟩ := rr_ext hx hJ
  have g := fun r h1 h2 => hs r h1 h2
  have hm := hx.2.2.2
  unfold nv_n
  rw [g 5 (by omega) (by omega), g 6 (by omega) (by omega), g 7 (by omega) (by omega), g 9 (by omega) (by omega), g 10 (by omega) (by omega), g 11 (by omega) (by omega), g 13 (by omega) (by omega), g 14 (by omega) (by omega), g 16 (by omega) (by omega), g 17 (by omega) (by omega)]
  refine ⟨⟨J, p2, by rw [p1]; exact e5, by rw [p1]; exact e6⟩, h9, by omega, h7, fun s hs => ?_, h11, ha, h13, h14, by omega, by omega⟩
  obtain ⟨k1, k2, k3⟩ := hk s hs
  exact ⟨k1, k2, by rw [hx.1 _ k3]; exact k3⟩
theorem nd_ext {M M' : PM} {E E' : PE} {i : Nat} (hx : px_ext M E M' E') (h : nv_n M E i) (hs : ns_at M M' i) (hl : ∀ j, 45 * i ≤ j → j < 45 * i + 45 → M' 18 j = M 18 j ∧ M' 19 j = M 19 j ∧ M' 20 j = M 20 j) (hu : (M' 0 2).testBit i = (M 0 2).testBit i) : nd_of M' E' i = nd_of M E i := by
  have e1 : up_of M' i = up_of M i := by unfold up_of; rw [hu]
  have e2 := rr_nd_ext hx h (hs 5 (by omega) (by omega)) (hs 6 (by omega) (by omega))
  have e3 : lg_of M' i = lg_of M i := by
    unfold lg_of
    simp only [Prod.mk.injEq]
    refine ⟨funext fun j => ?_, funext fun j => ?_, funext fun j => ?_⟩
    · by_cases hj : j < 40
      · rw [if_pos hj, if_pos hj, (hl _ (by omega) (by omega)).1]
      · rw [if_neg hj, if_neg hj]
    · by_cases hj : j < 40
      · rw [if_pos hj, if_pos hj, (hl _ (by omega) (by omega)).2.1]
      · rw [if_neg hj, if_neg hj]
    · by_cases hj : j < 40
      · rw [if_pos hj, if_pos hj, (hl _ (by omega) (by omega)).2.2]
      · rw [if_neg hj, if_neg hj]
  have e4 : kn_of M' i = kn_of M i := by
    funext s
    unfold kn_of
    rw [hs 7 (by omega) (by omega), hs 5 (by omega) (by omega)]
    by_cases h9 : s < 9
    · rw [if_pos h9, if_pos h9]
      by_cases hb : (M 7 i).testBit s = true
      · rw [if_pos hb, if_pos hb, hx.1 _ (h.2.2.2.2.1 s hb).2.2]
      · rw [if_neg hb, if_neg hb]
    · rw [if_neg h9, if_neg h9]
  have e5 : at_of M' i = at_of M i := by
    unfold at_of
    rw [hs 11 (by omega) (by omega), hs 12 (by omega) (by omega), hs 13 (by omega) (by omega), hs 14 (by omega) (by omega), hs 15 (by omega) (by omega), hs 16 (by omega) (by omega), hs 17 (by omega) (by omega)]
  unfold nd_of
  rw [e1, e2, e3, e4, e5, hs 8 (by omega) (by omega), hs 9 (by omega) (by omega), hs 10 (by omega) (by omega)]
/-- a step that changes one node, and nothing of the ledgers or the decided commands -/
theorem nv_upd {M M' : PM} {E E' : PE} {t k : Nat} (hI : nv_I M E t) (hk6 : k < 6) (gE : E' 0 = E 0) (g0 : M' 0 0 = M 0 0) (g1 : M' 1 = M 1) (g2 : M' 2 = M 2) (g3 : M' 3 = M 3) (g9 : M' 9 = M 9) (g18 : M' 18 = M 18) (g19 : M' 19 = M 19) (g20 : M' 20 = M 20) (hs : ∀ i, i ≠ k → ns_at M M' i) (h8 : M 8 k ≤ M' 8 k) (h8t : M' 8 k ≤ 6 * t + 18) (h01 : M' 0 1 ≤ 4) (h02 : M' 0 2 < 64) (h12 : M' 12 k = M 12 k) (h15 : M' 15 k = M 15 k) (hk : nv_n M' E' k) (hat : M' 11 k = 0 ∨ (M' 5 k = M 5 k ∧ ∀ r, 11 ≤ r → r ≤ 17 → M' r k = M r k)) : nv_I M' E' (t + 1) ∧ px_ext M E M' E' := by
  obtain ⟨n1, n2, n3, ⟨n4, n4'⟩, n5, n6⟩ := hI
  have hx : px_ext M E M' E' := ⟨fun k _ => by rw [g3], fun q _ => ⟨by rw [g1], by rw [g2], by rw [gE]⟩, n2, by rw [g0]; exact Nat.le_refl _⟩
  refine ⟨⟨?_, ?_, ?_, ?_, ?_, ?_⟩, hx⟩
  · unfold nv_1
    rw [g0, g1, g2, gE]
    exact ⟨n1.1, h01, h02, n1.2.2.2⟩
  · intro j; rw [g3, g0]; exact n2 j
  · intro i hi
    by_cases e : i = k
    · subst e; exact hk
    · exact nv_n_ext hx (hs i e) (n3 i hi)
  · refine ⟨fun i hi => ?_, fun j => ?_⟩
    · by_cases e : i = k
      · subst e
        have := n4 i hi
        rw [h12, h15]
        omega
      · have := n4 i hi
        rw [hs i e 8 (by omega) (by omega), hs i e 12 (by omega) (by omega), hs i e 15 (by omega) (by omega)]
        omega
    · have := n4' j
      rw [g18, g19, g20, g0]
      omega
  · unfold nv_5; rw [g19, g20]; exact n5
  · refine px_frame hx g3 (fun i => ?_) g9 g18 g19 g20 (fun i hi h11 => ?_) n6
    · by_cases e : i = k
      · subst e; exact h8
      · rw [hs i e 8 (by omega) (by omega)]; exact Nat.le_refl _
    · by_cases e : i = k
      · subst e
        rcases hat with z | ⟨z5, z⟩
        · exact absurd z h11
        · exact ⟨z 11 (by omega) (by omega), z5, z 12 (by omega) (by omega), z 13 (by omega) (by omega), z 14 (by omega) (by omega), z 15 (by omega) (by omega), z 16 (by omega) (by omega), z 17 (by omega) (by omega)⟩
      · exact ⟨hs i e 11 (by omega) (by omega), hs i e 5 (by omega) (by omega), hs i e 12 (by omega) (by omega), hs i e 13 (by omega) (by omega), hs i e 14 (by omega) (by omega), hs i e 15 (by omega) (by omega), hs i e 16 (by omega) (by omega), hs i e 17 (by omega) (by omega)⟩
theorem RI_upd {M M' : PM} {E E' : PE} {t k : Nat} {zc : MchT} {zn : Nat → MndT} {zm : MmdT} {y : MndT} {va dn an : Nat → Int32} {mb ac ae : Int32} (hI : nv_I M E t) (hN : nv_I M' E' (t + 1) ∧ px_ext M E M' E') (hs : ∀ i, i ≠ k → ns_at M M' i) (g18 : M' 18 = M 18) (g19 : M' 19 = M 19) (g20 : M' 20 = M 20) (hu : ∀ i, i ≠ k → (M' 0 2).testBit i = (M 0 2).testBit i) (hc : zc = ch_of M' E') (hy : y = nd_of M' E' k) (hz : ∀ n, n < 6 → zn n = nd_of M E n) (hm : zm = md_of M' E' va dn an mb ac ae) : RI (t + 1) zc (va_up zn k y) zm :=
  RI_up hN.1 hc hy (fun n hn e => nd_ext hN.2 (hI.2.2.1 n hn) (hs n e) (fun j _ _ => ⟨by rw [g18], by rw [g19], by rw [g20]⟩) (hu n e)) hz hm
theorem up_cases (M : PM) (n : Nat) : (up_of M n = 0 ∧ (M 0 2).testBit n = false) ∨ (up_of M n = 1 ∧ (M 0 2).testBit n = true) := by
  unfold up_of
  cases h : (M 0 2).testBit n
  · left; simp
  · right; simp
theorem p_leaveList {z : MndT} {post : MndT → Prop} (h : post (mnd_s_attempt (mnd_s_knownCommands z (fun j => if j < 9 then -1 else mnd_knownCommands z j)) at0)) : wp_Nd_leaveList z post :=
  p_fill' _ _ _ h
theorem kn_none {M : PM} {n : Nat} (h : M 7 n = 0) : kn_of M n = fun j => if j < 9 then -1 else 0 := by
  funext j
  unfold kn_of
  rw [h]
  simp
theorem kn_fill {M : PM} {n : Nat} : (fun j => if j < 9 then (-1 : Int32) else kn_of M n j) = fun j => if j < 9 then -1 else 0 := by
  funext j
  unfold kn_of
  by_cases h : j < 9
  · simp [h]
  · simp [h]

