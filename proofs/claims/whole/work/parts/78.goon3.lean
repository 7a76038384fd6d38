/-! goOn, whole -/
def go_end (M : PM) (n : Nat) : PM := fun r i => if r = 11 ∧ i = n ∧ (M 11 n ≤ M 6 n ∨ (M 7 n).testBit (M 11 n) = true) then 0 else M r i
theorem go_end_sg (M : PM) (n : Nat) : sg M (go_end M n) n := by
  intro r i h
  unfold go_end
  rw [if_neg (by omega)]
theorem go_end_r {M : PM} {n r : Nat} (h : r ≠ 11) : go_end M n r = M r := funext fun i => by
  unfold go_end
  rw [if_neg (by omega)]
theorem go_end_1 {M : PM} {n : Nat} (h : M 11 n ≤ M 6 n ∨ (M 7 n).testBit (M 11 n) = true) : go_end M n = ps_set M 11 n 0 := by
  funext r i
  unfold go_end ps_set
  by_cases q : r = 11 ∧ i = n
  · rw [if_pos ⟨q.1, q.2, h⟩, if_pos q]
  · rw [if_neg (fun z => q ⟨z.1, z.2.1⟩), if_neg q]
theorem go_end_0 {M : PM} {n : Nat} (h : ¬ (M 11 n ≤ M 6 n ∨ (M 7 n).testBit (M 11 n) = true)) : go_end M n = M := by
  funext r i
  unfold go_end
  rw [if_neg (fun z => h z.2.2)]
theorem go_end_z {M : PM} {n : Nat} (h : M 11 n = 0) : go_end M n = M := by
  funext r i
  unfold go_end
  by_cases q : r = 11 ∧ i = n ∧ (M 11 n ≤ M 6 n ∨ (M 7 n).testBit (M 11 n) = true)
  · rw [if_pos q, q.1, q.2.1, h]
  · rw [if_neg q]
theorem go_end_I {M : PM} {E : PE} {t n : Nat} (hn : n < 6) (hg : gI M E t n) : nv_I (go_end M n) E t := by
  have hs := go_end_sg M n
  have hx : px_ext M E (go_end M n) E := sg_ext hs hg.2.1
  obtain ⟨hp, q9, q10, q7, qk, q11, q13, q14, q16, q17⟩ := hg.2.2.2.1
  have hgn : nv_g (go_end M n) E n := by
    unfold nv_g
    rw [go_end_r (r := 5) (by decide), go_end_r (r := 6) (by decide), go_end_r (r := 7) (by decide), go_end_r (r := 9) (by decide), go_end_r (r := 10) (by decide), go_end_r (r := 0) (by decide), go_end_r (r := 3) (by decide), go_end_r (r := 13) (by decide), go_end_r (r := 14) (by decide), go_end_r (r := 16) (by decide), go_end_r (r := 17) (by decide)]
    refine ⟨?_, q9, q10, q7, qk, ?_, q13, q14, q16, q17⟩
    · obtain ⟨J, hJ, e5, e6⟩ := hp
      obtain ⟨p1, p2⟩ := rr_ext hx hJ
      exact ⟨J, p2, by rw [p1]; exact e5, by rw [p1]; exact e6⟩
    · unfold go_end
      split <;> omega
  have hat : go_end M n 11 n = 0 ∨ (go_end M n 11 n = M 11 n ∧ go_end M n 5 n = M 5 n) := by
    by_cases h : M 11 n ≤ M 6 n ∨ (M 7 n).testBit (M 11 n) = true
    · rw [go_end_1 h, ps_eq]; exact Or.inl rfl
    · rw [go_end_0 h]; exact Or.inr ⟨rfl, rfl⟩
  obtain ⟨m1, m2, m3, m3', m4, m5, m6⟩ := sg_I hg hs hgn hat
  refine ⟨m1, m2, fun i hi => ?_, m4, m5, m6⟩
  by_cases e : i = n
  · subst e
    obtain ⟨a1, a2, a3, a4, a5, a6, a7, a8, a9, a10⟩ := m3'
    refine ⟨a1, a2, a3, a4, a5, a6, fun h0 => ?_, a7, a8, a9, a10⟩
    by_cases h : M 11 i ≤ M 6 i ∨ (M 7 i).testBit (M 11 i) = true
    · rw [go_end_1 h, ps_eq] at h0; exact absurd rfl h0
    · rw [go_end_0 h]
      refine ⟨by omega, ?_⟩
      cases hh : (M 7 i).testBit (M 11 i)
      · rfl
      · exact absurd (Or.inr hh) h
  · exact m3 i hi e
theorem nd_end {M : PM} {E : PE} {t n : Nat} (hg : gI M E t n) (h : M 11 n ≤ M 6 n ∨ (M 7 n).testBit (M 11 n) = true) : mnd_s_attempt (nd_of M E n) at0 = nd_of (go_end M n) E n := by
  have hs := go_end_sg M n
  have hx : px_ext M E (go_end M n) E := sg_ext hs hg.2.1
  refine nd_mk (M := go_end M n) (E := E) (n := n) ?_ ?_ (lg_same (go_end_r (by decide)) (go_end_r (by decide)) (go_end_r (by decide))).symm (by rw [go_end_r (by decide)]; rfl) (by rw [go_end_r (by decide)]; rfl) ?_ (by rw [go_end_r (by decide)]; rfl) ?_
  · unfold up_of; rw [go_end_r (by decide)]; rfl
  · obtain ⟨J, hJ, e5, e6, er⟩ := g_path hg.2.2.2.1.1
    obtain ⟨p1, p2⟩ := rr_ext hx hJ
    have : rr_nd (go_end M n) E n = rr_nd M E n := by
      rw [er, ← p1]
      unfold rr_nd
      rw [go_end_r (r := 5) (by decide), go_end_r (r := 6) (by decide), ← e5, ← e6, ← p1]
      exact rr_at_pth p2
    rw [this]; rfl
  · unfold kn_of; rw [go_end_r (r := 7) (by decide), go_end_r (r := 5) (by decide), go_end_r (r := 3) (by decide)]; rfl
  · unfold at_of
    rw [go_end_1 h, ps_eq, if_pos rfl]
theorem at_end (z : MatT) (post : MatT → Prop) (h : post at0) : wp_At_end z post := h
theorem at_slot {M : PM} {n : Nat} : mat_slot (at_of M n) = nI (M 11 n) := by
  unfold at_of
  split
  · rename_i h; rw [h]; rfl
  · rfl
/-- goOn of the class and of the model, out of a state between two steps -/
theorem go_on {M : PM} {E : PE} {t n : Nat} (hn : n < 6) (hg : gI M E t n) : ∃ M' : PM, nv_I M' E t ∧ sg M M' n ∧ (∀ post : MndT → MbkT → Prop, post (nd_of M' E n) (bk_of M E) → wp_Nd_goOn (nd_of M E n) (bk_of M E) post) ∧ (∀ (va dn an : Nat → Int32) (mb ac ae : Int32) (post : MmdT → Prop), (∀ (va dn an : Nat → Int32) (mb ac ae : Int32), post (md_of M' E va dn an mb ac ae)) → wp_Md_goOn (md_of M E va dn an mb ac ae) (nI n) post) := by
  obtain ⟨hg', hs'⟩ := go_it_I 8 hg
  refine ⟨go_end (go_it E n 8 M) n, go_end_I hn hg', sg_trans hs' (go_end_sg _ n), fun post h => ?_, fun va dn an mb ac ae post h => ?_⟩
  · refine ⟨9, p_goC 8 (by omega) rfl hg (fun y => ?_)⟩
    obtain ⟨N, hN⟩ : ∃ N, N = go_it E n 8 M := ⟨_, rfl⟩
    rw [← hN] at hg' h ⊢
    have hm := g_mem hg'
    have h11 := hg'.2.2.2.1.2.2.2.2.2.1
    have es : mat_slot (mnd_attempt (nd_of N E n)) = nI (N 11 n) := at_slot
    have ee : mst_executed (mnd_state (nd_of N E n)) = nI (N 6 n) := by
      show nI (rr_nd N E n).2.1 = _
      rw [hm.2.1]
    rw [es]
    refine p_kat hg'.2.1 hg'.1.1 hg'.2.2.2.1.2.2.2.2.1 (by omega) ?_
    rw [es, ee]
    by_cases hb : (N 7 n).testBit (N 11 n) = true ∧ N 11 n ≠ 0
    · rw [if_pos hb]
      refine br1 (at_end _ _ ?_)
      rw [nd_end hg' (Or.inr hb.1)]
      exact h
    · rw [if_neg hb]
      refine br0 ⟨fun z => ?_, fun z => at_end _ _ ?_⟩
      · have z' : N 6 n < N 11 n := (nI_ltI (by omega) (by omega)).mp z
        rw [go_end_0 (fun q => ?_)] at h
        · exact h
        · rcases q with q | q
          · omega
          · exact hb ⟨q, by omega⟩
      · have z' : ¬ N 6 n < N 11 n := fun q => z (nI_lt q (by omega))
        rw [nd_end hg' (Or.inl (by omega))]
        exact h
  · refine ⟨9, p_goM hn 8 hg (Or.inl (by omega)) (fun va dn an mb ac ae => ?_)⟩
    obtain ⟨N, hN⟩ : ∃ N, N = go_it E n 8 M := ⟨_, rfl⟩
    rw [← hN] at hg' h ⊢
    have hm := g_mem hg'
    have h11 := hg'.2.2.2.1.2.2.2.2.2.1
    have hv : vp_in (nI n) 6 := vp_in_nI hn (by decide)
    have es : mmd_slot (md_of N E va dn an mb ac ae) (nI n).toNatClampNeg = nI (N 11 n) := rdN N 11 hn
    have ee : mmd_executed (md_of N E va dn an mb ac ae) (nI n).toNatClampNeg = nI (N 6 n) := rdN N 6 hn
    rw [es, ee]
    refine ⟨hv, fun z => ?_, fun z => ?_⟩
    · have z0 : N 11 n = 0 := by
        have := (nI_leI (b := 0) (by omega) (by decide)).mp z
        omega
      rw [go_end_z z0] at h
      exact h _ _ _ _ _ _
    · have hcl : (N 11 n ≤ N 6 n ∨ (N 7 n).testBit (N 11 n) = true) → ∀ w : MmdT, w = mmd_s_slot (md_of N E va dn an mb ac ae) (upd (mmd_slot (md_of N E va dn an mb ac ae)) (nI n).toNatClampNeg 0) → post w := by
        intro hc w ew
        rw [← nI_0] at ew
        obtain rfl := ew.trans (mw_slot 0 hn)
        rw [go_end_1 hc] at h
        exact h _ _ _ _ _ _
      refine ⟨hv, hv, fun z2 => ⟨hv, hcl (Or.inl ((nI_leI (by omega) (by omega)).mp z2))⟩, fun z2 => ⟨hv, p_knows hn (by omega) ?_⟩⟩
      have z2' : ¬ N 11 n ≤ N 6 n := fun q => z2 (nI_le q (by omega))
      by_cases hb : (N 7 n).testBit (N 11 n) = true
      · rw [if_pos hb]
        exact br1 ⟨hv, hcl (Or.inr hb)⟩
      · rw [if_neg hb]
        rw [go_end_0 (fun q => q.elim z2' hb)] at h
        exact br0 (h _ _ _ _ _ _)
