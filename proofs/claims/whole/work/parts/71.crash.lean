theorem px_ext_of {M M' : PM} {E E' : PE} {t : Nat} (hI : nv_I M E t) (gE : E' 0 = E 0) (g0 : M' 0 0 = M 0 0) (g1 : M' 1 = M 1) (g2 : M' 2 = M 2) (g3 : M' 3 = M 3) : px_ext M E M' E' :=
  ⟨fun k _ => by rw [g3], fun q _ => ⟨by rw [g1], by rw [g2], by rw [gE]⟩, hI.2.1, by rw [g0]; exact Nat.le_refl _⟩
theorem nv_path {M M' : PM} {E E' : PE} {n : Nat} (hx : px_ext M E M' E') (h : nv_n M E n) (h5 : M' 5 n = M 5 n) (h6 : M' 6 n = M 6 n) : ∃ j, rr_ok M' E' j ∧ (rr_pth M' E' j).1 = M' 5 n ∧ (rr_pth M' E' j).2.1 = M' 6 n := by
  obtain ⟨⟨J, hJ, e5, e6⟩, -⟩ := h
  obtain ⟨p1, p2⟩ := rr_ext hx hJ
  exact ⟨J, p2, by rw [p1, h5]; exact e5, by rw [p1, h6]; exact e6⟩
theorem nd_mk {M : PM} {E : PE} {n : Nat} {up la re pe : Int32} {st : MstT} {lg : MlgT} {kn : Nat → Int32} {at' : MatT} (h1 : up = up_of M n) (h2 : st = st_of (rr_nd M E n)) (h3 : lg = lg_of M n) (h4 : la = nI (M 8 n)) (h5 : re = nI (M 9 n)) (h6 : kn = kn_of M n) (h7 : pe = nI (M 10 n)) (h8 : at' = at_of M n) : ((nI n, up, st, lg, la, re, kn, pe, at') : MndT) = nd_of M E n := by
  subst h1; subst h2; subst h3; subst h4; subst h5; subst h6; subst h7; subst h8; rfl
theorem lg_same {M M' : PM} {n : Nat} (g18 : M' 18 = M 18) (g19 : M' 19 = M 19) (g20 : M' 20 = M 20) : lg_of M' n = lg_of M n := by
  unfold lg_of; rw [g18, g19, g20]
theorem ch_same {M M' : PM} {E E' : PE} (g0 : M' 0 0 = M 0 0) (g01 : M' 0 1 = M 0 1) (g1 : M' 1 = M 1) (g2 : M' 2 = M 2) (gE : E' = E) : ch_of M' E' = ch_of M E := by
  subst gE
  unfold ch_of bk_of; rw [g0, g01, g1, g2]
theorem p_isUp0 {z : MmdT} {x : Int32} {post : Int32 → MmdT → Prop} (h1 : x < 0 ∨ 6 ≤ x) (h : post 0 z) : wp_Md_isUp z x post := p_mnode0 h1 (br0 h)
/-! crash, restart -/
def op_cr (M : PM) (n : Nat) : PM := ps_set (ps_set (ps_set (ps_set M 0 2 (n_cl (M 0 2) n)) 7 n 0) 10 n 0) 11 n 0
theorem op_cr_r (M : PM) (n : Nat) {r : Nat} (h0 : r ≠ 0) (h7 : r ≠ 7) (h10 : r ≠ 10) (h11 : r ≠ 11) : op_cr M n r = M r := by
  unfold op_cr
  rw [ps_reg _ h11, ps_reg _ h10, ps_reg _ h7, ps_reg _ h0]
theorem st_crash : ls_crash RI := by
  intro t zc zn zm x1 _ ⟨M, E, va, dn, an, mb, ac, ae, hI, hc, hn, hm⟩
  subst hc; subst hm
  rcases dc_n x1 with h1 | ⟨n, hn6, rfl⟩
  · exact ⟨0, by omega, p_node0 h1 (br0 (p_isUp0 h1 (br0 ⟨rfl, RI_same hI rfl (hn 0 (by omega)) hn rfl⟩)))⟩
  · refine ⟨n, hn6, p_node1 (dc_k hn6) (br1 ⟨rfl, ?_⟩)⟩
    rw [hn n hn6]
    have hu : mnd_up (nd_of M E n) = up_of M n := rfl
    rw [hu]
    rcases up_cases M n with ⟨u0, ub⟩ | ⟨u1, ub⟩
    · rw [u0]
      exact br0 (p_isUp hn6 (by rw [u0]; exact br0 ⟨rfl, RI_same hI rfl rfl hn rfl⟩))
    · rw [u1]
      refine br1 ⟨rfl, p_leaveList ?_⟩
      refine p_isUp hn6 ?_
      rw [u1]
      refine br1 (fun w4 e4 => ?_)
      obtain rfl := e4.trans (show _ = md_of (ps_set M 0 2 (n_cl (M 0 2) n)) E va dn an mb ac ae by rw [rd_up, bi_clr _ _ (by omega), ms_up])
      refine ⟨vp_in_nI hn6 (by decide), fun w5 e5 => ?_⟩
      obtain rfl := e5.trans (mw_known 0 hn6)
      refine ⟨vp_in_nI hn6 (by decide), fun w6 e6 => ?_⟩
      obtain rfl := e6.trans (mw_pending 0 hn6)
      refine ⟨vp_in_nI hn6 (by decide), fun w7 e7 => ?_⟩
      obtain rfl := e7.trans (mw_slot 0 hn6)
      refine ⟨rfl, ?_⟩
      show RI (t + 1) (ch_of M E) (va_up zn n _) (md_of (op_cr M n) E va dn an mb ac ae)
      have h3 := hI.2.2.1 n hn6
      have g : ∀ r, r ≠ 0 → r ≠ 7 → r ≠ 10 → r ≠ 11 → op_cr M n r = M r := fun r a b c d => op_cr_r M n a b c d
      have g00 : op_cr M n 0 0 = M 0 0 := by simp [op_cr, ps_set]
      have g01 : op_cr M n 0 1 = M 0 1 := by simp [op_cr, ps_set]
      have g02 : op_cr M n 0 2 = n_cl (M 0 2) n := by simp [op_cr, ps_set]
      have g7 : op_cr M n 7 n = 0 := by simp [op_cr, ps_set]
      have g10 : op_cr M n 10 n = 0 := by simp [op_cr, ps_set]
      have g11 : op_cr M n 11 n = 0 := by simp [op_cr, ps_set]
      have hs : ∀ i, i ≠ n → ns_at M (op_cr M n) i := fun i hi r h5 _ => by simp [op_cr, ps_set, hi, show r ≠ 0 by omega]
      have hx := px_ext_of (M' := op_cr M n) (E' := E) hI rfl g00 (g 1 (by decide) (by decide) (by decide) (by decide)) (g 2 (by decide) (by decide) (by decide) (by decide)) (g 3 (by decide) (by decide) (by decide) (by decide))
      have r5 := g 5 (by decide) (by decide) (by decide) (by decide)
      have r6 := g 6 (by decide) (by decide) (by decide) (by decide)
      have r8 := g 8 (by decide) (by decide) (by decide) (by decide)
      have r9 := g 9 (by decide) (by decide) (by decide) (by decide)
      have hk : nv_n (op_cr M n) E n := by
        obtain ⟨-, q9, q10, q7, qk, q11, qa, q13, q14, q16, q17⟩ := h3
        refine ⟨nv_path hx (hI.2.2.1 n hn6) (by rw [r5]) (by rw [r6]), by rw [r9, r5]; exact q9, by rw [g10]; omega, by rw [g7]; omega, fun s hs => ?_, by rw [g11]; omega, fun z => absurd g11 z, ?_, ?_, ?_, ?_⟩
        · rw [g7] at hs; simp at hs
        · rw [g 13 (by decide) (by decide) (by decide) (by decide)]; exact q13
        · rw [g 14 (by decide) (by decide) (by decide) (by decide)]; exact q14
        · rw [g 16 (by decide) (by decide) (by decide) (by decide), g00]; exact q16
        · rw [g 17 (by decide) (by decide) (by decide) (by decide), g00]; exact q17
      have h8 := (hI.2.2.2.1.1 n hn6).1
      have g18 := g 18 (by decide) (by decide) (by decide) (by decide)
      have g19 := g 19 (by decide) (by decide) (by decide) (by decide)
      have g20 := g 20 (by decide) (by decide) (by decide) (by decide)
      have hN := nv_upd (M' := op_cr M n) (E' := E) hI hn6 rfl g00 (g 1 (by decide) (by decide) (by decide) (by decide)) (g 2 (by decide) (by decide) (by decide) (by decide)) (g 3 (by decide) (by decide) (by decide) (by decide)) r9 g18 g19 g20 hs (by rw [r8]; exact Nat.le_refl _) (by rw [r8]; omega) (by rw [g01]; exact hI.1.2.1) (by rw [g02]; exact n_cl_lt (m := 6) hI.1.2.2.1) (by rw [g 12 (by decide) (by decide) (by decide) (by decide)]) (by rw [g 15 (by decide) (by decide) (by decide) (by decide)]) hk (Or.inl g11)
      refine RI_upd hI hN hs g18 g19 g20 (fun i hi => ?_) (ch_same g00 g01 (g 1 (by decide) (by decide) (by decide) (by decide)) (g 2 (by decide) (by decide) (by decide) (by decide)) rfl).symm ?_ hn rfl
      · rw [g02, n_cl_bit]; simp [hi]
      · refine nd_mk (M := op_cr M n) ?_ ?_ (lg_same g18 g19 g20).symm (by rw [r8]; rfl) (by rw [r9]; rfl) ?_ (by rw [g10]; rfl) (at_no g11).symm
        · unfold up_of; rw [g02, n_cl_bit]; simp; rfl
        · rw [rr_nd_ext hx h3 (by rw [r5]) (by rw [r6])]; rfl
        · rw [kn_none g7]; exact kn_fill
def op_rs (M : PM) (n : Nat) : PM := ps_set M 0 2 (M 0 2 ||| 2 ^ n)
theorem or_lt {a n : Nat} (ha : a < 64) (hn : n < 6) : a ||| 2 ^ n < 64 := Nat.or_lt_two_pow (n := 6) ha (Nat.pow_lt_pow_right (by decide) hn)
theorem st_restart : ls_restart RI := by
  intro t zc zn zm x1 _ ⟨M, E, va, dn, an, mb, ac, ae, hI, hc, hn, hm⟩
  subst hc; subst hm
  rcases dc_n x1 with h1 | ⟨n, hn6, rfl⟩
  · exact ⟨0, by omega, p_node0 h1 (br0 (p_mnode0 h1 (br0 ⟨rfl, RI_same hI rfl (hn 0 (by omega)) hn rfl⟩)))⟩
  · refine ⟨n, hn6, p_node1 (dc_k hn6) (br1 ⟨rfl, ?_⟩)⟩
    rw [hn n hn6]
    have hu : mnd_up (nd_of M E n) = up_of M n := rfl
    rw [hu]
    rcases up_cases M n with ⟨u0, ub⟩ | ⟨u1, ub⟩
    · rw [u0]
      refine br0 ⟨rfl, p_mnode1 (dc_k hn6) (br1 (p_isUp hn6 ?_))⟩
      rw [u0]
      refine br0 (fun w4 e4 => ?_)
      obtain rfl := e4.trans (show _ = md_of (ps_set M 0 2 (M 0 2 ||| 2 ^ n)) E va dn an mb ac ae by rw [rd_up, bi_set _ _ (by omega), ms_up])
      refine ⟨rfl, ?_⟩
      show RI (t + 1) (ch_of M E) (va_up zn n _) (md_of (op_rs M n) E va dn an mb ac ae)
      have h3 := hI.2.2.1 n hn6
      have g : ∀ r, r ≠ 0 → op_rs M n r = M r := fun r a => ps_reg M a
      have g00 : op_rs M n 0 0 = M 0 0 := by simp [op_rs, ps_set]
      have g01 : op_rs M n 0 1 = M 0 1 := by simp [op_rs, ps_set]
      have g02 : op_rs M n 0 2 = M 0 2 ||| 2 ^ n := by simp [op_rs, ps_set]
      have hs : ∀ i, ns_at M (op_rs M n) i := fun i r h5 _ => by rw [g r (by omega)]
      have hx := px_ext_of (M' := op_rs M n) (E' := E) hI rfl g00 (g 1 (by decide)) (g 2 (by decide)) (g 3 (by decide))
      have h8 := (hI.2.2.2.1.1 n hn6).1
      have hN := nv_upd (M' := op_rs M n) (E' := E) hI hn6 rfl g00 (g 1 (by decide)) (g 2 (by decide)) (g 3 (by decide)) (g 9 (by decide)) (g 18 (by decide)) (g 19 (by decide)) (g 20 (by decide)) (fun i _ => hs i) (by rw [g 8 (by decide)]; exact Nat.le_refl _) (by rw [g 8 (by decide)]; omega) (by rw [g01]; exact hI.1.2.1) (by rw [g02]; exact or_lt hI.1.2.2.1 hn6) (by rw [g 12 (by decide)]) (by rw [g 15 (by decide)]) (nv_n_ext hx (hs n) h3) (Or.inr ⟨by rw [g 5 (by decide)], fun r _ _ => by rw [g r (by omega)]⟩)
      refine RI_upd hI hN (fun i _ => hs i) (g 18 (by decide)) (g 19 (by decide)) (g 20 (by decide)) (fun i hi => ?_) (ch_same g00 g01 (g 1 (by decide)) (g 2 (by decide)) rfl).symm ?_ hn rfl
      · rw [g02, Nat.testBit_or, Nat.testBit_two_pow]; simp [Ne.symm hi]
      · refine nd_mk (M := op_rs M n) ?_ ?_ (lg_same (g 18 (by decide)) (g 19 (by decide)) (g 20 (by decide))).symm (by rw [g 8 (by decide)]; rfl) (by rw [g 9 (by decide)]; rfl) ?_ (by rw [g 10 (by decide)]; rfl) ?_
        · unfold up_of; rw [g02, Nat.testBit_or, Nat.testBit_two_pow]; simp
        · rw [rr_nd_ext hx h3 (by rw [g 5 (by decide)]) (by rw [g 6 (by decide)])]; rfl
        · unfold kn_of; rw [g 7 (by decide), g 5 (by decide), g 3 (by decide)]; rfl
        · unfold at_of; rw [g 11 (by decide), g 12 (by decide), g 13 (by decide), g 14 (by decide), g 15 (by decide), g 16 (by decide), g 17 (by decide)]; rfl
    · rw [u1]
      exact br1 (p_mnode1 (dc_k hn6) (br1 (p_isUp hn6 (by rw [u1]; exact br1 ⟨rfl, RI_same hI rfl rfl hn rfl⟩))))
