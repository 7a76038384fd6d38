/-! promise and accept: who may ask, what is answered -/
def may (M : PM) (E : PE) (n a : Nat) : Prop := up_of M n = 1 ∧ M 11 n ≠ 0 ∧ (rr_nd M E n).2.2.1.testBit a = true
theorem p_mayAsk {M : PM} {E : PE} {t n a : Nat} {post : Int32 → MndT → Prop} (hI : nv_I M E t) (hn : n < 6) (ha : a < 6) (hy : may M E n a → post 1 (nd_of M E n)) (hx : ¬ may M E n a → post 0 (nd_of M E n)) : wp_Nd_mayAsk (nd_of M E n) (nI a) post := by
  have h11 := (hI.2.2.1 n hn).2.2.2.2.2.1
  have hu : mnd_up (nd_of M E n) = up_of M n := rfl
  have es : mat_slot (mnd_attempt (nd_of M E n)) = nI (M 11 n) := at_slot
  unfold wp_Nd_mayAsk wp_At_isOpen
  rw [hu, es]
  rcases up_cases M n with ⟨u0, -⟩ | ⟨u1, -⟩
  · rw [u0]
    exact br0 (hx (fun q => absurd (u0.symm.trans q.1) (by decide)))
  · rw [u1]
    refine br1 ⟨fun z => br0 (hx (fun q => ?_)), fun z => br1 (p_hasMember (by omega) ?_)⟩
    · exact q.2.1 ((nI_eq (b := 0) (by omega) (by decide)).mp z)
    · have h0 : M 11 n ≠ 0 := fun q => z (by rw [q]; rfl)
      by_cases hb : (rr_nd M E n).2.2.1.testBit a = true
      · rw [if_pos hb]
        exact br1 (hy ⟨u1, h0, hb⟩)
      · rw [if_neg hb]
        exact br0 (hx (fun q => hb q.2.2))
theorem p_bar0 {M : PM} {E : PE} {t n a : Nat} {va dn an : Nat → Int32} {mb ac ae : Int32} {post : Int32 → MmdT → Prop} (hI : nv_I M E t) (hn : n < 6) (ha : a < 6) (hx : ¬ may M E n a → ∀ (va dn an : Nat → Int32) (mb ac ae : Int32), post 0 (md_of M E va dn an mb ac ae)) (hd : may M E n a → up_of M a = 0 → ∀ (va dn an : Nat → Int32) (mb ac ae : Int32), post (-2) (md_of M E va dn an mb ac ae)) (hy : may M E n a → up_of M a = 1 → ∀ (va dn an : Nat → Int32) (mb ac ae : Int32), post 1 (md_of M E va dn an mb ac ae)) : wp_Md_barred (md_of M E va dn an mb ac ae) (nI n) (nI a) 0 post := by
  have h3 := hI.2.2.1 n hn
  have h11 := h3.2.2.2.2.2.1
  have hv : vp_in (nI n) 6 := vp_in_nI hn (by decide)
  have es : mmd_slot (md_of M E va dn an mb ac ae) (nI n).toNatClampNeg = nI (M 11 n) := rdN M 11 hn
  refine p_mnode1 (dc_k hn) (br1 (p_mnode1 (dc_k ha) (br1 (p_isUp hn ?_))))
  rcases up_cases M n with ⟨u0, -⟩ | ⟨u1, -⟩
  · rw [u0]
    exact br0 (hx (fun q => absurd (u0.symm.trans q.1) (by decide)) _ _ _ _ _ _)
  · rw [u1, es]
    refine br1 ⟨hv, fun z => hx (fun q => q.2.1 ((nI_eq (b := 0) (by omega) (by decide)).mp z)) _ _ _ _ _ _, fun z => ?_⟩
    have h0 : M 11 n ≠ 0 := fun q => z (by rw [q]; rfl)
    refine p_membersOf hI.1 hI.2.1 hn h3 ?_
    rw [bi_bitN _ a (by omega)]
    by_cases hb : (rr_nd M E n).2.2.1.testBit a = true
    · rw [if_pos hb]
      have hm : may M E n a := ⟨u1, h0, hb⟩
      refine br1 ⟨fun _ => p_isUp ha ?_, fun q => absurd rfl q⟩
      rcases up_cases M a with ⟨w0, -⟩ | ⟨w1, -⟩
      · rw [w0]; exact br0 (hd hm w0 _ _ _ _ _ _)
      · rw [w1]; exact br1 (hy hm w1 _ _ _ _ _ _)
    · rw [if_neg hb]
      exact br0 (hx (fun q => hb q.2.2) _ _ _ _ _ _)
theorem p_bar1 {M : PM} {E : PE} {t n a : Nat} {va dn an : Nat → Int32} {mb ac ae : Int32} {post : Int32 → MmdT → Prop} (hI : nv_I M E t) (hn : n < 6) (ha : a < 6) (hx : ¬ (may M E n a ∧ px_maj (rr_nd M E n).2.2.1 (M 13 n)) → ∀ (va dn an : Nat → Int32) (mb ac ae : Int32), post 0 (md_of M E va dn an mb ac ae)) (hd : may M E n a → px_maj (rr_nd M E n).2.2.1 (M 13 n) → up_of M a = 0 → ∀ (va dn an : Nat → Int32) (mb ac ae : Int32), post (-2) (md_of M E va dn an mb ac ae)) (hy : may M E n a → px_maj (rr_nd M E n).2.2.1 (M 13 n) → up_of M a = 1 → ∀ (va dn an : Nat → Int32) (mb ac ae : Int32), post 1 (md_of M E va dn an mb ac ae)) : wp_Md_barred (md_of M E va dn an mb ac ae) (nI n) (nI a) 1 post := by
  have h3 := hI.2.2.1 n hn
  have h11 := h3.2.2.2.2.2.1
  have h13 := h3.2.2.2.2.2.2.2.1
  have hv : vp_in (nI n) 6 := vp_in_nI hn (by decide)
  have es : mmd_slot (md_of M E va dn an mb ac ae) (nI n).toNatClampNeg = nI (M 11 n) := rdN M 11 hn
  refine p_mnode1 (dc_k hn) (br1 (p_mnode1 (dc_k ha) (br1 (p_isUp hn ?_))))
  rcases up_cases M n with ⟨u0, -⟩ | ⟨u1, -⟩
  · rw [u0]
    exact br0 (hx (fun q => absurd (u0.symm.trans q.1.1) (by decide)) _ _ _ _ _ _)
  · rw [u1, es]
    refine br1 ⟨hv, fun z => hx (fun q => q.1.2.1 ((nI_eq (b := 0) (by omega) (by decide)).mp z)) _ _ _ _ _ _, fun z => ?_⟩
    have h0 : M 11 n ≠ 0 := fun q => z (by rw [q]; rfl)
    refine p_membersOf hI.1 hI.2.1 hn h3 ?_
    rw [bi_bitN _ a (by omega)]
    by_cases hb : (rr_nd M E n).2.2.1.testBit a = true
    · rw [if_pos hb]
      have hm : may M E n a := ⟨u1, h0, hb⟩
      have ep : mmd_promisers (md_r M E (rr_nd M E n) va dn an) (nI n).toNatClampNeg = nI (M 13 n) := rdN M 13 hn
      refine br1 ⟨fun q => absurd q (by decide), fun _ => ⟨hv, ?_⟩⟩
      rw [ep]
      refine p_majority hI.1 hI.2.1 hn h3 h13 (fun hj => br1 (p_isUp ha ?_)) (fun hj => br0 (hx (fun q => hj q.2) _ _ _ _ _ _))
      rcases up_cases M a with ⟨w0, -⟩ | ⟨w1, -⟩
      · rw [w0]; exact br0 (hd hm hj w0 _ _ _ _ _ _)
      · rw [w1]; exact br1 (hy hm hj w1 _ _ _ _ _ _)
    · rw [if_neg hb]
      exact br0 (hx (fun q => hb q.1.2.2) _ _ _ _ _ _)
/-- the cell at node a that node n's attempt is about -/
def ci (M : PM) (n a : Nat) : Nat := 45 * a + 9 * M 5 n + M 11 n
/-- node n has heard of ballot b -/
def op_la (M : PM) (n b : Nat) : PM := ps_set M 8 n (if M 8 n < b then b else M 8 n)
theorem op_la_r (M : PM) (n b : Nat) {r : Nat} (h : r ≠ 8) : op_la M n b r = M r := ps_reg M h
theorem p_ans {M : PM} {E : PE} {t n a : Nat} {va dn an : Nat → Int32} {mb ac ae x3 : Int32} {post : Int32 → MmdT → Prop} (hI : nv_I M E t) (ht : t ≤ 512) (hn : n < 6) (ha : a < 6)
    (hA : M 9 a ≤ M 5 n → M 18 (ci M n a) ≤ M 12 n → post 1 (md_of (ps_set M 18 (ci M n a) (M 12 n)) E va dn an mb ac ae))
    (hB0 : M 9 a ≤ M 5 n → M 12 n < M 18 (ci M n a) → x3 = 0 → post 2 (md_of M E va dn an mb ac ae))
    (hB1 : M 9 a ≤ M 5 n → M 12 n < M 18 (ci M n a) → x3 ≠ 0 → post 2 (md_of (op_la M n (M 18 (ci M n a))) E va dn an mb ac ae))
    (hC0 : M 5 n < M 9 a → x3 = 0 → post 3 (md_of M E va dn an mb ac ae))
    (hC1 : M 5 n < M 9 a → x3 ≠ 0 → wp_Md_install (md_of M E va dn an mb ac ae) (nI n) (nI a) (fun u => post 3 u)) : wp_Md_answer (md_of M E va dn an mb ac ae) (nI n) (nI a) x3 post := by
  have h3 := hI.2.2.1 n hn
  have bn := nd_mem hI.1 hI.2.1 h3
  have h9a := (hI.2.2.1 a ha).2.1
  have ba := nd_mem hI.1 hI.2.1 (hI.2.2.1 a ha)
  have h11 := h3.2.2.2.2.2.1
  have hb4 := hI.2.2.2.1.1 n hn
  have hb5 := hI.2.2.2.1.2 (ci M n a)
  have hv : vp_in (nI n) 6 := vp_in_nI hn (by decide)
  have hva : vp_in (nI a) 6 := vp_in_nI ha (by decide)
  have e5 : mmd_configuration (md_of M E va dn an mb ac ae) (nI n).toNatClampNeg = nI (M 5 n) := rdN M 5 hn
  have e11 : mmd_slot (md_of M E va dn an mb ac ae) (nI n).toNatClampNeg = nI (M 11 n) := rdN M 11 hn
  have e12 : mmd_ballot (md_of M E va dn an mb ac ae) (nI n).toNatClampNeg = nI (M 12 n) := rdN M 12 hn
  have e8 : mmd_last (md_of M E va dn an mb ac ae) (nI n).toNatClampNeg = nI (M 8 n) := rdN M 8 hn
  have e9 : mmd_retired (md_of M E va dn an mb ac ae) (nI a).toNatClampNeg = nI (M 9 a) := rdN M 9 ha
  have hc : ci M n a < 270 := by unfold ci; omega
  have hvc : vp_in (nI (ci M n a)) 270 := vp_in_nI hc (by decide)
  have e18 : mmd_promised (md_of M E va dn an mb ac ae) (nI (ci M n a)).toNatClampNeg = nI (M 18 (ci M n a)) := by
    rw [nI_clamp (by omega)]; rfl
  unfold wp_Md_answer
  rw [e5, e11, e12, e8, e9]
  refine ⟨hv, hv, fun v1 ev => ?_⟩
  have ev' : v1 = nI (ci M n a) := by
    rw [ev, ix_m]; rfl
  subst ev'
  rw [e18]
  refine ⟨hva, hv, fun z => ⟨hv, hvc, fun z2 => ⟨hv, hvc, fun w ew => ?_⟩, fun z2 => ⟨fun z3 => ?_, fun z3 => ⟨hvc, hv, fun z4 => ?_, fun z4 => ⟨hvc, hv, fun w ew => ?_⟩⟩⟩⟩, fun z => ⟨fun z3 => ?_, fun z3 => ?_⟩⟩
  · obtain rfl := ew.trans (mx_promised (M 12 n) hc)
    exact hA ((nI_leI (by omega) (by omega)).mp z) ((nI_leI (by omega) (by omega)).mp z2)
  · have q2 : ¬ M 18 (ci M n a) ≤ M 12 n := fun q => z2 (nI_le q (by omega))
    exact hB0 ((nI_leI (by omega) (by omega)).mp z) (by omega) z3
  · have q2 : ¬ M 18 (ci M n a) ≤ M 12 n := fun q => z2 (nI_le q (by omega))
    have q4 : M 18 (ci M n a) ≤ M 8 n := (nI_leI (by omega) (by omega)).mp z4
    have := hB1 ((nI_leI (by omega) (by omega)).mp z) (by omega) z3
    unfold op_la at this
    rw [if_neg (by omega), ps_self] at this
    exact this
  · have q2 : ¬ M 18 (ci M n a) ≤ M 12 n := fun q => z2 (nI_le q (by omega))
    have q4 : ¬ M 18 (ci M n a) ≤ M 8 n := fun q => z4 (nI_le q (by omega))
    have := hB1 ((nI_leI (by omega) (by omega)).mp z) (by omega) z3
    unfold op_la at this
    rw [if_pos (by omega)] at this
    obtain rfl := ew.trans (mw_last (M 18 (ci M n a)) hn)
    exact this
  · have q : ¬ M 9 a ≤ M 5 n := fun q => z (nI_le q (by omega))
    exact hC0 (by omega) z3
  · have q : ¬ M 9 a ≤ M 5 n := fun q => z (nI_le q (by omega))
    exact hC1 (by omega) z3
/-- what the class reads of the ledger of node a -/
theorem lg_rd {M : PM} {n a : Nat} (h11 : M 11 n ≠ 0) (h118 : M 11 n ≤ 8) (h4 : M 5 n ≤ 4) : mlg_promisedBallots (lg_of M a) (nI (8 * M 5 n + M 11 n - 1)).toNatClampNeg = nI (M 18 (ci M n a)) ∧ mlg_voteBallots (lg_of M a) (nI (8 * M 5 n + M 11 n - 1)).toNatClampNeg = nI (M 19 (ci M n a)) ∧ mlg_voteCommands (lg_of M a) (nI (8 * M 5 n + M 11 n - 1)).toNatClampNeg = nI (M 20 (ci M n a)) := by
  rw [nI_clamp (by omega)]
  have e : 45 * a + 9 * ((8 * M 5 n + M 11 n - 1) / 8) + (8 * M 5 n + M 11 n - 1) % 8 + 1 = ci M n a := ix_l a (M 5 n) (M 11 n) (by omega) h118
  refine ⟨?_, ?_, ?_⟩
  · show (if 8 * M 5 n + M 11 n - 1 < 40 then nI (M 18 (45 * a + 9 * ((8 * M 5 n + M 11 n - 1) / 8) + (8 * M 5 n + M 11 n - 1) % 8 + 1)) else 0) = _
    rw [if_pos (by omega), e]
  · show (if 8 * M 5 n + M 11 n - 1 < 40 then nI (M 19 (45 * a + 9 * ((8 * M 5 n + M 11 n - 1) / 8) + (8 * M 5 n + M 11 n - 1) % 8 + 1)) else 0) = _
    rw [if_pos (by omega), e]
  · show (if 8 * M 5 n + M 11 n - 1 < 40 then nI (M 20 (45 * a + 9 * ((8 * M 5 n + M 11 n - 1) / 8) + (8 * M 5 n + M 11 n - 1) % 8 + 1)) else 0) = _
    rw [if_pos (by omega), e]
theorem nd_la {M : PM} {E : PE} {t n b : Nat} (hn : n < 6) (hI : nv_I M E t) (hb : b < 2 ^ 30) (h8 : M 8 n < 2 ^ 30) : mnd_s_last (nd_of M E n) (if (mnd_last (nd_of M E n)) < nI b then nI b else (mnd_last (nd_of M E n))) = nd_of (op_la M n b) E n := by
  have hx : px_ext M E (op_la M n b) E := px_ext_of hI rfl (by rw [op_la_r M n b (by decide)]) (op_la_r M n b (by decide)) (op_la_r M n b (by decide)) (op_la_r M n b (by decide))
  refine nd_mk (M := op_la M n b) (E := E) (n := n) ?_ ?_ (lg_same (op_la_r M n b (by decide)) (op_la_r M n b (by decide)) (op_la_r M n b (by decide))).symm ?_ (by rw [op_la_r M n b (by decide)]; rfl) ?_ (by rw [op_la_r M n b (by decide)]; rfl) ?_
  · unfold up_of; rw [op_la_r M n b (by decide)]; rfl
  · rw [rr_nd_ext hx (hI.2.2.1 n hn) (by rw [op_la_r M n b (by decide)]) (by rw [op_la_r M n b (by decide)])]; rfl
  · have el : mnd_last (nd_of M E n) = nI (M 8 n) := rfl
    show (if (mnd_last (nd_of M E n)) < nI b then nI b else (mnd_last (nd_of M E n))) = _
    rw [el]
    unfold op_la
    rw [ps_eq]
    by_cases q : M 8 n < b
    · rw [if_pos q, if_pos (nI_lt q (by omega))]
    · rw [if_neg q, if_neg (nI_nlt (by omega) (by omega))]
  · unfold kn_of; rw [op_la_r M n b (r := 7) (by decide), op_la_r M n b (r := 5) (by decide), op_la_r M n b (r := 3) (by decide)]; rfl
  · unfold at_of; rw [op_la_r M n b (r := 11) (by decide), op_la_r M n b (r := 12) (by decide), op_la_r M n b (r := 13) (by decide), op_la_r M n b (r := 14) (by decide), op_la_r M n b (r := 15) (by decide), op_la_r M n b (r := 16) (by decide), op_la_r M n b (r := 17) (by decide)]; rfl
theorem p_ref {M : PM} {E : PE} {t n a : Nat} {x3 : Int32} {post : Int32 → MndT → MndT → Prop} (hI : nv_I M E t) (ht : t ≤ 513) (hn : n < 6) (ha : a < 6) (h0 : M 11 n ≠ 0)
    (hA : M 9 a ≤ M 5 n → M 18 (ci M n a) ≤ M 12 n → post 0 (nd_of M E n) (nd_of M E a))
    (hB0 : M 9 a ≤ M 5 n → M 12 n < M 18 (ci M n a) → x3 = 0 → post 2 (nd_of M E n) (nd_of M E a))
    (hB1 : M 9 a ≤ M 5 n → M 12 n < M 18 (ci M n a) → x3 ≠ 0 → post 2 (nd_of (op_la M n (M 18 (ci M n a))) E n) (nd_of M E a))
    (hC0 : M 5 n < M 9 a → x3 = 0 → post 3 (nd_of M E n) (nd_of M E a))
    (hC1 : M 5 n < M 9 a → x3 ≠ 0 → post 3 (nd_of (op_in M a n) E n) (nd_of M E a)) : wp_Ch_refusalOf (nd_of M E n) (nd_of M E a) x3 post := by
  have h3 := hI.2.2.1 n hn
  have bn := nd_mem hI.1 hI.2.1 h3
  have h9a := (hI.2.2.1 a ha).2.1
  have ba := nd_mem hI.1 hI.2.1 (hI.2.2.1 a ha)
  have h11 := h3.2.2.2.2.2.1
  have hb4 := hI.2.2.2.1.1 n hn
  have hb5 := hI.2.2.2.1.2 (ci M n a)
  intro v1 ev
  have ev' : v1 = nI (M 5 n) := by
    rw [ev]
    show nI (rr_nd M E n).1 = _
    rw [bn.2.1]
  subst ev'
  have e9 : mnd_retired (nd_of M E a) = nI (M 9 a) := rfl
  have es : mat_slot (mnd_attempt (nd_of M E n)) = nI (M 11 n) := at_slot
  have eb : mat_ballot (mnd_attempt (nd_of M E n)) = nI (M 12 n) := by
    show mat_ballot (at_of M n) = _
    rw [at_rd h0]; rfl
  unfold wp_Lg_cellOf
  rw [e9, es, eb, ix_c (by omega)]
  refine ⟨fun z => ⟨vp_in_nI (by omega) (by decide), fun v4 ev4 => ?_⟩, fun z => ⟨fun z3 => ?_, fun z3 => ?_⟩⟩
  · have ev4' : v4 = nI (M 18 (ci M n a)) := ev4.trans (lg_rd h0 h11 bn.2.2.2.1).1
    subst ev4'
    have q1 : M 9 a ≤ M 5 n := (nI_leI (by omega) (by omega)).mp z
    refine ⟨fun z2 => hA q1 ((nI_leI (by omega) (by omega)).mp z2), fun z2 => ?_⟩
    have q2 : ¬ M 18 (ci M n a) ≤ M 12 n := fun q => z2 (nI_le q (by omega))
    refine ⟨fun z3 => hB0 q1 (by omega) z3, fun z3 => ?_⟩
    rw [nd_la hn hI (by omega) (by omega)]
    exact hB1 q1 (by omega) z3
  · have q : ¬ M 9 a ≤ M 5 n := fun q => z (nI_le q (by omega))
    exact hC0 (by omega) z3
  · have q : ¬ M 9 a ≤ M 5 n := fun q => z (nI_le q (by omega))
    have hl : lat M a n := by unfold lat; omega
    exact p_instC ha hn hI (fun _ => hC1 (by omega) z3) (fun q => absurd hl q)
theorem p_ref_al {M : PM} {E : PE} {t n : Nat} {x3 : Int32} {post : Int32 → MndT → Prop} (hI : nv_I M E t) (ht : t ≤ 513) (hn : n < 6) (h0 : M 11 n ≠ 0)
    (hA : M 9 n ≤ M 5 n → M 18 (ci M n n) ≤ M 12 n → post 0 (nd_of M E n))
    (hB0 : M 9 n ≤ M 5 n → M 12 n < M 18 (ci M n n) → x3 = 0 → post 2 (nd_of M E n))
    (hB1 : M 9 n ≤ M 5 n → M 12 n < M 18 (ci M n n) → x3 ≠ 0 → post 2 (nd_of (op_la M n (M 18 (ci M n n))) E n)) : wp_Ch_refusalOf_al (nd_of M E n) x3 post := by
  have h3 := hI.2.2.1 n hn
  have bn := nd_mem hI.1 hI.2.1 h3
  have h9a := h3.2.1
  have h11 := h3.2.2.2.2.2.1
  have hb4 := hI.2.2.2.1.1 n hn
  have hb5 := hI.2.2.2.1.2 (ci M n n)
  intro v1 ev
  have ev' : v1 = nI (M 5 n) := by
    rw [ev]
    show nI (rr_nd M E n).1 = _
    rw [bn.2.1]
  subst ev'
  have e9 : mnd_retired (nd_of M E n) = nI (M 9 n) := rfl
  have es : mat_slot (mnd_attempt (nd_of M E n)) = nI (M 11 n) := at_slot
  have eb : mat_ballot (mnd_attempt (nd_of M E n)) = nI (M 12 n) := by
    show mat_ballot (at_of M n) = _
    rw [at_rd h0]; rfl
  unfold wp_Lg_cellOf
  rw [e9, es, eb, ix_c (by omega)]
  refine ⟨fun z => ⟨vp_in_nI (by omega) (by decide), fun v4 ev4 => ?_⟩, fun z => absurd (nI_le h9a (by omega)) z⟩
  have ev4' : v4 = nI (M 18 (ci M n n)) := ev4.trans (lg_rd h0 h11 bn.2.2.2.1).1
  subst ev4'
  refine ⟨fun z2 => hA h9a ((nI_leI (by omega) (by omega)).mp z2), fun z2 => ?_⟩
  have q2 : ¬ M 18 (ci M n n) ≤ M 12 n := fun q => z2 (nI_le q (by omega))
  refine ⟨fun z3 => hB0 h9a (by omega) z3, fun z3 => ?_⟩
  rw [nd_la hn hI (by omega) (by omega)]
  exact hB1 h9a (by omega) z3
