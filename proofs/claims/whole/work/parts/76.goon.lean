/-! executing what is known -/
theorem g_path {M : PM} {E : PE} {n : Nat} (h : ∃ j, rr_ok M E j ∧ (rr_pth M E j).1 = M 5 n ∧ (rr_pth M E j).2.1 = M 6 n) : ∃ J, rr_ok M E J ∧ (rr_pth M E J).1 = M 5 n ∧ (rr_pth M E J).2.1 = M 6 n ∧ rr_nd M E n = rr_pth M E J := by
  obtain ⟨J, h1, h2, h3⟩ := h
  refine ⟨J, h1, h2, h3, ?_⟩
  unfold rr_nd
  rw [← h2, ← h3]
  exact rr_at_pth h1
theorem g_replayOf {M : PM} {E : PE} {va dn an : Nat → Int32} {mb ac ae : Int32} {n : Nat} {post : MmdT → Prop} (h1 : nv_1 M E) (h2 : nv_2 M) (hn : n < 6) (h3 : ∃ j, rr_ok M E j ∧ (rr_pth M E j).1 = M 5 n ∧ (rr_pth M E j).2.1 = M 6 n) (h : post (md_r M E (rr_nd M E n) va dn an)) : wp_Md_replayOf (md_of M E va dn an mb ac ae) (nI n) post := by
  obtain ⟨J, hJ, e5, e6, er⟩ := g_path h3
  rw [er] at h
  refine ⟨vp_in_nI hn (by decide), vp_in_nI hn (by decide), ?_⟩
  have r5 : mmd_configuration (md_of M E va dn an mb ac ae) (nI n).toNatClampNeg = nI (rr_pth M E J).1 := by
    show nI (M 5 (nI n).toNatClampNeg) = _
    rw [nI_clamp (by omega), e5]
  have r6 : mmd_executed (md_of M E va dn an mb ac ae) (nI n).toNatClampNeg = nI (rr_pth M E J).2.1 := by
    show nI (M 6 (nI n).toNatClampNeg) = _
    rw [nI_clamp (by omega), e6]
  rw [r5, r6]
  exact p_replay h1 h2 hJ h
theorem p_kat {M : PM} {E : PE} {n s : Nat} {post : Int32 → MndT → Prop} (h2 : nv_2 M) (hq : M 0 0 ≤ 30) (h3 : ∀ s, (M 7 n).testBit s = true → M 6 n < s ∧ s ≤ 8 ∧ M 3 (9 * M 5 n + s) ≠ 0) (hs : s < 32) (h : post (if (M 7 n).testBit s = true ∧ s ≠ 0 then 1 else 0) (nd_of M E n)) : wp_Nd_isKnownAt (nd_of M E n) (nI s) post := by
  by_cases hs0 : s = 0 ∨ 8 < s
  · have hnb : ¬ ((M 7 n).testBit s = true ∧ s ≠ 0) := fun z => by
      have := h3 s z.1
      omega
    rw [if_neg hnb] at h
    refine p_slot0 ?_ (br0 h)
    rcases hs0 with z | z
    · subst z; exact Or.inl (by decide)
    · exact Or.inr (nI_lt (a := 8) z (by omega))
  · refine p_slot1 (dc_s8 (by omega) (by omega)) (br1 ⟨vp_in_nI (by omega) (by decide), ?_⟩)
    have ek : mnd_knownCommands (nd_of M E n) (nI s).toNatClampNeg = if (M 7 n).testBit s = true then nI (M 3 (9 * M 5 n + s)) - 1 else -1 := by
      show (if (nI s).toNatClampNeg < 9 then (if (M 7 n).testBit (nI s).toNatClampNeg = true then nI (M 3 (9 * M 5 n + (nI s).toNatClampNeg)) - 1 else -1) else 0) = _
      rw [nI_clamp (by omega), if_pos (by omega)]
    rw [ek]
    by_cases hb : (M 7 n).testBit s = true
    · rw [if_pos ⟨hb, by omega⟩] at h
      rw [if_pos hb]
      have h0 := (h3 s hb).2.2
      have := h2 (9 * M 5 n + s)
      refine ⟨fun z => ?_, fun _ => h⟩
      rw [nI_m1 h0] at z
      have z1 := congrArg Int32.toInt z
      rw [nI_toInt (by omega)] at z1
      have z2 : (-1 : Int32).toInt = -1 := by decide
      rw [z2] at z1
      omega
    · rw [if_neg (fun z => hb z.1)] at h
      rw [if_neg hb]
      exact ⟨fun _ => h, fun z => absurd rfl z⟩
/-- the class's execution is a step of the path -/
theorem p_stexec {M : PM} {E : PE} {r : RR} {q : Nat} {post : MstT → MbkT → Prop} (h1 : nv_1 M E) (hq : q ≤ M 0 0) (hc : r.1 ≤ 4) (h : post (st_of (rr_step M E r q)) (bk_of M E)) : wp_St_execute (st_of r) (bk_of M E) (nI q) post := by
  obtain ⟨c, e, m, vs, D, as⟩ := r
  have hq31 : q < 31 := by have := h1.1; omega
  have hqN : (nI q).toNatClampNeg = q := nI_clamp (by omega)
  have hin : vp_in (nI q) 31 := vp_in_nI hq31 (by decide)
  have hcnt : mbk_count (bk_of M E) = nI (M 0 0) := rfl
  have h30 := h1.1
  have e1 : mst_s_executed (st_of (c, e, m, vs, D, as)) (mst_executed (st_of (c, e, m, vs, D, as)) + 1) = st_of (c, e + 1, m, vs, D, as) := by
    show (nI c, nI m, nI e + 1, vs, D, as) = (nI c, nI m, nI (e + 1), vs, D, as)
    rw [nI_1]
  by_cases hq0 : q = 0
  · subst hq0
    refine p_has0 (Or.inl (by decide)) (br0 ?_)
    rw [e1]
    have hs : rr_step M E (c, e, m, vs, D, as) 0 = (c, e + 1, m, vs, D, as) := by
      unfold rr_step; rw [if_pos (Or.inl rfl)]
    rw [hs] at h
    exact h
  · refine p_has1 ?_ (br1 ?_)
    · rw [hcnt]
      exact dc_rn (k := q) (lo := 1) (hi := M 0 0) (by omega) hq (by omega)
    · rw [e1]
      refine p_isDone (by omega) ?_
      obtain ⟨k1, k2, k3⟩ := h1.2.2.2 q (by omega) hq
      have hD : mst_doneBits (st_of (c, e + 1, m, vs, D, as)) = D := rfl
      rw [hD]
      by_cases hd : dn_b D q = true
      · rw [if_pos hd]
        refine br1 ?_
        have hs : rr_step M E (c, e, m, vs, D, as) q = (c, e + 1, m, vs, D, as) := by
          unfold rr_step; rw [if_pos (Or.inr hd)]
        rw [hs] at h
        exact h
      · rw [if_neg hd]
        refine br0 ⟨hin, hin, hin, ?_⟩
        unfold rr_step at h
        rw [if_neg (fun z => z.elim hq0 hd)] at h
        have ek1 : mbk_kinds (bk_of M E) (nI q).toNatClampNeg = nI (M 1 q) := by rw [hqN]; rfl
        have ek2 : mbk_keys (bk_of M E) (nI q).toNatClampNeg = nI (M 2 q) := by rw [hqN]; rfl
        have ek3 : mbk_numbers (bk_of M E) (nI q).toNatClampNeg = E 0 q := by rw [hqN]; rfl
        rw [ek1, ek2, ek3]
        have hk4 : vp_in (nI (M 2 q)) 4 := vp_in_nI (by omega) (by decide)
        have hkN : (nI (M 2 q)).toNatClampNeg = M 2 q := nI_clamp (by omega)
        refine ⟨hk4, fun v1 ev1 => ?_⟩
        have ev1' : v1 = vs (M 2 q) := by rw [ev1, hkN]; rfl
        subst ev1'
        rw [hkN, hqN]
        by_cases c0 : M 1 q = 0
        · rw [c0] at h
          rw [if_neg (by decide), if_pos rfl] at h
          rw [c0]
          exact ⟨fun _ => ⟨hin, h⟩, fun z => absurd rfl z⟩
        · refine ⟨fun z => absurd ((nI_eq (b := 0) (by omega) (by decide)).mp z) c0, fun _ => ?_⟩
          by_cases c1 : M 1 q = 1
          · rw [c1] at h
            rw [if_neg (by decide), if_neg (by decide), if_pos rfl] at h
            rw [c1]
            exact ⟨fun _ => ⟨hk4, hin, h⟩, fun z => absurd rfl z⟩
          · refine ⟨fun z => absurd ((nI_eq (b := 1) (by omega) (by decide)).mp z) c1, fun _ => ?_⟩
            by_cases c2 : M 1 q = 2
            · rw [c2] at h
              rw [if_neg (by decide), if_neg (by decide), if_neg (by decide)] at h
              rw [c2]
              refine ⟨fun _ => ⟨hk4, hk4, hin, ?_⟩, fun z => absurd rfl z⟩
              have eu : upd (mst_values (st_of (c, e + 1, m, vs, D, as))) (M 2 q) (vs (M 2 q) + E 0 q) (M 2 q) = vs (M 2 q) + E 0 q := if_pos rfl
              rw [eu]
              exact h
            · refine ⟨fun z => absurd ((nI_eq (b := 2) (by omega) (by decide)).mp z) c2, fun _ => ?_⟩
              have c3 : M 1 q = 3 := by omega
              rw [if_pos c3] at h
              obtain ⟨v, hv64, hv⟩ := k3 c3
              by_cases hc4 : c = 4
              · subst hc4
                rw [if_pos rfl] at h
                exact ⟨fun z => absurd z (nI_nlt (a := 4) (b := 4) (by omega) (by decide)), fun _ => ⟨hin, h⟩⟩
              · rw [if_neg hc4] at h
                refine ⟨fun _ => ⟨hin, ?_⟩, fun z => absurd (nI_lt (a := c) (b := 4) (by have hc' : c ≤ 4 := hc; omega) (by decide)) z⟩
                have ec : mst_configuration (st_of (c, e + 1, m, vs, D, as)) + 1 = nI (c + 1) := nI_1 c
                rw [ec]
                have em : nI (E 0 q).toNatClampNeg = E 0 q := by rw [hv, nI_clamp (by omega)]
                unfold st_of at h
                simp only [em] at h
                exact h
def nv_g (M : PM) (E : PE) (n : Nat) : Prop := (∃ j, rr_ok M E j ∧ (rr_pth M E j).1 = M 5 n ∧ (rr_pth M E j).2.1 = M 6 n) ∧ M 9 n ≤ M 5 n ∧ M 10 n ≤ M 0 0 ∧ M 7 n < 512 ∧ (∀ s, (M 7 n).testBit s = true → M 6 n < s ∧ s ≤ 8 ∧ M 3 (9 * M 5 n + s) ≠ 0) ∧ M 11 n ≤ 8 ∧ M 13 n < 64 ∧ M 14 n < 64 ∧ M 16 n ≤ M 0 0 ∧ M 17 n ≤ M 0 0 + 1
def gI (M : PM) (E : PE) (t n : Nat) : Prop := nv_1 M E ∧ nv_2 M ∧ (∀ i, i < 6 → i ≠ n → nv_n M E i) ∧ nv_g M E n ∧ nv_4 M t ∧ nv_5 M ∧ px_I M E
def sg (M M' : PM) (n : Nat) : Prop := ∀ r i, (i ≠ n ∨ (r ≠ 5 ∧ r ≠ 6 ∧ r ≠ 7 ∧ r ≠ 11)) → M' r i = M r i
theorem sg_r {M M' : PM} {n r : Nat} (h : sg M M' n) (h5 : r ≠ 5) (h6 : r ≠ 6) (h7 : r ≠ 7) (h11 : r ≠ 11) : M' r = M r := funext fun i => h r i (Or.inr ⟨h5, h6, h7, h11⟩)
theorem sg_ns {M M' : PM} {n : Nat} (h : sg M M' n) : ∀ i, i ≠ n → ns_at M M' i := fun i hi r _ _ => h r i (Or.inl hi)
theorem sg_ext {M M' : PM} {E : PE} {n : Nat} (h : sg M M' n) (h2 : nv_2 M) : px_ext M E M' E := by
  have g0 := sg_r h (r := 0) (by decide) (by decide) (by decide) (by decide)
  have g1 := sg_r h (r := 1) (by decide) (by decide) (by decide) (by decide)
  have g2 := sg_r h (r := 2) (by decide) (by decide) (by decide) (by decide)
  have g3 := sg_r h (r := 3) (by decide) (by decide) (by decide) (by decide)
  exact ⟨fun k _ => by rw [g3], fun q _ => ⟨by rw [g1], by rw [g2], rfl⟩, h2, by rw [g0]; exact Nat.le_refl _⟩
theorem sg_refl (M : PM) (n : Nat) : sg M M n := fun _ _ _ => rfl
theorem sg_trans {M M' M'' : PM} {n : Nat} (h : sg M M' n) (h' : sg M' M'' n) : sg M M'' n := fun r i q => (h' r i q).trans (h r i q)
theorem sg_bk {M M' : PM} {E : PE} {n : Nat} (h : sg M M' n) : bk_of M' E = bk_of M E := by
  unfold bk_of
  rw [sg_r h (r := 0) (by decide) (by decide) (by decide) (by decide), sg_r h (r := 1) (by decide) (by decide) (by decide) (by decide), sg_r h (r := 2) (by decide) (by decide) (by decide) (by decide)]
/-- what a step of one node, that leaves all but its place, its known commands and its slot, keeps -/
theorem sg_I {M M' : PM} {E : PE} {t n : Nat} (hg : gI M E t n) (h : sg M M' n) (hn : nv_g M' E n) (hat : M' 11 n = 0 ∨ (M' 11 n = M 11 n ∧ M' 5 n = M 5 n)) : gI M' E t n := by
  obtain ⟨n1, n2, n3, n3', n4, n5, n6⟩ := hg
  have hx : px_ext M E M' E := sg_ext h n2
  have gg := fun r (a : r ≠ 5) (b : r ≠ 6) (c : r ≠ 7) (d : r ≠ 11) => sg_r (r := r) h a b c d
  have g0 := gg 0 (by decide) (by decide) (by decide) (by decide)
  have g1 := gg 1 (by decide) (by decide) (by decide) (by decide)
  have g2 := gg 2 (by decide) (by decide) (by decide) (by decide)
  have g3 := gg 3 (by decide) (by decide) (by decide) (by decide)
  have g8 := gg 8 (by decide) (by decide) (by decide) (by decide)
  have g9 := gg 9 (by decide) (by decide) (by decide) (by decide)
  have g12 := gg 12 (by decide) (by decide) (by decide) (by decide)
  have g13 := gg 13 (by decide) (by decide) (by decide) (by decide)
  have g14 := gg 14 (by decide) (by decide) (by decide) (by decide)
  have g15 := gg 15 (by decide) (by decide) (by decide) (by decide)
  have g16 := gg 16 (by decide) (by decide) (by decide) (by decide)
  have g17 := gg 17 (by decide) (by decide) (by decide) (by decide)
  have g18 := gg 18 (by decide) (by decide) (by decide) (by decide)
  have g19 := gg 19 (by decide) (by decide) (by decide) (by decide)
  have g20 := gg 20 (by decide) (by decide) (by decide) (by decide)
  refine ⟨?_, ?_, ?_, hn, ?_, ?_, ?_⟩
  · unfold nv_1; rw [g0, g1, g2]; exact n1
  · intro j; rw [g3, g0]; exact n2 j
  · intro i hi e; exact nv_n_ext hx (sg_ns h i e) (n3 i hi e)
  · unfold nv_4; rw [g8, g12, g15, g18, g19, g20, g0]; exact n4
  · unfold nv_5; rw [g19, g20]; exact n5
  · refine px_frame hx g3 (fun i => by rw [g8]; exact Nat.le_refl _) g9 g18 g19 g20 (fun i hi h11 => ?_) n6
    rw [g12, g13, g14, g15, g16, g17]
    by_cases e : i = n
    · subst e
      rcases hat with z | z
      · exact absurd z h11
      · exact ⟨z.1, z.2, rfl, rfl, rfl, rfl, rfl, rfl⟩
    · exact ⟨h 11 i (Or.inl e), h 5 i (Or.inl e), rfl, rfl, rfl, rfl, rfl, rfl⟩
/-- one command executed at node n -/
def rr_nx (M : PM) (E : PE) (n : Nat) : RR := rr_step M E (rr_nd M E n) (rr_cmd M (rr_nd M E n) - 1)
def op_ex (M : PM) (E : PE) (n : Nat) : PM := fun r i => if i = n then (if r = 5 then (rr_nx M E n).1 else if r = 6 then (rr_nx M E n).2.1 else if r = 7 then (if (rr_nx M E n).1 = M 5 n then n_cl (M 7 n) (M 6 n + 1) else 0) else if r = 11 then (if (rr_nx M E n).1 = M 5 n then M 11 n else 0) else M r i) else M r i
theorem op_ex_sg (M : PM) (E : PE) (n : Nat) : sg M (op_ex M E n) n := by
  intro r i h
  unfold op_ex
  rcases h with h | ⟨h5, h6, h7, h11⟩
  · rw [if_neg h]
  · simp [h5, h6, h7, h11]
theorem op_ex_5 (M : PM) (E : PE) (n : Nat) : op_ex M E n 5 n = (rr_nx M E n).1 := by simp [op_ex]
theorem op_ex_6 (M : PM) (E : PE) (n : Nat) : op_ex M E n 6 n = (rr_nx M E n).2.1 := by simp [op_ex]
theorem op_ex_7 (M : PM) (E : PE) (n : Nat) : op_ex M E n 7 n = if (rr_nx M E n).1 = M 5 n then n_cl (M 7 n) (M 6 n + 1) else 0 := by simp [op_ex]
theorem op_ex_11 (M : PM) (E : PE) (n : Nat) : op_ex M E n 11 n = if (rr_nx M E n).1 = M 5 n then M 11 n else 0 := by simp [op_ex]
theorem g_mem {M : PM} {E : PE} {t n : Nat} (hg : gI M E t n) : (rr_nd M E n).1 = M 5 n ∧ (rr_nd M E n).2.1 = M 6 n ∧ M 5 n ≤ 4 ∧ M 6 n ≤ 8 := by
  obtain ⟨J, hJ, e5, e6, er⟩ := g_path hg.2.2.2.1.1
  have hb := rr_pth_bd hJ
  rw [er]
  exact ⟨e5, e6, by omega, by omega⟩
theorem op_ex_I {M : PM} {E : PE} {t n : Nat} (hg : gI M E t n) (h8 : M 6 n < 8) (hb : (M 7 n).testBit (M 6 n + 1) = true) : gI (op_ex M E n) E t n ∧ rr_nd (op_ex M E n) E n = rr_nx M E n ∧ ((rr_nx M E n).1 = M 5 n ∧ (rr_nx M E n).2.1 = M 6 n + 1 ∨ (rr_nx M E n).1 = M 5 n + 1 ∧ (rr_nx M E n).2.1 = 0) := by
  have hs := op_ex_sg M E n
  have hx : px_ext M E (op_ex M E n) E := sg_ext hs hg.2.1
  obtain ⟨hp, q9, q10, q7, qk, q11, q13, q14, q16, q17⟩ := hg.2.2.2.1
  obtain ⟨J, hJ, e5, e6, er⟩ := g_path hp
  have hk := qk _ hb
  have hJ1 : rr_ok M E (J + 1) := by
    intro j hj
    by_cases e : j = J
    · subst e
      unfold rr_cmd
      rw [e5, e6]
      exact ⟨hk.2.2, h8⟩
    · exact hJ j (by omega)
  have enx : rr_nx M E n = rr_pth M E (J + 1) := by
    unfold rr_nx
    rw [er]; rfl
  obtain ⟨p1, p2⟩ := rr_ext hx hJ1
  have hnd : rr_nd (op_ex M E n) E n = rr_nx M E n := by
    unfold rr_nd
    rw [op_ex_5, op_ex_6, enx, ← p1]
    exact rr_at_pth p2
  have hcase : (rr_nx M E n).1 = M 5 n ∧ (rr_nx M E n).2.1 = M 6 n + 1 ∨ (rr_nx M E n).1 = M 5 n + 1 ∧ (rr_nx M E n).2.1 = 0 := by
    rw [enx]
    rcases rr_mono1 hJ1 with ⟨a, b, -⟩ | ⟨a, b⟩
    · exact Or.inl ⟨by omega, by omega⟩
    · exact Or.inr ⟨by omega, by omega⟩
  refine ⟨sg_I hg hs ?_ ?_, hnd, hcase⟩
  · have gg := fun r (a : r ≠ 5) (b : r ≠ 6) (c : r ≠ 7) (d : r ≠ 11) => sg_r (r := r) hs a b c d
    unfold nv_g
    rw [gg 9 (by decide) (by decide) (by decide) (by decide), gg 10 (by decide) (by decide) (by decide) (by decide), gg 0 (by decide) (by decide) (by decide) (by decide), gg 3 (by decide) (by decide) (by decide) (by decide), gg 13 (by decide) (by decide) (by decide) (by decide), gg 14 (by decide) (by decide) (by decide) (by decide), gg 16 (by decide) (by decide) (by decide) (by decide), gg 17 (by decide) (by decide) (by decide) (by decide), op_ex_5, op_ex_6, op_ex_7, op_ex_11]
    have hpath : ∃ j, rr_ok (op_ex M E n) E j ∧ (rr_pth (op_ex M E n) E j).1 = (rr_nx M E n).1 ∧ (rr_pth (op_ex M E n) E j).2.1 = (rr_nx M E n).2.1 := ⟨J + 1, p2, by rw [p1, enx], by rw [p1, enx]⟩
    rcases hcase with ⟨a, b⟩ | ⟨a, b⟩
    · rw [if_pos a, if_pos a]
      refine ⟨hpath, by omega, q10, n_cl_lt (m := 9) q7, fun s hs => ?_, q11, q13, q14, q16, q17⟩
      rw [n_cl_bit] at hs
      have h1 : (M 7 n).testBit s = true ∧ s ≠ M 6 n + 1 := by
        cases hh : (M 7 n).testBit s
        · rw [hh] at hs; simp at hs
        · rw [hh] at hs; simp at hs; exact ⟨rfl, hs⟩
      have := qk s h1.1
      rw [a, b]
      exact ⟨by omega, this.2.1, this.2.2⟩
    · rw [if_neg (by omega), if_neg (by omega)]
      refine ⟨hpath, by omega, q10, by decide, fun s hs => ?_, by omega, q13, q14, q16, q17⟩
      rw [Nat.zero_testBit] at hs
      exact absurd hs (by decide)
  · rw [op_ex_5, op_ex_11]
    rcases hcase with ⟨a, b⟩ | ⟨a, b⟩
    · rw [if_pos a]; exact Or.inr ⟨rfl, a⟩
    · rw [if_neg (by omega)]; exact Or.inl rfl
