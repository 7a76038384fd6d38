/-! start -/
theorem p_isKnownAt {M : PM} {E : PE} {n s : Nat} {post : Int32 → MndT → Prop} (h2 : nv_2 M) (hq : M 0 0 ≤ 30) (h3 : nv_n M E n) (hs1 : 1 ≤ s) (hs8 : s ≤ 8) (h : post (if (M 7 n).testBit s = true then 1 else 0) (nd_of M E n)) : wp_Nd_isKnownAt (nd_of M E n) (nI s) post := by
  refine p_slot1 (dc_s8 hs1 hs8) (br1 ⟨vp_in_nI (by omega) (by decide), ?_⟩)
  have ek : mnd_knownCommands (nd_of M E n) (nI s).toNatClampNeg = if (M 7 n).testBit s = true then nI (M 3 (9 * M 5 n + s)) - 1 else -1 := by
    show (if (nI s).toNatClampNeg < 9 then (if (M 7 n).testBit (nI s).toNatClampNeg = true then nI (M 3 (9 * M 5 n + (nI s).toNatClampNeg)) - 1 else -1) else 0) = _
    rw [nI_clamp (by omega), if_pos (by omega)]
  rw [ek]
  by_cases hb : (M 7 n).testBit s = true
  · rw [if_pos hb] at h ⊢
    have h0 := (h3.2.2.2.2.1 s hb).2.2
    have := h2 (9 * M 5 n + s)
    refine ⟨fun z => ?_, fun _ => h⟩
    rw [nI_m1 h0] at z
    have z1 := congrArg Int32.toInt z
    rw [nI_toInt (by omega)] at z1
    have z2 : (-1 : Int32).toInt = -1 := by decide
    rw [z2] at z1
    omega
  · rw [if_neg hb] at h ⊢
    exact ⟨fun _ => h, fun z => absurd rfl z⟩
/-- the least ballot of node n above l -/
def lb (l n : Nat) : Nat := 6 * ((l - n) / 6 + 1) + n
theorem p_least {z : MndT} {l n : Nat} {post : Int32 → MndT → Prop} (hl : l < 2 ^ 20) (hn : n < 6) (e1 : mnd_last z = nI l) (e2 : mnd_number z = nI n) (h : post (nI (lb l n)) z) : wp_Nd_leastBallotAboveLast z post := by
  intro v hv
  have ev : v = nI ((l - n) / 6 + 1) := by
    rw [hv, e1, e2]
    by_cases hln : l < n
    · rw [if_pos (pk_sneg (by omega) hln), show l - n = 0 by omega]
      decide
    · rw [pk_sub (by omega), if_neg (nI_pos (by omega)), show (6 : Int32) = nI 6 from rfl, pk_div (by omega) (by decide) (by decide), nI_1]
  have : (6 : Int32) * v + mnd_number z = nI (lb l n) := by
    rw [ev, e2, show (6 : Int32) = nI 6 from rfl, pk_mul, nI_add]; rfl
  rw [this]
  exact h
theorem p_st62 {M : PM} {E : PE} {va dn an : Nat → Int32} {mb ac ae : Int32} {n : Nat} {y2 : Int32} (hn : n < 6) (hl : M 8 n < 100000) {K : Int32 → Int32 → Int32 → Int32 → MmdT → Prop} (h : ∀ y5, K (nI n) y2 (nI (lb (M 8 n) n)) y5 (md_of M E va dn an mb ac ae)) : ∀ d k : Nat, k + d = (M 8 n - n) / 6 → wp_Md_start_L62 K (d + 1) (nI n) y2 (nI (6 + n + 6 * k)) (nI k) (md_of M E va dn an mb ac ae)
  | 0, k, e => by
    have ek : 6 + n + 6 * k = lb (M 8 n) n := by unfold lb; omega
    rw [ek]
    refine ⟨fun _ => h _, fun _ => ⟨vp_in_nI hn (by decide), fun _ => h _, fun z => absurd ?_ z⟩⟩
    show nI (M 8 (nI n).toNatClampNeg) < nI (lb (M 8 n) n)
    rw [rdN M 8 hn]
    exact nI_lt (by unfold lb; omega) (by unfold lb; omega)
  | d + 1, k, e => by
    refine ⟨fun z => absurd z (nI_ge (a := k) (b := 100000) (by omega) (by decide)), fun _ => ⟨vp_in_nI hn (by decide), fun z => absurd z ?_, fun _ v hv w hw => ?_⟩⟩
    · show ¬ nI (M 8 (nI n).toNatClampNeg) < nI (6 + n + 6 * k)
      rw [rdN M 8 hn]
      exact nI_nlt (by omega) (by omega)
    · have hv' : v = nI (6 + n + 6 * (k + 1)) := by
        rw [hv, show (6 : Int32) = nI 6 from rfl, nI_add]; rfl
      have hw' : w = nI (k + 1) := by rw [hw]; exact (nI_succ k).symm
      subst hv'; subst hw'
      exact p_st62 hn hl h d (k + 1) (by omega)
theorem ps_start_eq (M : PM) (n s b : Nat) : ps_set (ps_set (ps_set (ps_set (ps_set (ps_set (ps_set (ps_set M 8 n b) 11 n s) 12 n b) 13 n 0) 14 n 0) 15 n 0) 16 n 0) 17 n 0 = ps_start M n s b := by
  funext r i
  by_cases hi : i = n
  · subst hi
    by_cases h8 : r = 8
    · subst h8; simp [ps_set, ps_start]
    · by_cases h11 : r = 11
      · subst h11; simp [ps_set, ps_start]
      · by_cases h12 : r = 12
        · subst h12; simp [ps_set, ps_start]
        · by_cases h13 : r = 13
          · subst h13; simp [ps_set, ps_start]
          · by_cases h14 : r = 14
            · subst h14; simp [ps_set, ps_start]
            · by_cases h15 : r = 15
              · subst h15; simp [ps_set, ps_start]
              · by_cases h16 : r = 16
                · subst h16; simp [ps_set, ps_start]
                · by_cases h17 : r = 17
                  · subst h17; simp [ps_set, ps_start]
                  · simp [ps_set, ps_start, h8, h11, h12, h13, h14, h15, h16, h17]
  · simp [ps_set, ps_start, hi]
theorem mw_command {M : PM} {E : PE} {va dn an : Nat → Int32} {mb ac ae : Int32} {n : Nat} (v : Nat) (hn : n < 6) : mmd_s_command (md_of M E va dn an mb ac ae) (upd (mmd_command (md_of M E va dn an mb ac ae)) (nI n).toNatClampNeg (nI v - 1)) = md_of (ps_set M 17 n v) E va dn an mb ac ae := by
  rw [nI_clamp (by omega)]; exact ms_command M E va dn an mb ac ae n v
theorem st_start : ls_start RI := by
  intro t zc zn zm x1 x2 ht ⟨M, E, va, dn, an, mb, ac, ae, hI, hc, hn, hm⟩
  subst hc; subst hm
  rcases dc_n x1 with h1 | ⟨n, hn6, rfl⟩
  · exact ⟨0, by omega, p_node0 h1 (br0 (p_mnode0 h1 (br0 ⟨rfl, RI_same hI rfl (hn 0 (by omega)) hn rfl⟩)))⟩
  · refine ⟨n, hn6, p_node1 (dc_k hn6) (br1 ⟨rfl, ?_⟩)⟩
    rw [hn n hn6]
    have h3 := hI.2.2.1 n hn6
    have hb := nd_mem hI.1 hI.2.1 h3
    have hv : vp_in (nI n) 6 := vp_in_nI hn6 (by decide)
    have hs : RI (t + 1) (ch_of M E) (va_up zn n (nd_of M E n)) (md_of M E va dn an mb ac ae) := RI_same hI rfl rfl hn rfl
    have hu : mnd_up (nd_of M E n) = up_of M n := rfl
    have ee : mst_executed (mnd_state (nd_of M E n)) = nI (M 6 n) := by
      show nI (rr_nd M E n).2.1 = _
      rw [hb.2.2.1]
    have e6 : mmd_executed (md_of M E va dn an mb ac ae) (nI n).toNatClampNeg = nI (M 6 n) := rdN M 6 hn6
    have e2 : nI (M 6 n) + (2 : Int32) = nI (M 6 n + 2) := nI_add (M 6 n) 2
    -- the model down to its test of up
    have hM : ∀ P : Int32 → MmdT → Prop, (up_of M n = 0 → P 0 (md_of M E va dn an mb ac ae)) → (up_of M n = 1 → ((x2 ≤ nI (M 6 n) → P 0 (md_of M E va dn an mb ac ae)) ∧ (¬ x2 ≤ nI (M 6 n) → ((nI (M 6 n + 2) < x2 → P 0 (md_of M E va dn an mb ac ae)) ∧ (¬ nI (M 6 n + 2) < x2 → ((8 < x2 → P 0 (md_of M E va dn an mb ac ae)) ∧ (¬ (8 : Int32) < x2 → wp_Md_knows (md_of M E va dn an mb ac ae) (nI n) x2 (fun (r10 : Int32) (u11 : MmdT) => ((r10 = 0 → (∀ v13 : Int32, v13 = 6 + nI n → (∃ n62 : Nat, wp_Md_start_L62 (fun (y1 : Int32) (y2 : Int32) (y4 : Int32) (y5 : Int32) (z1 : MmdT) => (vp_in y1 6 ∧ (∀ w18 : MmdT, w18 = mmd_s_last z1 (upd (mmd_last z1) (y1).toNatClampNeg y4) → (vp_in y1 6 ∧ (∀ w19 : MmdT, w19 = mmd_s_slot w18 (upd (mmd_slot w18) (y1).toNatClampNeg y2) → (vp_in y1 6 ∧ (∀ w20 : MmdT, w20 = mmd_s_ballot w19 (upd (mmd_ballot w19) (y1).toNatClampNeg y4) → (vp_in y1 6 ∧ (∀ w21 : MmdT, w21 = mmd_s_promisers w20 (upd (mmd_promisers w20) (y1).toNatClampNeg 0) → (vp_in y1 6 ∧ (∀ w22 : MmdT, w22 = mmd_s_voters w21 (upd (mmd_voters w21) (y1).toNatClampNeg 0) → (vp_in y1 6 ∧ (∀ w23 : MmdT, w23 = mmd_s_bestBallot w22 (upd (mmd_bestBallot w22) (y1).toNatClampNeg 0) → (vp_in y1 6 ∧ (∀ w24 : MmdT, w24 = mmd_s_bestCommand w23 (upd (mmd_bestCommand w23) (y1).toNatClampNeg 0) → (vp_in y1 6 ∧ (∀ w25 : MmdT, w25 = mmd_s_command w24 (upd (mmd_command w24) (y1).toNatClampNeg (-1)) → (P y4 w25)))))))))))))))))) n62 (nI n) x2 v13 0 u11))) ∧ (¬ r10 = 0 → (P 0 u11))))))))))) → wp_Md_start (md_of M E va dn an mb ac ae) (nI n) x2 P := by
      intro P p0 p1
      refine p_mnode1 (dc_k hn6) (br1 ⟨hv, fun v3 e3 => p_isUp hn6 ?_⟩)
      rw [e6] at e3
      subst e3
      rw [e2]
      rcases up_cases M n with ⟨u0, ub⟩ | ⟨u1, ub⟩
      · rw [u0]; exact br0 (p0 u0)
      · rw [u1]; exact br1 (p1 u1)
    rw [hu]
    rcases up_cases M n with ⟨u0, ub⟩ | ⟨u1, ub⟩
    · rw [u0]
      exact br0 (hM _ (fun _ => ⟨rfl, hs⟩) (fun z => absurd (u0.symm.trans z) (by decide)))
    · rw [u1]
      have hno : ∀ {A : Prop}, up_of M n = 0 → A := fun z => absurd (u1.symm.trans z) (by decide)
      refine br1 ?_
      -- a start that isn't allowed
      have bad : ∀ (c : (x2 ≤ nI (M 6 n) ∨ nI (M 6 n + 2) < x2) ∨ 8 < x2), wp_Md_start (md_of M E va dn an mb ac ae) (nI n) x2 (fun (r2 : Int32) (zm' : MmdT) => (0 : Int32) = r2 ∧ RI (t + 1) (ch_of M E) (va_up zn n (nd_of M E n)) zm') := by
        intro c
        refine hM _ hno (fun _ => ⟨fun _ => ⟨rfl, hs⟩, fun a => ⟨fun _ => ⟨rfl, hs⟩, fun b => ⟨fun _ => ⟨rfl, hs⟩, fun d => ?_⟩⟩⟩)
        rcases c with (c | c) | c
        · exact absurd c a
        · exact absurd c b
        · exact absurd c d
      unfold wp_Nd_mayAttempt
      rw [ee, e2]
      refine ⟨fun a => br0 (bad (Or.inl (Or.inl a))), fun a => ⟨fun b => br0 (bad (Or.inl (Or.inr b))), fun b => ?_⟩⟩
      have hsr : ∃ s, M 6 n + 1 ≤ s ∧ s ≤ M 6 n + 2 ∧ x2 = nI s := by
        rcases dc_r x2 (lo := M 6 n + 1) (hi := M 6 n + 2) (by omega) (by omega) with z | z
        · exfalso
          rcases z with z | z
          · apply a
            rw [Int32.lt_iff_toInt_lt, nI_toInt (by omega)] at z
            rw [Int32.le_iff_toInt_le, nI_toInt (by omega)]
            omega
          · exact b z
        · exact z
      obtain ⟨s, hs1, hs2, rfl⟩ := hsr
      by_cases h8 : 8 < s
      · have h8' : (8 : Int32) < nI s := nI_lt (a := 8) h8 (by omega)
        exact p_slot0 (Or.inr h8') (br0 (br0 (bad (Or.inr h8'))))
      · refine p_slot1 (dc_s8 (by omega) (by omega)) (br1 (p_isKnownAt hI.2.1 hI.1.1 h3 (by omega) (by omega) ?_))
        by_cases hkn : (M 7 n).testBit s = true
        · rw [if_pos hkn]
          refine br1 (br0 (hM _ hno (fun _ => ⟨fun z => absurd z a, fun _ => ⟨fun z => absurd z b, fun _ => ⟨fun z => absurd z (nI_nlt (a := 8) (b := s) (by omega) (by decide)), fun _ => p_knows hn6 (by omega) ?_⟩⟩⟩)))
          rw [if_pos hkn]
          exact br1 ⟨rfl, hs⟩
        · rw [if_neg hkn]
          have hl8 := (hI.2.2.2.1.1 n hn6).1
          refine br0 (br1 (p_least (l := M 8 n) (n := n) (by omega) hn6 rfl rfl ?_))
          unfold wp_At_begin
          refine hM _ hno (fun _ => ⟨fun z => absurd z a, fun _ => ⟨fun z => absurd z b, fun _ => ⟨fun z => absurd z (nI_nlt (a := 8) (b := s) (by omega) (by decide)), fun _ => p_knows hn6 (by omega) ?_⟩⟩⟩)
          rw [if_neg hkn]
          refine br0 (fun v13 e13 => ?_)
          have e13' : v13 = nI (6 + n + 6 * 0) := by
            rw [e13, show (6 : Int32) = nI 6 from rfl, nI_add]; rfl
          subst e13'
          refine ⟨(M 8 n - n) / 6 + 1, ?_⟩
          rw [← nI_0]
          refine p_st62 hn6 (by omega) (fun y5 => ?_) ((M 8 n - n) / 6) 0 (by omega)
          refine ⟨hv, fun w e => ?_⟩
          obtain rfl := e.trans (mw_last (lb (M 8 n) n) hn6)
          refine ⟨hv, fun w e => ?_⟩
          obtain rfl := e.trans (mw_slot s hn6)
          refine ⟨hv, fun w e => ?_⟩
          obtain rfl := e.trans (mw_ballot (lb (M 8 n) n) hn6)
          refine ⟨hv, fun w e => ?_⟩
          obtain rfl := e.trans (mw_promisers 0 hn6)
          refine ⟨hv, fun w e => ?_⟩
          obtain rfl := e.trans (mw_voters 0 hn6)
          refine ⟨hv, fun w e => ?_⟩
          obtain rfl := e.trans (mw_bestBallot 0 hn6)
          refine ⟨hv, fun w e => ?_⟩
          obtain rfl := e.trans (mw_bestCommand 0 hn6)
          refine ⟨hv, fun w e => ?_⟩
          obtain rfl := e.trans (mw_command 0 hn6)
          refine ⟨rfl, ?_⟩
          rw [ps_start_eq]
          obtain ⟨B, hB⟩ : ∃ B, B = lb (M 8 n) n := ⟨_, rfl⟩
          rw [← hB]
          have hB1 : M 8 n < B := by rw [hB]; unfold lb; omega
          have hB2 : B % 6 = n := by rw [hB]; unfold lb; omega
          have hB3 : B ≤ 6 * t + 18 := by rw [hB]; unfold lb; omega
          have g : ∀ r, r ≠ 8 → r ≠ 11 → r ≠ 12 → r ≠ 13 → r ≠ 14 → r ≠ 15 → r ≠ 16 → r ≠ 17 → ps_start M n s B r = M r := by
            intro r a b c d e f g h
            funext i
            simp [ps_start, *]
          have g0 := g 0 (by decide) (by decide) (by decide) (by decide) (by decide) (by decide) (by decide) (by decide)
          have g1 := g 1 (by decide) (by decide) (by decide) (by decide) (by decide) (by decide) (by decide) (by decide)
          have g2 := g 2 (by decide) (by decide) (by decide) (by decide) (by decide) (by decide) (by decide) (by decide)
          have g3 := g 3 (by decide) (by decide) (by decide) (by decide) (by decide) (by decide) (by decide) (by decide)
          have g5 := g 5 (by decide) (by decide) (by decide) (by decide) (by decide) (by decide) (by decide) (by decide)
          have g6 := g 6 (by decide) (by decide) (by decide) (by decide) (by decide) (by decide) (by decide) (by decide)
          have g7 := g 7 (by decide) (by decide) (by decide) (by decide) (by decide) (by decide) (by decide) (by decide)
          have g9 := g 9 (by decide) (by decide) (by decide) (by decide) (by decide) (by decide) (by decide) (by decide)
          have g10 := g 10 (by decide) (by decide) (by decide) (by decide) (by decide) (by decide) (by decide) (by decide)
          have g18 := g 18 (by decide) (by decide) (by decide) (by decide) (by decide) (by decide) (by decide) (by decide)
          have g19 := g 19 (by decide) (by decide) (by decide) (by decide) (by decide) (by decide) (by decide) (by decide)
          have g20 := g 20 (by decide) (by decide) (by decide) (by decide) (by decide) (by decide) (by decide) (by decide)
          have a8 : ps_start M n s B 8 n = B := by simp [ps_start]
          have a11 : ps_start M n s B 11 n = s := by simp [ps_start]
          have a12 : ps_start M n s B 12 n = B := by simp [ps_start]
          have a13 : ps_start M n s B 13 n = 0 := by simp [ps_start]
          have a14 : ps_start M n s B 14 n = 0 := by simp [ps_start]
          have a15 : ps_start M n s B 15 n = 0 := by simp [ps_start]
          have a16 : ps_start M n s B 16 n = 0 := by simp [ps_start]
          have a17 : ps_start M n s B 17 n = 0 := by simp [ps_start]
          have hss : ∀ i, i ≠ n → ns_at M (ps_start M n s B) i := fun i hi r _ _ => by simp [ps_start, hi]
          have hx := px_ext_of (M' := ps_start M n s B) (E' := E) hI rfl (by rw [g0]) g1 g2 g3
          obtain ⟨n1, n2, n3, n4, n5, n6⟩ := id hI
          have hN : nv_I (ps_start M n s B) E (t + 1) := by
            refine ⟨?_, ?_, ?_, ?_, ?_, px_start hn6 hB2 hB1 n2 n6⟩
            · unfold nv_1; rw [g0, g1, g2]; exact n1
            · intro j; rw [g3, g0]; exact n2 j
            · intro i hi
              by_cases e : i = n
              · subst e
                obtain ⟨-, q9, q10, q7, qk, q11, qa, q13, q14, q16, q17⟩ := h3
                unfold nv_n
                rw [g9, g10, g0, g7, a11, a13, a14, a16, a17, g6, g3]
                have hp := nv_path hx (hI.2.2.1 i hn6) (by rw [g5]) (by rw [g6])
                rw [g6] at hp
                refine ⟨hp, by rw [g5]; exact q9, q10, q7, by rw [g5]; exact qk, by omega, fun _ => ⟨by omega, by simpa using hkn⟩, by omega, by omega, by omega, by omega⟩
              · exact nv_n_ext hx (hss i e) (n3 i hi)
            · refine ⟨fun i hi => ?_, fun j => ?_⟩
              · by_cases e : i = n
                · subst e; rw [a8, a12, a15]; omega
                · have := n4.1 i hi
                  rw [hss i e 8 (by omega) (by omega), hss i e 12 (by omega) (by omega), hss i e 15 (by omega) (by omega)]; omega
              · have := n4.2 j
                rw [g18, g19, g20, g0]; omega
            · unfold nv_5; rw [g19, g20]; exact n5
          refine RI_upd hI ⟨hN, hx⟩ hss g18 g19 g20 (fun i _ => by rw [g0]) (ch_same (by rw [g0]) (by rw [g0]) g1 g2 rfl).symm ?_ hn rfl
          refine nd_mk (M := ps_start M n s B) ?_ ?_ (lg_same g18 g19 g20).symm (by rw [a8, hB]; rfl) (by rw [g9]; rfl) ?_ (by rw [g10]; rfl) ?_
          · unfold up_of; rw [g0]; rfl
          · rw [rr_nd_ext hx h3 (by rw [g5]) (by rw [g6])]; rfl
          · unfold kn_of; rw [g7, g5, g3]; rfl
          · rw [at_rd (by rw [a11]; omega), a11, a12, a13, a14, a15, a16, a17, hB]; rfl
