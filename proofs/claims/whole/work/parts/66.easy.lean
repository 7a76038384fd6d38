/-! small steps -/
theorem nv_mono {M : PM} {E : PE} {t : Nat} (h : nv_I M E t) : nv_I M E (t + 1) := by
  obtain ⟨h1, h2, h3, ⟨h4, h5⟩, h6, h7⟩ := h
  exact ⟨h1, h2, h3, ⟨fun n hn => ⟨by have := h4 n hn; omega, by have := h4 n hn; omega, by have := h4 n hn; omega⟩, fun i => ⟨by have := h5 i; omega, by have := h5 i; omega, (h5 i).2.2⟩⟩, h6, h7⟩
theorem RI_up {M M' : PM} {E E' : PE} {t k : Nat} {zc : MchT} {zn : Nat → MndT} {zm : MmdT} {y : MndT} {va dn an : Nat → Int32} {mb ac ae : Int32} (hI : nv_I M' E' t) (hc : zc = ch_of M' E') (hk : y = nd_of M' E' k) (hf : ∀ n, n < 6 → n ≠ k → nd_of M' E' n = nd_of M E n) (hz : ∀ n, n < 6 → zn n = nd_of M E n) (hm : zm = md_of M' E' va dn an mb ac ae) : RI t zc (va_up zn k y) zm := by
  refine ⟨M', E', va, dn, an, mb, ac, ae, hI, hc, fun n hn => ?_, hm⟩
  by_cases e : n = k
  · subst e; rw [va_up_self]; exact hk
  · rw [va_up_ne _ _ e, hz n hn, hf n hn e]
theorem RI_same {M : PM} {E : PE} {t k : Nat} {zc : MchT} {zn : Nat → MndT} {zm : MmdT} {y : MndT} {va dn an : Nat → Int32} {mb ac ae : Int32} (hI : nv_I M E t) (hc : zc = ch_of M E) (hk : y = nd_of M E k) (hz : ∀ n, n < 6 → zn n = nd_of M E n) (hm : zm = md_of M E va dn an mb ac ae) : RI (t + 1) zc (va_up zn k y) zm :=
  RI_up (nv_mono hI) hc hk (fun _ _ _ => rfl) hz hm
theorem st_none : ls_none RI := fun t zc zn zm ⟨M, E, va, dn, an, mb, ac, ae, hI, h⟩ => ⟨M, E, va, dn, an, mb, ac, ae, nv_mono hI, h⟩
theorem br0 {A B : Prop} (a : A) : ((0 : Int32) = 0 → A) ∧ (¬ (0 : Int32) = 0 → B) := ⟨fun _ => a, fun h => absurd rfl h⟩
theorem br1 {A B : Prop} (b : B) : ((1 : Int32) = 0 → A) ∧ (¬ (1 : Int32) = 0 → B) := ⟨fun h => absurd h (by decide), fun _ => b⟩
theorem nle_of_lt {x y : Int32} (h : x < y) : ¬ y ≤ x := by
  rw [Int32.lt_iff_toInt_lt] at h
  rw [Int32.le_iff_toInt_le]
  omega
theorem nlt_of_le {x y : Int32} (h : x ≤ y) : ¬ y < x := fun q => nle_of_lt q h
theorem p_has0 {z : MbkT} {x : Int32} {post : Int32 → MbkT → Prop} (h : x < 1 ∨ mbk_count z < x) (h0 : post 0 z) : wp_Bk_has z x post := by
  unfold wp_Bk_has
  refine ⟨fun _ => h0, fun h1 => ⟨fun _ => h0, fun h2 => ?_⟩⟩
  rcases h with h | h
  · exact absurd h h1
  · exact absurd h h2
theorem p_has1 {z : MbkT} {x : Int32} {post : Int32 → MbkT → Prop} (h : ¬ (x < 1 ∨ mbk_count z < x)) (h0 : post 1 z) : wp_Bk_has z x post := by
  unfold wp_Bk_has
  exact ⟨fun h1 => absurd (Or.inl h1) h, fun _ => ⟨fun h2 => absurd (Or.inr h2) h, fun _ => h0⟩⟩
theorem p_node0 {x : Int32} {post : Int32 → Prop} (h : x < 0 ∨ 6 ≤ x) (h0 : post 0) : wp_Ch_isNode x post := by
  unfold wp_Ch_isNode
  refine ⟨fun _ => h0, fun h1 => ⟨fun _ => h0, fun h2 => ?_⟩⟩
  rcases h with h | h
  · exact absurd h h1
  · exact absurd h h2
theorem p_node1 {x : Int32} {post : Int32 → Prop} (h : ¬ (x < 0 ∨ 6 ≤ x)) (h0 : post 1) : wp_Ch_isNode x post := by
  unfold wp_Ch_isNode
  exact ⟨fun h1 => absurd (Or.inl h1) h, fun _ => ⟨fun h2 => absurd (Or.inr h2) h, fun _ => h0⟩⟩
theorem p_mnode0 {x : Int32} {post : Int32 → Prop} (h : x < 0 ∨ 6 ≤ x) (h0 : post 0) : wp_Md_node x post := by
  unfold wp_Md_node
  refine ⟨fun _ => h0, fun h1 => ⟨fun _ => h0, fun h2 => ?_⟩⟩
  rcases h with h | h
  · exact absurd h h1
  · exact absurd h h2
theorem p_mnode1 {x : Int32} {post : Int32 → Prop} (h : ¬ (x < 0 ∨ 6 ≤ x)) (h0 : post 1) : wp_Md_node x post := by
  unfold wp_Md_node
  exact ⟨fun h1 => absurd (Or.inl h1) h, fun _ => ⟨fun h2 => absurd (Or.inr h2) h, fun _ => h0⟩⟩
theorem p_key0 {x : Int32} {post : Int32 → Prop} (h : x < 0 ∨ 4 ≤ x) (h0 : post 0) : wp_Ch_isKey x post := by
  unfold wp_Ch_isKey
  refine ⟨fun _ => h0, fun h1 => ⟨fun _ => h0, fun h2 => ?_⟩⟩
  rcases h with h | h
  · exact absurd h h1
  · exact absurd h h2
theorem p_key1 {x : Int32} {post : Int32 → Prop} (h : ¬ (x < 0 ∨ 4 ≤ x)) (h0 : post 1) : wp_Ch_isKey x post := by
  unfold wp_Ch_isKey
  exact ⟨fun h1 => absurd (Or.inl h1) h, fun _ => ⟨fun h2 => absurd (Or.inr h2) h, fun _ => h0⟩⟩
theorem p_conf0 {x : Int32} {post : Int32 → Prop} (h : x < 0 ∨ 5 ≤ x) (h0 : post 0) : wp_Ch_isConfiguration x post := by
  unfold wp_Ch_isConfiguration
  refine ⟨fun _ => h0, fun h1 => ⟨fun _ => h0, fun h2 => ?_⟩⟩
  rcases h with h | h
  · exact absurd h h1
  · exact absurd h h2
theorem p_conf1 {x : Int32} {post : Int32 → Prop} (h : ¬ (x < 0 ∨ 5 ≤ x)) (h0 : post 1) : wp_Ch_isConfiguration x post := by
  unfold wp_Ch_isConfiguration
  exact ⟨fun h1 => absurd (Or.inl h1) h, fun _ => ⟨fun h2 => absurd (Or.inr h2) h, fun _ => h0⟩⟩
theorem p_slot0 {x : Int32} {post : Int32 → Prop} (h : x < 1 ∨ 8 < x) (h0 : post 0) : wp_Ch_isSlot x post := by
  unfold wp_Ch_isSlot
  refine ⟨fun _ => h0, fun h1 => ⟨fun _ => h0, fun h2 => ?_⟩⟩
  rcases h with h | h
  · exact absurd h h1
  · exact absurd h h2
theorem p_slot1 {x : Int32} {post : Int32 → Prop} (h : ¬ (x < 1 ∨ 8 < x)) (h0 : post 1) : wp_Ch_isSlot x post := by
  unfold wp_Ch_isSlot
  exact ⟨fun h1 => absurd (Or.inl h1) h, fun _ => ⟨fun h2 => absurd (Or.inr h2) h, fun _ => h0⟩⟩
theorem p_cell0 {x1 x2 x3 : Int32} {post : Int32 → Prop} (h : (x1 < 0 ∨ 6 ≤ x1) ∨ (x2 < 0 ∨ 4 < x2) ∨ (x3 < 1 ∨ 8 < x3)) (h0 : post 0) : wp_Md_cell x1 x2 x3 post := by
  unfold wp_Md_cell
  by_cases h1 : x1 < 0 ∨ 6 ≤ x1
  · exact p_mnode0 h1 ⟨fun _ => h0, fun h => absurd rfl h⟩
  · refine p_mnode1 h1 ⟨fun h => absurd h (by decide), fun _ => ⟨fun _ => h0, fun a => ⟨fun _ => h0, fun b => ⟨fun _ => h0, fun c => ⟨fun _ => h0, fun d => ?_⟩⟩⟩⟩⟩
    rcases h with h | (h | h) | (h | h)
    · exact absurd h h1
    · exact absurd h a
    · exact absurd h b
    · exact absurd h c
    · exact absurd h d
theorem p_cell1 {x1 x2 x3 : Int32} {post : Int32 → Prop} (h : ¬ ((x1 < 0 ∨ 6 ≤ x1) ∨ (x2 < 0 ∨ 4 < x2) ∨ (x3 < 1 ∨ 8 < x3))) (h0 : post 1) : wp_Md_cell x1 x2 x3 post := by
  unfold wp_Md_cell
  exact p_mnode1 (fun q => h (Or.inl q)) ⟨fun q => absurd q (by decide), fun _ => ⟨fun q => absurd (Or.inr (Or.inl (Or.inl q))) h, fun _ => ⟨fun q => absurd (Or.inr (Or.inl (Or.inr q))) h, fun _ => ⟨fun q => absurd (Or.inr (Or.inr (Or.inl q))) h, fun _ => ⟨fun q => absurd (Or.inr (Or.inr (Or.inr q))) h, fun _ => h0⟩⟩⟩⟩⟩
/-! arguments: in range, then a number; or not -/
theorem dc_n (x : Int32) : (x < 0 ∨ 6 ≤ x) ∨ ∃ k, k < 6 ∧ x = nI k := by
  rcases pk_ix x (n := 6) (by decide) with h | h | h
  · exact Or.inl (Or.inl h)
  · exact Or.inl (Or.inr h)
  · exact Or.inr h
theorem dc_k {k : Nat} (hk : k < 6) : ¬ (nI k < 0 ∨ 6 ≤ nI k) := by
  rintro (h | h)
  · exact nI_pos (by omega) h
  · exact nI_ge (a := k) (b := 6) hk (by decide) h
theorem dc_r (x : Int32) {lo hi : Nat} (hlo : lo ≤ hi + 1) (hh : hi + 1 < 2 ^ 31) : (x < nI lo ∨ nI hi < x) ∨ ∃ k, lo ≤ k ∧ k ≤ hi ∧ x = nI k := by
  by_cases h1 : x < nI lo
  · exact Or.inl (Or.inl h1)
  · by_cases h2 : nI hi < x
    · exact Or.inl (Or.inr h2)
    · right
      rw [Int32.lt_iff_toInt_lt, nI_toInt (by omega)] at h1 h2
      refine ⟨x.toInt.toNat, by omega, by omega, ?_⟩
      apply Int32.toInt_inj.mp
      rw [nI_toInt (by omega)]
      omega
theorem dc_rn {k lo hi : Nat} (h1 : lo ≤ k) (h2 : k ≤ hi) (hh : hi < 2 ^ 31) : ¬ (nI k < nI lo ∨ nI hi < nI k) := by
  rintro (h | h)
  · rw [nI_ltI (by omega) (by omega)] at h; omega
  · rw [nI_ltI (by omega) (by omega)] at h; omega
theorem lt_le_succ {x : Int32} {n : Nat} (hn : n + 1 < 2 ^ 31) : (nI (n + 1) ≤ x) ↔ (nI n < x) := by
  rw [Int32.le_iff_toInt_le, Int32.lt_iff_toInt_lt, nI_toInt (by omega), nI_toInt (by omega)]
  omega
theorem st_router : ls_router RI := by
  intro t zc zn zm _ ⟨M, E, va, dn, an, mb, ac, ae, hI, hc, hn, hm⟩
  subst hc; subst hm
  exact ⟨rfl, M, E, va, dn, an, mb, ac, ae, nv_mono hI, rfl, hn, rfl⟩
theorem st_reply : ls_reply RI := by
  intro t zc zn zm x _ ⟨M, E, va, dn, an, mb, ac, ae, hI, hc, hn, hm⟩
  subst hc; subst hm
  have hr : RI (t + 1) (ch_of M E) zn (md_of M E va dn an mb ac ae) := ⟨M, E, va, dn, an, mb, ac, ae, nv_mono hI, rfl, hn, rfl⟩
  have hq := hI.1.1
  rcases dc_r x (lo := 1) (hi := M 0 0) (by omega) (by omega) with h | ⟨q, h1, h2, rfl⟩
  · refine p_has0 h (br0 ⟨fun _ => ⟨rfl, hr⟩, fun h1 => ⟨fun h2 => ?_, fun _ => ⟨rfl, hr⟩⟩⟩)
    rcases h with h | h
    · exact absurd h h1
    · exact absurd h2 (nle_of_lt h)
  · refine p_has1 (dc_rn h1 h2 (by omega)) (br1 ⟨vp_in_nI (by omega) (by decide), ?_⟩)
    exact ⟨fun h => absurd h (nI_nlt (b := 1) h1 (by omega)), fun _ => ⟨fun _ => ⟨vp_in_nI (by omega) (by decide), rfl, hr⟩, fun h => absurd (nI_le h2 (by omega)) h⟩⟩
theorem st_heard : ls_heard RI := by
  intro t zc zn zm x _ ⟨M, E, va, dn, an, mb, ac, ae, hI, hc, hn, hm⟩
  subst hc; subst hm
  have hr : RI (t + 1) (ch_of M E) zn (md_of M E va dn an mb ac ae) := ⟨M, E, va, dn, an, mb, ac, ae, nv_mono hI, rfl, hn, rfl⟩
  have hq := hI.1.1
  rcases dc_r x (lo := 1) (hi := M 0 0) (by omega) (by omega) with h | ⟨q, h1, h2, rfl⟩
  · refine p_has0 h (br0 ⟨fun _ => ⟨rfl, hr⟩, fun h1 => ⟨fun h2 => ?_, fun _ => ⟨rfl, hr⟩⟩⟩)
    rcases h with h | h
    · exact absurd h h1
    · exact absurd h2 (nle_of_lt h)
  · refine p_has1 (dc_rn h1 h2 (by omega)) (br1 ⟨vp_in_nI (by omega) (by decide), ?_⟩)
    exact ⟨fun h => absurd h (nI_nlt (b := 1) h1 (by omega)), fun _ => ⟨fun _ => ⟨vp_in_nI (by omega) (by decide), rfl, hr⟩, fun h => absurd (nI_le h2 (by omega)) h⟩⟩
/-! cells -/
theorem ix_c {c s : Nat} (hs : 1 ≤ s) : (nI c * (8 : Int32) + nI s) - (1 : Int32) = nI (8 * c + s - 1) := by
  rw [show (8 : Int32) = nI 8 from rfl, show (1 : Int32) = nI 1 from rfl, pk_mul, nI_add, pk_sub (by omega), Nat.mul_comm]
theorem ix_m (n c s : Nat) : ((45 : Int32) * nI n + (9 : Int32) * nI c) + nI s = nI (45 * n + 9 * c + s) := by
  rw [show (45 : Int32) = nI 45 from rfl, show (9 : Int32) = nI 9 from rfl, pk_mul, pk_mul, nI_add, nI_add]
theorem ix_l (n c s : Nat) (hs : 1 ≤ s) (hs8 : s ≤ 8) : 45 * n + 9 * ((8 * c + s - 1) / 8) + (8 * c + s - 1) % 8 + 1 = 45 * n + 9 * c + s := by omega
theorem dc_c (x : Int32) : (x < 0 ∨ 4 < x) ∧ (x < 0 ∨ 5 ≤ x) ∨ ∃ c, c ≤ 4 ∧ x = nI c := by
  rcases dc_r x (lo := 0) (hi := 4) (by omega) (by decide) with h | ⟨c, -, h4, e⟩
  · exact Or.inl ⟨h, h.imp id (fun h => (lt_le_succ (n := 4) (by decide)).mpr h)⟩
  · exact Or.inr ⟨c, h4, e⟩
theorem dc_c5 {c : Nat} (h : c ≤ 4) : ¬ (nI c < 0 ∨ 5 ≤ nI c) := fun q => dc_rn (k := c) (lo := 0) (hi := 4) (by omega) h (by decide) (q.imp id (fun h => (lt_le_succ (n := 4) (by decide)).mp h))
theorem dc_c4 {c : Nat} (h : c ≤ 4) : ¬ (nI c < 0 ∨ 4 < nI c) := dc_rn (k := c) (lo := 0) (hi := 4) (by omega) h (by decide)
theorem dc_s (x : Int32) : (x < 1 ∨ 8 < x) ∨ ∃ s, 1 ≤ s ∧ s ≤ 8 ∧ x = nI s := dc_r x (lo := 1) (hi := 8) (by omega) (by decide)
theorem dc_s8 {s : Nat} (h1 : 1 ≤ s) (h : s ≤ 8) : ¬ (nI s < 1 ∨ 8 < nI s) := dc_rn (k := s) (lo := 1) (hi := 8) h1 h (by decide)
theorem dc_cell {n c s : Nat} (hn : n < 6) (hc : c ≤ 4) (h1 : 1 ≤ s) (h8 : s ≤ 8) : ¬ ((nI n < 0 ∨ 6 ≤ nI n) ∨ (nI c < 0 ∨ 4 < nI c) ∨ (nI s < 1 ∨ 8 < nI s)) := by
  rintro (h | h | h)
  · exact dc_k hn h
  · exact dc_c4 hc h
  · exact dc_s8 h1 h8 h
theorem st_promised : ls_promised RI := by
  intro t zc zn zm x1 x2 x3 _ ⟨M, E, va, dn, an, mb, ac, ae, hI, hc, hn, hm⟩
  subst hc; subst hm
  rcases dc_n x1 with h1 | ⟨n, hn6, rfl⟩
  · exact ⟨0, by omega, p_node0 h1 (br0 (p_cell0 (Or.inl h1) (br0 ⟨rfl, RI_same hI rfl (hn 0 (by omega)) hn rfl⟩)))⟩
  · refine ⟨n, hn6, p_node1 (dc_k hn6) (br1 ?_)⟩
    have hs : RI (t + 1) (ch_of M E) (va_up zn n (nd_of M E n)) (md_of M E va dn an mb ac ae) := RI_same hI rfl rfl hn rfl
    rw [hn n hn6]
    rcases dc_c x2 with ⟨h2, h2'⟩ | ⟨c, hc4, rfl⟩
    · exact p_conf0 h2' (br0 (p_cell0 (Or.inr (Or.inl h2)) (br0 ⟨rfl, hs⟩)))
    · refine p_conf1 (dc_c5 hc4) (br1 ?_)
      rcases dc_s x3 with h3 | ⟨s, hs1, hs8, rfl⟩
      · exact p_slot0 h3 (br0 (p_cell0 (Or.inr (Or.inr h3)) (br0 ⟨rfl, hs⟩)))
      · refine p_slot1 (dc_s8 hs1 hs8) (br1 ⟨rfl, ?_⟩)
        unfold wp_Lg_cellOf
        rw [ix_c hs1]
        refine ⟨vp_in_nI (by omega) (by decide), p_cell1 (dc_cell hn6 hc4 hs1 hs8) (br1 ?_)⟩
        rw [ix_m]
        refine ⟨vp_in_nI (by omega) (by decide), ?_, hs⟩
        show (if (nI (8 * c + s - 1)).toNatClampNeg < 40 then nI (M 18 (45 * n + 9 * ((nI (8 * c + s - 1)).toNatClampNeg / 8) + (nI (8 * c + s - 1)).toNatClampNeg % 8 + 1)) else 0) = nI (M 18 (nI (45 * n + 9 * c + s)).toNatClampNeg)
        rw [nI_clamp (by omega), nI_clamp (by omega), ix_l n c s hs1 hs8, if_pos (by omega)]
theorem st_vote : ls_vote RI := by
  intro t zc zn zm x1 x2 x3 _ ⟨M, E, va, dn, an, mb, ac, ae, hI, hc, hn, hm⟩
  subst hc; subst hm
  rcases dc_n x1 with h1 | ⟨n, hn6, rfl⟩
  · exact ⟨0, by omega, p_node0 h1 (br0 (p_cell0 (Or.inl h1) (br0 ⟨rfl, RI_same hI rfl (hn 0 (by omega)) hn rfl⟩)))⟩
  · refine ⟨n, hn6, p_node1 (dc_k hn6) (br1 ?_)⟩
    have hs : RI (t + 1) (ch_of M E) (va_up zn n (nd_of M E n)) (md_of M E va dn an mb ac ae) := RI_same hI rfl rfl hn rfl
    rw [hn n hn6]
    rcases dc_c x2 with ⟨h2, h2'⟩ | ⟨c, hc4, rfl⟩
    · exact p_conf0 h2' (br0 (p_cell0 (Or.inr (Or.inl h2)) (br0 ⟨rfl, hs⟩)))
    · refine p_conf1 (dc_c5 hc4) (br1 ?_)
      rcases dc_s x3 with h3 | ⟨s, hs1, hs8, rfl⟩
      · exact p_slot0 h3 (br0 (p_cell0 (Or.inr (Or.inr h3)) (br0 ⟨rfl, hs⟩)))
      · refine p_slot1 (dc_s8 hs1 hs8) (br1 ⟨rfl, ?_⟩)
        unfold wp_Lg_cellOf
        rw [ix_c hs1]
        refine ⟨vp_in_nI (by omega) (by decide), vp_in_nI (by omega) (by decide), p_cell1 (dc_cell hn6 hc4 hs1 hs8) (br1 (fun v hv => ?_))⟩
        rw [ix_m] at hv
        subst hv
        have e19 : mlg_voteBallots (mnd_ledger (nd_of M E n)) (nI (8 * c + s - 1)).toNatClampNeg = nI (M 19 (45 * n + 9 * c + s)) := by
          show (if (nI (8 * c + s - 1)).toNatClampNeg < 40 then nI (M 19 (45 * n + 9 * ((nI (8 * c + s - 1)).toNatClampNeg / 8) + (nI (8 * c + s - 1)).toNatClampNeg % 8 + 1)) else 0) = _
          rw [nI_clamp (by omega), ix_l n c s hs1 hs8, if_pos (by omega)]
        have e20 : mlg_voteCommands (mnd_ledger (nd_of M E n)) (nI (8 * c + s - 1)).toNatClampNeg = nI (M 20 (45 * n + 9 * c + s)) := by
          show (if (nI (8 * c + s - 1)).toNatClampNeg < 40 then nI (M 20 (45 * n + 9 * ((nI (8 * c + s - 1)).toNatClampNeg / 8) + (nI (8 * c + s - 1)).toNatClampNeg % 8 + 1)) else 0) = _
          rw [nI_clamp (by omega), ix_l n c s hs1 hs8, if_pos (by omega)]
        rw [e19, e20, rd_voteBallot, rd_voteCommand, nI_clamp (n := 45 * n + 9 * c + s) (by omega)]
        have hb := hI.2.2.2.1.2 (45 * n + 9 * c + s)
        refine ⟨vp_in_nI (by omega) (by decide), fun h => ⟨?_, hs⟩, fun h => ⟨vp_in_nI (by omega) (by decide), vp_in_nI (by omega) (by decide), rfl, hs⟩⟩
        have h0 : M 19 (45 * n + 9 * c + s) = 0 := by
          rcases Nat.eq_zero_or_pos (M 19 (45 * n + 9 * c + s)) with z | z
          · exact z
          · exact absurd h (nI_nle z (by omega))
        rw [h0, hI.2.2.2.2.1.1 _ h0]
        rfl
