/-! a step that changes node n's own registers and node a's ledger -/
def sx (M M' : PM) (n a : Nat) : Prop := (M' 0 = M 0 ∧ M' 1 = M 1 ∧ M' 2 = M 2) ∧ (∀ k, M 3 k ≠ 0 → M' 3 k = M 3 k) ∧ (∀ i, i ≠ n → ns_at M M' i) ∧ (∀ i, i ≠ a → ∀ j, 45 * i ≤ j → j < 45 * i + 45 → M' 18 j = M 18 j ∧ M' 19 j = M 19 j ∧ M' 20 j = M 20 j)
theorem sx_refl (M : PM) (n a : Nat) : sx M M n a := ⟨⟨rfl, rfl, rfl⟩, fun _ _ => rfl, fun _ _ _ _ _ => rfl, fun _ _ _ _ _ => ⟨rfl, rfl, rfl⟩⟩
theorem sx_trans {M M' M'' : PM} {n a : Nat} (h : sx M M' n a) (h' : sx M' M'' n a) : sx M M'' n a := by
  obtain ⟨⟨a0, a1, a2⟩, a3, a4, a5⟩ := h
  obtain ⟨⟨b0, b1, b2⟩, b3, b4, b5⟩ := h'
  refine ⟨⟨b0.trans a0, b1.trans a1, b2.trans a2⟩, fun k hk => ?_, fun i hi r h1 h2 => (b4 i hi r h1 h2).trans (a4 i hi r h1 h2), fun i hi j h1 h2 => ?_⟩
  · rw [b3 k (by rw [a3 k hk]; exact hk), a3 k hk]
  · obtain ⟨c1, c2, c3⟩ := a5 i hi j h1 h2
    obtain ⟨d1, d2, d3⟩ := b5 i hi j h1 h2
    exact ⟨d1.trans c1, d2.trans c2, d3.trans c3⟩
theorem sx_sg {M M' : PM} {n : Nat} (a : Nat) (h : sg M M' n) : sx M M' n a :=
  ⟨⟨sg_r h (by decide) (by decide) (by decide) (by decide), sg_r h (by decide) (by decide) (by decide) (by decide), sg_r h (by decide) (by decide) (by decide) (by decide)⟩, fun k _ => by rw [sg_r h (by decide) (by decide) (by decide) (by decide)], sg_ns h, fun i _ j _ _ => ⟨by rw [sg_r h (by decide) (by decide) (by decide) (by decide)], by rw [sg_r h (by decide) (by decide) (by decide) (by decide)], by rw [sg_r h (by decide) (by decide) (by decide) (by decide)]⟩⟩
theorem sx_ext {M M' : PM} {E : PE} {n a : Nat} (h : sx M M' n a) (h2 : nv_2 M) : px_ext M E M' E :=
  ⟨h.2.1, fun q _ => ⟨by rw [h.1.2.1], by rw [h.1.2.2], rfl⟩, h2, by rw [h.1.1]; exact Nat.le_refl _⟩
theorem sx_ch {M M' : PM} {E : PE} {n a : Nat} (h : sx M M' n a) : ch_of M' E = ch_of M E :=
  ch_same (by rw [h.1.1]) (by rw [h.1.1]) h.1.2.1 h.1.2.2 rfl
theorem sx_lg {M M' : PM} {n a i : Nat} (h : sx M M' n a) (hi : i ≠ a) : lg_of M' i = lg_of M i := by
  have hl := h.2.2.2 i hi
  unfold lg_of
  simp only [Prod.mk.injEq]
  refine ⟨funext fun j => ?_, funext fun j => ?_, funext fun j => ?_⟩
  · by_cases hj : j < 40
    · rw [if_pos hj, if_pos hj, (hl _ (by omega) (by omega)).1]
    · rw [if_neg hj, if_neg hj]
  · by_cases hj : j < 40
    · rw [if_pos hj, if_pos hj, (hl _ (by omega) (by omega)).2.1]
    · rw [if_neg hj, if_neg hj]
  · by_cases hj : j < 40
    · rw [if_pos hj, if_pos hj, (hl _ (by omega) (by omega)).2.2]
    · rw [if_neg hj, if_neg hj]
theorem sx_nd {M M' : PM} {E : PE} {t n a i : Nat} (h : sx M M' n a) (hI : nv_I M E t) (hi : i < 6) (h1 : i ≠ n) (h2 : i ≠ a) : nd_of M' E i = nd_of M E i :=
  nd_ext (sx_ext h hI.2.1) (hI.2.2.1 i hi) (h.2.2.1 i h1) (fun j hj hj' => h.2.2.2 i h2 j hj hj') (by rw [h.1.1])
/-- a node whose place, known commands, last, retired and pending stay -/
theorem sx_two {M M' : PM} {E : PE} {t n a i : Nat} (h : sx M M' n a) (hI : nv_I M E t) (hi : i < 6) (hr : ∀ r, 5 ≤ r → r ≤ 10 → M' r i = M r i) : nd_of M' E i = mnd_s_attempt (mnd_s_ledger (nd_of M E i) (lg_of M' i)) (at_of M' i) := by
  have h3 := hI.2.2.1 i hi
  have hx : px_ext M E M' E := sx_ext h hI.2.1
  symm
  refine nd_mk (M := M') (E := E) (n := i) ?_ ?_ rfl (by rw [hr 8 (by omega) (by omega)]; rfl) (by rw [hr 9 (by omega) (by omega)]; rfl) ?_ (by rw [hr 10 (by omega) (by omega)]; rfl) rfl
  · unfold up_of; rw [h.1.1]; rfl
  · rw [rr_nd_ext hx h3 (hr 5 (by omega) (by omega)) (hr 6 (by omega) (by omega))]; rfl
  · show kn_of M i = kn_of M' i
    funext s
    unfold kn_of
    rw [hr 7 (by omega) (by omega), hr 5 (by omega) (by omega)]
    by_cases h9 : s < 9
    · rw [if_pos h9, if_pos h9]
      by_cases hb : (M 7 i).testBit s = true
      · rw [if_pos hb, if_pos hb, h.2.1 _ (h3.2.2.2.2.1 s hb).2.2]
      · rw [if_neg hb, if_neg hb]
    · rw [if_neg h9, if_neg h9]
theorem sx_a {M M' : PM} {E : PE} {t n a : Nat} (h : sx M M' n a) (hI : nv_I M E t) (ha : a < 6) (hne : a ≠ n) : nd_of M' E a = mnd_s_ledger (nd_of M E a) (lg_of M' a) := by
  rw [sx_two h hI ha (fun r h1 h2 => h.2.2.1 a hne r h1 (by omega))]
  have : at_of M' a = at_of M a := by
    unfold at_of
    have hs := h.2.2.1 a hne
    rw [hs 11 (by omega) (by omega), hs 12 (by omega) (by omega), hs 13 (by omega) (by omega), hs 14 (by omega) (by omega), hs 15 (by omega) (by omega), hs 16 (by omega) (by omega), hs 17 (by omega) (by omega)]
  rw [this]
  rfl
theorem RI_fin2 {M M' : PM} {E : PE} {t n a : Nat} {zn : Nat → MndT} {va dn an : Nat → Int32} {mb ac ae : Int32} {zc : MchT} {y w : MndT} (hI : nv_I M E t) (hI' : nv_I M' E (t + 1)) (hs : sx M M' n a) (hz : ∀ n, n < 6 → zn n = nd_of M E n) (hc : zc = ch_of M E) (hy : y = nd_of M' E n) (hw : w = nd_of M' E a) : RI (t + 1) zc (va_up (va_up zn n y) a w) (md_of M' E va dn an mb ac ae) := by
  refine ⟨M', E, va, dn, an, mb, ac, ae, hI', by rw [hc, sx_ch hs], fun i hi => ?_, rfl⟩
  unfold va_up
  by_cases e : i = a
  · subst e; simp [hw]
  · by_cases e2 : i = n
    · subst e2; simp [e, hy]
    · simp [e, e2]
      rw [hz i hi, sx_nd hs hI hi e2 e]
theorem RI_fin1 {M M' : PM} {E : PE} {t n : Nat} {zn : Nat → MndT} {va dn an : Nat → Int32} {mb ac ae : Int32} {zc : MchT} {y : MndT} (hI : nv_I M E t) (hI' : nv_I M' E (t + 1)) (hs : sx M M' n n) (hz : ∀ n, n < 6 → zn n = nd_of M E n) (hc : zc = ch_of M E) (hy : y = nd_of M' E n) : RI (t + 1) zc (va_up zn n y) (md_of M' E va dn an mb ac ae) := by
  refine ⟨M', E, va, dn, an, mb, ac, ae, hI', by rw [hc, sx_ch hs], fun i hi => ?_, rfl⟩
  unfold va_up
  by_cases e2 : i = n
  · subst e2; simp [hy]
  · simp [e2]
    rw [hz i hi, sx_nd hs hI hi e2 e2]
theorem nv_mk {M M' : PM} {E : PE} {t n a : Nat} (hI : nv_I M E t) (hs : sx M M' n a) (h3 : M' 3 = M 3) (hn : nv_n M' E n) (h4n : M' 8 n ≤ 6 * t + 12 ∧ M' 12 n ≤ 6 * t + 12 ∧ M' 15 n ≤ 6 * t + 12) (h4 : ∀ j, M' 18 j ≤ 6 * t + 12 ∧ M' 19 j ≤ 6 * t + 12 ∧ M' 20 j ≤ M 0 0) (h5 : nv_5 M') (hp : px_I M' E) : nv_I M' E t := by
  obtain ⟨n1, n2, n3, n4, n5, n6⟩ := hI
  have hx : px_ext M E M' E := sx_ext hs n2
  refine ⟨?_, ?_, ?_, ?_, h5, hp⟩
  · unfold nv_1; rw [hs.1.1, hs.1.2.1, hs.1.2.2]; exact n1
  · intro j; rw [h3, hs.1.1]; exact n2 j
  · intro i hi
    by_cases e : i = n
    · subst e; exact hn
    · exact nv_n_ext hx (hs.2.2.1 i e) (n3 i hi)
  · refine ⟨fun i hi => ?_, fun j => by rw [hs.1.1]; exact h4 j⟩
    by_cases e : i = n
    · subst e; exact h4n
    · rw [hs.2.2.1 i e 8 (by omega) (by omega), hs.2.2.1 i e 12 (by omega) (by omega), hs.2.2.1 i e 15 (by omega) (by omega)]
      exact n4.1 i hi
theorem nv_n_at {M M' : PM} {E : PE} {n : Nat} (hx : px_ext M E M' E) (h : nv_n M E n) (h00 : M' 0 0 = M 0 0) (hr : ∀ r, 5 ≤ r → r ≤ 11 → r ≠ 8 → M' r n = M r n) (h13 : M' 13 n < 64) (h14 : M' 14 n < 64) (h16 : M' 16 n ≤ M 0 0) (h17 : M' 17 n ≤ M 0 0 + 1) : nv_n M' E n := by
  obtain ⟨⟨J, hJ, e5, e6⟩, h9, h10, h7, hk, h11, ha, -, -, -, -⟩ := h
  obtain ⟨p1, p2⟩ := rr_ext hx hJ
  unfold nv_n
  rw [hr 5 (by omega) (by omega) (by omega), hr 6 (by omega) (by omega) (by omega), hr 7 (by omega) (by omega) (by omega), hr 9 (by omega) (by omega) (by omega), hr 10 (by omega) (by omega) (by omega), hr 11 (by omega) (by omega) (by omega), h00]
  refine ⟨⟨J, p2, by rw [p1]; exact e5, by rw [p1]; exact e6⟩, h9, h10, h7, fun s hs => ?_, h11, ha, h13, h14, h16, h17⟩
  obtain ⟨k1, k2, k3⟩ := hk s hs
  exact ⟨k1, k2, by rw [hx.1 _ k3]; exact k3⟩
/-! a greater ballot heard of -/
theorem op_la_sx (M : PM) (n a b : Nat) : sx M (op_la M n b) n a :=
  ⟨⟨op_la_r M n b (by decide), op_la_r M n b (by decide), op_la_r M n b (by decide)⟩, fun k _ => by rw [op_la_r M n b (by decide)], fun i hi r _ _ => ps_nei M hi, fun i _ j _ _ => ⟨by rw [op_la_r M n b (by decide)], by rw [op_la_r M n b (by decide)], by rw [op_la_r M n b (by decide)]⟩⟩
theorem op_la_I {M : PM} {E : PE} {t n b : Nat} (hI : nv_I M E t) (hn : n < 6) (hb : b ≤ 6 * t + 12) : nv_I (op_la M n b) E t := by
  have hs := op_la_sx M n n b
  have hx : px_ext M E (op_la M n b) E := sx_ext hs hI.2.1
  have g := fun r (h : r ≠ 8) => op_la_r M n b h
  have h3 := hI.2.2.1 n hn
  have h4 := hI.2.2.2.1.1 n hn
  have e8 : op_la M n b 8 n = if M 8 n < b then b else M 8 n := ps_eq M 8 n _
  obtain ⟨-, -, -, -, -, -, -, q13, q14, q16, q17⟩ := id h3
  refine nv_mk hI hs (g 3 (by decide)) (nv_n_at hx h3 (by rw [g 0 (by decide)]) (fun r _ _ h8 => by rw [g r h8]) (by rw [g 13 (by decide)]; exact q13) (by rw [g 14 (by decide)]; exact q14) (by rw [g 16 (by decide)]; exact q16) (by rw [g 17 (by decide)]; exact q17)) ?_ ?_ ?_ ?_
  · rw [e8, g 12 (by decide), g 15 (by decide)]
    split <;> omega
  · intro j
    rw [g 18 (by decide), g 19 (by decide), g 20 (by decide)]
    exact hI.2.2.2.1.2 j
  · unfold nv_5; rw [g 19 (by decide), g 20 (by decide)]; exact hI.2.2.2.2.1
  · refine px_frame hx (g 3 (by decide)) (fun i => ?_) (g 9 (by decide)) (g 18 (by decide)) (g 19 (by decide)) (g 20 (by decide)) (fun i _ _ => ?_) hI.2.2.2.2.2
    · by_cases e : i = n
      · subst e; rw [e8]; split <;> omega
      · rw [show op_la M n b 8 i = M 8 i from ps_nei M e]; exact Nat.le_refl _
    · rw [g 11 (by decide), g 5 (by decide), g 12 (by decide), g 13 (by decide), g 14 (by decide), g 15 (by decide), g 16 (by decide), g 17 (by decide)]
      exact ⟨rfl, rfl, rfl, rfl, rfl, rfl, rfl, rfl⟩
/-! the install -/
theorem op_in_nv {M : PM} {E : PE} {t a n : Nat} (ha : a < 6) (hn : n < 6) (hI : nv_I M E t) (hl : M 5 n ≤ M 5 a) : nv_I (op_in M a n) E t := by
  obtain ⟨m1, m2, m3, m3', m4, m5, m6⟩ := (op_in_I ha hn hI hl).1
  refine ⟨m1, m2, fun i hi => ?_, m4, m5, m6⟩
  by_cases e : i = n
  · subst e
    obtain ⟨a1, a2, a3, a4, a5, a6, a7, a8, a9, a10⟩ := m3'
    exact ⟨a1, a2, a3, a4, a5, a6, fun h0 => absurd (by simp [op_in]) h0, a7, a8, a9, a10⟩
  · exact m3 i hi e
/-! a promise -/
theorem ci_in {M : PM} {n a i j : Nat} (h11 : M 11 n ≤ 8) (h5 : M 5 n ≤ 4) (hi : i ≠ a) (h1 : 45 * i ≤ j) (h2 : j < 45 * i + 45) : j ≠ ci M n a := by
  unfold ci; omega
theorem pm_sx {M : PM} {n a b : Nat} (h11 : M 11 n ≤ 8) (h5 : M 5 n ≤ 4) : sx M (ps_set M 18 (ci M n a) b) n a :=
  ⟨⟨ps_reg M (by decide), ps_reg M (by decide), ps_reg M (by decide)⟩, fun k _ => by rw [ps_reg M (by decide)], fun i hi r _ _ => ps_ner M (by omega), fun i hi j h1 h2 => ⟨ps_nei M (ci_in h11 h5 hi h1 h2), by rw [ps_reg M (by decide)], by rw [ps_reg M (by decide)]⟩⟩
theorem pm_I {M : PM} {E : PE} {t n a : Nat} (hI : nv_I M E t) (hn : n < 6) (hle : M 18 (ci M n a) ≤ M 12 n) : nv_I (ps_set M 18 (ci M n a) (M 12 n)) E t := by
  have h3 := hI.2.2.1 n hn
  have bn := nd_mem hI.1 hI.2.1 h3
  have hs : sx M (ps_set M 18 (ci M n a) (M 12 n)) n a := pm_sx h3.2.2.2.2.2.1 bn.2.2.2.1
  have hx : px_ext M E (ps_set M 18 (ci M n a) (M 12 n)) E := sx_ext hs hI.2.1
  have g := fun r (h : r ≠ 18) => ps_reg M (i := ci M n a) (v := M 12 n) h
  obtain ⟨-, -, -, -, -, -, -, q13, q14, q16, q17⟩ := id h3
  have h4 := hI.2.2.2.1.1 n hn
  refine nv_mk hI hs (g 3 (by decide)) (nv_n_at hx h3 (by rw [g 0 (by decide)]) (fun r _ _ h8 => by rw [g r (by omega)]) (by rw [g 13 (by decide)]; exact q13) (by rw [g 14 (by decide)]; exact q14) (by rw [g 16 (by decide)]; exact q16) (by rw [g 17 (by decide)]; exact q17)) ?_ ?_ ?_ (px_prom hle hI.2.1 hI.2.2.2.2.2)
  · rw [g 8 (by decide), g 12 (by decide), g 15 (by decide)]; exact h4
  · intro j
    have := hI.2.2.2.1.2 j
    rw [g 19 (by decide), g 20 (by decide)]
    refine ⟨?_, this.2⟩
    by_cases e : j = ci M n a
    · subst e; rw [ps_eq]; omega
    · rw [ps_nei M e]; exact this.1
  · unfold nv_5; rw [g 19 (by decide), g 20 (by decide)]; exact hI.2.2.2.2.1
theorem lg_up {M M' : PM} {n a b r : Nat} (h0 : M 11 n ≠ 0) (h11 : M 11 n ≤ 8) (h5 : M 5 n ≤ 4) (he : M' r (ci M n a) = b) (hne : ∀ j, j ≠ ci M n a → M' r j = M r j) : (fun i => if i < 40 then nI (M' r (45 * a + 9 * (i / 8) + i % 8 + 1)) else 0) = upd (fun i => if i < 40 then nI (M r (45 * a + 9 * (i / 8) + i % 8 + 1)) else 0) (nI (8 * M 5 n + M 11 n - 1)).toNatClampNeg (nI b) := by
  rw [nI_clamp (by omega)]
  funext j
  show _ = if j = 8 * M 5 n + M 11 n - 1 then nI b else (if j < 40 then nI (M r (45 * a + 9 * (j / 8) + j % 8 + 1)) else 0)
  by_cases e : j = 8 * M 5 n + M 11 n - 1
  · have : 45 * a + 9 * (j / 8) + j % 8 + 1 = ci M n a := by unfold ci; omega
    rw [if_pos (by omega), if_pos e, this, he]
  · rw [if_neg e]
    by_cases hj : j < 40
    · rw [if_pos hj, if_pos hj, hne _ (by unfold ci; omega)]
    · rw [if_neg hj, if_neg hj]
theorem pm_lg {M : PM} {n a b : Nat} (h0 : M 11 n ≠ 0) (h11 : M 11 n ≤ 8) (h5 : M 5 n ≤ 4) : lg_of (ps_set M 18 (ci M n a) b) a = mlg_s_promisedBallots (lg_of M a) (upd (mlg_promisedBallots (lg_of M a)) (nI (8 * M 5 n + M 11 n - 1)).toNatClampNeg (nI b)) := by
  have e1 := lg_up (M' := ps_set M 18 (ci M n a) b) (r := 18) (b := b) h0 h11 h5 (ps_eq M 18 _ b) (fun j hj => ps_nei M hj)
  unfold lg_of
  rw [e1, ps_reg M (show 19 ≠ 18 by decide), ps_reg M (show 20 ≠ 18 by decide)]
  rfl
