/-! what is learned -/
def lk (a b e : Nat) : Nat → Nat
  | 0 => a
  | j + 1 => if j < e then lk a b e j else lk a b e j ||| (b &&& 2 ^ (j + 1))
theorem and_pow_bit (b q i : Nat) : (b &&& 2 ^ q).testBit i = (b.testBit i && decide (q = i)) := by
  rw [Nat.testBit_and, Nat.testBit_two_pow]
theorem lk_bit (a b e : Nat) : ∀ j i : Nat, (lk a b e j).testBit i = (a.testBit i || (b.testBit i && decide (e < i ∧ i ≤ j)))
  | 0, i => by
    have : decide (e < i ∧ i ≤ 0) = false := by
      apply decide_eq_false; omega
    rw [this]
    simp [lk]
  | j + 1, i => by
    have ih := lk_bit a b e j i
    unfold lk
    by_cases h : j < e
    · rw [if_pos h, ih]
      have : decide (e < i ∧ i ≤ j) = decide (e < i ∧ i ≤ j + 1) := by
        apply decide_eq_decide.mpr; omega
      rw [this]
    · rw [if_neg h, Nat.testBit_or, ih, and_pow_bit]
      by_cases hi : i = j + 1
      · subst hi
        have h1 : decide (e < j + 1 ∧ j + 1 ≤ j) = false := by apply decide_eq_false; omega
        have h2 : decide (e < j + 1 ∧ j + 1 ≤ j + 1) = true := by apply decide_eq_true; omega
        rw [h1, h2]
        simp
      · have h1 : decide (j + 1 = i) = false := by apply decide_eq_false; omega
        have h2 : decide (e < i ∧ i ≤ j) = decide (e < i ∧ i ≤ j + 1) := by
          apply decide_eq_decide.mpr; omega
        rw [h1, h2]
        simp
theorem lk_low (a b e : Nat) : ∀ {j : Nat}, j ≤ e → lk a b e j = a
  | 0, _ => rfl
  | j + 1, h => by
    unfold lk
    rw [if_pos (by omega)]
    exact lk_low a b e (by omega)
theorem and_pow_0 {b q : Nat} (h : b.testBit q = false) : b &&& 2 ^ q = 0 := by
  apply Nat.eq_of_testBit_eq
  intro i
  rw [and_pow_bit, Nat.zero_testBit]
  by_cases e : q = i
  · subst e; rw [h]; rfl
  · simp [e]
theorem or_pow_id {a b q : Nat} (h : a.testBit q = true) : a ||| (b &&& 2 ^ q) = a := by
  apply Nat.eq_of_testBit_eq
  intro i
  rw [Nat.testBit_or, and_pow_bit]
  by_cases e : q = i
  · subst e; rw [h]; rfl
  · simp [e]
theorem lk_same {a b e j : Nat} (h : (lk a b e j).testBit (j + 1) = true ∨ b.testBit (j + 1) = false ∨ j < e) : lk a b e (j + 1) = lk a b e j := by
  show (if j < e then lk a b e j else lk a b e j ||| (b &&& 2 ^ (j + 1))) = _
  by_cases hj : j < e
  · rw [if_pos hj]
  · rw [if_neg hj]
    rcases h with h | h | h
    · exact or_pow_id h
    · rw [and_pow_0 h, Nat.or_zero]
    · exact absurd h hj
theorem lk_new {a b e j : Nat} (h1 : (lk a b e j).testBit (j + 1) = false) (h2 : b.testBit (j + 1) = true) (h3 : ¬ j < e) : lk a b e (j + 1) ≠ a ∧ ∀ i, i ≠ j + 1 → (lk a b e (j + 1)).testBit i = (lk a b e j).testBit i := by
  have hb := lk_bit a b e
  constructor
  · intro q
    have z1 := hb (j + 1) (j + 1)
    have z2 := hb j (j + 1)
    rw [h1] at z2
    rw [q, h2] at z1
    have : decide (e < j + 1 ∧ j + 1 ≤ j + 1) = true := by apply decide_eq_true; omega
    rw [this] at z1
    have ha : a.testBit (j + 1) = false := by
      cases hh : a.testBit (j + 1)
      · rfl
      · rw [hh] at z2; simp at z2
    rw [ha] at z1
    simp at z1
  · intro i hi
    rw [hb, hb]
    have h2 : decide (e < i ∧ i ≤ j + 1) = decide (e < i ∧ i ≤ j) := by
      apply decide_eq_decide.mpr; omega
    rw [h2]
/-- node n's known commands, with what it has learned of node a's up to slot j -/
def op_lk (M : PM) (a n j : Nat) : PM := ps_set M 7 n (lk (M 7 n) (M 7 a) (M 6 n) j)
theorem op_lk_sg (M : PM) (a n j : Nat) : sg M (op_lk M a n j) n := by
  intro r i h
  unfold op_lk ps_set
  rw [if_neg (by omega)]
theorem op_lk_r (M : PM) (a n j : Nat) {r : Nat} (h : r ≠ 7) : op_lk M a n j r = M r := ps_reg M h
theorem op_lk_7 (M : PM) (a n j : Nat) : op_lk M a n j 7 n = lk (M 7 n) (M 7 a) (M 6 n) j := ps_eq M 7 n _
theorem op_lk_7a (M : PM) {a n : Nat} (j : Nat) (h : a ≠ n) : op_lk M a n j 7 a = M 7 a := ps_nei M h
theorem op_lk_I {M : PM} {E : PE} {t a n : Nat} (hg : gI M E t n) (hne : a ≠ n) (ha : a < 6) (h5 : M 5 a = M 5 n) {j : Nat} (hj : j ≤ 8) : gI (op_lk M a n j) E t n := by
  have hs := op_lk_sg M a n j
  have hx : px_ext M E (op_lk M a n j) E := sg_ext hs hg.2.1
  obtain ⟨hp, q9, q10, q7, qk, q11, q13, q14, q16, q17⟩ := hg.2.2.2.1
  have ka := (hg.2.2.1 a ha hne).2.2.2.2.1
  refine sg_I hg hs ?_ (Or.inr ⟨by rw [op_lk_r M a n j (by decide)], by rw [op_lk_r M a n j (by decide)]⟩)
  unfold nv_g
  rw [op_lk_7, op_lk_r M a n j (r := 5) (by decide), op_lk_r M a n j (r := 6) (by decide), op_lk_r M a n j (r := 9) (by decide), op_lk_r M a n j (r := 10) (by decide), op_lk_r M a n j (r := 0) (by decide), op_lk_r M a n j (r := 3) (by decide), op_lk_r M a n j (r := 11) (by decide), op_lk_r M a n j (r := 13) (by decide), op_lk_r M a n j (r := 14) (by decide), op_lk_r M a n j (r := 16) (by decide), op_lk_r M a n j (r := 17) (by decide)]
  obtain ⟨J, hJ, e5, e6⟩ := hp
  obtain ⟨p1, p2⟩ := rr_ext hx hJ
  have hk : ∀ s, (lk (M 7 n) (M 7 a) (M 6 n) j).testBit s = true → M 6 n < s ∧ s ≤ 8 ∧ M 3 (9 * M 5 n + s) ≠ 0 := by
    intro s hs
    rw [lk_bit] at hs
    cases h1 : (M 7 n).testBit s
    · rw [h1] at hs
      simp at hs
      have := ka s hs.1
      rw [h5] at this
      exact ⟨by omega, by omega, this.2.2⟩
    · exact qk s h1
  refine ⟨⟨J, p2, by rw [p1]; exact e5, by rw [p1]; exact e6⟩, q9, q10, ?_, hk, q11, q13, q14, q16, q17⟩
  refine Nat.lt_pow_two_of_testBit (n := 9) _ (fun i hi => ?_)
  cases h1 : (lk (M 7 n) (M 7 a) (M 6 n) j).testBit i
  · rfl
  · have := hk i h1; omega
theorem nd_lk {M : PM} {E : PE} {t a n j : Nat} (hg : gI M E t n) (h5 : M 5 a = M 5 n) (h1 : (lk (M 7 n) (M 7 a) (M 6 n) j).testBit (j + 1) = false) (h2 : (M 7 a).testBit (j + 1) = true) (h3 : ¬ j < M 6 n) (hj : j < 8) : mnd_s_knownCommands (nd_of (op_lk M a n j) E n) (upd (kn_of (op_lk M a n j) n) (j + 1) (nI (M 3 (9 * M 5 a + (j + 1))) - 1)) = nd_of (op_lk M a n (j + 1)) E n := by
  have hs1 := op_lk_sg M a n j
  have hs2 := op_lk_sg M a n (j + 1)
  have g : ∀ r, r ≠ 7 → op_lk M a n (j + 1) r = op_lk M a n j r := fun r hr => by rw [op_lk_r M a n _ hr, op_lk_r M a n _ hr]
  refine nd_mk (M := op_lk M a n (j + 1)) (E := E) (n := n) ?_ ?_ (lg_same (g 18 (by decide)) (g 19 (by decide)) (g 20 (by decide))).symm (by rw [g 8 (by decide)]; rfl) (by rw [g 9 (by decide)]; rfl) ?_ (by rw [g 10 (by decide)]; rfl) ?_
  · unfold up_of; rw [g 0 (by decide)]; rfl
  · have hm : ∀ j, rr_nd (op_lk M a n j) E n = rr_nd M E n := fun j => by
      obtain ⟨J, hJ, e5, e6, er⟩ := g_path hg.2.2.2.1.1
      obtain ⟨p1, p2⟩ := rr_ext (sg_ext (op_lk_sg M a n j) hg.2.1 : px_ext M E (op_lk M a n j) E) hJ
      rw [er, ← p1]
      unfold rr_nd
      rw [op_lk_r M a n j (r := 5) (by decide), op_lk_r M a n j (r := 6) (by decide), ← e5, ← e6, ← p1]
      exact rr_at_pth p2
    rw [hm]
    show st_of (rr_nd (op_lk M a n j) E n) = _
    rw [hm]
  · obtain ⟨-, hr⟩ := lk_new h1 h2 h3
    funext s
    unfold kn_of
    rw [op_lk_7, op_lk_7, op_lk_r M a n _ (r := 5) (by decide), op_lk_r M a n _ (r := 5) (by decide), op_lk_r M a n _ (r := 3) (by decide), op_lk_r M a n _ (r := 3) (by decide)]
    by_cases e : s = j + 1
    · subst e
      have : (lk (M 7 n) (M 7 a) (M 6 n) (j + 1)).testBit (j + 1) = true := by
        rw [lk_bit, h2]
        have : decide (M 6 n < j + 1 ∧ j + 1 ≤ j + 1) = true := by apply decide_eq_true; omega
        rw [this]; simp
      rw [this, h5]
      simp [upd, hj]
      intro hh
      omega
    · rw [hr s e]
      simp [upd, e]
  · unfold at_of; rw [g 11 (by decide), g 12 (by decide), g 13 (by decide), g 14 (by decide), g 15 (by decide), g 16 (by decide), g 17 (by decide)]; rfl
def lfl (M : PM) (a n j : Nat) : Int32 := if lk (M 7 n) (M 7 a) (M 6 n) j = M 7 n then 0 else 1
theorem p_lf {M : PM} {E : PE} {t a n : Nat} {K : Int32 → Int32 → MndT → MndT → Prop} (hg : gI M E t n) (hn : n < 6) (ha : a < 6) (hne : a ≠ n) (h5 : M 5 a = M 5 n) (h : ∀ y, K (lfl M a n 8) y (nd_of (op_lk M a n 8) E n) (nd_of M E a)) : ∀ d j : Nat, j + d = 8 → wp_Nd_learnFrom_L23 K (d + 1) (lfl M a n j) (nI (j + 1)) (nd_of (op_lk M a n j) E n) (nd_of M E a)
  | 0, j, e => by
    have : j = 8 := by omega
    subst this
    exact ⟨fun _ => h _, fun z => absurd (by decide) z⟩
  | d + 1, j, e => by
    have ih := p_lf hg hn ha hne h5 h d (j + 1) (by omega)
    have hgj := op_lk_I hg hne ha h5 (show j ≤ 8 by omega)
    have hm := g_mem hgj
    rw [op_lk_r M a n j (r := 6) (by decide)] at hm
    have ee : mst_executed (mnd_state (nd_of (op_lk M a n j) E n)) = nI (M 6 n) := by
      show nI (rr_nd (op_lk M a n j) E n).2.1 = _
      rw [hm.2.1]
    have hsame : op_lk M a n (j + 1) = op_lk M a n j ∧ lfl M a n (j + 1) = lfl M a n j → ∀ v : Int32, v = nI (j + 1) + 1 → wp_Nd_learnFrom_L23 K (d + 1) (lfl M a n j) v (nd_of (op_lk M a n j) E n) (nd_of M E a) := by
      intro hq v ev
      rw [nI_1] at ev
      subst ev
      rw [hq.1, hq.2] at ih
      exact ih
    have hlk : ∀ {x : Prop}, lk (M 7 n) (M 7 a) (M 6 n) (j + 1) = lk (M 7 n) (M 7 a) (M 6 n) j → op_lk M a n (j + 1) = op_lk M a n j ∧ lfl M a n (j + 1) = lfl M a n j := fun q => by
      unfold op_lk lfl
      rw [q]
      exact ⟨rfl, rfl⟩
    refine ⟨fun z => absurd z (nI_nlt (a := 8) (b := j + 1) (by omega) (by decide)), fun _ => ?_⟩
    rw [ee]
    refine ⟨fun z => hsame (hlk (x := True) (lk_same (Or.inr (Or.inr (by have := (nI_leI (by omega) (by omega)).mp z; omega))))), fun z => ?_⟩
    have hj6 : ¬ j < M 6 n := fun q => z (nI_le (by omega) (by omega))
    have na := hg.2.2.1 a ha hne
    refine p_kat hg.2.1 hg.1.1 na.2.2.2.2.1 (by omega) ?_
    by_cases hb : (M 7 a).testBit (j + 1) = true
    · rw [if_pos ⟨hb, by omega⟩]
      refine br1 (p_kat hgj.2.1 hgj.1.1 hgj.2.2.2.1.2.2.2.2.1 (by omega) ?_)
      rw [op_lk_7]
      by_cases hb2 : (lk (M 7 n) (M 7 a) (M 6 n) j).testBit (j + 1) = true
      · rw [if_pos ⟨hb2, by omega⟩]
        exact br1 (hsame (hlk (x := True) (lk_same (Or.inl hb2))))
      · rw [if_neg (fun q => hb2 q.1)]
        have hb2' : (lk (M 7 n) (M 7 a) (M 6 n) j).testBit (j + 1) = false := by
          cases hh : (lk (M 7 n) (M 7 a) (M 6 n) j).testBit (j + 1)
          · rfl
          · exact absurd hh hb2
        refine br0 ⟨vp_in_nI (by omega) (by decide), vp_in_nI (by omega) (by decide), fun v ev => ?_⟩
        rw [nI_1] at ev
        subst ev
        have ek : mnd_knownCommands (nd_of M E a) (nI (j + 1)).toNatClampNeg = nI (M 3 (9 * M 5 a + (j + 1))) - 1 := by
          show (if (nI (j + 1)).toNatClampNeg < 9 then (if (M 7 a).testBit (nI (j + 1)).toNatClampNeg = true then nI (M 3 (9 * M 5 a + (nI (j + 1)).toNatClampNeg)) - 1 else -1) else 0) = _
          rw [nI_clamp (by omega), if_pos (by omega), if_pos hb]
        have en := nd_lk (E := E) hg h5 hb2' hb hj6 (by omega)
        have el : lfl M a n (j + 1) = 1 := by
          unfold lfl
          rw [if_neg (lk_new hb2' hb hj6).1]
        rw [ek, nI_clamp (by omega)]
        rw [← en, el] at ih
        exact ih
    · rw [if_neg (fun q => hb q.1)]
      have hb' : (M 7 a).testBit (j + 1) = false := by
        cases hh : (M 7 a).testBit (j + 1)
        · rfl
        · exact absurd hh hb
      exact br0 (hsame (hlk (x := True) (lk_same (Or.inr (Or.inl hb')))))
theorem p_lm {M : PM} {E : PE} {va dn an : Nat → Int32} {mb ac ae : Int32} {a n : Nat} {y3 y4 y5 : Int32} {K : Int32 → Int32 → Int32 → Int32 → Int32 → Int32 → MmdT → Prop} (hn : n < 6) (ha : a < 6) (hne : a ≠ n) (h6 : M 6 n ≤ 8) (h : ∀ y, K (nI a) (nI n) y3 y4 y5 y (md_of (op_lk M a n 8) E va dn an mb ac ae)) : ∀ d j : Nat, j + d = 8 → M 6 n ≤ j → wp_Md_tell_L94 K (d + 1) (nI a) (nI n) y3 y4 y5 (nI (j + 1)) (md_of (op_lk M a n j) E va dn an mb ac ae)
  | 0, j, e, _ => by
    have : j = 8 := by omega
    subst this
    exact ⟨fun _ => h _, fun z => absurd (by decide) z⟩
  | d + 1, j, e, hj => by
    have hv : vp_in (nI n) 6 := vp_in_nI hn (by decide)
    have hva : vp_in (nI a) 6 := vp_in_nI ha (by decide)
    refine ⟨fun z => absurd z (nI_nlt (a := 8) (b := j + 1) (by omega) (by decide)), fun _ => ⟨hv, hva, hv, fun w ew v ev => ?_⟩⟩
    have e1 : mmd_known (md_of (op_lk M a n j) E va dn an mb ac ae) (nI n).toNatClampNeg = nI (lk (M 7 n) (M 7 a) (M 6 n) j) := by
      rw [← op_lk_7 M a n j]; exact rdN (op_lk M a n j) 7 hn
    have e2 : mmd_known (md_of (op_lk M a n j) E va dn an mb ac ae) (nI a).toNatClampNeg = nI (M 7 a) := by
      rw [← op_lk_7a M j hne]; exact rdN (op_lk M a n j) 7 ha
    rw [e1, e2, bi_and1 _ _ (by omega), bi_or] at ew
    obtain rfl := ew.trans (mw_known _ hn)
    rw [nI_1] at ev
    subst ev
    have eq : ps_set (op_lk M a n j) 7 n (lk (M 7 n) (M 7 a) (M 6 n) j ||| (M 7 a &&& 2 ^ (j + 1))) = op_lk M a n (j + 1) := by
      unfold op_lk
      rw [ps_twice]
      have : lk (M 7 n) (M 7 a) (M 6 n) (j + 1) = lk (M 7 n) (M 7 a) (M 6 n) j ||| (M 7 a &&& 2 ^ (j + 1)) := if_neg (by omega)
      rw [this]
    rw [eq]
    exact p_lm hn ha hne h6 h d (j + 1) (by omega) (by omega)
