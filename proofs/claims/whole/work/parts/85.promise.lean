/-! promise -/
/-- the promise counted at node n -/
def op_pr (M : PM) (n a : Nat) : PM := ps_at M n (M 13 n ||| 2 ^ a) (M 14 n) (if M 15 n < M 19 (ci M n a) then M 19 (ci M n a) else M 15 n) (if M 15 n < M 19 (ci M n a) then M 20 (ci M n a) else M 16 n) (M 17 n)
theorem ps_at_sx (M : PM) (n a p v bb bc cm : Nat) : sx M (ps_at M n p v bb bc cm) n a :=
  ⟨⟨ps_at_r M (by decide) (by decide) (by decide) (by decide) (by decide), ps_at_r M (by decide) (by decide) (by decide) (by decide) (by decide), ps_at_r M (by decide) (by decide) (by decide) (by decide) (by decide)⟩, fun k _ => by rw [ps_at_r M (by decide) (by decide) (by decide) (by decide) (by decide)], fun i hi r _ _ => ps_at_i M hi, fun i _ j _ _ => ⟨by rw [ps_at_r M (by decide) (by decide) (by decide) (by decide) (by decide)], by rw [ps_at_r M (by decide) (by decide) (by decide) (by decide) (by decide)], by rw [ps_at_r M (by decide) (by decide) (by decide) (by decide) (by decide)]⟩⟩
theorem ps_at_I {M : PM} {E : PE} {t n p v bb bc cm : Nat} (hI : nv_I M E t) (hn : n < 6) (hp : p < 64) (hv : v < 64) (hbb : bb ≤ 6 * t + 12) (hbc : bc ≤ M 0 0) (hcm : cm ≤ M 0 0 + 1) (hpx : px_I (ps_at M n p v bb bc cm) E) : nv_I (ps_at M n p v bb bc cm) E t := by
  have hs := ps_at_sx M n n p v bb bc cm
  have hx : px_ext M E (ps_at M n p v bb bc cm) E := sx_ext hs hI.2.1
  have g := fun r (h13 : r ≠ 13) (h14 : r ≠ 14) (h15 : r ≠ 15) (h16 : r ≠ 16) (h17 : r ≠ 17) => ps_at_r M (n := n) (p := p) (v := v) (bb := bb) (bc := bc) (cm := cm) h13 h14 h15 h16 h17
  have h3 := hI.2.2.1 n hn
  have h4 := hI.2.2.2.1.1 n hn
  refine nv_mk hI hs (g 3 (by decide) (by decide) (by decide) (by decide) (by decide)) (nv_n_at hx h3 (by rw [g 0 (by decide) (by decide) (by decide) (by decide) (by decide)]) (fun r _ _ _ => by rw [g r (by omega) (by omega) (by omega) (by omega) (by omega)]) ?_ ?_ ?_ ?_) ?_ ?_ ?_ hpx
  · simpa [ps_at] using hp
  · simpa [ps_at] using hv
  · simpa [ps_at] using hbc
  · simpa [ps_at] using hcm
  · rw [g 8 (by decide) (by decide) (by decide) (by decide) (by decide), g 12 (by decide) (by decide) (by decide) (by decide) (by decide)]
    exact ⟨h4.1, h4.2.1, by simpa [ps_at] using hbb⟩
  · intro j
    rw [g 18 (by decide) (by decide) (by decide) (by decide) (by decide), g 19 (by decide) (by decide) (by decide) (by decide) (by decide), g 20 (by decide) (by decide) (by decide) (by decide) (by decide)]
    exact hI.2.2.2.1.2 j
  · unfold nv_5
    rw [g 19 (by decide) (by decide) (by decide) (by decide) (by decide), g 20 (by decide) (by decide) (by decide) (by decide) (by decide)]
    exact hI.2.2.2.2.1
theorem ps_at_13 (M : PM) (n p : Nat) : ps_set M 13 n p = ps_at M n p (M 14 n) (M 15 n) (M 16 n) (M 17 n) := by
  funext r i
  unfold ps_set ps_at
  by_cases hi : i = n
  · subst hi
    by_cases h13 : r = 13
    · subst h13; simp
    · by_cases h14 : r = 14
      · subst h14; simp
      · by_cases h15 : r = 15
        · subst h15; simp
        · by_cases h16 : r = 16
          · subst h16; simp
          · by_cases h17 : r = 17
            · subst h17; simp
            · simp [h13, h14, h15, h16, h17]
  · simp [hi]
theorem ps_at_1356 (M : PM) (n p bb bc : Nat) : ps_set (ps_set (ps_set M 13 n p) 15 n bb) 16 n bc = ps_at M n p (M 14 n) bb bc (M 17 n) := by
  funext r i
  unfold ps_set ps_at
  by_cases hi : i = n
  · subst hi
    by_cases h13 : r = 13
    · subst h13; simp
    · by_cases h14 : r = 14
      · subst h14; simp
      · by_cases h15 : r = 15
        · subst h15; simp
        · by_cases h16 : r = 16
          · subst h16; simp
          · by_cases h17 : r = 17
            · subst h17; simp
            · simp [h13, h14, h15, h16, h17]
  · simp [hi]
/-- the promised state -/
def op_p1 (M : PM) (n a : Nat) : PM := ps_set M 18 (ci M n a) (M 12 n)
def op_p2 (M : PM) (n a : Nat) : PM := op_pr (op_p1 M n a) n a
theorem op_p1_r (M : PM) (n a : Nat) {r : Nat} (h : r ≠ 18) : op_p1 M n a r = M r := ps_reg M h
theorem op_p1_ci (M : PM) (n a : Nat) : ci (op_p1 M n a) n a = ci M n a := by
  unfold ci; rw [op_p1_r M n a (by decide), op_p1_r M n a (by decide)]
theorem op_p2_eq (M : PM) (n a : Nat) : op_p2 M n a = ps_at (op_p1 M n a) n (M 13 n ||| 2 ^ a) (M 14 n) (if M 15 n < M 19 (ci M n a) then M 19 (ci M n a) else M 15 n) (if M 15 n < M 19 (ci M n a) then M 20 (ci M n a) else M 16 n) (M 17 n) := by
  unfold op_p2 op_pr
  rw [op_p1_ci, op_p1_r M n a (show 13 ≠ 18 by decide), op_p1_r M n a (show 14 ≠ 18 by decide), op_p1_r M n a (show 15 ≠ 18 by decide), op_p1_r M n a (show 16 ≠ 18 by decide), op_p1_r M n a (show 17 ≠ 18 by decide), op_p1_r M n a (show 19 ≠ 18 by decide), op_p1_r M n a (show 20 ≠ 18 by decide)]
theorem op_p2_I {M : PM} {E : PE} {t n a : Nat} (hI : nv_I M E t) (hn : n < 6) (ha : a < 6) (h0 : M 11 n ≠ 0) (h9 : M 9 a ≤ M 5 n) (hle : M 18 (ci M n a) ≤ M 12 n) : nv_I (op_p2 M n a) E t := by
  have h1 : nv_I (op_p1 M n a) E t := pm_I hI hn hle
  have h3 := hI.2.2.1 n hn
  have bn := nd_mem hI.1 hI.2.1 h3
  have h4 := hI.2.2.2.1.1 n hn
  have h5 := hI.2.2.2.1.2 (ci M n a)
  obtain ⟨-, -, -, -, -, q11, -, q13, q14, q16, q17⟩ := id h3
  rw [op_p2_eq]
  have hpx := px_promise (M := op_p1 M n a) (E := E) (n := n) (a := a) (i := ci M n a) h1.2.1 hn ha (by rw [op_p1_r M n a (by decide)]; exact bn.2.2.2.1) (by rw [op_p1_r M n a (by decide)]; exact h0) (by rw [op_p1_r M n a (by decide)]; exact q11) (by rw [op_p1_r M n a (by decide), op_p1_r M n a (by decide)]; rfl) (by rw [op_p1_r M n a (by decide), op_p1_r M n a (by decide)]; exact h9) (by rw [op_p1_r M n a (show 12 ≠ 18 by decide)]; exact ps_eq M 18 _ _) h1.2.2.2.2.2
  rw [op_p1_r M n a (show 13 ≠ 18 by decide), op_p1_r M n a (show 14 ≠ 18 by decide), op_p1_r M n a (show 15 ≠ 18 by decide), op_p1_r M n a (show 16 ≠ 18 by decide), op_p1_r M n a (show 17 ≠ 18 by decide), op_p1_r M n a (show 19 ≠ 18 by decide), op_p1_r M n a (show 20 ≠ 18 by decide)] at hpx
  refine ps_at_I h1 hn (or_lt q13 ha) q14 ?_ ?_ ?_ hpx
  · split <;> omega
  · rw [op_p1_r M n a (by decide)]; split <;> omega
  · rw [op_p1_r M n a (by decide)]; exact q17
theorem p_promM {M : PM} {E : PE} {t n a : Nat} {va dn an : Nat → Int32} {mb ac ae x3 : Int32} {P : Int32 → MmdT → Prop} (hI : nv_I M E t) (ht : t ≤ 512) (hn : n < 6) (ha : a < 6)
    (h0 : ¬ may M E n a → ∀ (va dn an : Nat → Int32) (mb ac ae : Int32), P 0 (md_of M E va dn an mb ac ae))
    (hd : may M E n a → up_of M a = 0 → ∀ (va dn an : Nat → Int32) (mb ac ae : Int32), P (-2) (md_of M E va dn an mb ac ae))
    (hA0 : may M E n a → up_of M a = 1 → M 9 a ≤ M 5 n → M 18 (ci M n a) ≤ M 12 n → x3 = 0 → ∀ (va dn an : Nat → Int32) (mb ac ae : Int32), P 1 (md_of (op_p1 M n a) E va dn an mb ac ae))
    (hA1 : may M E n a → up_of M a = 1 → M 9 a ≤ M 5 n → M 18 (ci M n a) ≤ M 12 n → x3 ≠ 0 → ∀ (va dn an : Nat → Int32) (mb ac ae : Int32), P 1 (md_of (op_p2 M n a) E va dn an mb ac ae))
    (hB0 : may M E n a → up_of M a = 1 → M 9 a ≤ M 5 n → M 12 n < M 18 (ci M n a) → x3 = 0 → ∀ (va dn an : Nat → Int32) (mb ac ae : Int32), P 2 (md_of M E va dn an mb ac ae))
    (hB1 : may M E n a → up_of M a = 1 → M 9 a ≤ M 5 n → M 12 n < M 18 (ci M n a) → x3 ≠ 0 → ∀ (va dn an : Nat → Int32) (mb ac ae : Int32), P 2 (md_of (op_la M n (M 18 (ci M n a))) E va dn an mb ac ae))
    (hC0 : may M E n a → up_of M a = 1 → M 5 n < M 9 a → x3 = 0 → ∀ (va dn an : Nat → Int32) (mb ac ae : Int32), P 3 (md_of M E va dn an mb ac ae))
    (hC1 : may M E n a → up_of M a = 1 → M 5 n < M 9 a → x3 ≠ 0 → ∀ (va dn an : Nat → Int32) (mb ac ae : Int32), P 3 (md_of (op_in M a n) E va dn an mb ac ae)) : wp_Md_promise (md_of M E va dn an mb ac ae) (nI n) (nI a) x3 P := by
  have h3 := hI.2.2.1 n hn
  have bn := nd_mem hI.1 hI.2.1 h3
  have h9n := h3.2.1
  have h9a := (hI.2.2.1 a ha).2.1
  obtain ⟨-, -, -, -, -, q11, -, q13, q14, q16, q17⟩ := id h3
  have hv : vp_in (nI n) 6 := vp_in_nI hn (by decide)
  have hva : vp_in (nI a) 6 := vp_in_nI ha (by decide)
  have hc : ci M n a < 270 := by unfold ci; omega
  have hvc : vp_in (nI (ci M n a)) 270 := vp_in_nI hc (by decide)
  have h4 := hI.2.2.2.1.1 n hn
  have h5 := hI.2.2.2.1.2 (ci M n a)
  refine p_bar0 hI hn ha (fun q va dn an mb ac ae => ⟨fun z => absurd z (by decide), fun _ => h0 q _ _ _ _ _ _⟩) (fun q w va dn an mb ac ae => ⟨fun z => absurd z (by decide), fun _ => hd q w _ _ _ _ _ _⟩) (fun q w va dn an mb ac ae => ⟨fun _ => ?_, fun z => absurd (by decide) z⟩)
  refine ⟨hv, hv, fun v4 e4 => ?_⟩
  have e5 : mmd_configuration (md_of M E va dn an mb ac ae) (nI n).toNatClampNeg = nI (M 5 n) := rdN M 5 hn
  have e11 : mmd_slot (md_of M E va dn an mb ac ae) (nI n).toNatClampNeg = nI (M 11 n) := rdN M 11 hn
  rw [e5, e11, ix_m] at e4
  have e4' : v4 = nI (ci M n a) := e4
  subst e4'
  refine p_ans hI ht hn ha (fun k1 k2 => ⟨fun _ => ⟨fun z3 => hA0 q w k1 k2 z3 _ _ _ _ _ _, fun z3 => ⟨hv, hv, fun w9 e9 => ?_⟩⟩, fun z => absurd rfl z⟩) (fun k1 k2 z3 => ⟨fun z => absurd z (by decide), fun _ => hB0 q w k1 k2 z3 _ _ _ _ _ _⟩) (fun k1 k2 z3 => ⟨fun z => absurd z (by decide), fun _ => hB1 q w k1 k2 z3 _ _ _ _ _ _⟩) (fun k1 z3 => ⟨fun z => absurd z (by decide), fun _ => hC0 q w k1 z3 _ _ _ _ _ _⟩) (fun k1 z3 => ?_)
  · have hfin := hA1 q w k1 k2 z3
    rw [op_p2_eq] at hfin
    have e13 : mmd_promisers (md_of (op_p1 M n a) E va dn an mb ac ae) (nI n).toNatClampNeg = nI (M 13 n) := by
      rw [← op_p1_r M n a (show 13 ≠ 18 by decide)]; exact rdN (op_p1 M n a) 13 hn
    have e9' : w9 = md_of (ps_set (op_p1 M n a) 13 n (M 13 n ||| 2 ^ a)) E va dn an mb ac ae := by
      refine e9.trans ?_
      show mmd_s_promisers (md_of (op_p1 M n a) E va dn an mb ac ae) (upd (mmd_promisers (md_of (op_p1 M n a) E va dn an mb ac ae)) (nI n).toNatClampNeg ((mmd_promisers (md_of (op_p1 M n a) E va dn an mb ac ae) (nI n).toNatClampNeg) ||| ((1 : Int32) <<< (nI a &&& 31)))) = _
      rw [e13, bi_set _ _ (by omega)]
      exact mw_promisers _ hn
    subst e9'
    obtain ⟨N, hN⟩ : ∃ N, N = ps_set (op_p1 M n a) 13 n (M 13 n ||| 2 ^ a) := ⟨_, rfl⟩
    have n15 : N 15 n = M 15 n := by rw [hN, ps_ner _ (by decide), op_p1_r M n a (by decide)]
    have n19 : N 19 (ci M n a) = M 19 (ci M n a) := by rw [hN, ps_ner _ (by decide), op_p1_r M n a (by decide)]
    have n20 : N 20 (ci M n a) = M 20 (ci M n a) := by rw [hN, ps_ner _ (by decide), op_p1_r M n a (by decide)]
    rw [← hN]
    have r15 : mmd_bestBallot (md_of N E va dn an mb ac ae) (nI n).toNatClampNeg = nI (M 15 n) := by rw [← n15]; exact rdN N 15 hn
    have r19 : mmd_voteBallot (md_of N E va dn an mb ac ae) (nI (ci M n a)).toNatClampNeg = nI (M 19 (ci M n a)) := by
      rw [← n19, nI_clamp (by omega)]; rfl
    rw [r15, r19]
    refine ⟨hvc, hv, fun z4 => ?_, fun z4 => ⟨hvc, hv, fun w11 e11' => ⟨hvc, hv, fun w12 e12 => ?_⟩⟩⟩
    · have k4 : M 19 (ci M n a) ≤ M 15 n := (nI_leI (by omega) (by omega)).mp z4
      rw [if_neg (by omega), if_neg (by omega)] at hfin
      have eN : N = ps_at (op_p1 M n a) n (M 13 n ||| 2 ^ a) (M 14 n) (M 15 n) (M 16 n) (M 17 n) := by
        rw [hN, ps_at_13, op_p1_r M n a (show 14 ≠ 18 by decide), op_p1_r M n a (show 15 ≠ 18 by decide), op_p1_r M n a (show 16 ≠ 18 by decide), op_p1_r M n a (show 17 ≠ 18 by decide)]
      rw [eN]
      exact hfin _ _ _ _ _ _
    · have k4 : ¬ M 19 (ci M n a) ≤ M 15 n := fun k => z4 (nI_le k (by omega))
      rw [if_pos (by omega), if_pos (by omega)] at hfin
      obtain rfl := e11'.trans (mw_bestBallot (M 19 (ci M n a)) hn)
      have r20 : mmd_voteCommand (md_of (ps_set N 15 n (M 19 (ci M n a))) E va dn an mb ac ae) (nI (ci M n a)).toNatClampNeg = nI (M 20 (ci M n a)) := by
        rw [← n20, nI_clamp (by omega)]
        show nI (ps_set N 15 n (M 19 (ci M n a)) 20 (ci M n a)) = _
        rw [ps_ner _ (by decide)]
      rw [r20] at e12
      obtain rfl := e12.trans (mw_bestCommand (M 20 (ci M n a)) hn)
      have eN : ps_set (ps_set N 15 n (M 19 (ci M n a))) 16 n (M 20 (ci M n a)) = ps_at (op_p1 M n a) n (M 13 n ||| 2 ^ a) (M 14 n) (M 19 (ci M n a)) (M 20 (ci M n a)) (M 17 n) := by
        rw [hN, ps_at_1356, op_p1_r M n a (show 14 ≠ 18 by decide), op_p1_r M n a (show 17 ≠ 18 by decide)]
      rw [eN]
      exact hfin _ _ _ _ _ _
  · have hne : a ≠ n := fun e => by subst e; omega
    have hl : lat M a n := by unfold lat; omega
    exact p_instM ha hn hI hne (fun _ => ⟨fun z => absurd z (by decide), fun _ => hC1 q w k1 z3 _ _ _ _ _ _⟩) (fun q => absurd hl q)
