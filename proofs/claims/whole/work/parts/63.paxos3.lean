/-- a majority's votes: if the cell was decided, it was decided for the same command -/
theorem px_same {M : PM} {E : PE} {n : Nat} (hn : n < 6) (hc4 : M 5 n ≤ 4) (h11 : M 11 n ≠ 0) (h118 : M 11 n ≤ 8) (hm : px_maj (px_mb M E (M 5 n)) (M 14 n)) (h : px_I M E) : M 17 n ≠ 0 ∧ (M 3 (9 * M 5 n + M 11 n) ≠ 0 → M 3 (9 * M 5 n + M 11 n) = M 17 n) := by
  obtain ⟨H, C, p1, p2, p3, p4, p5, p6⟩ := h
  obtain ⟨q1, q2, q3, q4, q5, q6, q7⟩ := p5 n hn h11
  obtain ⟨a, ha, ha1, -⟩ := px_meet hm hm
  have h17 := (q6 a ha ha1).1
  refine ⟨h17, fun hd => ?_⟩
  obtain ⟨b, Q, u1, u2, u3⟩ := p6 (M 5 n) (M 11 n) hc4 (by omega) h118 hd
  exact px_one p1 p3 hc4 (by omega) h118 hd h17 u2 u3 hm (fun a ha hb => (q6 a ha hb).2)
theorem px_decide {M : PM} {E : PE} {n : Nat} (hr : ∀ k, M 3 k ≤ M 0 0 + 1) (hn : n < 6) (hc4 : M 5 n ≤ 4) (h11 : M 11 n ≠ 0) (h118 : M 11 n ≤ 8) (hm : px_maj (px_mb M E (M 5 n)) (M 14 n)) (h0 : M 3 (9 * M 5 n + M 11 n) = 0) (h : px_I M E) : px_I (ps_set M 3 (9 * M 5 n + M 11 n) (M 17 n)) E := by
  have h17 := (px_same hn hc4 h11 h118 hm h).1
  obtain ⟨H, C, p1, p2, p3, p4, p5, p6⟩ := h
  obtain ⟨q1, q2, q3, q4, q5, q6, q7⟩ := p5 n hn h11
  have e : ∀ r, r ≠ 3 → ps_set M 3 (9 * M 5 n + M 11 n) (M 17 n) r = M r := fun r hr => ps_reg M hr
  have hx : px_ext M E (ps_set M 3 (9 * M 5 n + M 11 n) (M 17 n)) E := by
    refine ⟨fun k hk => ?_, fun q _ => ⟨by rw [e 1 (by decide)], by rw [e 2 (by decide)], rfl⟩, hr, by rw [e 0 (by decide)]; exact Nat.le_refl _⟩
    exact ps_nei M (fun ek => hk (by rw [ek]; exact h0))
  generalize hM' : ps_set M 3 (9 * M 5 n + M 11 n) (M 17 n) = M' at *
  have m3 : ∀ k, k ≠ 9 * M 5 n + M 11 n → M' 3 k = M 3 k := fun k hk => by rw [← hM']; exact ps_nei M hk
  have m3n : M' 3 (9 * M 5 n + M 11 n) = M 17 n := by rw [← hM']; exact ps_eq _ _ _ _
  have hpr : ∀ a c s' b' bm, px_pr M H a c s' b' bm → px_pr M' H a c s' b' bm := fun a c s' b' bm h => by
    unfold px_pr at h ⊢
    rw [e 9 (by decide), e 18 (by decide)]; exact h
  refine ⟨H, C, p1, ?_, px_3_ext hx p4 (fun a c s b bm _ _ _ _ => hpr a c s b bm) p3, px_4_ext hx (fun n => by rw [e 8 (by decide)]; exact Nat.le_refl _) p4, ?_, ?_⟩
  · unfold px_2; rw [e 9 (by decide), e 18 (by decide), e 19 (by decide), e 20 (by decide)]; exact p2
  · intro i hi h11i
    rw [e 11 (by decide)] at h11i
    rw [e 11 (by decide), e 12 (by decide), e 8 (by decide), e 5 (by decide), e 13 (by decide), e 14 (by decide), e 15 (by decide), e 16 (by decide), e 17 (by decide)]
    obtain ⟨u1, u2, u3, u4, u5, u6, u7⟩ := p5 i hi h11i
    exact ⟨u1, u2, u3, u4, u5, u6, fun z => ⟨(u7 z).1, (u7 z).2.1, fun a ha hb => hpr _ _ _ _ _ ((u7 z).2.2 a ha hb)⟩⟩
  · intro c s hc hs hs8 hd
    by_cases ek : 9 * c + s = 9 * M 5 n + M 11 n
    · have ec : c = M 5 n := by omega
      have es : s = M 11 n := by omega
      subst ec; subst es
      rw [m3n]
      exact ⟨M 12 n, M 14 n, q5, by rw [px_mb_C hx p4 hs hs8 (by rw [q5]; exact h17)]; exact hm, fun a ha hb => (q6 a ha hb).2⟩
    · rw [m3 _ ek] at hd ⊢
      obtain ⟨b, Q, u1, u2, u3⟩ := p6 c s hc hs hs8 hd
      exact ⟨b, Q, u1, by rw [px_mb_C hx p4 hs hs8 (by rw [u1]; exact hd)]; exact u2, u3⟩
/-- a node retires: it forgets what lies below its configuration -/
def ps_ret (M : PM) (n : Nat) : PM := fun r i => if r = 9 ∧ i = n then M 5 n else if (r = 18 ∨ r = 19 ∨ r = 20) ∧ 45 * n ≤ i ∧ i < 45 * n + 9 * M 5 n then 0 else M r i
theorem px_retire {M : PM} {E : PE} {n : Nat} (hr : ∀ k, M 3 k ≤ M 0 0 + 1) (hc4 : M 5 n ≤ 4) (h9 : M 9 n ≤ M 5 n) (hbd : ∀ i, i < 6 → M 5 i ≤ 4 ∧ M 11 i ≤ 8) (h : px_I M E) : px_I (ps_ret M n) E := by
  obtain ⟨H, C, p1, p2, p3, p4, p5, p6⟩ := h
  have e : ∀ r, r ≠ 9 → r ≠ 18 → r ≠ 19 → r ≠ 20 → ps_ret M n r = M r := fun r a b c d => funext fun i => by simp [ps_ret, *]
  have e3 := e 3 (by decide) (by decide) (by decide) (by decide)
  have e8 := e 8 (by decide) (by decide) (by decide) (by decide)
  have hx : px_ext M E (ps_ret M n) E := ⟨fun k _ => congrFun e3 k, fun q _ => ⟨by rw [e 1 (by decide) (by decide) (by decide) (by decide)], by rw [e 2 (by decide) (by decide) (by decide) (by decide)], rfl⟩, hr, by rw [e 0 (by decide) (by decide) (by decide) (by decide)]; exact Nat.le_refl _⟩
  have n9 : ps_ret M n 9 n = M 5 n := by simp [ps_ret]
  have o9 : ∀ a, a ≠ n → ps_ret M n 9 a = M 9 a := fun a ha => by simp [ps_ret, ha]
  have keep : ∀ r a c s, r = 18 ∨ r = 19 ∨ r = 20 → c ≤ 4 → s ≤ 8 → (a = n → M 5 n ≤ c) → ps_ret M n r (45 * a + 9 * c + s) = M r (45 * a + 9 * c + s) := by
    intro r a c s hrr hc hs hac
    show (if r = 9 ∧ 45 * a + 9 * c + s = n then M 5 n else if (r = 18 ∨ r = 19 ∨ r = 20) ∧ 45 * n ≤ 45 * a + 9 * c + s ∧ 45 * a + 9 * c + s < 45 * n + 9 * M 5 n then 0 else M r (45 * a + 9 * c + s)) = M r (45 * a + 9 * c + s)
    rw [if_neg (by omega), if_neg]
    rintro ⟨-, h1, h2⟩
    by_cases ea : a = n
    · have := hac ea
      subst ea
      omega
    · omega
  have hpr : ∀ a c s b bm, a < 6 → c ≤ 4 → 1 ≤ s → s ≤ 8 → px_pr M H a c s b bm → px_pr (ps_ret M n) H a c s b bm := by
    intro a c s b bm _ hc _ hs hp
    refine ⟨?_, hp.2⟩
    by_cases ea : a = n
    · subst ea
      rw [n9]
      by_cases hcc : c < M 5 a
      · exact Or.inl hcc
      · right
        rw [keep 18 a c s (Or.inl rfl) hc hs (fun _ => by omega)]
        rcases hp.1 with z | z
        · omega
        · exact z
    · rw [o9 a ea, keep 18 a c s (Or.inl rfl) hc hs (fun z => absurd z ea)]
      exact hp.1
  refine ⟨H, C, p1, ?_, px_3_ext hx p4 hpr p3, px_4_ext hx (fun n => by rw [e8]; exact Nat.le_refl _) p4, ?_, px_6_ext hx p4 e3 p6⟩
  · intro a c s ha hc hs hs8 h9'
    have hac : a = n → M 5 n ≤ c := fun ea => by rw [ea, n9] at h9'; exact h9'
    have h9a : M 9 a ≤ c := by
      by_cases ea : a = n
      · have := hac ea; subst ea; omega
      · rw [o9 a ea] at h9'; exact h9'
    rw [keep 18 a c s (Or.inl rfl) hc hs8 hac, keep 19 a c s (Or.inr (Or.inl rfl)) hc hs8 hac, keep 20 a c s (Or.inr (Or.inr rfl)) hc hs8 hac]
    exact p2 a c s ha hc hs hs8 h9a
  · intro i hi h11i
    rw [e 11 (by decide) (by decide) (by decide) (by decide)] at h11i
    rw [e 11 (by decide) (by decide) (by decide) (by decide), e 12 (by decide) (by decide) (by decide) (by decide), e8, e 5 (by decide) (by decide) (by decide) (by decide), e 13 (by decide) (by decide) (by decide) (by decide), e 14 (by decide) (by decide) (by decide) (by decide), e 15 (by decide) (by decide) (by decide) (by decide), e 16 (by decide) (by decide) (by decide) (by decide), e 17 (by decide) (by decide) (by decide) (by decide)]
    obtain ⟨u1, u2, u3, u4, u5, u6, u7⟩ := p5 i hi h11i
    refine ⟨u1, u2, u3, u4, u5, u6, fun z => ⟨(u7 z).1, (u7 z).2.1, fun a ha hb => hpr _ _ _ _ _ ha (hbd i hi).1 (by omega) (hbd i hi).2 ((u7 z).2.2 a ha hb)⟩⟩
