/-- an attempt's command is fixed -/
theorem px_settle {M : PM} {E : PE} {n j v : Nat} (hr : ∀ k, M 3 k ≤ M 0 0 + 1) (hn : n < 6) (hj : rr_ok M E j) (hjc : (rr_pth M E j).1 = M 5 n) (h11 : M 11 n ≠ 0) (h118 : M 11 n ≤ 8) (h17 : M 17 n = 0) (hv : v ≤ M 0 0) (hb : M 15 n ≠ 0 → v = M 16 n) (hm : px_maj (px_mb M E (M 5 n)) (M 13 n)) (h : px_I M E) :
    px_I (ps_at M n (M 13 n) (M 14 n) (M 15 n) (M 16 n) (v + 1)) E := by
  obtain ⟨H, C, p1, p2, p3, p4, p5, p6⟩ := h
  have hc4 : M 5 n ≤ 4 := by rw [← hjc]; exact (rr_pth_bd hj).1
  obtain ⟨q1, q2, q3, q4, q5, q6, q7⟩ := p5 n hn h11
  obtain ⟨w1, w2, w3⟩ := q7 h17
  rw [h17] at q5
  generalize hC' : (fun k' b' => if k' = 9 * M 5 n + M 11 n ∧ b' = M 12 n then v + 1 else C k' b') = C'
  have cn : C' (9 * M 5 n + M 11 n) (M 12 n) = v + 1 := by rw [← hC']; simp
  have cs : ∀ k b, C k b ≠ 0 → C' k b = C k b := by
    intro k b hne
    rw [← hC']
    show (if k = 9 * M 5 n + M 11 n ∧ b = M 12 n then v + 1 else C k b) = C k b
    rw [if_neg]
    rintro ⟨e1, e2⟩
    rw [e1, e2, q5] at hne
    exact hne rfl
  have co : ∀ k b, (k ≠ 9 * M 5 n + M 11 n ∨ b ≠ M 12 n) → C' k b = C k b := by
    intro k b hne
    rw [← hC']
    show (if k = 9 * M 5 n + M 11 n ∧ b = M 12 n then v + 1 else C k b) = C k b
    rw [if_neg]
    rintro ⟨e1, e2⟩
    rcases hne with z | z
    · exact z e1
    · exact z e2
  have cb : ∀ k b, C' k b ≠ 0 → (k = 9 * M 5 n + M 11 n ∧ b = M 12 n) ∨ (C k b ≠ 0 ∧ C' k b = C k b) := by
    intro k b hne
    by_cases e : k = 9 * M 5 n + M 11 n ∧ b = M 12 n
    · exact Or.inl e
    · have := co k b (by
        by_cases e1 : k = 9 * M 5 n + M 11 n
        · exact Or.inr (fun e2 => e ⟨e1, e2⟩)
        · exact Or.inl e1)
      exact Or.inr ⟨by rw [← this]; exact hne, this⟩
  refine px_at (C' := C') hr hn h11 ?_ p2 ?_ ?_ ?_ ?_ ?_
  · intro a k b hne
    obtain ⟨u1, u2⟩ := p1 a k b hne
    exact ⟨by rw [cs k b (by rw [u1]; exact hne), u1], u2⟩
  · intro c s b hc hs hs8 hne
    rcases cb _ _ hne with ⟨e1, e2⟩ | ⟨e1, e2⟩
    · have ec : c = M 5 n := by omega
      have es : s = M 11 n := by omega
      subst ec; subst es; subst e2
      refine ⟨M 13 n, M 15 n, hm, w2, ?_, w3⟩
      rcases w1 with z | z
      · exact Or.inl z
      · by_cases z0 : M 15 n = 0
        · exact Or.inl z0
        · right
          rw [cn, cs _ _ (by rw [z]; omega), z, hb z0]
    · obtain ⟨Q, bm, u1, u2, u3, u4⟩ := p3 c s b hc hs hs8 e1
      refine ⟨Q, bm, u1, u2, ?_, u4⟩
      rcases u3 with z | z
      · exact Or.inl z
      · right
        rw [cs _ _ (by rw [z]; exact e1), e2, z]
  · intro k b hne
    rcases cb _ _ hne with ⟨e1, e2⟩ | ⟨e1, e2⟩
    · subst e1; subst e2
      refine ⟨by rw [q1]; exact q2, by rw [cn]; omega, M 5 n, M 11 n, j, rfl, hc4, by omega, h118, hj, hjc⟩
    · rw [e2]; exact p4 k b e1
  · intro i hi hin h11i
    obtain ⟨u1, u2, u3, u4, u5, u6, u7⟩ := p5 i hi h11i
    have hne : M 12 i ≠ M 12 n := fun e => hin (by rw [← u1, e, q1])
    refine ⟨u1, u2, u3, fun k hk => by rw [co _ _ (Or.inr hne)]; exact u4 k hk, by rw [co _ _ (Or.inr hne)]; exact u5, u6, fun z => ⟨?_, (u7 z).2⟩⟩
    rcases (u7 z).1 with y | y
    · exact Or.inl y
    · exact Or.inr (by rw [cs _ _ (by rw [y]; omega)]; exact y)
  · intro c s hc hs hs8 hd
    obtain ⟨b, Q, u1, u2, u3⟩ := p6 c s hc hs hs8 hd
    exact ⟨b, Q, by rw [cs _ _ (by rw [u1]; exact hd)]; exact u1, u2, u3⟩
  · refine ⟨q1, q2, q3, fun k hk => by rw [co _ _ (Or.inl hk)]; exact q4 k hk, cn, fun a ha hb' => ?_, fun z => absurd z (by omega)⟩
    exact absurd h17 (q6 a ha hb').1
/-- a vote is cast, and heard or not -/
def ps_vote (M : PM) (i b v : Nat) : PM := fun r j => if j = i then (if r = 18 ∨ r = 19 then b else if r = 20 then v else M r j) else M r j
theorem ps_vote_r (M : PM) {i b v r : Nat} (h18 : r ≠ 18) (h19 : r ≠ 19) (h20 : r ≠ 20) : ps_vote M i b v r = M r := funext fun j => by simp [ps_vote, *]
theorem px_vote {M : PM} {E : PE} {n a i v vt : Nat} (hr : ∀ k, M 3 k ≤ M 0 0 + 1) (hn : n < 6) (ha : a < 6) (hc4 : M 5 n ≤ 4) (h11 : M 11 n ≠ 0) (h118' : ∀ j, j < 6 → M 11 j ≤ 8) (hi : i = 45 * a + 9 * M 5 n + M 11 n) (h9 : M 9 a ≤ M 5 n) (h18 : M 18 i ≤ M 12 n) (h17 : M 17 n = v + 1) (hvt : vt = M 14 n ∨ vt = M 14 n ||| 2 ^ a) (h : px_I M E) :
    px_I (ps_at (ps_vote M i (M 12 n) v) n (M 13 n) vt (M 15 n) (M 16 n) (v + 1)) E := by
  have h118 := h118' n hn
  obtain ⟨H, C, p1, p2, p3, p4, p5, p6⟩ := h
  obtain ⟨q1, q2, q3, q4, q5, q6, q7⟩ := p5 n hn h11
  rw [h17] at q5 q6
  have e5 := ps_vote_r M (i := i) (b := M 12 n) (v := v) (r := 5) (by decide) (by decide) (by decide)
  have e3 := ps_vote_r M (i := i) (b := M 12 n) (v := v) (r := 3) (by decide) (by decide) (by decide)
  have e0 := ps_vote_r M (i := i) (b := M 12 n) (v := v) (r := 0) (by decide) (by decide) (by decide)
  have e1 := ps_vote_r M (i := i) (b := M 12 n) (v := v) (r := 1) (by decide) (by decide) (by decide)
  have e2 := ps_vote_r M (i := i) (b := M 12 n) (v := v) (r := 2) (by decide) (by decide) (by decide)
  have e8 := ps_vote_r M (i := i) (b := M 12 n) (v := v) (r := 8) (by decide) (by decide) (by decide)
  have e9 := ps_vote_r M (i := i) (b := M 12 n) (v := v) (r := 9) (by decide) (by decide) (by decide)
  have e11 := ps_vote_r M (i := i) (b := M 12 n) (v := v) (r := 11) (by decide) (by decide) (by decide)
  have e12 := ps_vote_r M (i := i) (b := M 12 n) (v := v) (r := 12) (by decide) (by decide) (by decide)
  have e13 := ps_vote_r M (i := i) (b := M 12 n) (v := v) (r := 13) (by decide) (by decide) (by decide)
  have e14 := ps_vote_r M (i := i) (b := M 12 n) (v := v) (r := 14) (by decide) (by decide) (by decide)
  have e15 := ps_vote_r M (i := i) (b := M 12 n) (v := v) (r := 15) (by decide) (by decide) (by decide)
  have e16 := ps_vote_r M (i := i) (b := M 12 n) (v := v) (r := 16) (by decide) (by decide) (by decide)
  have e17 := ps_vote_r M (i := i) (b := M 12 n) (v := v) (r := 17) (by decide) (by decide) (by decide)
  have v18 : ps_vote M i (M 12 n) v 18 i = M 12 n := by simp [ps_vote]
  have v19 : ps_vote M i (M 12 n) v 19 i = M 12 n := by simp [ps_vote]
  have v20 : ps_vote M i (M 12 n) v 20 i = v := by simp [ps_vote]
  have vo : ∀ r j, j ≠ i → ps_vote M i (M 12 n) v r j = M r j := fun r j hj => by simp [ps_vote, hj]
  have hx : px_ext M E (ps_vote M i (M 12 n) v) E := ⟨fun k _ => congrFun e3 k, fun q _ => ⟨congrFun e1 q, congrFun e2 q, rfl⟩, hr, by rw [e0]; exact Nat.le_refl _⟩
  generalize hM' : ps_vote M i (M 12 n) v = M' at *
  generalize hH' : (fun a' k' b' => if a' = a ∧ k' = 9 * M 5 n + M 11 n ∧ b' = M 12 n then v + 1 else H a' k' b') = H'
  have hn' : H' a (9 * M 5 n + M 11 n) (M 12 n) = v + 1 := by rw [← hH']; simp
  have ho : ∀ a' k' b', ¬ (a' = a ∧ k' = 9 * M 5 n + M 11 n ∧ b' = M 12 n) → H' a' k' b' = H a' k' b' := by
    intro a' k' b' hne
    rw [← hH']
    show (if a' = a ∧ k' = 9 * M 5 n + M 11 n ∧ b' = M 12 n then v + 1 else H a' k' b') = H a' k' b'
    rw [if_neg hne]
  have hs : ∀ a' k' b' x, H a' k' b' = x → x ≠ 0 → H' a' k' b' = x := by
    intro a' k' b' x hx0 hne
    by_cases z : a' = a ∧ k' = 9 * M 5 n + M 11 n ∧ b' = M 12 n
    · obtain ⟨z1, z2, z3⟩ := z
      subst z1; subst z2; subst z3
      have := (p1 _ _ _ (by rw [hx0]; exact hne)).1
      rw [hn', ← q5, this, hx0]
    · rw [ho _ _ _ z]; exact hx0
  have hpr : ∀ a' c s b bm, a' < 6 → c ≤ 4 → 1 ≤ s → s ≤ 8 → px_pr M H a' c s b bm → px_pr M' H' a' c s b bm := by
    intro a' c s b bm ha' hc hs1 hs8 hp
    unfold px_pr at hp ⊢
    rw [e9]
    by_cases z : 45 * a' + 9 * c + s = i
    · have za : a' = a := by omega
      have zc : c = M 5 n := by omega
      have zs : s = M 11 n := by omega
      subst za; subst zc; subst zs
      rw [z, v18]
      rw [z] at hp
      have hbn : b ≤ M 12 n := by rcases hp.1 with y | y <;> omega
      exact ⟨Or.inr hbn, fun b' h1 h2 => by rw [ho _ _ _ (by omega)]; exact hp.2 b' h1 h2⟩
    · rw [vo 18 _ z]
      refine ⟨hp.1, fun b' h1 h2 => ?_⟩
      rw [ho _ _ _ (by omega)]
      exact hp.2 b' h1 h2
  have hd : ∀ m m' : Nat, M' 11 m = M 11 m := fun m _ => by rw [e11]
  have P1 : px_1 H' C := by
    intro a' k b hne
    by_cases z : a' = a ∧ k = 9 * M 5 n + M 11 n ∧ b = M 12 n
    · obtain ⟨z1, z2, z3⟩ := z
      subst z1; subst z2; subst z3
      exact ⟨by rw [hn', q5], q3⟩
    · rw [ho _ _ _ z] at hne ⊢
      exact p1 a' k b hne
  have P2 : px_2 M' H' := by
    intro a' c s ha' hc hs1 hs8 h9'
    rw [e9] at h9'
    obtain ⟨u1, u2, u3⟩ := p2 a' c s ha' hc hs1 hs8 h9'
    by_cases z : 45 * a' + 9 * c + s = i
    · have za : a' = a := by omega
      have zc : c = M 5 n := by omega
      have zs : s = M 11 n := by omega
      subst za; subst zc; subst zs
      rw [z] at u1 u2 u3 ⊢
      rw [v18, v19, v20]
      refine ⟨fun b hb => ?_, Nat.le_refl _, fun _ => hn'⟩
      by_cases y : b = M 12 n
      · omega
      · rw [ho _ _ _ (by omega)] at hb
        have := u1 b hb
        omega
    · rw [vo 18 _ z, vo 19 _ z, vo 20 _ z]
      refine ⟨fun b hb => u1 b ?_, u2, fun h => hs _ _ _ _ (u3 h) (by omega)⟩
      rw [ho _ _ _ (by omega)] at hb
      exact hb
  have P3 : px_3 M' E H' C := by
    intro c s b hc hs1 hs8 hC
    obtain ⟨Q, bm, h1, h2, h5, h6⟩ := p3 c s b hc hs1 hs8 hC
    exact ⟨Q, bm, by rw [px_mb_C hx p4 hs1 hs8 hC]; exact h1, h2, h5, fun a ha hq => hpr a c s b bm ha hc hs1 hs8 (h6 a ha hq)⟩
  have P4 : px_4 M' E C := px_4_ext hx (fun n => by rw [e8]; exact Nat.le_refl _) p4
  have P6 : px_6 M' E H' C := by
    intro c s hc hs1 hs8 hd
    rw [e3] at hd ⊢
    obtain ⟨b, Q, h1, h2, h5⟩ := p6 c s hc hs1 hs8 hd
    exact ⟨b, Q, h1, by rw [px_mb_C hx p4 hs1 hs8 (by rw [h1]; exact hd)]; exact h2, fun a ha hq => hs _ _ _ _ (h5 a ha hq) hd⟩
  have key := px_at (M := M') (E := E) (H := H') (C' := C) (n := n) (p := M 13 n) (v := vt) (bb := M 15 n) (bc := M 16 n) (cm := v + 1) (fun k => by rw [e3, e0]; exact hr k) hn (by rw [e11]; exact h11) P1 P2 P3 P4 ?_ P6 ?_
  · exact key
  · intro j hj hjn h11j
    rw [e11] at h11j
    obtain ⟨u1, u2, u3, u4, u5, u6, u7⟩ := p5 j hj h11j
    rw [e12, e8, e5, e11, e17, e14, e15, e16, e13]
    have hc4j : M 17 j = 0 → ∀ a', a' < 6 → (M 13 j).testBit a' = true → px_pr M' H' a' (M 5 j) (M 11 j) (M 12 j) (M 15 j) := by
      intro z a' ha' hb
      have hp := (u7 z).2.2 a' ha' hb
      unfold px_pr at hp ⊢
      rw [e9]
      by_cases y : 45 * a' + 9 * M 5 j + M 11 j = i
      · rw [y, v18]
        rw [y] at hp
        have hb' : M 12 j ≤ M 12 n ∨ M 5 j < M 9 a' := by
          rcases hp.1 with x | x
          · exact Or.inr x
          · exact Or.inl (by omega)
        refine ⟨hb'.elim Or.inr Or.inl, fun b' h1 h2 => ?_⟩
        by_cases t : a' = a ∧ 9 * M 5 j + M 11 j = 9 * M 5 n + M 11 n ∧ b' = M 12 n
        · exfalso
          rcases hb' with x | x
          · omega
          · obtain ⟨t1, t2, -⟩ := t
            subst t1
            have := h118' j hj
            omega
        · rw [ho _ _ _ t]; exact hp.2 b' h1 h2
      · rw [vo 18 _ y]
        refine ⟨hp.1, fun b' h1 h2 => ?_⟩
        rw [ho _ _ _ (by omega)]
        exact hp.2 b' h1 h2
    exact ⟨u1, u2, u3, u4, u5, fun a' ha' hb => ⟨(u6 a' ha' hb).1, hs _ _ _ _ (u6 a' ha' hb).2 (u6 a' ha' hb).1⟩, fun z => ⟨(u7 z).1, (u7 z).2.1, hc4j z⟩⟩
  · rw [e12, e8, e5, e11]
    refine ⟨q1, q2, q3, q4, q5, fun a' ha' hb => ⟨by omega, ?_⟩, fun z => absurd z (by omega)⟩
    rcases hvt with rfl | rfl
    · exact hs _ _ _ _ (q6 a' ha' hb).2 (by omega)
    · rcases px_bit_or.mp hb with hb | rfl
      · exact hs _ _ _ _ (q6 a' ha' hb).2 (by omega)
      · exact hn'
