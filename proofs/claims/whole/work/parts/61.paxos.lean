/-! majorities, and that two of them meet -/
def pc_b (x a : Nat) : Nat := if x.testBit a = true then 1 else 0
def pc_6 (x : Nat) : Nat := pc_b x 0 + pc_b x 1 + pc_b x 2 + pc_b x 3 + pc_b x 4 + pc_b x 5
def px_maj (m Q : Nat) : Prop := pc_6 m < 2 * pc_6 (Q &&& m)
theorem pc_b_and (x y a : Nat) : pc_b (x &&& y) a = if x.testBit a = true ∧ y.testBit a = true then 1 else 0 := by
  unfold pc_b
  rw [Nat.testBit_and]
  cases x.testBit a <;> cases y.testBit a <;> rfl
theorem pc_meet1 (m x y a : Nat) (h : ¬ (x.testBit a = true ∧ y.testBit a = true)) : pc_b (x &&& m) a + pc_b (y &&& m) a ≤ pc_b m a := by
  rw [pc_b_and, pc_b_and]
  unfold pc_b
  revert h
  cases x.testBit a <;> cases y.testBit a <;> cases m.testBit a <;> simp
theorem px_meet {m x y : Nat} (hx : px_maj m x) (hy : px_maj m y) : ∃ a, a < 6 ∧ x.testBit a = true ∧ y.testBit a = true := by
  apply Classical.byContradiction
  intro hn
  have h : ∀ a, a < 6 → ¬ (x.testBit a = true ∧ y.testBit a = true) := fun a ha hh => hn ⟨a, ha, hh.1, hh.2⟩
  have h0 := pc_meet1 m x y 0 (h 0 (by omega))
  have h1 := pc_meet1 m x y 1 (h 1 (by omega))
  have h2 := pc_meet1 m x y 2 (h 2 (by omega))
  have h3 := pc_meet1 m x y 3 (h 3 (by omega))
  have h4 := pc_meet1 m x y 4 (h 4 (by omega))
  have h5 := pc_meet1 m x y 5 (h 5 (by omega))
  unfold px_maj pc_6 at hx hy
  omega
/-- the members of configuration c -/
def px_mb (M : PM) (E : PE) (c : Nat) : Nat := (rr_at M E c 0).2.2.1
/-- the votes ever cast (node, cell, ballot: command + 1), the commands ever fixed (cell, ballot: command + 1) -/
abbrev PH : Type := Nat → Nat → Nat → Nat
abbrev PC : Type := Nat → Nat → Nat
/-- a vote is for the command that was fixed at its ballot -/
def px_1 (H : PH) (C : PC) : Prop := ∀ a k b, H a k b ≠ 0 → C k b = H a k b ∧ 0 < b
/-- what a node that has not retired past c holds of cell (c, s) is its last vote; its votes are not above its promise -/
def px_2 (M : PM) (H : PH) : Prop := ∀ a c s, a < 6 → c ≤ 4 → 1 ≤ s → s ≤ 8 → M 9 a ≤ c → (∀ b, H a (9 * c + s) b ≠ 0 → b ≤ M 19 (45 * a + 9 * c + s)) ∧ M 19 (45 * a + 9 * c + s) ≤ M 18 (45 * a + 9 * c + s) ∧ (M 19 (45 * a + 9 * c + s) ≠ 0 → H a (9 * c + s) (M 19 (45 * a + 9 * c + s)) = M 20 (45 * a + 9 * c + s) + 1)
/-- a promise for ballot b: none of the node's votes lies between bm and b, and none will -/
def px_pr (M : PM) (H : PH) (a c s b bm : Nat) : Prop := (c < M 9 a ∨ b ≤ M 18 (45 * a + 9 * c + s)) ∧ ∀ b', bm < b' → b' < b → H a (9 * c + s) b' = 0
/-- a fixed command is safe -/
def px_3 (M : PM) (E : PE) (H : PH) (C : PC) : Prop := ∀ c s b, c ≤ 4 → 1 ≤ s → s ≤ 8 → C (9 * c + s) b ≠ 0 → ∃ Q bm, px_maj (px_mb M E c) Q ∧ bm < b ∧ (bm = 0 ∨ C (9 * c + s) bm = C (9 * c + s) b) ∧ ∀ a, a < 6 → Q.testBit a = true → px_pr M H a c s b bm
/-- a ballot that has a fixed command is not above its owner's last; its command is a request or none; its cell's configuration has been reached -/
def px_4 (M : PM) (E : PE) (C : PC) : Prop := ∀ k b, C k b ≠ 0 → b ≤ M 8 (b % 6) ∧ C k b ≤ M 0 0 + 1 ∧ ∃ c s j, k = 9 * c + s ∧ c ≤ 4 ∧ 1 ≤ s ∧ s ≤ 8 ∧ rr_ok M E j ∧ (rr_pth M E j).1 = c
/-- an attempt -/
def px_5 (M : PM) (H : PH) (C : PC) : Prop := ∀ n, n < 6 → M 11 n ≠ 0 → M 12 n % 6 = n ∧ M 12 n ≤ M 8 n ∧ 0 < M 12 n ∧ (∀ k, k ≠ 9 * M 5 n + M 11 n → C k (M 12 n) = 0) ∧ C (9 * M 5 n + M 11 n) (M 12 n) = M 17 n ∧
  (∀ a, a < 6 → (M 14 n).testBit a = true → M 17 n ≠ 0 ∧ H a (9 * M 5 n + M 11 n) (M 12 n) = M 17 n) ∧
  (M 17 n = 0 → (M 15 n = 0 ∨ C (9 * M 5 n + M 11 n) (M 15 n) = M 16 n + 1) ∧ M 15 n < M 12 n ∧ ∀ a, a < 6 → (M 13 n).testBit a = true → px_pr M H a (M 5 n) (M 11 n) (M 12 n) (M 15 n))
/-- a decided command was voted for by a majority, at one ballot -/
def px_6 (M : PM) (E : PE) (H : PH) (C : PC) : Prop := ∀ c s, c ≤ 4 → 1 ≤ s → s ≤ 8 → M 3 (9 * c + s) ≠ 0 → ∃ b Q, C (9 * c + s) b = M 3 (9 * c + s) ∧ px_maj (px_mb M E c) Q ∧ ∀ a, a < 6 → Q.testBit a = true → H a (9 * c + s) b = M 3 (9 * c + s)
def px_I (M : PM) (E : PE) : Prop := ∃ (H : PH) (C : PC), px_1 H C ∧ px_2 M H ∧ px_3 M E H C ∧ px_4 M E C ∧ px_5 M H C ∧ px_6 M E H C
/-- two ballots' majorities: one command -/
theorem px_agree {M : PM} {E : PE} {H : PH} {C : PC} (h1 : px_1 H C) (h3 : px_3 M E H C) {c s b : Nat} (hc : c ≤ 4) (hs : 1 ≤ s) (hs8 : s ≤ 8) {Q : Nat} {v : Nat} (hv : v ≠ 0) (hQ : px_maj (px_mb M E c) Q) (hH : ∀ a, a < 6 → Q.testBit a = true → H a (9 * c + s) b = v) :
    ∀ b', b ≤ b' → C (9 * c + s) b' ≠ 0 → C (9 * c + s) b' = v := by
  intro b'
  induction b' using Nat.strongRecOn with
  | ind b' ih =>
    intro hle hC
    obtain ⟨Q', bm, hQ', hbm, hor, hpr⟩ := h3 c s b' hc hs hs8 hC
    obtain ⟨a, ha, ha1, ha2⟩ := px_meet hQ hQ'
    have hva := hH a ha ha1
    have hcv := (h1 a (9 * c + s) b (by rw [hva]; exact hv)).1
    by_cases e : b = b'
    · subst e; rw [hcv, hva]
    · have hpa := (hpr a ha ha2).2 b
      have hb : b ≤ bm := by
        apply Classical.byContradiction
        intro hn
        have := hpa (by omega) (by omega)
        omega
      have hb0 : 0 < b := (h1 a (9 * c + s) b (by rw [hva]; exact hv)).2
      rcases hor with h | h
      · omega
      · rw [← h]
        exact ih bm hbm hb (by rw [h]; exact hC)
/-- so two commands, each voted for by a majority, are one -/
theorem px_one {M : PM} {E : PE} {H : PH} {C : PC} (h1 : px_1 H C) (h3 : px_3 M E H C) {c s b b' : Nat} (hc : c ≤ 4) (hs : 1 ≤ s) (hs8 : s ≤ 8) {Q Q' v v' : Nat} (hv : v ≠ 0) (hv' : v' ≠ 0) (hQ : px_maj (px_mb M E c) Q) (hH : ∀ a, a < 6 → Q.testBit a = true → H a (9 * c + s) b = v) (hQ' : px_maj (px_mb M E c) Q') (hH' : ∀ a, a < 6 → Q'.testBit a = true → H a (9 * c + s) b' = v') : v = v' := by
  have hm : ∀ {Q b v : Nat}, v ≠ 0 → px_maj (px_mb M E c) Q → (∀ a, a < 6 → Q.testBit a = true → H a (9 * c + s) b = v) → C (9 * c + s) b = v := by
    intro Q b v hv hQ hH
    obtain ⟨a, ha, ha1, -⟩ := px_meet hQ hQ
    have := (h1 a (9 * c + s) b (by rw [hH a ha ha1]; exact hv)).1
    rw [this, hH a ha ha1]
  have e1 := hm hv hQ hH
  have e2 := hm hv' hQ' hH'
  rcases Nat.le_total b b' with h | h
  · rw [← px_agree h1 h3 hc hs hs8 hv hQ hH b' h (by rw [e2]; exact hv'), e2]
  · rw [← px_agree h1 h3 hc hs hs8 hv' hQ' hH' b h (by rw [e1]; exact hv), e1]
/-! a state that goes on from another: what was decided stays, the requests that were there stay -/
def px_ext (M : PM) (E : PE) (M' : PM) (E' : PE) : Prop := (∀ k, M 3 k ≠ 0 → M' 3 k = M 3 k) ∧ (∀ q, q ≤ M 0 0 → M' 1 q = M 1 q ∧ M' 2 q = M 2 q ∧ E' 0 q = E 0 q) ∧ (∀ k, M 3 k ≤ M 0 0 + 1) ∧ M 0 0 ≤ M' 0 0
theorem rr_ext {M M' : PM} {E E' : PE} (hx : px_ext M E M' E') {j : Nat} (h : rr_ok M E j) : rr_pth M' E' j = rr_pth M E j ∧ rr_ok M' E' j := by
  have key : ∀ i, i ≤ j → rr_pth M' E' i = rr_pth M E i := fun i hi => rr_pth_congr (rr_ok_le h hi) (fun j' hj' => hx.1 _ (h j' (by omega)).1) (fun j' hj' => hx.2.1 _ (by have := hx.2.2.1 (9 * (rr_pth M E j').1 + (rr_pth M E j').2.1 + 1); unfold rr_cmd; omega))
  refine ⟨key j (Nat.le_refl _), fun i hi => ?_⟩
  rw [key i (by omega)]
  refine ⟨?_, (h i hi).2⟩
  have := hx.1 _ (h i hi).1
  unfold rr_cmd at this ⊢
  rw [this]
  exact (h i hi).1
theorem px_first {M : PM} {E : PE} : ∀ {j : Nat}, rr_ok M E j → ∃ i, i ≤ j ∧ (rr_pth M E i).1 = (rr_pth M E j).1 ∧ (rr_pth M E i).2.1 = 0 ∧ (rr_pth M E i).2.2.1 = (rr_pth M E j).2.2.1
  | 0, _ => ⟨0, Nat.le_refl _, rfl, rfl, rfl⟩
  | j + 1, h => by
    obtain ⟨i, h1, h2, h3, h4⟩ := px_first (j := j) (rr_ok_le h (by omega))
    rcases rr_mono1 h with ⟨a, b, c⟩ | ⟨a, b⟩
    · exact ⟨i, by omega, by omega, h3, by omega⟩
    · exact ⟨j + 1, Nat.le_refl _, rfl, b, rfl⟩
theorem px_mb_pth {M : PM} {E : PE} {j : Nat} (h : rr_ok M E j) : px_mb M E (rr_pth M E j).1 = (rr_pth M E j).2.2.1 := by
  obtain ⟨i, h1, h2, h3, h4⟩ := px_first h
  have := rr_at_pth (rr_ok_le h h1)
  unfold px_mb
  rw [← h4, ← h2]
  rw [h3] at this
  rw [this]
theorem px_mb_ext {M M' : PM} {E E' : PE} (hx : px_ext M E M' E') {j : Nat} (h : rr_ok M E j) : px_mb M' E' (rr_pth M E j).1 = px_mb M E (rr_pth M E j).1 := by
  obtain ⟨h1, h2⟩ := rr_ext hx h
  have e := px_mb_pth h2
  rw [h1] at e
  rw [e, px_mb_pth h]
theorem px_mb_C {M M' : PM} {E E' : PE} {C : PC} (hx : px_ext M E M' E') (h4 : px_4 M E C) {c s b : Nat} (hs : 1 ≤ s) (hs8 : s ≤ 8) (hC : C (9 * c + s) b ≠ 0) : px_mb M' E' c = px_mb M E c := by
  obtain ⟨-, -, c', s', j, e, -, h1, h2, hj, hc⟩ := h4 _ _ hC
  have : c' = c := by omega
  subst this
  rw [← hc]
  exact px_mb_ext hx hj
theorem px_4_ext {M M' : PM} {E E' : PE} {C : PC} (hx : px_ext M E M' E') (h8 : ∀ n, M 8 n ≤ M' 8 n) (h4 : px_4 M E C) : px_4 M' E' C := by
  intro k b hC
  obtain ⟨h1, h2, c, s, j, e, hc, hs, hs8, hj, hp⟩ := h4 k b hC
  obtain ⟨e1, e2⟩ := rr_ext hx hj
  exact ⟨Nat.le_trans h1 (h8 _), Nat.le_trans h2 (by have := hx.2.2.2; omega), c, s, j, e, hc, hs, hs8, e2, by rw [e1]; exact hp⟩
theorem px_3_ext {M M' : PM} {E E' : PE} {H : PH} {C : PC} (hx : px_ext M E M' E') (h4 : px_4 M E C) (hp : ∀ a c s b bm, a < 6 → c ≤ 4 → 1 ≤ s → s ≤ 8 → px_pr M H a c s b bm → px_pr M' H a c s b bm) (h3 : px_3 M E H C) : px_3 M' E' H C := by
  intro c s b hc hs hs8 hC
  obtain ⟨Q, bm, h1, h2, h5, h6⟩ := h3 c s b hc hs hs8 hC
  exact ⟨Q, bm, by rw [px_mb_C hx h4 hs hs8 hC]; exact h1, h2, h5, fun a ha hq => hp a c s b bm ha hc hs hs8 (h6 a ha hq)⟩
theorem px_6_ext {M M' : PM} {E E' : PE} {H : PH} {C : PC} (hx : px_ext M E M' E') (h4 : px_4 M E C) (h3 : M' 3 = M 3) (h6 : px_6 M E H C) : px_6 M' E' H C := by
  intro c s hc hs hs8 hd
  rw [h3] at hd ⊢
  obtain ⟨b, Q, h1, h2, h5⟩ := h6 c s hc hs hs8 hd
  exact ⟨b, Q, h1, by rw [px_mb_C hx h4 hs hs8 (by rw [h1]; exact hd)]; exact h2, h5⟩
/-- nothing of the ledgers changes; attempts go on as they are or end; last may grow -/
theorem px_frame {M M' : PM} {E E' : PE} (hx : px_ext M E M' E') (h3 : M' 3 = M 3) (h8 : ∀ n, M 8 n ≤ M' 8 n) (h9 : M' 9 = M 9) (h18 : M' 18 = M 18) (h19 : M' 19 = M 19) (h20 : M' 20 = M 20)
    (hat : ∀ n, n < 6 → M' 11 n ≠ 0 → M' 11 n = M 11 n ∧ M' 5 n = M 5 n ∧ M' 12 n = M 12 n ∧ M' 13 n = M 13 n ∧ M' 14 n = M 14 n ∧ M' 15 n = M 15 n ∧ M' 16 n = M 16 n ∧ M' 17 n = M 17 n) (h : px_I M E) : px_I M' E' := by
  obtain ⟨H, C, p1, p2, p3, p4, p5, p6⟩ := h
  have hpr : ∀ a c s b bm, px_pr M H a c s b bm → px_pr M' H a c s b bm := fun a c s b bm h => by
    unfold px_pr at h ⊢
    rw [h9, h18]; exact h
  refine ⟨H, C, p1, ?_, px_3_ext hx p4 (fun a c s b bm _ _ _ _ => hpr a c s b bm) p3, px_4_ext hx h8 p4, ?_, px_6_ext hx p4 h3 p6⟩
  · unfold px_2; rw [h9, h18, h19, h20]; exact p2
  · intro n hn h11
    obtain ⟨e11, e5, e12, e13, e14, e15, e16, e17⟩ := hat n hn h11
    rw [e11] at h11
    obtain ⟨q1, q2, q3, q4, q5, q6, q7⟩ := p5 n hn h11
    rw [e11, e5, e12, e13, e14, e15, e16, e17]
    exact ⟨q1, Nat.le_trans q2 (h8 n), q3, q4, q5, q6, fun h => ⟨(q7 h).1, (q7 h).2.1, fun a ha hb => hpr _ _ _ _ _ ((q7 h).2.2 a ha hb)⟩⟩
/-! bits -/
theorem px_bit_or {x a i : Nat} : (x ||| 2 ^ a).testBit i = true ↔ (x.testBit i = true ∨ i = a) := by
  rw [Nat.testBit_or, Nat.testBit_two_pow, Bool.or_eq_true, decide_eq_true_eq]
  constructor
  · rintro (h | h)
    · exact Or.inl h
    · exact Or.inr h.symm
  · rintro (h | h)
    · exact Or.inl h
    · exact Or.inr h.symm
/-- an attempt begins -/
def ps_start (M : PM) (n s b : Nat) : PM := fun r i => if i = n then (if r = 8 ∨ r = 12 then b else if r = 11 then s else if r = 13 ∨ r = 14 ∨ r = 15 ∨ r = 16 ∨ r = 17 then 0 else M r i) else M r i
theorem px_start {M : PM} {E : PE} {n s b : Nat} (hn : n < 6) (hb : b % 6 = n) (hl : M 8 n < b) (hr : ∀ k, M 3 k ≤ M 0 0 + 1) (h : px_I M E) : px_I (ps_start M n s b) E := by
  obtain ⟨H, C, p1, p2, p3, p4, p5, p6⟩ := h
  have g : ∀ r i, r ≠ 8 → r ≠ 11 → r ≠ 12 → r ≠ 13 → r ≠ 14 → r ≠ 15 → r ≠ 16 → r ≠ 17 → ps_start M n s b r i = M r i := by
    intro r i h8 h11 h12 h13 h14 h15 h16 h17
    simp [ps_start, *]
  have hx : px_ext M E (ps_start M n s b) E := ⟨fun k _ => g 3 k (by decide) (by decide) (by decide) (by decide) (by decide) (by decide) (by decide) (by decide), fun q _ => ⟨g 1 q (by decide) (by decide) (by decide) (by decide) (by decide) (by decide) (by decide) (by decide), g 2 q (by decide) (by decide) (by decide) (by decide) (by decide) (by decide) (by decide) (by decide), rfl⟩, hr, by rw [g 0 0 (by decide) (by decide) (by decide) (by decide) (by decide) (by decide) (by decide) (by decide)]; exact Nat.le_refl _⟩
  have g3 : ps_start M n s b 3 = M 3 := funext fun i => g 3 i (by decide) (by decide) (by decide) (by decide) (by decide) (by decide) (by decide) (by decide)
  have g9 : ps_start M n s b 9 = M 9 := funext fun i => g 9 i (by decide) (by decide) (by decide) (by decide) (by decide) (by decide) (by decide) (by decide)
  have g18 : ps_start M n s b 18 = M 18 := funext fun i => g 18 i (by decide) (by decide) (by decide) (by decide) (by decide) (by decide) (by decide) (by decide)
  have g19 : ps_start M n s b 19 = M 19 := funext fun i => g 19 i (by decide) (by decide) (by decide) (by decide) (by decide) (by decide) (by decide) (by decide)
  have g20 : ps_start M n s b 20 = M 20 := funext fun i => g 20 i (by decide) (by decide) (by decide) (by decide) (by decide) (by decide) (by decide) (by decide)
  have g5 : ps_start M n s b 5 = M 5 := funext fun i => g 5 i (by decide) (by decide) (by decide) (by decide) (by decide) (by decide) (by decide) (by decide)
  have hpr : ∀ a c s' b' bm, px_pr M H a c s' b' bm → px_pr (ps_start M n s b) H a c s' b' bm := fun a c s' b' bm h => by
    unfold px_pr at h ⊢
    rw [g9, g18]; exact h
  have hC0 : ∀ k, C k b = 0 := fun k => by
    apply Classical.byContradiction
    intro hne
    have := (p4 k b hne).1
    rw [hb] at this
    omega
  have h8 : ∀ i, M 8 i ≤ ps_start M n s b 8 i := by
    intro i
    by_cases e : i = n
    · subst e; simp [ps_start]; omega
    · simp [ps_start, e]
  refine ⟨H, C, p1, ?_, px_3_ext hx p4 (fun a c s b bm _ _ _ _ => hpr a c s b bm) p3, px_4_ext hx h8 p4, ?_, px_6_ext hx p4 g3 p6⟩
  · unfold px_2; rw [g9, g18, g19, g20]; exact p2
  · intro i hi h11
    by_cases e : i = n
    · subst e
      have e5 := congrFun g5 i
      simp only [ps_start, if_true] at h11 ⊢
      refine ⟨by simpa using hb, by simp, by simp; omega, fun k _ => by simpa using hC0 k, by simpa using hC0 _, fun a _ h => by simp at h, fun _ => ⟨Or.inl (by simp), by simp; omega, fun a _ h => by simp at h⟩⟩
    · have e0 : ∀ r, ps_start M n s b r i = M r i := fun r => by simp [ps_start, e]
      rw [e0] at h11
      obtain ⟨q1, q2, q3, q4, q5, q6, q7⟩ := p5 i hi h11
      simp only [e0]
      exact ⟨q1, q2, q3, q4, q5, q6, fun h => ⟨(q7 h).1, (q7 h).2.1, fun a ha hb => hpr _ _ _ _ _ ((q7 h).2.2 a ha hb)⟩⟩
theorem ps_reg (M : PM) {r i v r' : Nat} (h : r' ≠ r) : ps_set M r i v r' = M r' := funext fun j => ps_ner M h
theorem px_ext_set {M : PM} {E : PE} {r i v : Nat} (h0 : r ≠ 0) (h1 : r ≠ 1) (h2 : r ≠ 2) (h3 : r ≠ 3) (hr : ∀ k, M 3 k ≤ M 0 0 + 1) : px_ext M E (ps_set M r i v) E :=
  ⟨fun k _ => ps_ner M (Ne.symm h3), fun q _ => ⟨ps_ner M (Ne.symm h1), ps_ner M (Ne.symm h2), rfl⟩, hr, by rw [ps_ner M (Ne.symm h0)]; exact Nat.le_refl _⟩
/-- a promise grows -/
theorem px_prom {M : PM} {E : PE} {i b : Nat} (hb : M 18 i ≤ b) (hr : ∀ k, M 3 k ≤ M 0 0 + 1) (h : px_I M E) : px_I (ps_set M 18 i b) E := by
  obtain ⟨H, C, p1, p2, p3, p4, p5, p6⟩ := h
  have hx : px_ext M E (ps_set M 18 i b) E := px_ext_set (by decide) (by decide) (by decide) (by decide) hr
  have h18 : ∀ j, M 18 j ≤ ps_set M 18 i b 18 j := fun j => by
    by_cases e : j = i
    · subst e; rw [ps_eq]; exact hb
    · rw [ps_nei M e]; exact Nat.le_refl _
  have hpr : ∀ a c s' b' bm, px_pr M H a c s' b' bm → px_pr (ps_set M 18 i b) H a c s' b' bm := fun a c s' b' bm h => by
    unfold px_pr at h ⊢
    rw [ps_reg M (by decide)]
    exact ⟨h.1.imp id (fun q => Nat.le_trans q (h18 _)), h.2⟩
  refine ⟨H, C, p1, ?_, px_3_ext hx p4 (fun a c s b bm _ _ _ _ => hpr a c s b bm) p3, px_4_ext hx (fun n => by rw [ps_reg M (by decide)]; exact Nat.le_refl _) p4, ?_, px_6_ext hx p4 (ps_reg M (by decide)) p6⟩
  · intro a c s ha hc hs hs8 h9
    rw [ps_reg M (by decide)] at h9
    obtain ⟨q1, q2, q3⟩ := p2 a c s ha hc hs hs8 h9
    rw [ps_reg M (show 19 ≠ 18 by decide), ps_reg M (show 20 ≠ 18 by decide)]
    exact ⟨q1, Nat.le_trans q2 (h18 _), q3⟩
  · intro n hn h11
    simp only [ps_reg M (show (11 : Nat) ≠ 18 by decide), ps_reg M (show (5 : Nat) ≠ 18 by decide), ps_reg M (show (12 : Nat) ≠ 18 by decide), ps_reg M (show (8 : Nat) ≠ 18 by decide), ps_reg M (show (13 : Nat) ≠ 18 by decide), ps_reg M (show (14 : Nat) ≠ 18 by decide), ps_reg M (show (15 : Nat) ≠ 18 by decide), ps_reg M (show (16 : Nat) ≠ 18 by decide), ps_reg M (show (17 : Nat) ≠ 18 by decide)] at h11 ⊢
    obtain ⟨q1, q2, q3, q4, q5, q6, q7⟩ := p5 n hn h11
    exact ⟨q1, q2, q3, q4, q5, q6, fun h => ⟨(q7 h).1, (q7 h).2.1, fun a ha hb => hpr _ _ _ _ _ ((q7 h).2.2 a ha hb)⟩⟩
/-- an attempt's own numbers change: what the frame needs -/
def ps_at (M : PM) (n p v bb bc cm : Nat) : PM := fun r i => if i = n then (if r = 13 then p else if r = 14 then v else if r = 15 then bb else if r = 16 then bc else if r = 17 then cm else M r i) else M r i
theorem ps_at_r (M : PM) {n p v bb bc cm r : Nat} (h13 : r ≠ 13) (h14 : r ≠ 14) (h15 : r ≠ 15) (h16 : r ≠ 16) (h17 : r ≠ 17) : ps_at M n p v bb bc cm r = M r := funext fun i => by simp [ps_at, *]
theorem ps_at_i (M : PM) {n p v bb bc cm r i : Nat} (h : i ≠ n) : ps_at M n p v bb bc cm r i = M r i := by simp [ps_at, h]
theorem px_ext_at {M : PM} {E : PE} {n p v bb bc cm : Nat} (hr : ∀ k, M 3 k ≤ M 0 0 + 1) : px_ext M E (ps_at M n p v bb bc cm) E :=
  ⟨fun k _ => congrFun (ps_at_r M (by decide) (by decide) (by decide) (by decide) (by decide)) k, fun q _ => ⟨congrFun (ps_at_r M (by decide) (by decide) (by decide) (by decide) (by decide)) q, congrFun (ps_at_r M (by decide) (by decide) (by decide) (by decide) (by decide)) q, rfl⟩, hr, by rw [ps_at_r M (by decide) (by decide) (by decide) (by decide) (by decide)]; exact Nat.le_refl _⟩
theorem px_at {M : PM} {E : PE} {H : PH} {C' : PC} {n p v bb bc cm : Nat} (hr : ∀ k, M 3 k ≤ M 0 0 + 1) (hn : n < 6) (h11 : M 11 n ≠ 0) (p1 : px_1 H C') (p2 : px_2 M H) (p3 : px_3 M E H C') (p4 : px_4 M E C')
    (p5 : ∀ i, i < 6 → i ≠ n → M 11 i ≠ 0 → M 12 i % 6 = i ∧ M 12 i ≤ M 8 i ∧ 0 < M 12 i ∧ (∀ k, k ≠ 9 * M 5 i + M 11 i → C' k (M 12 i) = 0) ∧ C' (9 * M 5 i + M 11 i) (M 12 i) = M 17 i ∧
      (∀ a, a < 6 → (M 14 i).testBit a = true → M 17 i ≠ 0 ∧ H a (9 * M 5 i + M 11 i) (M 12 i) = M 17 i) ∧
      (M 17 i = 0 → (M 15 i = 0 ∨ C' (9 * M 5 i + M 11 i) (M 15 i) = M 16 i + 1) ∧ M 15 i < M 12 i ∧ ∀ a, a < 6 → (M 13 i).testBit a = true → px_pr M H a (M 5 i) (M 11 i) (M 12 i) (M 15 i))) (p6 : px_6 M E H C')
    (q : M 12 n % 6 = n ∧ M 12 n ≤ M 8 n ∧ 0 < M 12 n ∧ (∀ k, k ≠ 9 * M 5 n + M 11 n → C' k (M 12 n) = 0) ∧ C' (9 * M 5 n + M 11 n) (M 12 n) = cm ∧
      (∀ a, a < 6 → v.testBit a = true → cm ≠ 0 ∧ H a (9 * M 5 n + M 11 n) (M 12 n) = cm) ∧
      (cm = 0 → (bb = 0 ∨ C' (9 * M 5 n + M 11 n) bb = bc + 1) ∧ bb < M 12 n ∧ ∀ a, a < 6 → p.testBit a = true → px_pr M H a (M 5 n) (M 11 n) (M 12 n) bb)) : px_I (ps_at M n p v bb bc cm) E := by
  have hx : px_ext M E (ps_at M n p v bb bc cm) E := px_ext_at hr
  have r9 : ps_at M n p v bb bc cm 9 = M 9 := ps_at_r M (by decide) (by decide) (by decide) (by decide) (by decide)
  have r18 : ps_at M n p v bb bc cm 18 = M 18 := ps_at_r M (by decide) (by decide) (by decide) (by decide) (by decide)
  have r19 : ps_at M n p v bb bc cm 19 = M 19 := ps_at_r M (by decide) (by decide) (by decide) (by decide) (by decide)
  have r20 : ps_at M n p v bb bc cm 20 = M 20 := ps_at_r M (by decide) (by decide) (by decide) (by decide) (by decide)
  have r5 : ps_at M n p v bb bc cm 5 = M 5 := ps_at_r M (by decide) (by decide) (by decide) (by decide) (by decide)
  have r8 : ps_at M n p v bb bc cm 8 = M 8 := ps_at_r M (by decide) (by decide) (by decide) (by decide) (by decide)
  have r11 : ps_at M n p v bb bc cm 11 = M 11 := ps_at_r M (by decide) (by decide) (by decide) (by decide) (by decide)
  have r12 : ps_at M n p v bb bc cm 12 = M 12 := ps_at_r M (by decide) (by decide) (by decide) (by decide) (by decide)
  have hpr : ∀ a c s' b' bm, px_pr M H a c s' b' bm → px_pr (ps_at M n p v bb bc cm) H a c s' b' bm := fun a c s' b' bm h => by
    unfold px_pr at h ⊢
    rw [r9, r18]; exact h
  refine ⟨H, C', p1, ?_, px_3_ext hx p4 (fun a c s b bm _ _ _ _ => hpr a c s b bm) p3, px_4_ext hx (fun n => by rw [r8]; exact Nat.le_refl _) p4, ?_, px_6_ext hx p4 (ps_at_r M (by decide) (by decide) (by decide) (by decide) (by decide)) p6⟩
  · unfold px_2; rw [r9, r18, r19, r20]; exact p2
  · intro i hi h11'
    rw [r11] at h11'
    rw [r11, r12, r5, r8]
    by_cases e : i = n
    · subst e
      have e13 : ps_at M i p v bb bc cm 13 i = p := by simp [ps_at]
      have e14 : ps_at M i p v bb bc cm 14 i = v := by simp [ps_at]
      have e15 : ps_at M i p v bb bc cm 15 i = bb := by simp [ps_at]
      have e16 : ps_at M i p v bb bc cm 16 i = bc := by simp [ps_at]
      have e17 : ps_at M i p v bb bc cm 17 i = cm := by simp [ps_at]
      rw [e13, e14, e15, e16, e17]
      obtain ⟨q1, q2, q3, q4, q5, q6, q7⟩ := q
      exact ⟨q1, q2, q3, q4, q5, q6, fun h => ⟨(q7 h).1, (q7 h).2.1, fun a ha hb => hpr _ _ _ _ _ ((q7 h).2.2 a ha hb)⟩⟩
    · obtain ⟨q1, q2, q3, q4, q5, q6, q7⟩ := p5 i hi e h11'
      simp only [ps_at_i M e]
      exact ⟨q1, q2, q3, q4, q5, q6, fun h => ⟨(q7 h).1, (q7 h).2.1, fun a ha hb => hpr _ _ _ _ _ ((q7 h).2.2 a ha hb)⟩⟩
/-- a promise is heard -/
theorem px_promise {M : PM} {E : PE} {n a i : Nat} (hr : ∀ k, M 3 k ≤ M 0 0 + 1) (hn : n < 6) (ha : a < 6) (hc4 : M 5 n ≤ 4) (h11 : M 11 n ≠ 0) (h118 : M 11 n ≤ 8) (hi : i = 45 * a + 9 * M 5 n + M 11 n) (h9 : M 9 a ≤ M 5 n) (h18 : M 18 i = M 12 n) (h : px_I M E) :
    px_I (ps_at M n (M 13 n ||| 2 ^ a) (M 14 n) (if M 15 n < M 19 i then M 19 i else M 15 n) (if M 15 n < M 19 i then M 20 i else M 16 n) (M 17 n)) E := by
  obtain ⟨H, C, p1, p2, p3, p4, p5, p6⟩ := h
  refine px_at (C' := C) hr hn h11 p1 p2 p3 p4 (fun i hi _ h => p5 i hi h) p6 ?_
  obtain ⟨q1, q2, q3, q4, q5, q6, q7⟩ := p5 n hn h11
  refine ⟨q1, q2, q3, q4, q5, q6, fun h17 => ?_⟩
  obtain ⟨w1, w2, w3⟩ := q7 h17
  obtain ⟨v1, v2, v3⟩ := p2 a (M 5 n) (M 11 n) ha hc4 (by omega) h118 h9
  rw [← hi] at v1 v2 v3
  have hlt : M 19 i < M 12 n ∨ M 19 i = 0 := by
    by_cases z : M 19 i = 0
    · exact Or.inr z
    · left
      have hv := v3 z
      have := (p1 a _ _ (by rw [hv]; omega)).1
      rcases Nat.lt_or_ge (M 19 i) (M 12 n) with h | h
      · exact h
      · have e : M 19 i = M 12 n := by omega
        rw [e, q5, h17, ← e, hv] at this
        omega
  refine ⟨?_, ?_, fun a' ha' hb => ?_⟩
  · by_cases z : M 15 n < M 19 i
    · rw [if_pos z, if_pos z]
      right
      have hv := v3 (by omega)
      rw [(p1 a _ _ (by rw [hv]; omega)).1, hv]
    · rw [if_neg z, if_neg z]; exact w1
  · by_cases z : M 15 n < M 19 i
    · rw [if_pos z]; omega
    · rw [if_neg z]; exact w2
  · rcases px_bit_or.mp hb with hb | rfl
    · obtain ⟨u1, u2⟩ := w3 a' ha' hb
      refine ⟨u1, fun b' h1 h2 => u2 b' ?_ h2⟩
      by_cases z : M 15 n < M 19 i
      · rw [if_pos z] at h1; omega
      · rw [if_neg z] at h1; exact h1
    · refine ⟨Or.inr (by rw [← hi, h18]; exact Nat.le_refl _), fun b' h1 h2 => ?_⟩
      apply Classical.byContradiction
      intro hne
      have := v1 b' hne
      by_cases z : M 15 n < M 19 i
      · rw [if_pos z] at h1; omega
      · rw [if_neg z] at h1; omega
