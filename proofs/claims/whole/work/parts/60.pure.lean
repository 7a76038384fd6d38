/-! the state as numbers. Registers of M: 0 (0 requests, 1 router, 2 up's bits); by request: 1 kind, 2 key; by cell 9c+s: 3 decided (0 none, else command + 1);
by node: 5 configuration, 6 executed, 7 known's bits, 8 last, 9 retired, 10 pending, 11 slot, 12 ballot, 13 promisers, 14 voters, 15 best ballot, 16 best command, 17 command + 1 (0 none);
by 45 node + cell: 18 promised, 19 vote's ballot, 20 vote's command. E by request: 0 number, 1 heard, 2 reply. -/
abbrev PM : Type := Nat → Nat → Nat
abbrev PE : Type := Nat → Nat → Int32
abbrev RR : Type := Nat × Nat × Nat × (Nat → Int32) × Int32 × (Nat → Int32)
def ps_set (M : PM) (r i v : Nat) : PM := fun r' i' => if r' = r ∧ i' = i then v else M r' i'
theorem ps_eq (M : PM) (r i v : Nat) : ps_set M r i v r i = v := by simp [ps_set]
theorem ps_ner (M : PM) {r i v r' i' : Nat} (h : r' ≠ r) : ps_set M r i v r' i' = M r' i' := by simp [ps_set, h]
theorem ps_nei (M : PM) {r i v r' i' : Nat} (h : i' ≠ i) : ps_set M r i v r' i' = M r' i' := by simp [ps_set, h]
def dn_b (D : Int32) (q : Nat) : Bool := D.toBitVec.getLsbD q
def dn_s (D : Int32) (q : Nat) : Int32 := D ||| ((1 : Int32) <<< (nI q &&& 31))
/-- a state: configuration, executed, members, values, done's bits, answers -/
def rr0 : RR := (0, 0, 7, fun _ => 0, 0, fun _ => 0)
/-- one command executed (0: none) -/
def rr_step (M : PM) (E : PE) (r : RR) (q : Nat) : RR :=
  if q = 0 ∨ dn_b r.2.2.2.2.1 q = true then (r.1, r.2.1 + 1, r.2.2)
  else if M 1 q = 3 then
    if r.1 = 4 then (4, r.2.1 + 1, r.2.2.1, r.2.2.2.1, dn_s r.2.2.2.2.1 q, upd r.2.2.2.2.2 q (-1))
    else (r.1 + 1, 0, (E 0 q).toNatClampNeg, r.2.2.2.1, dn_s r.2.2.2.2.1 q, upd r.2.2.2.2.2 q (nI (r.1 + 1)))
  else if M 1 q = 0 then (r.1, r.2.1 + 1, r.2.2.1, r.2.2.2.1, dn_s r.2.2.2.2.1 q, upd r.2.2.2.2.2 q (r.2.2.2.1 (M 2 q)))
  else if M 1 q = 1 then (r.1, r.2.1 + 1, r.2.2.1, upd r.2.2.2.1 (M 2 q) (E 0 q), dn_s r.2.2.2.2.1 q, upd r.2.2.2.2.2 q (r.2.2.2.1 (M 2 q)))
  else (r.1, r.2.1 + 1, r.2.2.1, upd r.2.2.2.1 (M 2 q) (r.2.2.2.1 (M 2 q) + E 0 q), dn_s r.2.2.2.2.1 q, upd r.2.2.2.2.2 q (r.2.2.2.1 (M 2 q) + E 0 q))
def rr_cmd (M : PM) (r : RR) : Nat := M 3 (9 * r.1 + r.2.1 + 1)
def rr_pth (M : PM) (E : PE) : Nat → RR
  | 0 => rr0
  | k + 1 => rr_step M E (rr_pth M E k) (rr_cmd M (rr_pth M E k) - 1)
def rr_ok (M : PM) (E : PE) (k : Nat) : Prop := ∀ j, j < k → rr_cmd M (rr_pth M E j) ≠ 0 ∧ (rr_pth M E j).2.1 < 8
/-- the replay up to (c, e) -/
def rr_rp (M : PM) (E : PE) (c e : Nat) : Nat → RR → RR
  | 0, r => r
  | f + 1, r => if r.1 < c ∨ r.2.1 < e then rr_rp M E c e f (rr_step M E r (rr_cmd M r - 1)) else r
def rr_at (M : PM) (E : PE) (c e : Nat) : RR := rr_rp M E c e 41 rr0
/-- what a node has executed -/
def rr_nd (M : PM) (E : PE) (n : Nat) : RR := rr_at M E (M 5 n) (M 6 n)
theorem rr_step_pos (M : PM) (E : PE) (r : RR) (q : Nat) (hc : r.1 ≤ 4) : ((rr_step M E r q).1 = r.1 ∧ (rr_step M E r q).2.1 = r.2.1 + 1 ∧ (rr_step M E r q).2.2.1 = r.2.2.1) ∨ ((rr_step M E r q).1 = r.1 + 1 ∧ (rr_step M E r q).2.1 = 0 ∧ r.1 < 4) := by
  unfold rr_step
  split
  · exact Or.inl ⟨rfl, rfl, rfl⟩
  · split
    · split
      · rename_i h; exact Or.inl ⟨h.symm, rfl, rfl⟩
      · rename_i h; exact Or.inr ⟨rfl, rfl, by omega⟩
    · split
      · exact Or.inl ⟨rfl, rfl, rfl⟩
      · split
        · exact Or.inl ⟨rfl, rfl, rfl⟩
        · exact Or.inl ⟨rfl, rfl, rfl⟩
/-- along the path: places grow -/
theorem rr_pth_bd {M : PM} {E : PE} : ∀ {k : Nat}, rr_ok M E k → (rr_pth M E k).1 ≤ 4 ∧ (rr_pth M E k).2.1 ≤ 8 ∧ k ≤ 8 * (rr_pth M E k).1 + (rr_pth M E k).2.1
  | 0, _ => ⟨by simp [rr_pth, rr0], by simp [rr_pth, rr0], by simp⟩
  | k + 1, h => by
    obtain ⟨h1, h2, h3⟩ := rr_pth_bd (k := k) (fun j hj => h j (by omega))
    have h4 := h k (by omega)
    have h5 : rr_pth M E (k + 1) = rr_step M E (rr_pth M E k) (rr_cmd M (rr_pth M E k) - 1) := rfl
    rw [h5]
    rcases rr_step_pos M E (rr_pth M E k) (rr_cmd M (rr_pth M E k) - 1) h1 with ⟨a, b, -⟩ | ⟨a, b, d⟩
    · rw [a, b]; omega
    · rw [a, b]; omega
theorem rr_ok_le {M : PM} {E : PE} {j k : Nat} (h : rr_ok M E k) (hj : j ≤ k) : rr_ok M E j := fun i hi => h i (by omega)
theorem rr_mono1 {M : PM} {E : PE} {k : Nat} (h : rr_ok M E (k + 1)) : ((rr_pth M E (k + 1)).1 = (rr_pth M E k).1 ∧ (rr_pth M E (k + 1)).2.1 = (rr_pth M E k).2.1 + 1 ∧ (rr_pth M E (k + 1)).2.2.1 = (rr_pth M E k).2.2.1) ∨ ((rr_pth M E (k + 1)).1 = (rr_pth M E k).1 + 1 ∧ (rr_pth M E (k + 1)).2.1 = 0) := by
  rcases rr_step_pos M E (rr_pth M E k) (rr_cmd M (rr_pth M E k) - 1) (rr_pth_bd (rr_ok_le h (by omega))).1 with h1 | h1
  · exact Or.inl h1
  · exact Or.inr ⟨h1.1, h1.2.1⟩
/-- a later place is greater -/
theorem rr_mono {M : PM} {E : PE} {j : Nat} : ∀ {k : Nat}, rr_ok M E k → j < k → (rr_pth M E j).1 < (rr_pth M E k).1 ∨ ((rr_pth M E j).1 = (rr_pth M E k).1 ∧ (rr_pth M E j).2.1 < (rr_pth M E k).2.1 ∧ (rr_pth M E j).2.2.1 = (rr_pth M E k).2.2.1)
  | 0, _, hj => absurd hj (by omega)
  | k + 1, h, hj => by
    by_cases e : j = k
    · subst e
      rcases rr_mono1 h with ⟨a, b, c⟩ | ⟨a, b⟩
      · exact Or.inr ⟨a.symm, by omega, c.symm⟩
      · exact Or.inl (by omega)
    · have h1 := rr_mono (k := k) (j := j) (rr_ok_le h (by omega)) (by omega)
      rcases rr_mono1 h with ⟨a, b, c⟩ | ⟨a, b⟩
      · rcases h1 with h1 | ⟨h1, h2, h3⟩
        · exact Or.inl (by omega)
        · exact Or.inr ⟨by omega, by omega, by rw [c]; exact h3⟩
      · rcases h1 with h1 | ⟨h1, -, -⟩
        · exact Or.inl (by omega)
        · exact Or.inl (by omega)
theorem rr_rp_pth {M : PM} {E : PE} {k : Nat} (h : rr_ok M E k) : ∀ (f j : Nat), j ≤ k → k - j < f → rr_rp M E (rr_pth M E k).1 (rr_pth M E k).2.1 f (rr_pth M E j) = rr_pth M E k
  | 0, j, _, hf => absurd hf (by omega)
  | f + 1, j, hj, hf => by
    unfold rr_rp
    by_cases e : j = k
    · subst e
      rw [if_neg (by omega)]
    · rw [if_pos]
      · exact rr_rp_pth h f (j + 1) (by omega) (by omega)
      · rcases rr_mono h (show j < k by omega) with h1 | ⟨h1, h2, -⟩
        · exact Or.inl h1
        · exact Or.inr h2
/-- a place of the path is what the replay gives -/
theorem rr_at_pth {M : PM} {E : PE} {k : Nat} (h : rr_ok M E k) : rr_at M E (rr_pth M E k).1 (rr_pth M E k).2.1 = rr_pth M E k := by
  have hb := rr_pth_bd h
  exact rr_rp_pth h 41 0 (by omega) (by omega)
/-- two places with the same numbers are one -/
theorem rr_inj {M : PM} {E : PE} {j k : Nat} (hj : rr_ok M E j) (hk : rr_ok M E k) (h1 : (rr_pth M E j).1 = (rr_pth M E k).1) (h2 : (rr_pth M E j).2.1 = (rr_pth M E k).2.1) : j = k := by
  rcases Nat.lt_trichotomy j k with h | h | h
  · rcases rr_mono hk h with a | ⟨a, b, -⟩ <;> omega
  · exact h
  · rcases rr_mono hj h with a | ⟨a, b, -⟩ <;> omega
/-- the path of another state that agrees on what the path used -/
theorem rr_pth_congr {M M' : PM} {E E' : PE} : ∀ {k : Nat}, rr_ok M E k → (∀ j, j < k → rr_cmd M' (rr_pth M E j) = rr_cmd M (rr_pth M E j)) → (∀ j, j < k → M' 1 (rr_cmd M (rr_pth M E j) - 1) = M 1 (rr_cmd M (rr_pth M E j) - 1) ∧ M' 2 (rr_cmd M (rr_pth M E j) - 1) = M 2 (rr_cmd M (rr_pth M E j) - 1) ∧ E' 0 (rr_cmd M (rr_pth M E j) - 1) = E 0 (rr_cmd M (rr_pth M E j) - 1)) → rr_pth M' E' k = rr_pth M E k
  | 0, _, _, _ => rfl
  | k + 1, h, h1, h2 => by
    have ih := rr_pth_congr (k := k) (M' := M') (E' := E') (rr_ok_le h (by omega)) (fun j hj => h1 j (by omega)) (fun j hj => h2 j (by omega))
    show rr_step M' E' (rr_pth M' E' k) (rr_cmd M' (rr_pth M' E' k) - 1) = rr_step M E (rr_pth M E k) (rr_cmd M (rr_pth M E k) - 1)
    rw [ih, h1 k (by omega)]
    obtain ⟨a, b, c⟩ := h2 k (by omega)
    simp only [rr_step, a, b, c]
