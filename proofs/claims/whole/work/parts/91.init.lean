/-! the beginning -/
def M0 : PM := fun r i => if r = 0 ∧ i = 2 then 63 else if r = 17 then 1 else 0
def E0 : PE := fun _ _ => 0
theorem M0_z {r i : Nat} (h : ¬ (r = 0 ∧ i = 2)) (h17 : r ≠ 17) : M0 r i = 0 := by
  unfold M0; rw [if_neg h, if_neg h17]
theorem M0_17 (i : Nat) : M0 17 i = 1 := by unfold M0; rw [if_neg (by omega), if_pos rfl]
theorem M0_2 : M0 0 2 = 63 := rfl
theorem px_0 : px_I M0 E0 := by
  refine ⟨fun _ _ _ => 0, fun _ _ => 0, ?_, ?_, ?_, ?_, ?_, ?_⟩
  · intro a k b h; exact absurd rfl h
  · intro a c s _ _ _ _ _
    rw [M0_z (by omega) (by omega), M0_z (by omega) (by omega)]
    exact ⟨fun b h => absurd rfl h, Nat.le_refl _, fun h => absurd rfl h⟩
  · intro c s b _ _ _ h; exact absurd rfl h
  · intro k b h; exact absurd rfl h
  · intro n _ h; exact absurd (M0_z (by omega) (by omega)) h
  · intro c s _ _ _ h; exact absurd (M0_z (by omega) (by omega)) h
theorem nv_0 : nv_I M0 E0 0 := by
  have z : ∀ r i, ¬ (r = 0 ∧ i = 2) → r ≠ 17 → M0 r i = 0 := fun r i h h' => M0_z h h'
  refine ⟨⟨?_, ?_, ?_, fun q h1 h2 => ?_⟩, fun k => ?_, fun n hn => ?_, ⟨fun n hn => ?_, fun i => ?_⟩, ⟨fun i _ => z 20 i (by omega) (by omega), fun i _ => z 19 i (by omega) (by omega)⟩, px_0⟩
  · rw [z 0 0 (by omega) (by omega)]; omega
  · rw [z 0 1 (by omega) (by omega)]; omega
  · rw [M0_2]; omega
  · rw [z 0 0 (by omega) (by omega)] at h2; omega
  · rw [z 3 k (by omega) (by omega)]; omega
  · unfold nv_n
    rw [z 9 n (by omega) (by omega), z 5 n (by omega) (by omega), z 10 n (by omega) (by omega), z 7 n (by omega) (by omega), z 11 n (by omega) (by omega), z 13 n (by omega) (by omega), z 14 n (by omega) (by omega), z 16 n (by omega) (by omega), M0_17, z 6 n (by omega) (by omega)]
    refine ⟨⟨0, fun j hj => absurd hj (by omega), rfl, rfl⟩, by omega, by omega, by omega, fun s hs => ?_, by omega, fun h => absurd rfl h, by omega, by omega, by omega, by omega⟩
    rw [Nat.zero_testBit] at hs
    exact absurd hs (by decide)
  · rw [z 8 n (by omega) (by omega), z 12 n (by omega) (by omega), z 15 n (by omega) (by omega)]; omega
  · rw [z 18 i (by omega) (by omega), z 19 i (by omega) (by omega), z 20 i (by omega) (by omega)]; omega
theorem bits_63 : ∀ n, n < 6 → (63 : Nat).testBit n = true := by decide
theorem nd_0 {n : Nat} (hn : n < 6) : nd0 (nI n) = nd_of M0 E0 n := by
  have z : ∀ r i, ¬ (r = 0 ∧ i = 2) → r ≠ 17 → M0 r i = 0 := fun r i h h' => M0_z h h'
  refine nd_mk (M := M0) (E := E0) (n := n) ?_ ?_ ?_ ?_ ?_ ?_ ?_ ?_
  · unfold up_of; rw [M0_2, if_pos (bits_63 n hn)]
  · have : rr_nd M0 E0 n = rr0 := by
      unfold rr_nd
      rw [z 5 n (by omega) (by omega), z 6 n (by omega) (by omega)]
      show rr_rp M0 E0 0 0 41 rr0 = rr0
      unfold rr_rp
      rw [if_neg (fun h => by rcases h with h | h <;> exact absurd h (Nat.not_lt_zero _))]
    rw [this]; rfl
  · unfold lg_of
    have e : ∀ r, r = 18 ∨ r = 19 ∨ r = 20 → (fun i => if i < 40 then nI (M0 r (45 * n + 9 * (i / 8) + i % 8 + 1)) else 0) = fun _ => (0 : Int32) := fun r hr => by
      funext i
      rw [z r _ (by omega) (by omega)]
      split <;> rfl
    rw [e 18 (by omega), e 19 (by omega), e 20 (by omega)]
    rfl
  · rw [z 8 n (by omega) (by omega)]; rfl
  · rw [z 9 n (by omega) (by omega)]; rfl
  · rw [kn_none (z 7 n (by omega) (by omega))]
  · rw [z 10 n (by omega) (by omega)]; rfl
  · unfold at_of; rw [if_pos (z 11 n (by omega) (by omega))]
theorem ch_0 : ch0 = ch_of M0 E0 := by
  have z : ∀ r, r ≠ 0 → r ≠ 17 → (fun i => nI (M0 r i)) = fun _ => (0 : Int32) := fun r h h' => funext fun i => by rw [M0_z (by omega) h']; rfl
  unfold ch_of bk_of
  rw [z 1 (by decide) (by decide), z 2 (by decide) (by decide)]
  rfl
theorem md_0 : (mmd_s_decided md0 (fun i => if i < 45 then -1 else 0)) = md_of M0 E0 (fun _ => 0) (fun _ => 0) (fun _ => 0) 0 0 0 := by
  have z : ∀ r, r ≠ 0 → r ≠ 17 → (fun i => nI (M0 r i)) = fun _ => (0 : Int32) := fun r h h' => funext fun i => by rw [M0_z (by omega) h']; rfl
  have e3 : (fun i => if i < 45 then nI (M0 3 i) - 1 else 0) = fun i => if i < 45 then (-1 : Int32) else 0 := funext fun i => by rw [M0_z (by omega) (by omega)]; rfl
  have e17 : (fun i => nI (M0 17 i) - 1) = fun _ => (0 : Int32) := funext fun i => by rw [M0_17]; rfl
  unfold md_of
  rw [z 1 (by decide) (by decide), z 2 (by decide) (by decide), e3, z 5 (by decide) (by decide), z 6 (by decide) (by decide), z 7 (by decide) (by decide), z 8 (by decide) (by decide), z 9 (by decide) (by decide), z 10 (by decide) (by decide), z 18 (by decide) (by decide), z 19 (by decide) (by decide), z 20 (by decide) (by decide), z 11 (by decide) (by decide), z 12 (by decide) (by decide), z 13 (by decide) (by decide), z 14 (by decide) (by decide), z 15 (by decide) (by decide), z 16 (by decide) (by decide), e17]
  rfl
theorem p_init {K : Int32 → MmdT → Prop} (h : ∀ y, K y (mmd_s_decided md0 (fun i => if i < 45 then -1 else 0))) : ∀ d k : Nat, k + d = 45 → wp_Md_init_L214 K (d + 1) (nI k) (mmd_s_decided md0 (fun i => if i < k then -1 else 0))
  | 0, k, e => by
    have : k = 45 := by omega
    subst this
    exact ⟨fun _ => h _, fun z => absurd (Int32.le_refl _) z⟩
  | d + 1, k, e => by
    refine ⟨fun z => absurd z (nI_ge (a := k) (b := 45) (by omega) (by decide)), fun _ => ⟨vp_in_nI (by omega) (by decide), fun w ew v ev => ?_⟩⟩
    rw [nI_1] at ev
    subst ev
    have ew' : w = mmd_s_decided md0 (fun i => if i < k + 1 then -1 else 0) := by
      rw [ew, nI_clamp (by omega)]
      have : upd (mmd_decided (mmd_s_decided md0 (fun i => if i < k then -1 else 0))) k (-1) = fun i => if i < k + 1 then (-1 : Int32) else 0 := by
        funext i
        show (if i = k then (-1 : Int32) else (if i < k then -1 else 0)) = _
        by_cases e1 : i = k
        · rw [if_pos e1, if_pos (by omega)]
        · rw [if_neg e1]
          by_cases e2 : i < k
          · rw [if_pos e2, if_pos (by omega)]
          · rw [if_neg e2, if_neg (by omega)]
      rw [this]
      rfl
    subst ew'
    exact p_init h d (k + 1) (by omega)
theorem st_init : ls_init RI := by
  refine ⟨46, ?_⟩
  have e : md0 = mmd_s_decided md0 (fun i => if i < 0 then -1 else 0) := rfl
  rw [e]
  refine p_init (fun y => ?_) 45 0 (by omega)
  rw [md_0]
  exact ⟨M0, E0, _, _, _, _, _, _, nv_0, ch_0, fun n hn => nd_0 hn, rfl⟩
