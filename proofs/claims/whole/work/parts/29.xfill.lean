theorem p_fill_L (K : Int32 → Int32 → Int32 → (Nat → Int32) → Prop) (x : Int32) (z : Nat → Int32) (h : K x 9 9 (fun j => if j < 9 then x else z j)) : ∀ d k : Nat, k + d = 9 → wp_Ja_fill_L5 K (d + 1) x (nI k) 9 (fun j => if j < k then x else z j)
  | 0, k, e => by
    have e9 : k = 9 := by omega
    subst e9
    unfold wp_Ja_fill_L5
    exact ⟨fun _ => h, fun hn => absurd (show (9 : Int32) ≤ nI 9 by decide) hn⟩
  | d + 1, k, e => by
    have hk : k < 9 := by omega
    unfold wp_Ja_fill_L5
    refine ⟨fun h9 => absurd h9 (nI_ge (a := k) (b := 9) hk (by decide)), fun _ => ⟨vp_in_nI hk (by decide), fun v hv => ?_⟩⟩
    have hv2 : v = nI (k + 1) := by rw [hv]; exact (nI_succ k).symm
    subst hv2
    have hf : upd (fun j => if j < k then x else z j) (nI k).toNatClampNeg x = (fun j => if j < k + 1 then x else z j) := by
      funext j
      rw [nI_clamp (by omega)]
      unfold upd
      by_cases h1 : j = k
      · subst h1; simp
      · simp only [h1, if_false]
        by_cases h2 : j < k
        · rw [if_pos h2, if_pos (by omega)]
        · rw [if_neg h2, if_neg (by omega)]
    rw [hf]
    exact p_fill_L K x z h d (k + 1) (by omega)
theorem p_fill' (z : Nat → Int32) (x : Int32) (post : (Nat → Int32) → Prop) (h : post (fun j => if j < 9 then x else z j)) : wp_Ja_fill z x post :=
  ⟨10, by
    have := p_fill_L (fun _ _ _ z => post z) x z h 9 0 rfl
    have e : (fun j => if j < 0 then x else z j) = z := by funext j; simp
    rw [e, nI_0] at this
    exact this⟩
theorem p_fill (z : Nat → Int32) (x : Int32) : wp_Ja_fill z x (fun u => u = fun j => if j < 9 then x else z j) := p_fill' z x _ rfl
