/-! ask -/
theorem p_isFull0 {z : MbkT} {post : Int32 → MbkT → Prop} (h : mbk_count z < 30) (h0 : post 0 z) : wp_Bk_isFull z post := ⟨fun _ => h0, fun a => absurd h a⟩
theorem p_isFull1 {z : MbkT} {post : Int32 → MbkT → Prop} (h : ¬ mbk_count z < 30) (h0 : post 1 z) : wp_Bk_isFull z post := ⟨fun a => absurd a h, fun _ => h0⟩
/-- a number that may be a membership -/
def mb_ok (x : Int32) : Prop := ∃ v, v < 64 ∧ x = nI v ∧ 3 ≤ pc_6 v ∧ pc_6 v ≤ 5
theorem p_mem1 {x : Int32} {post : Int32 → Prop} (h : mb_ok x) (h0 : post 1) : wp_Ch_isMembership x post := by
  obtain ⟨v, hv, rfl, h3, h5⟩ := h
  refine ⟨fun a => absurd a (nI_pos (by omega)), fun _ => ⟨fun _ => p_bitCount hv ⟨fun a => ?_, fun _ => ⟨fun a => ?_, fun _ => h0⟩⟩, fun a => absurd (nI_lt (b := 64) hv (by decide)) a⟩⟩
  · rw [show (3 : Int32) = nI 3 from rfl, nI_ltI (by omega) (by decide)] at a; omega
  · rw [show (5 : Int32) = nI 5 from rfl, nI_ltI (by decide) (by omega)] at a; omega
theorem p_mem0 {x : Int32} {post : Int32 → Prop} (h : ¬ mb_ok x) (h0 : post 0) : wp_Ch_isMembership x post := by
  refine ⟨fun _ => h0, fun a => ⟨fun b => ?_, fun _ => h0⟩⟩
  obtain ⟨v, hv, rfl⟩ : ∃ v, v < 64 ∧ x = nI v := by
    rcases pk_ix x (n := 64) (by decide) with z | z | z
    · exact absurd z a
    · exact absurd b (nlt_of_le z)
    · exact z
  refine p_bitCount hv ⟨fun _ => h0, fun c => ⟨fun _ => h0, fun d => ?_⟩⟩
  exfalso
  have hp := pc_le v
  rw [show (3 : Int32) = nI 3 from rfl, nI_ltI (by omega) (by decide)] at c
  rw [show (5 : Int32) = nI 5 from rfl, nI_ltI (by decide) (by omega)] at d
  exact h ⟨v, hv, rfl, by omega, by omega⟩
def op_as (M : PM) (k y : Nat) : PM := ps_set (ps_set (ps_set M 0 0 (M 0 0 + 1)) 1 (M 0 0 + 1) k) 2 (M 0 0 + 1) y
theorem as_RI {M : PM} {E : PE} {t : Nat} {zn : Nat → MndT} {va dn an : Nat → Int32} {mb ac ae : Int32} (hI : nv_I M E t) (hn : ∀ n, n < 6 → zn n = nd_of M E n) {k y : Nat} {x3 : Int32} (hk : k ≤ 3) (hy : y ≤ 3) (h30 : M 0 0 < 30) (h3 : k = 3 → ∃ v, v < 64 ∧ x3 = nI v) : RI (t + 1) (ch_of (op_as M k y) (pe_set E 0 (M 0 0 + 1) x3)) zn (md_of (op_as M k y) (pe_set E 0 (M 0 0 + 1) x3) va dn an mb ac ae) := by
  obtain ⟨n1, n2, n3, n4, n5, n6⟩ := hI
  have g : ∀ r, r ≠ 0 → r ≠ 1 → r ≠ 2 → op_as M k y r = M r := fun r a b c => by
    unfold op_as; rw [ps_reg _ c, ps_reg _ b, ps_reg _ a]
  have g00 : op_as M k y 0 0 = M 0 0 + 1 := by simp [op_as, ps_set]
  have g01 : op_as M k y 0 1 = M 0 1 := by simp [op_as, ps_set]
  have g02 : op_as M k y 0 2 = M 0 2 := by simp [op_as, ps_set]
  have g1 : ∀ q, op_as M k y 1 q = if q = M 0 0 + 1 then k else M 1 q := fun q => by simp [op_as, ps_set]
  have g2 : ∀ q, op_as M k y 2 q = if q = M 0 0 + 1 then y else M 2 q := fun q => by simp [op_as, ps_set]
  have gE : ∀ q, pe_set E 0 (M 0 0 + 1) x3 0 q = if q = M 0 0 + 1 then x3 else E 0 q := fun q => by simp [pe_set]
  have hx : px_ext M E (op_as M k y) (pe_set E 0 (M 0 0 + 1) x3) := by
    refine ⟨fun j _ => by rw [g 3 (by decide) (by decide) (by decide)], fun q hq => ⟨?_, ?_, ?_⟩, n2, by rw [g00]; omega⟩
    · rw [g1, if_neg (by omega)]
    · rw [g2, if_neg (by omega)]
    · rw [gE, if_neg (by omega)]
  have hs : ∀ i, ns_at M (op_as M k y) i := fun i r _ _ => by rw [g r (by omega) (by omega) (by omega)]
  refine ⟨op_as M k y, pe_set E 0 (M 0 0 + 1) x3, va, dn, an, mb, ac, ae, ⟨?_, ?_, ?_, ?_, ?_, ?_⟩, rfl, fun i hi => ?_, rfl⟩
  · refine ⟨by rw [g00]; omega, by rw [g01]; exact n1.2.1, by rw [g02]; exact n1.2.2.1, fun q hq1 hq2 => ?_⟩
    rw [g00] at hq2
    rw [g1, g2, gE]
    by_cases e : q = M 0 0 + 1
    · rw [if_pos e, if_pos e, if_pos e]; exact ⟨hk, hy, h3⟩
    · rw [if_neg e, if_neg e, if_neg e]; exact n1.2.2.2 q hq1 (by omega)
  · intro j; rw [g 3 (by decide) (by decide) (by decide), g00]; have := n2 j; omega
  · exact fun i hi => nv_n_ext hx (hs i) (n3 i hi)
  · refine ⟨fun i hi => ?_, fun j => ?_⟩
    · have := n4.1 i hi
      rw [g 8 (by decide) (by decide) (by decide), g 12 (by decide) (by decide) (by decide), g 15 (by decide) (by decide) (by decide)]; omega
    · have := n4.2 j
      rw [g 18 (by decide) (by decide) (by decide), g 19 (by decide) (by decide) (by decide), g 20 (by decide) (by decide) (by decide), g00]; omega
  · unfold nv_5; rw [g 19 (by decide) (by decide) (by decide), g 20 (by decide) (by decide) (by decide)]; exact n5
  · exact px_frame hx (g 3 (by decide) (by decide) (by decide)) (fun i => by rw [g 8 (by decide) (by decide) (by decide)]; exact Nat.le_refl _) (g 9 (by decide) (by decide) (by decide)) (g 18 (by decide) (by decide) (by decide)) (g 19 (by decide) (by decide) (by decide)) (g 20 (by decide) (by decide) (by decide)) (fun i _ _ => ⟨hs i 11 (by omega) (by omega), hs i 5 (by omega) (by omega), hs i 12 (by omega) (by omega), hs i 13 (by omega) (by omega), hs i 14 (by omega) (by omega), hs i 15 (by omega) (by omega), hs i 16 (by omega) (by omega), hs i 17 (by omega) (by omega)⟩) n6
  · rw [hn i hi, nd_ext hx (n3 i hi) (hs i) (fun j _ _ => ⟨by rw [g 18 (by decide) (by decide) (by decide)], by rw [g 19 (by decide) (by decide) (by decide)], by rw [g 20 (by decide) (by decide) (by decide)]⟩) (by rw [g02])]
theorem as_bk {M : PM} {E : PE} {k y : Nat} {x3 : Int32} (h30 : M 0 0 < 30) {post : Int32 → MbkT → Prop} (h : post (nI (M 0 0 + 1)) (bk_of (op_as M k y) (pe_set E 0 (M 0 0 + 1) x3))) : wp_Bk_add (bk_of M E) (nI k) (nI y) x3 post := by
  have ec : mbk_count (bk_of M E) + (1 : Int32) = nI (M 0 0 + 1) := nI_1 (M 0 0)
  unfold wp_Bk_add
  rw [ec]
  have hv : vp_in (nI (M 0 0 + 1)) 31 := vp_in_nI (by omega) (by decide)
  refine ⟨hv, hv, hv, ?_⟩
  rw [nI_clamp (by omega)]
  have e1 : upd (mbk_kinds (bk_of M E)) (M 0 0 + 1) (nI k) = fun q => nI (op_as M k y 1 q) := by
    show upd (fun q => nI (M 1 q)) (M 0 0 + 1) (nI k) = _
    rw [up_set]
    funext q
    simp [op_as, ps_set]
  have e2 : upd (mbk_keys (bk_of M E)) (M 0 0 + 1) (nI y) = fun q => nI (op_as M k y 2 q) := by
    show upd (fun q => nI (M 2 q)) (M 0 0 + 1) (nI y) = _
    rw [up_set]
    funext q
    simp [op_as, ps_set]
  have e3 : upd (mbk_numbers (bk_of M E)) (M 0 0 + 1) x3 = pe_set E 0 (M 0 0 + 1) x3 0 := upd_pe E 0 _ _
  have e0 : op_as M k y 0 0 = M 0 0 + 1 := by simp [op_as, ps_set]
  rw [e1, e2, e3]
  have : bk_of (op_as M k y) (pe_set E 0 (M 0 0 + 1) x3) = ((fun q => nI (op_as M k y 1 q)), (fun q => nI (op_as M k y 2 q)), pe_set E 0 (M 0 0 + 1) x3 0, nI (M 0 0 + 1)) := by
    unfold bk_of; rw [e0]
  rw [this] at h
  exact h
theorem as_md {M : PM} {E : PE} {va dn an : Nat → Int32} {mb ac ae : Int32} {k y : Nat} {x3 : Int32} (h30 : M 0 0 < 30) {P : Int32 → MmdT → Prop} (h : P (nI (M 0 0 + 1)) (md_of (op_as M k y) (pe_set E 0 (M 0 0 + 1) x3) va dn an mb ac ae)) :
    ∀ w7 : MmdT, w7 = mmd_s_requests (md_of M E va dn an mb ac ae) (mmd_requests (md_of M E va dn an mb ac ae) + 1) → (vp_in (mmd_requests w7) 31 ∧ (∀ w8 : MmdT, w8 = mmd_s_kindOf w7 (upd (mmd_kindOf w7) ((mmd_requests w7)).toNatClampNeg (nI k)) → (vp_in (mmd_requests w8) 31 ∧ (∀ w9 : MmdT, w9 = mmd_s_keyOf w8 (upd (mmd_keyOf w8) ((mmd_requests w8)).toNatClampNeg (nI y)) → (vp_in (mmd_requests w9) 31 ∧ (∀ w10 : MmdT, w10 = mmd_s_numberOf w9 (upd (mmd_numberOf w9) ((mmd_requests w9)).toNatClampNeg x3) → (P (mmd_requests w10) w10))))))) := by
  intro w7 e7
  have e7' : w7 = md_of (ps_set M 0 0 (M 0 0 + 1)) E va dn an mb ac ae := by
    rw [e7, ← ms_requests, ← nI_1]; rfl
  subst e7'
  have q : ∀ {M' : PM} {E' : PE}, M' 0 0 = M 0 0 + 1 → mmd_requests (md_of M' E' va dn an mb ac ae) = nI (M 0 0 + 1) := by
    intro M' E' e
    show nI (M' 0 0) = _
    rw [e]
  have a0 : ps_set M 0 0 (M 0 0 + 1) 0 0 = M 0 0 + 1 := ps_eq _ _ _ _
  have hv : vp_in (nI (M 0 0 + 1)) 31 := vp_in_nI (by omega) (by decide)
  have hN : (nI (M 0 0 + 1)).toNatClampNeg = M 0 0 + 1 := nI_clamp (by omega)
  refine ⟨by rw [q a0]; exact hv, fun w8 e8 => ?_⟩
  rw [q a0, hN] at e8
  obtain rfl := e8.trans (ms_kindOf _ _ _ _ _ _ _ _ (M 0 0 + 1) k)
  have a1 : ps_set (ps_set M 0 0 (M 0 0 + 1)) 1 (M 0 0 + 1) k 0 0 = M 0 0 + 1 := by simp [ps_set]
  refine ⟨by rw [q a1]; exact hv, fun w9 e9 => ?_⟩
  rw [q a1, hN] at e9
  obtain rfl := e9.trans (ms_keyOf _ _ _ _ _ _ _ _ (M 0 0 + 1) y)
  have a2 : ps_set (ps_set (ps_set M 0 0 (M 0 0 + 1)) 1 (M 0 0 + 1) k) 2 (M 0 0 + 1) y 0 0 = M 0 0 + 1 := by simp [ps_set]
  refine ⟨by rw [q a2]; exact hv, fun w10 e10 => ?_⟩
  rw [q a2, hN] at e10
  obtain rfl := e10.trans (ms_numberOf _ _ _ _ _ _ _ _ (M 0 0 + 1) x3)
  rw [q a2]
  exact h
theorem st_ask : ls_ask RI := by
  intro t zc zn zm x1 x2 x3 _ ⟨M, E, va, dn, an, mb, ac, ae, hI, hc, hn, hm⟩
  subst hc; subst hm
  have hs : RI (t + 1) (ch_of M E) zn (md_of M E va dn an mb ac ae) := ⟨M, E, va, dn, an, mb, ac, ae, nv_mono hI, rfl, hn, rfl⟩
  have hq30 := hI.1.1
  have hf := hs
  rcases dc_r x1 (lo := 0) (hi := 3) (by omega) (by decide) with h1 | ⟨k, -, hk3, rfl⟩
  · have hM : ∀ P : Int32 → MmdT → Prop, P (-1) (md_of M E va dn an mb ac ae) → wp_Md_ask (md_of M E va dn an mb ac ae) x1 x2 x3 P := by
      intro P hP
      refine ⟨fun _ => hP, fun a => ⟨fun _ => hP, fun b => ?_⟩⟩
      rcases h1 with h1 | h1
      · exact absurd h1 a
      · exact absurd h1 b
    refine ⟨fun _ => hM _ ⟨rfl, hs⟩, fun a => ⟨fun _ => hM _ ⟨rfl, hs⟩, fun b => ?_⟩⟩
    rcases h1 with h1 | h1
    · exact absurd h1 a
    · exact absurd h1 b
  · have k0 : ¬ nI k < 0 := nI_pos (by omega)
    have k3 : ¬ (3 : Int32) < nI k := nI_nlt (a := 3) (b := k) hk3 (by decide)
    refine ⟨fun a => absurd a k0, fun _ => ⟨fun a => absurd a k3, fun _ => ?_⟩⟩
    rcases dc_r x2 (lo := 0) (hi := 3) (by omega) (by decide) with h2 | ⟨y, -, hy3, rfl⟩
    · refine p_key0 (h2.imp id (fun h => (lt_le_succ (n := 3) (by decide)).mpr h)) (br0 ⟨fun a => absurd a k0, fun _ => ⟨fun a => absurd a k3, fun _ => ⟨fun _ => ⟨rfl, hs⟩, fun a => ⟨fun _ => ⟨rfl, hs⟩, fun b => ?_⟩⟩⟩⟩)
      rcases h2 with h2 | h2
      · exact absurd h2 a
      · exact absurd h2 b
    · have y0 : ¬ nI y < 0 := nI_pos (by omega)
      have y3 : ¬ (3 : Int32) < nI y := nI_nlt (a := 3) (b := y) hy3 (by decide)
      refine p_key1 (fun q => dc_rn (k := y) (lo := 0) (hi := 3) (by omega) hy3 (by decide) (q.imp id (fun h => (lt_le_succ (n := 3) (by decide)).mp h))) (br1 ?_)
      -- the model down to its test of fullness
      have hM : ∀ P : Int32 → MmdT → Prop, (M 0 0 = 30 → P (-1) (md_of M E va dn an mb ac ae)) → (M 0 0 ≠ 30 → k = 3 → ¬ mb_ok x3 → P (-1) (md_of M E va dn an mb ac ae)) → (M 0 0 ≠ 30 → (k = 3 → mb_ok x3) → P (nI (M 0 0 + 1)) (md_of (op_as M k y) (pe_set E 0 (M 0 0 + 1) x3) va dn an mb ac ae)) → wp_Md_ask (md_of M E va dn an mb ac ae) (nI k) (nI y) x3 P := by
        intro P p1 p2 p3
        refine ⟨fun a => absurd a k0, fun _ => ⟨fun a => absurd a k3, fun _ => ⟨fun a => absurd a y0, fun _ => ⟨fun a => absurd a y3, fun _ => ⟨fun a => ?_, fun a => ?_⟩⟩⟩⟩⟩
        · exact p1 ((nI_eq (a := M 0 0) (b := 30) (by omega) (by decide)).mp a)
        · have a' : M 0 0 ≠ 30 := fun z => a (by show nI (M 0 0) = 30; rw [z]; rfl)
          refine ⟨fun b => ?_, fun b => ?_⟩
          · have b' : k = 3 := (nI_eq (a := k) (b := 3) (by omega) (by decide)).mp b
            by_cases hmb : mb_ok x3
            · obtain ⟨v, hv, rfl, v3, v5⟩ := id hmb
              have hpc := pc_le v
              refine ⟨fun c => absurd c (nI_pos (by omega)), fun _ => ⟨fun c => absurd c (nI_nlt (a := 63) (b := v) (by omega) (by decide)), fun _ => p_count hv ⟨fun c => ?_, fun _ => p_count hv ⟨fun _ => as_md (by omega) (p3 a' (fun _ => hmb)), fun c => ?_⟩⟩⟩⟩
              · rw [show (3 : Int32) = nI 3 from rfl, nI_ltI (by omega) (by decide)] at c; omega
              · exact absurd (show nI (pc_6 v) ≤ nI 5 from nI_le v5 (by decide)) c
            · have p := p2 a' b' hmb
              refine ⟨fun _ => p, fun c => ⟨fun _ => p, fun d => ?_⟩⟩
              obtain ⟨v, hv, rfl⟩ : ∃ v, v < 64 ∧ x3 = nI v := by
                rcases pk_ix x3 (n := 64) (by decide) with z | z | z
                · exact absurd z c
                · exact absurd ((lt_le_succ (n := 63) (by decide)).mp z) d
                · exact z
              have hpc := pc_le v
              refine p_count hv ⟨fun _ => p, fun e => p_count hv ⟨fun f => ?_, fun _ => p⟩⟩
              exfalso
              rw [show (3 : Int32) = nI 3 from rfl, nI_ltI (by omega) (by decide)] at e
              have f' : pc_6 v ≤ 5 := (nI_leI (by omega) (by decide)).mp f
              exact hmb ⟨v, hv, rfl, by omega, f'⟩
          · have b' : k ≠ 3 := fun z => b (by rw [z]; rfl)
            exact as_md (by omega) (p3 a' (fun z => absurd z b'))
      have hbook : ∀ (post : Int32 → MchT → Prop), (M 0 0 = 30 → post (-1) (ch_of M E)) → (M 0 0 ≠ 30 → post (nI (M 0 0 + 1)) (ch_of (op_as M k y) (pe_set E 0 (M 0 0 + 1) x3))) → wp_Bk_isFull (mch_book (ch_of M E)) (fun (r13 : Int32) (u14 : MbkT) => ((r13 = 0 → (wp_Bk_add u14 (nI k) (nI y) x3 (fun (r16 : Int32) (u17 : MbkT) => (post r16 (mch_s_book (mch_s_book (ch_of M E) u14) u17))))) ∧ (¬ r13 = 0 → (post (-1) (mch_s_book (ch_of M E) u14))))) := by
        intro post p1 p2
        by_cases h30 : M 0 0 = 30
        · refine p_isFull1 (fun z => ?_) (br1 (p1 h30))
          have z' : nI (M 0 0) < nI 30 := z
          rw [nI_ltI (by omega) (by decide)] at z'
          omega
        · refine p_isFull0 (show nI (M 0 0) < nI 30 from nI_lt (by omega) (by decide)) (br0 (as_bk (by omega) ?_))
          have := p2 h30
          have e : ch_of (op_as M k y) (pe_set E 0 (M 0 0 + 1) x3) = mch_s_book (mch_s_book (ch_of M E) (bk_of M E)) (bk_of (op_as M k y) (pe_set E 0 (M 0 0 + 1) x3)) := by
            show ((bk_of (op_as M k y) (pe_set E 0 (M 0 0 + 1) x3), pe_set E 0 (M 0 0 + 1) x3 2, pe_set E 0 (M 0 0 + 1) x3 1, nI (op_as M k y 0 1)) : MchT) = (bk_of (op_as M k y) (pe_set E 0 (M 0 0 + 1) x3), E 2, E 1, nI (M 0 1))
            rw [pe_reg _ (by decide), pe_reg _ (by decide), show op_as M k y 0 1 = M 0 1 by simp [op_as, ps_set]]
          rw [e] at this
          exact this
      have fin : M 0 0 ≠ 30 → (k = 3 → mb_ok x3) → RI (t + 1) (ch_of (op_as M k y) (pe_set E 0 (M 0 0 + 1) x3)) zn (md_of (op_as M k y) (pe_set E 0 (M 0 0 + 1) x3) va dn an mb ac ae) := fun a b => as_RI hI hn hk3 hy3 (by omega) (fun z => by obtain ⟨v, hv, e, -⟩ := b z; exact ⟨v, hv, e⟩)
      have hbk := hbook (fun (r1 : Int32) (zc' : MchT) => wp_Md_ask (md_of M E va dn an mb ac ae) (nI k) (nI y) x3 (fun (r2 : Int32) (zm' : MmdT) => r1 = r2 ∧ RI (t + 1) zc' zn zm'))
      refine ⟨fun b => ?_, fun b => ?_⟩
      · have b' : k = 3 := (nI_eq (a := k) (b := 3) (by omega) (by decide)).mp b
        by_cases hmb : mb_ok x3
        · refine p_mem1 hmb (br1 (hbk (fun h30 => hM _ (fun _ => ⟨rfl, hs⟩) (fun z => absurd h30 z) (fun z => absurd h30 z)) (fun h30 => hM _ (fun z => absurd z h30) (fun _ _ z => absurd hmb z) (fun _ _ => ⟨rfl, fin h30 (fun _ => hmb)⟩))))
        · exact p_mem0 hmb (br0 (hM _ (fun _ => ⟨rfl, hs⟩) (fun _ _ _ => ⟨rfl, hs⟩) (fun _ z => absurd (z b') hmb)))
      · have b' : k ≠ 3 := fun z => b (by rw [z]; rfl)
        exact hbk (fun h30 => hM _ (fun _ => ⟨rfl, hs⟩) (fun z => absurd h30 z) (fun z => absurd h30 z)) (fun h30 => hM _ (fun z => absurd z h30) (fun _ z => absurd z b') (fun _ _ => ⟨rfl, fin h30 (fun z => absurd z b')⟩))
