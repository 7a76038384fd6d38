/-! tell, whole -/
theorem va_up_id {zn : Nat → MndT} {k n : Nat} {y : MndT} (h : zn k = y) : va_up zn k y n = zn n := by
  unfold va_up
  by_cases e : n = k
  · subst e; simp [h]
  · simp [e]
theorem RI_up2 {M M' : PM} {E E' : PE} {t k j : Nat} {zc : MchT} {zn : Nat → MndT} {zm : MmdT} {y w : MndT} {va dn an : Nat → Int32} {mb ac ae : Int32} (hI : nv_I M' E' t) (hc : zc = ch_of M' E') (hk6 : k < 6) (hy : y = nd_of M E k) (hk : w = nd_of M' E' j) (hf : ∀ n, n < 6 → n ≠ j → nd_of M' E' n = nd_of M E n) (hz : ∀ n, n < 6 → zn n = nd_of M E n) (hm : zm = md_of M' E' va dn an mb ac ae) : RI t zc (va_up (va_up zn k y) j w) zm :=
  RI_up (M := M) (E := E) hI hc hk hf (fun n hn => (va_up_id (by rw [hy]; exact hz k hk6)).trans (hz n hn)) hm
theorem RI_same2 {M : PM} {E : PE} {t k j : Nat} {zc : MchT} {zn : Nat → MndT} {zm : MmdT} {y w : MndT} {va dn an : Nat → Int32} {mb ac ae : Int32} (hI : nv_I M E t) (hc : zc = ch_of M E) (hk6 : k < 6) (hj6 : j < 6) (hy : y = nd_of M E k) (hk : w = nd_of M E j) (hz : ∀ n, n < 6 → zn n = nd_of M E n) (hm : zm = md_of M E va dn an mb ac ae) : RI (t + 1) zc (va_up (va_up zn k y) j w) zm :=
  RI_up2 (nv_mono hI) hc hk6 hy hk (fun _ _ _ => rfl) hz hm
theorem sg_ch {M M' : PM} {E : PE} {n : Nat} (h : sg M M' n) : ch_of M' E = ch_of M E :=
  ch_same (by rw [sg_r h (by decide) (by decide) (by decide) (by decide)]) (by rw [sg_r h (by decide) (by decide) (by decide) (by decide)]) (sg_r h (by decide) (by decide) (by decide) (by decide)) (sg_r h (by decide) (by decide) (by decide) (by decide)) rfl
theorem sg_nd {M M' : PM} {E : PE} {t n i : Nat} (h : sg M M' n) (hI : nv_I M E t) (hi : i < 6) (hne : i ≠ n) : nd_of M' E i = nd_of M E i :=
  nd_ext (sg_ext h hI.2.1) (hI.2.2.1 i hi) (sg_ns h i hne) (fun j _ _ => ⟨by rw [sg_r h (by decide) (by decide) (by decide) (by decide)], by rw [sg_r h (by decide) (by decide) (by decide) (by decide)], by rw [sg_r h (by decide) (by decide) (by decide) (by decide)]⟩) (by rw [sg_r h (r := 0) (by decide) (by decide) (by decide) (by decide)])
/-- what tell does after the install: one state between two steps, and the answer -/
theorem tl_mid {M N : PM} {E : PE} {t a n : Nat} (hg : gI N E t n) (hs : sg M N n) (hI : nv_I M E t) (hn : n < 6) (ha : a < 6) (hne : a ≠ n) : ∃ (N2 : PM) (fl : Int32), gI N2 E t n ∧ sg N N2 n ∧ N2 5 n = N 5 n ∧ N2 6 n = N 6 n ∧ (fl = 0 ∧ N2 7 n = N 7 n ∨ fl = 1 ∧ N2 7 n ≠ N 7 n) ∧
    (∀ post : Int32 → MndT → MndT → Prop, post fl (nd_of N2 E n) (nd_of M E a) → wp_Nd_learnFrom (nd_of N E n) (nd_of M E a) post) ∧
    (∀ (va dn an : Nat → Int32) (mb ac ae y3 y4 y5 : Int32) (A B : MmdT → Prop), A (md_of N2 E va dn an mb ac ae) → (((mmd_configuration (md_of N E va dn an mb ac ae)) (nI a).toNatClampNeg = (mmd_configuration (md_of N E va dn an mb ac ae)) (nI n).toNatClampNeg → (vp_in (nI n) 6 ∧ (∀ v33 : Int32, v33 = (((mmd_executed (md_of N E va dn an mb ac ae)) (nI n).toNatClampNeg) + (1 : Int32)) → (∃ n94 : Nat, wp_Md_tell_L94 (fun (y1 : Int32) (y2 : Int32) (y3' : Int32) (y4' : Int32) (y5' : Int32) (y6 : Int32) (z1 : MmdT) => y1 = nI a ∧ y2 = nI n ∧ y3' = y3 ∧ y4' = y4 ∧ y5' = y5 ∧ A z1) n94 (nI a) (nI n) y3 y4 y5 v33 (md_of N E va dn an mb ac ae)))) ) ∧ (¬ (mmd_configuration (md_of N E va dn an mb ac ae)) (nI a).toNatClampNeg = (mmd_configuration (md_of N E va dn an mb ac ae)) (nI n).toNatClampNeg → A (md_of N E va dn an mb ac ae)))) := by
  have ena : nd_of M E a = nd_of N E a := (sg_nd hs hI ha hne).symm
  have hm := g_mem hg
  have na := hg.2.2.1 a ha hne
  have hma := nd_mem hg.1 hg.2.1 na
  have e1 : mst_configuration (mnd_state (nd_of N E a)) = nI (N 5 a) := by
    show nI (rr_nd N E a).1 = _
    rw [hma.2.1]
  have e2 : mst_configuration (mnd_state (nd_of N E n)) = nI (N 5 n) := by
    show nI (rr_nd N E n).1 = _
    rw [hm.1]
  rw [ena]
  by_cases h5 : N 5 a = N 5 n
  · refine ⟨op_lk N a n 8, lfl N a n 8, op_lk_I hg hne ha h5 (by omega), op_lk_sg N a n 8, by rw [op_lk_r N a n 8 (by decide)], by rw [op_lk_r N a n 8 (by decide)], ?_, fun post h => ?_, fun va dn an mb ac ae y3 y4 y5 A B h => ?_⟩
    · rw [op_lk_7]
      unfold lfl
      by_cases q : lk (N 7 n) (N 7 a) (N 6 n) 8 = N 7 n
      · rw [if_pos q]; exact Or.inl ⟨rfl, q⟩
      · rw [if_neg q]; exact Or.inr ⟨rfl, q⟩
    · refine ⟨fun _ => ⟨9, ?_⟩, fun z => absurd (by rw [e1, e2, h5]) z⟩
      have key := p_lf (E := E) (K := fun (y2 : Int32) (y3 : Int32) (z1 : MndT) (z2 : MndT) => (narrow .boolean (.int y2) = .int y2 ∧ post y2 z1 z2)) hg hn ha hne h5 (fun y => ⟨?_, h⟩) 8 0 (by omega)
      · have el : lfl N a n 0 = 0 := by unfold lfl lk; rw [if_pos rfl]
        have eo : op_lk N a n 0 = N := by unfold op_lk lk; exact ps_self N 7 n
        rw [el, eo] at key
        exact key
      · unfold lfl
        by_cases q : lk (N 7 n) (N 7 a) (N 6 n) 8 = N 7 n
        · rw [if_pos q]; rfl
        · rw [if_neg q]; rfl
    · have r5a : mmd_configuration (md_of N E va dn an mb ac ae) (nI a).toNatClampNeg = nI (N 5 a) := rdN N 5 ha
      have r5n : mmd_configuration (md_of N E va dn an mb ac ae) (nI n).toNatClampNeg = nI (N 5 n) := rdN N 5 hn
      have r6n : mmd_executed (md_of N E va dn an mb ac ae) (nI n).toNatClampNeg = nI (N 6 n) := rdN N 6 hn
      rw [r5a, r5n, r6n]
      refine ⟨fun _ => ⟨vp_in_nI hn (by decide), fun v ev => ⟨8 - N 6 n + 1, ?_⟩⟩, fun z => absurd (by rw [h5]) z⟩
      rw [nI_1] at ev
      subst ev
      have key := p_lm (M := N) (E := E) (va := va) (dn := dn) (an := an) (mb := mb) (ac := ac) (ae := ae) (a := a) (n := n) (y3 := y3) (y4 := y4) (y5 := y5) (K := fun (y1 : Int32) (y2 : Int32) (y3' : Int32) (y4' : Int32) (y5' : Int32) (y6 : Int32) (z1 : MmdT) => y1 = nI a ∧ y2 = nI n ∧ y3' = y3 ∧ y4' = y4 ∧ y5' = y5 ∧ A z1) hn ha hne hm.2.2.2 (fun y => ⟨rfl, rfl, rfl, rfl, rfl, h⟩) (8 - N 6 n) (N 6 n) (by omega) (Nat.le_refl _)
      have eo : op_lk N a n (N 6 n) = N := by
        unfold op_lk
        rw [lk_low _ _ _ (Nat.le_refl _)]
        exact ps_self N 7 n
      rw [eo] at key
      exact key
  · refine ⟨N, 0, hg, sg_refl N n, rfl, rfl, Or.inl ⟨rfl, rfl⟩, fun post h => ?_, fun va dn an mb ac ae y3 y4 y5 A B h => ?_⟩
    · refine ⟨fun z => ?_, fun _ => h⟩
      rw [e1, e2] at z
      exact absurd ((nI_eq (by omega) (by omega)).mp z) h5
    · have r5a : mmd_configuration (md_of N E va dn an mb ac ae) (nI a).toNatClampNeg = nI (N 5 a) := rdN N 5 ha
      have r5n : mmd_configuration (md_of N E va dn an mb ac ae) (nI n).toNatClampNeg = nI (N 5 n) := rdN N 5 hn
      rw [r5a, r5n]
      exact ⟨fun z => absurd ((nI_eq (by omega) (by omega)).mp z) h5, fun _ => h⟩
/-- loops grow with what holds behind them -/
theorem tl_mono {K K' : Int32 → Int32 → Int32 → Int32 → Int32 → Int32 → MmdT → Prop} (hK : ∀ a b c d e f z, K a b c d e f z → K' a b c d e f z) : ∀ (f : Nat) (y1 y2 y3 y4 y5 y6 : Int32) (z : MmdT), wp_Md_tell_L94 K f y1 y2 y3 y4 y5 y6 z → wp_Md_tell_L94 K' f y1 y2 y3 y4 y5 y6 z
  | 0, _, _, _, _, _, _, _, h => h
  | f + 1, y1, y2, y3, y4, y5, y6, z, ⟨h1, h2⟩ => ⟨fun q => hK _ _ _ _ _ _ _ (h1 q), fun q => ⟨(h2 q).1, (h2 q).2.1, (h2 q).2.2.1, fun w ew v ev => tl_mono hK f y1 y2 y3 y4 y5 v w ((h2 q).2.2.2 w ew v ev)⟩⟩
