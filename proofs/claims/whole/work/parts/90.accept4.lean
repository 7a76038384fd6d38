theorem p_acN {M : PM} {E : PE} {t n a : Nat} {va dn an : Nat → Int32} {mb ac ae x3 : Int32} {P : Int32 → MmdT → Prop} (hI : nv_I M E t) (ht : t ≤ 512) (hn : n < 6) (ha : a < 6) (q : may M E n a) (hm : px_maj (rr_nd M E n).2.2.1 (M 13 n)) (u1 : up_of M a = 1)
    (hA0 : (op_se M E n) 9 a ≤ (op_se M E n) 5 n → (op_se M E n) 18 (ci (op_se M E n) n a) ≤ (op_se M E n) 12 n → x3 = 0 → ∀ (va dn an : Nat → Int32) (mb ac ae : Int32), P 1 (md_of (op_v1 (op_se M E n) n a) E va dn an mb ac ae))
    (hAn : (op_se M E n) 9 a ≤ (op_se M E n) 5 n → (op_se M E n) 18 (ci (op_se M E n) n a) ≤ (op_se M E n) 12 n → x3 ≠ 0 → ¬ px_maj (rr_nd (op_v2 (op_se M E n) n a) E n).2.2.1 (op_v2 (op_se M E n) n a 14 n) → ∀ (va dn an : Nat → Int32) (mb ac ae : Int32), P 1 (md_of (op_v2 (op_se M E n) n a) E va dn an mb ac ae))
    (hAy : (op_se M E n) 9 a ≤ (op_se M E n) 5 n → (op_se M E n) 18 (ci (op_se M E n) n a) ≤ (op_se M E n) 12 n → x3 ≠ 0 → px_maj (rr_nd (op_v2 (op_se M E n) n a) E n).2.2.1 (op_v2 (op_se M E n) n a 14 n) → ∀ (va dn an : Nat → Int32) (mb ac ae : Int32), wp_Md_goOn (md_of (op_k (op_v2 (op_se M E n) n a) n) E va dn an mb ac ae) (nI n) (fun u => P 1 u))
    (hB0 : (op_se M E n) 9 a ≤ (op_se M E n) 5 n → (op_se M E n) 12 n < (op_se M E n) 18 (ci (op_se M E n) n a) → x3 = 0 → ∀ (va dn an : Nat → Int32) (mb ac ae : Int32), P 2 (md_of (op_se M E n) E va dn an mb ac ae))
    (hB1 : (op_se M E n) 9 a ≤ (op_se M E n) 5 n → (op_se M E n) 12 n < (op_se M E n) 18 (ci (op_se M E n) n a) → x3 ≠ 0 → ∀ (va dn an : Nat → Int32) (mb ac ae : Int32), P 2 (md_of (op_la (op_se M E n) n ((op_se M E n) 18 (ci (op_se M E n) n a))) E va dn an mb ac ae))
    (hC0 : (op_se M E n) 5 n < (op_se M E n) 9 a → x3 = 0 → ∀ (va dn an : Nat → Int32) (mb ac ae : Int32), P 3 (md_of (op_se M E n) E va dn an mb ac ae))
    (hC1 : (op_se M E n) 5 n < (op_se M E n) 9 a → x3 ≠ 0 → ∀ (va dn an : Nat → Int32) (mb ac ae : Int32), P 3 (md_of (op_in (op_se M E n) a n) E va dn an mb ac ae)) : wp_Md_accept (md_of M E va dn an mb ac ae) (nI n) (nI a) x3 P := by
  obtain ⟨hIN, h17⟩ := op_se_I hI hn q.2.1 hm
  have h0N : op_se M E n 11 n ≠ 0 := by rw [op_se_r M E n (by decide)]; exact q.2.1
  exact p_acM hI ht hn ha (fun z => absurd ⟨q, hm⟩ z) (fun _ _ z => absurd (u1.symm.trans z) (by decide)) (fun _ _ _ va dn an mb ac ae => p_acB hIN ht hn ha h0N h17 hA0 hAn hAy hB0 hB1 hC0 hC1)
theorem at_cmd {N : PM} {E : PE} {n : Nat} (h0 : N 11 n ≠ 0) (h17 : N 17 n ≠ 0) : mat_command (mnd_attempt (nd_of N E n)) = nI (N 17 n - 1) := by
  show mat_command (at_of N n) = _
  rw [at_rd h0, ← nI_m1 h17]; rfl
theorem at_prs {N : PM} {E : PE} {n : Nat} (h0 : N 11 n ≠ 0) : mat_promisers (mnd_attempt (nd_of N E n)) = nI (N 13 n) := by
  show mat_promisers (at_of N n) = _
  rw [at_rd h0]; rfl
theorem st_accept : ls_accept RI := by
  intro t zc zn zm x1 x2 x3 ht hx3 ⟨M, E, va, dn, an, mb, ac, ae, hI, hc, hz, hm⟩
  subst hc; subst hm
  rcases dc_n x1 with h1 | ⟨n, hn, rfl⟩
  · exact Or.inl ⟨0, 1, by omega, by omega, by omega, p_node0 h1 (br0 (p_barx h1 ⟨fun z => absurd z (by decide), fun _ => ⟨rfl, RI_same2 hI rfl (by omega) (by omega) (hz 0 (by omega)) (hz 1 (by omega)) hz rfl⟩⟩))⟩
  · rcases dc_n x2 with h2 | ⟨a, ha, rfl⟩
    · exact Or.inl ⟨0, 1, by omega, by omega, by omega, p_node1 (dc_k hn) (br1 (p_node0 h2 (br0 (p_bary hn h2 ⟨fun z => absurd z (by decide), fun _ => ⟨rfl, RI_same2 hI rfl (by omega) (by omega) (hz 0 (by omega)) (hz 1 (by omega)) hz rfl⟩⟩))))⟩
    · have hI' := nv_mono hI
      have h3 := hI.2.2.1 n hn
      have bn := nd_mem hI.1 hI.2.1 h3
      have h11 := h3.2.2.2.2.2.1
      have h13 := h3.2.2.2.2.2.2.2.1
      have hun : mnd_up (nd_of M E n) = up_of M n := rfl
      have hua : mnd_up (nd_of M E a) = up_of M a := rfl
      have est : mnd_s_state (nd_of M E n) (st_of (rr_nd M E n)) = nd_of M E n := rfl
      have esd : mnd_state (nd_of M E n) = st_of (rr_nd M E n) := rfl
      by_cases hne : a = n
      · subst hne
        refine Or.inr ⟨a, hn, p_node1 (dc_k hn) (br1 (p_node1 (dc_k ha) (br1 ⟨rfl, rfl, ?_⟩)))⟩
        rw [hz a hn]
        have hs : ∀ (va dn an : Nat → Int32) (mb ac ae : Int32), RI (t + 1) (ch_of M E) (va_up zn a (nd_of M E a)) (md_of M E va dn an mb ac ae) := fun va dn an mb ac ae => RI_fin1 hI hI' (sx_refl M a a) hz rfl rfl
        refine p_mayAsk hI hn ha (fun q => br1 ?_) (fun q => br0 (p_acM hI' (by omega) hn ha (fun _ va dn an mb ac ae => ⟨rfl, hs va dn an mb ac ae⟩) (fun z => absurd z q) (fun z => absurd z q)))
        have h0 := q.2.1
        rw [at_prs h0, esd]
        refine p_isMaj bn.1 h13 (fun hm => br1 ?_) (fun hm => br0 (p_acM hI' (by omega) hn ha (fun _ va dn an mb ac ae => ⟨rfl, hs va dn an mb ac ae⟩) (fun _ z => absurd z hm) (fun _ z => absurd z hm)))
        rw [hun, est]
        rcases up_cases M a with ⟨u0, -⟩ | ⟨u1, -⟩
        · exact absurd (u0.symm.trans q.1) (by decide)
        rw [u1]
        refine br1 (p_setC hI' (by omega) hn h0 ?_)
        obtain ⟨hIN, h17⟩ := op_se_I hI' hn h0 hm
        have hsN := op_se_sx M E a a
        have h0N : op_se M E a 11 a ≠ 0 := by rw [op_se_r M E a (by decide)]; exact h0
        have key := @p_acN M E (t + 1) a a va dn an mb ac ae x3
        obtain ⟨N, hN⟩ : ∃ N, N = op_se M E a := ⟨_, rfl⟩
        rw [← hN] at hIN h17 hsN h0N key ⊢
        have w3 := hIN.2.2.1 a hn
        have wn := nd_mem hIN.1 hIN.2.1 w3
        have w11 := w3.2.2.2.2.2.1
        have w9 := w3.2.1
        have w5 := hIN.2.2.2.1.2 (ci N a a)
        refine p_ref_al hIN (by omega) hn h0N (fun k1 k2 => br0 (p_cell hIN hn h0N ?_)) (fun k1 k2 z3 => ⟨fun z => absurd z (by decide), fun _ => ?_⟩) (fun k1 k2 z3 => ⟨fun z => absurd z (by decide), fun _ => ?_⟩)
        · rw [at_bal h0N, at_cmd h0N h17]
          refine ⟨vp_in_nI (by omega) (by decide), vp_in_nI (by omega) (by decide), vp_in_nI (by omega) (by decide), ?_⟩
          show _ ∧ _
          rw [nd_v1a hIN hn hn h0N]
          refine ⟨fun z3 => ?_, fun z3 => ?_⟩
          · exact key hI' (by omega) hn ha q hm u1 (fun _ _ _ va dn an mb ac ae => ⟨rfl, RI_fin1 hI (op_v_I hIN hn ha h0N h17 k1 k2).1 (sx_trans hsN (op_v1_sx a hIN hn)) hz rfl rfl⟩) (fun _ _ z => absurd z3 z) (fun _ _ z => absurd z3 z) (fun _ z => absurd z (by omega)) (fun _ z => absurd z (by omega)) (fun z => absurd z (by omega)) (fun z => absurd z (by omega))
          · obtain ⟨M', hM', hs2, gC, gM⟩ := ac_fin hIN hn ha h0N h17 k1 k2
            have hsx : sx M M' a a := sx_trans hsN (sx_trans (op_v2_sx a hIN hn) (hs2 a))
            have hbk : mch_book (ch_of M E) = bk_of N E := by rw [sx_bk hsN]; rfl
            rw [hbk]
            refine gC _ ?_
            rw [sx_bk hsN]
            have gg := gM (fun (r2 : Int32) (zm' : MmdT) => (1 : Int32) = r2 ∧ RI (t + 1) (mch_s_book (ch_of M E) (bk_of M E)) (va_up zn a (nd_of M' E a)) zm') (fun va dn an mb ac ae => ⟨rfl, RI_fin1 hI hM' hsx hz rfl rfl⟩)
            exact key hI' (by omega) hn ha q hm u1 (fun _ _ z => absurd z z3) (fun _ _ _ => gg.1) (fun _ _ _ => gg.2) (fun _ z => absurd z (by omega)) (fun _ z => absurd z (by omega)) (fun z => absurd z (by omega)) (fun z => absurd z (by omega))
        · exact key hI' (by omega) hn ha q hm u1 (fun _ z => absurd z (by omega)) (fun _ z => absurd z (by omega)) (fun _ z => absurd z (by omega)) (fun _ _ _ va dn an mb ac ae => ⟨rfl, RI_fin1 hI hIN hsN hz rfl rfl⟩) (fun _ _ z => absurd z3 z) (fun z => absurd z (by omega)) (fun z => absurd z (by omega))
        · exact key hI' (by omega) hn ha q hm u1 (fun _ z => absurd z (by omega)) (fun _ z => absurd z (by omega)) (fun _ z => absurd z (by omega)) (fun _ _ z => absurd z z3) (fun _ _ _ va dn an mb ac ae => ⟨rfl, RI_fin1 hI (op_la_I hIN hn (by omega)) (sx_trans hsN (op_la_sx N a a _)) hz rfl rfl⟩) (fun z => absurd z (by omega)) (fun z => absurd z (by omega))
      · refine Or.inl ⟨n, a, hn, ha, Ne.symm hne, p_node1 (dc_k hn) (br1 (p_node1 (dc_k ha) (br1 ⟨rfl, rfl, ?_⟩)))⟩
        rw [hz n hn, hz a ha]
        have hs : ∀ (va dn an : Nat → Int32) (mb ac ae : Int32), RI (t + 1) (ch_of M E) (va_up (va_up zn n (nd_of M E n)) a (nd_of M E a)) (md_of M E va dn an mb ac ae) := fun va dn an mb ac ae => RI_fin2 hI hI' (sx_refl M n a) hz rfl rfl rfl
        refine p_mayAsk hI hn ha (fun q => br1 ?_) (fun q => br0 (p_acM hI' (by omega) hn ha (fun _ va dn an mb ac ae => ⟨rfl, hs va dn an mb ac ae⟩) (fun z => absurd z q) (fun z => absurd z q)))
        have h0 := q.2.1
        rw [at_prs h0, esd]
        refine p_isMaj bn.1 h13 (fun hm => br1 ?_) (fun hm => br0 (p_acM hI' (by omega) hn ha (fun _ va dn an mb ac ae => ⟨rfl, hs va dn an mb ac ae⟩) (fun _ z => absurd z hm) (fun _ z => absurd z hm)))
        rw [hua, est]
        rcases up_cases M a with ⟨u0, -⟩ | ⟨u1, -⟩
        · rw [u0]
          exact br0 (p_acM hI' (by omega) hn ha (fun z => absurd ⟨q, hm⟩ z) (fun _ _ _ va dn an mb ac ae => ⟨rfl, hs va dn an mb ac ae⟩) (fun _ _ z => absurd (u0.symm.trans z) (by decide)))
        rw [u1]
        refine br1 (p_setC hI' (by omega) hn h0 ?_)
        obtain ⟨hIN, h17⟩ := op_se_I hI' hn h0 hm
        have hsN := op_se_sx M E n a
        have hsn := op_se_sx M E n n
        have h0N : op_se M E n 11 n ≠ 0 := by rw [op_se_r M E n (by decide)]; exact h0
        have key := @p_acN M E (t + 1) n a va dn an mb ac ae x3
        obtain ⟨N, hN⟩ : ∃ N, N = op_se M E n := ⟨_, rfl⟩
        rw [← hN] at hIN h17 hsN hsn h0N key ⊢
        have ena : nd_of N E a = nd_of M E a := sx_nd hsn hI ha hne hne
        rw [← ena]
        have w3 := hIN.2.2.1 n hn
        have wn := nd_mem hIN.1 hIN.2.1 w3
        have w11 := w3.2.2.2.2.2.1
        have w9 := (hIN.2.2.1 a ha).2.1
        have w5 := hIN.2.2.2.1.2 (ci N n a)
        refine p_ref hIN (by omega) hn ha h0N (fun k1 k2 => br0 (p_cell hIN hn h0N ?_)) (fun k1 k2 z3 => ⟨fun z => absurd z (by decide), fun _ => ?_⟩) (fun k1 k2 z3 => ⟨fun z => absurd z (by decide), fun _ => ?_⟩) (fun k1 z3 => ⟨fun z => absurd z (by decide), fun _ => ?_⟩) (fun k1 z3 => ⟨fun z => absurd z (by decide), fun _ => ?_⟩)
        · rw [at_bal h0N, at_cmd h0N h17]
          refine ⟨vp_in_nI (by omega) (by decide), vp_in_nI (by omega) (by decide), vp_in_nI (by omega) (by decide), ?_⟩
          show _ ∧ _
          rw [nd_v1a hIN hn ha h0N, ← nd_v1n hIN hn hne]
          refine ⟨fun z3 => ?_, fun z3 => ?_⟩
          · exact key hI' (by omega) hn ha q hm u1 (fun _ _ _ va dn an mb ac ae => ⟨rfl, RI_fin2 hI (op_v_I hIN hn ha h0N h17 k1 k2).1 (sx_trans hsN (op_v1_sx a hIN hn)) hz rfl rfl rfl⟩) (fun _ _ z => absurd z3 z) (fun _ _ z => absurd z3 z) (fun _ z => absurd z (by omega)) (fun _ z => absurd z (by omega)) (fun z => absurd z (by omega)) (fun z => absurd z (by omega))
          · obtain ⟨M', hM', hs2, gC, gM⟩ := ac_fin hIN hn ha h0N h17 k1 k2
            obtain ⟨I1, I2⟩ := op_v_I hIN hn ha h0N h17 k1 k2
            have hsx : sx M M' n a := sx_trans hsN (sx_trans (op_v2_sx a hIN hn) (hs2 a))
            have hbk : mch_book (ch_of M E) = bk_of N E := by rw [sx_bk hsN]; rfl
            have e12 : nd_of (op_v2 N n a) E a = nd_of (op_v1 N n a) E a := by
              have hs12 : sx (op_v1 N n a) (op_v2 N n a) n n := by
                unfold op_v2; rw [ps_at_14]; exact ps_at_sx _ n n _ _ _ _ _
              exact sx_nd hs12 I1 ha hne hne
            have eM : nd_of M' E a = nd_of (op_v1 N n a) E a := (sx_nd (hs2 n) I2 ha hne hne).trans e12
            rw [hbk]
            refine gC _ ?_
            rw [sx_bk hsN, ← eM]
            have gg := gM (fun (r2 : Int32) (zm' : MmdT) => (1 : Int32) = r2 ∧ RI (t + 1) (mch_s_book (ch_of M E) (bk_of M E)) (va_up (va_up zn n (nd_of M' E n)) a (nd_of M' E a)) zm') (fun va dn an mb ac ae => ⟨rfl, RI_fin2 hI hM' hsx hz rfl rfl rfl⟩)
            exact key hI' (by omega) hn ha q hm u1 (fun _ _ z => absurd z z3) (fun _ _ _ => gg.1) (fun _ _ _ => gg.2) (fun _ z => absurd z (by omega)) (fun _ z => absurd z (by omega)) (fun z => absurd z (by omega)) (fun z => absurd z (by omega))
        · exact key hI' (by omega) hn ha q hm u1 (fun _ z => absurd z (by omega)) (fun _ z => absurd z (by omega)) (fun _ z => absurd z (by omega)) (fun _ _ _ va dn an mb ac ae => ⟨rfl, RI_fin2 hI hIN hsN hz rfl rfl rfl⟩) (fun _ _ z => absurd z3 z) (fun z => absurd z (by omega)) (fun z => absurd z (by omega))
        · exact key hI' (by omega) hn ha q hm u1 (fun _ z => absurd z (by omega)) (fun _ z => absurd z (by omega)) (fun _ z => absurd z (by omega)) (fun _ _ z => absurd z z3) (fun _ _ _ va dn an mb ac ae => ⟨rfl, RI_fin2 hI (op_la_I hIN hn (by omega)) (sx_trans hsN (op_la_sx N n a _)) hz rfl rfl (nd_la_a hIN ha hne).symm⟩) (fun z => absurd z (by omega)) (fun z => absurd z (by omega))
        · exact key hI' (by omega) hn ha q hm u1 (fun z => absurd z (by omega)) (fun z => absurd z (by omega)) (fun z => absurd z (by omega)) (fun z => absurd z (by omega)) (fun z => absurd z (by omega)) (fun _ _ va dn an mb ac ae => ⟨rfl, RI_fin2 hI hIN hsN hz rfl rfl rfl⟩) (fun _ z => absurd z3 z)
        · exact key hI' (by omega) hn ha q hm u1 (fun z => absurd z (by omega)) (fun z => absurd z (by omega)) (fun z => absurd z (by omega)) (fun z => absurd z (by omega)) (fun z => absurd z (by omega)) (fun _ z => absurd z z3) (fun _ _ va dn an mb ac ae => ⟨rfl, RI_fin2 hI (op_in_nv ha hn hIN (by omega)) (sx_trans hsN (sx_sg a (op_in_sg N a n))) hz rfl rfl (nd_in_a hIN ha hne).symm⟩)
