def tl_ans (r8 fl : Int32) : Int32 := if r8 = 0 then (if fl = 0 then 3 else 1) else 1
def tl_chk (n : Nat) (y3 y4 y5 : Int32) (P : Int32 → MmdT → Prop) (z1 : MmdT) : Prop := (vp_in (nI n) 6 ∧ ((((mmd_configuration z1) (nI n).toNatClampNeg) = y3 → (vp_in (nI n) 6 ∧ ((((mmd_executed z1) (nI n).toNatClampNeg) = y4 → (vp_in (nI n) 6 ∧ ((((mmd_known z1) (nI n).toNatClampNeg) = y5 → (wp_Md_goOn z1 (nI n) (fun (u47 : MmdT) => (P (3 : Int32) u47)))) ∧ (¬ ((mmd_known z1) (nI n).toNatClampNeg) = y5 → (wp_Md_goOn z1 (nI n) (fun (u50 : MmdT) => (P (1 : Int32) u50))))))) ∧ (¬ ((mmd_executed z1) (nI n).toNatClampNeg) = y4 → (wp_Md_goOn z1 (nI n) (fun (u43 : MmdT) => (P (1 : Int32) u43))))))) ∧ (¬ ((mmd_configuration z1) (nI n).toNatClampNeg) = y3 → (wp_Md_goOn z1 (nI n) (fun (u39 : MmdT) => (P (1 : Int32) u39))))))
theorem st_tell : ls_tell RI := by
  intro t zc zn zm x1 x2 ht ⟨M, E, va, dn, an, mb, ac, ae, hI, hc, hz, hm⟩
  subst hc; subst hm
  rcases dc_n x1 with h1 | ⟨a, ha, rfl⟩
  · exact ⟨0, 1, by omega, by omega, by omega, p_node0 h1 (br0 (p_mnode0 h1 (br0 ⟨rfl, RI_same2 hI rfl (by omega) (by omega) (hz 0 (by omega)) (hz 1 (by omega)) hz rfl⟩)))⟩
  · rcases dc_n x2 with h2 | ⟨n, hn, rfl⟩
    · exact ⟨0, 1, by omega, by omega, by omega, p_node1 (dc_k ha) (br1 (p_node0 h2 (br0 (p_mnode1 (dc_k ha) (br1 (p_mnode0 h2 (br0 ⟨rfl, RI_same2 hI rfl (by omega) (by omega) (hz 0 (by omega)) (hz 1 (by omega)) hz rfl⟩)))))))⟩
    · by_cases hne : a = n
      · subst hne
        exact ⟨0, 1, by omega, by omega, by omega, p_node1 (dc_k ha) (br1 (p_node1 (dc_k ha) (br1 ⟨fun _ => p_mnode1 (dc_k ha) (br1 (p_mnode1 (dc_k ha) (br1 ⟨fun _ => ⟨rfl, RI_same2 hI rfl (by omega) (by omega) (hz 0 (by omega)) (hz 1 (by omega)) hz rfl⟩, fun z => absurd rfl z⟩))), fun z => absurd rfl z⟩)))⟩
      · have hne' : ¬ nI a = nI n := fun z => hne ((nI_eq (by omega) (by omega)).mp z)
        refine ⟨a, n, ha, hn, hne, p_node1 (dc_k ha) (br1 (p_node1 (dc_k hn) (br1 ⟨fun z => absurd z hne', fun _ => ⟨rfl, rfl, ?_⟩⟩)))⟩
        rw [hz a ha, hz n hn]
        have hv : vp_in (nI n) 6 := vp_in_nI hn (by decide)
        have hva : vp_in (nI a) 6 := vp_in_nI ha (by decide)
        have hs : RI (t + 1) (ch_of M E) (va_up (va_up zn a (nd_of M E a)) n (nd_of M E n)) (md_of M E va dn an mb ac ae) := RI_same2 hI rfl ha hn rfl rfl hz rfl
        have hua : mnd_up (nd_of M E a) = up_of M a := rfl
        have hun : mnd_up (nd_of M E n) = up_of M n := rfl
        rw [hua, hun]
        rcases up_cases M a with ⟨u0, -⟩ | ⟨ua, -⟩
        · rw [u0]
          refine br0 (p_mnode1 (dc_k ha) (br1 (p_mnode1 (dc_k hn) (br1 ⟨fun z => absurd z hne', fun _ => p_isUp ha ?_⟩))))
          rw [u0]
          exact br0 ⟨rfl, hs⟩
        rw [ua]
        rcases up_cases M n with ⟨u0, -⟩ | ⟨un, -⟩
        · rw [u0]
          refine br1 (br0 (p_mnode1 (dc_k ha) (br1 (p_mnode1 (dc_k hn) (br1 ⟨fun z => absurd z hne', fun _ => p_isUp ha ?_⟩)))))
          rw [ua]
          refine br1 (p_isUp hn ?_)
          rw [u0]
          exact br0 ⟨rfl, hs⟩
        rw [un]
        refine br1 (br1 ?_)
        have hI' := nv_mono hI
        have b7 : M 7 n < 512 := (hI.2.2.1 n hn).2.2.2.1
        have ba := nd_mem hI.1 hI.2.1 (hI.2.2.1 a ha)
        have bn := nd_mem hI.1 hI.2.1 (hI.2.2.1 n hn)
        -- both branches of the install
        have fin : ∀ (N : PM) (r8 : Int32), gI N E (t + 1) n → sg M N n → (r8 = 0 ∧ ¬ lat M a n ∧ N = M ∨ r8 = 1 ∧ lat M a n ∧ N = op_in M a n) → wp_Nd_learnFrom (nd_of N E n) (nd_of M E a) (fun (r11 : Int32) (u12 : MndT) (u13 : MndT) => (wp_Nd_goOn u12 (bk_of M E) (fun (u15 : MndT) (u16 : MbkT) => ((r8 = (0 : Int32) → ((r11 = (0 : Int32) → wp_Md_tell (md_of M E va dn an mb ac ae) (nI a) (nI n) (fun (r2 : Int32) (zm' : MmdT) => (3 : Int32) = r2 ∧ RI (t + 1) (mch_s_book (ch_of M E) u16) (va_up (va_up zn a u13) n u15) zm')) ∧ (¬ r11 = (0 : Int32) → wp_Md_tell (md_of M E va dn an mb ac ae) (nI a) (nI n) (fun (r2 : Int32) (zm' : MmdT) => (1 : Int32) = r2 ∧ RI (t + 1) (mch_s_book (ch_of M E) u16) (va_up (va_up zn a u13) n u15) zm')))) ∧ (¬ r8 = (0 : Int32) → wp_Md_tell (md_of M E va dn an mb ac ae) (nI a) (nI n) (fun (r2 : Int32) (zm' : MmdT) => (1 : Int32) = r2 ∧ RI (t + 1) (mch_s_book (ch_of M E) u16) (va_up (va_up zn a u13) n u15) zm')))))) := by
          intro N r8 hg hsg hr8
          obtain ⟨N2, fl, hg2, hs2, e5, e6, hfl, hC, hMd⟩ := tl_mid hg hsg hI' hn ha hne
          obtain ⟨M', hI2, hs3, gC, gM⟩ := go_on hn hg2
          have hsM : sg M M' n := sg_trans hsg (sg_trans hs2 hs3)
          have hbk : bk_of N2 E = bk_of M E := sg_bk (sg_trans hsg hs2)
          have hm2 := g_mem hg2
          have b72 := hg2.2.2.2.1.2.2.2.1
          have model : ∀ P : Int32 → MmdT → Prop, (∀ r, r = tl_ans r8 fl → ∀ (va dn an : Nat → Int32) (mb ac ae : Int32), P r (md_of M' E va dn an mb ac ae)) → wp_Md_tell (md_of M E va dn an mb ac ae) (nI a) (nI n) P := by
            intro P hP
            have hgo : ∀ r, r = tl_ans r8 fl → wp_Md_goOn (md_of N2 E va dn an mb ac ae) (nI n) (fun u => P r u) := fun r hr => gM va dn an mb ac ae _ (hP r hr)
            have hA : tl_chk n (nI (M 5 n)) (nI (M 6 n)) (nI (M 7 n)) P (md_of N2 E va dn an mb ac ae) := by
              have r5 : mmd_configuration (md_of N2 E va dn an mb ac ae) (nI n).toNatClampNeg = nI (N 5 n) := by rw [← e5]; exact rdN N2 5 hn
              have r6 : mmd_executed (md_of N2 E va dn an mb ac ae) (nI n).toNatClampNeg = nI (N 6 n) := by rw [← e6]; exact rdN N2 6 hn
              have r7 : mmd_known (md_of N2 E va dn an mb ac ae) (nI n).toNatClampNeg = nI (N2 7 n) := rdN N2 7 hn
              unfold tl_chk
              rw [r5, r6, r7]
              rcases hr8 with ⟨rfl, hnl, rfl⟩ | ⟨rfl, hl, rfl⟩
              · refine ⟨hv, fun _ => ⟨hv, fun _ => ⟨hv, fun z => hgo 3 ?_, fun z => hgo 1 ?_⟩, fun z => absurd rfl z⟩, fun z => absurd rfl z⟩
                · have : N2 7 n = N 7 n := (nI_eq (by omega) (by omega)).mp z
                  rcases hfl with q | q
                  · rw [q.1]; rfl
                  · exact absurd this q.2
                · rcases hfl with q | q
                  · exact absurd (by rw [q.2]) z
                  · rw [q.1]; rfl
              · have i5 : op_in M a n 5 n = M 5 a := by simp [op_in]
                have i6 : op_in M a n 6 n = M 6 a := by simp [op_in]
                rw [i5, i6]
                refine ⟨hv, fun z => ⟨hv, fun z2 => ?_, fun z => hgo 1 rfl⟩, fun z => hgo 1 rfl⟩
                exfalso
                have q1 : M 5 a = M 5 n := (nI_eq (by omega) (by omega)).mp z
                have q2 : M 6 a = M 6 n := (nI_eq (by omega) (by omega)).mp z2
                unfold lat at hl
                omega
            refine p_mnode1 (dc_k ha) (br1 (p_mnode1 (dc_k hn) (br1 ⟨fun z => absurd z hne', fun _ => p_isUp ha ?_⟩)))
            rw [ua]
            refine br1 (p_isUp hn ?_)
            rw [un]
            refine br1 ⟨hv, fun v12 e12 => ⟨hv, fun v13 e13 => ⟨hv, fun v14 e14 => ?_⟩⟩⟩
            have e12' : v12 = nI (M 5 n) := e12.trans (rdN M 5 hn)
            have e13' : v13 = nI (M 6 n) := e13.trans (rdN M 6 hn)
            have e14' : v14 = nI (M 7 n) := e14.trans (rdN M 7 hn)
            subst e12'; subst e13'; subst e14'
            obtain ⟨g1, g2⟩ := hMd va dn an mb ac ae (nI (M 5 n)) (nI (M 6 n)) (nI (M 7 n)) (tl_chk n (nI (M 5 n)) (nI (M 6 n)) (nI (M 7 n)) P) (fun _ => True) hA
            have hmid : vp_in (nI a) 6 ∧ (vp_in (nI n) 6 ∧ ((((mmd_configuration (md_of N E va dn an mb ac ae)) (nI a).toNatClampNeg) = ((mmd_configuration (md_of N E va dn an mb ac ae)) (nI n).toNatClampNeg) → (vp_in (nI n) 6 ∧ (∀ v33 : Int32, v33 = (((mmd_executed (md_of N E va dn an mb ac ae)) (nI n).toNatClampNeg) + (1 : Int32)) → (∃ n94 : Nat, wp_Md_tell_L94 (fun (y1 : Int32) (y2 : Int32) (y3 : Int32) (y4 : Int32) (y5 : Int32) (y6 : Int32) (z1 : MmdT) => (vp_in y2 6 ∧ ((((mmd_configuration z1) (y2).toNatClampNeg) = y3 → (vp_in y2 6 ∧ ((((mmd_executed z1) (y2).toNatClampNeg) = y4 → (vp_in y2 6 ∧ ((((mmd_known z1) (y2).toNatClampNeg) = y5 → (wp_Md_goOn z1 y2 (fun (u47 : MmdT) => (P (3 : Int32) u47)))) ∧ (¬ ((mmd_known z1) (y2).toNatClampNeg) = y5 → (wp_Md_goOn z1 y2 (fun (u50 : MmdT) => (P (1 : Int32) u50))))))) ∧ (¬ ((mmd_executed z1) (y2).toNatClampNeg) = y4 → (wp_Md_goOn z1 y2 (fun (u43 : MmdT) => (P (1 : Int32) u43))))))) ∧ (¬ ((mmd_configuration z1) (y2).toNatClampNeg) = y3 → (wp_Md_goOn z1 y2 (fun (u39 : MmdT) => (P (1 : Int32) u39))))))) n94 (nI a) (nI n) (nI (M 5 n)) (nI (M 6 n)) (nI (M 7 n)) v33 (md_of N E va dn an mb ac ae))))) ∧ (¬ ((mmd_configuration (md_of N E va dn an mb ac ae)) (nI a).toNatClampNeg) = ((mmd_configuration (md_of N E va dn an mb ac ae)) (nI n).toNatClampNeg) → tl_chk n (nI (M 5 n)) (nI (M 6 n)) (nI (M 7 n)) P (md_of N E va dn an mb ac ae)))) := by
              refine ⟨hva, hv, fun z => ⟨hv, fun v ev => ?_⟩, g2⟩
              obtain ⟨f, hf⟩ := (g1 z).2 v ev
              refine ⟨f, tl_mono (fun y1 y2 y3 y4 y5 y6 zz hh => ?_) f _ _ _ _ _ _ _ hf⟩
              obtain ⟨rfl, rfl, rfl, rfl, rfl, hh⟩ := hh
              exact hh
            rcases hr8 with ⟨-, hnl, rfl⟩ | ⟨-, hl, rfl⟩
            · exact p_instM ha hn hI' hne (fun q => absurd q hnl) (fun _ => hmid)
            · exact p_instM ha hn hI' hne (fun _ => hmid) (fun q => absurd hl q)
          have hRI : ∀ (va dn an : Nat → Int32) (mb ac ae : Int32), RI (t + 1) (mch_s_book (ch_of M E) (bk_of M E)) (va_up (va_up zn a (nd_of M E a)) n (nd_of M' E n)) (md_of M' E va dn an mb ac ae) := fun va dn an mb ac ae => RI_up2 (M := M) (E := E) hI2 (sg_ch hsM).symm ha rfl rfl (fun i hi hin => sg_nd hsM hI hi hin) hz rfl
          refine hC _ ?_
          rw [← hbk]
          refine gC _ ?_
          rw [hbk]
          refine ⟨fun z8 => ⟨fun zf => ?_, fun zf => ?_⟩, fun z8 => ?_⟩
          · exact model _ (fun r hr va dn an mb ac ae => ⟨by rw [hr]; unfold tl_ans; rw [if_pos z8, if_pos zf], hRI va dn an mb ac ae⟩)
          · exact model _ (fun r hr va dn an mb ac ae => ⟨by rw [hr]; unfold tl_ans; rw [if_pos z8, if_neg zf], hRI va dn an mb ac ae⟩)
          · exact model _ (fun r hr va dn an mb ac ae => ⟨by rw [hr]; unfold tl_ans; rw [if_neg z8], hRI va dn an mb ac ae⟩)
        refine p_instC ha hn hI' (fun hl => ?_) (fun hl => ?_)
        · have hle : M 5 n ≤ M 5 a := by unfold lat at hl; omega
          exact fin (op_in M a n) 1 (op_in_I ha hn hI' hle).1 (op_in_sg M a n) (Or.inr ⟨rfl, hl, rfl⟩)
        · exact fin M 0 (gI_of hn hI') (sg_refl M n) (Or.inl ⟨rfl, hl, rfl⟩)
