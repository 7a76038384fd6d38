/-! retire -/
theorem mx_promised {M : PM} {E : PE} {va dn an : Nat → Int32} {mb ac ae : Int32} {k : Nat} (v : Nat) (hk : k < 270) : mmd_s_promised (md_of M E va dn an mb ac ae) (upd (mmd_promised (md_of M E va dn an mb ac ae)) (nI k).toNatClampNeg (nI v)) = md_of (ps_set M 18 k v) E va dn an mb ac ae := by
  rw [nI_clamp (by omega)]; exact ms_promised M E va dn an mb ac ae k v
theorem mx_voteBallot {M : PM} {E : PE} {va dn an : Nat → Int32} {mb ac ae : Int32} {k : Nat} (v : Nat) (hk : k < 270) : mmd_s_voteBallot (md_of M E va dn an mb ac ae) (upd (mmd_voteBallot (md_of M E va dn an mb ac ae)) (nI k).toNatClampNeg (nI v)) = md_of (ps_set M 19 k v) E va dn an mb ac ae := by
  rw [nI_clamp (by omega)]; exact ms_voteBallot M E va dn an mb ac ae k v
theorem mx_voteCommand {M : PM} {E : PE} {va dn an : Nat → Int32} {mb ac ae : Int32} {k : Nat} (v : Nat) (hk : k < 270) : mmd_s_voteCommand (md_of M E va dn an mb ac ae) (upd (mmd_voteCommand (md_of M E va dn an mb ac ae)) (nI k).toNatClampNeg (nI v)) = md_of (ps_set M 20 k v) E va dn an mb ac ae := by
  rw [nI_clamp (by omega)]; exact ms_voteCommand M E va dn an mb ac ae k v
def ps_rm (M : PM) (n m : Nat) : PM := fun r i => if (r = 18 ∨ r = 19 ∨ r = 20) ∧ 45 * n ≤ i ∧ i < 45 * n + m then 0 else M r i
theorem ps_rm_0 (M : PM) (n : Nat) : ps_rm M n 0 = M := by
  funext r i
  unfold ps_rm
  rw [if_neg (by omega)]
theorem ps_rm_r (M : PM) (n m : Nat) {r : Nat} (h18 : r ≠ 18) (h19 : r ≠ 19) (h20 : r ≠ 20) : ps_rm M n m r = M r := funext fun i => by simp [ps_rm, *]
theorem ps_rm_s (M : PM) (n m : Nat) : ps_set (ps_set (ps_set (ps_rm M n m) 19 (45 * n + m) 0) 20 (45 * n + m) 0) 18 (45 * n + m) 0 = ps_rm M n (m + 1) := by
  funext r i
  unfold ps_set ps_rm
  by_cases hi : i = 45 * n + m
  · subst hi
    by_cases h18 : r = 18
    · subst h18; simp
    · by_cases h19 : r = 19
      · subst h19; simp
      · by_cases h20 : r = 20
        · subst h20; simp
        · simp [h18, h19, h20]
  · have : (i < 45 * n + (m + 1)) = (i < 45 * n + m) := by
      apply propext; omega
    simp [hi, this]
def cv (M : PM) (n : Nat) : Nat → Nat
  | 0 => 0
  | m + 1 => cv M n m + (if M 19 (45 * n + m) = 0 then 0 else 1)
def cc (M : PM) (n : Nat) : Nat → Nat
  | 0 => 0
  | i + 1 => cc M n i + (if M 19 (45 * n + 9 * (i / 8) + i % 8 + 1) = 0 then 0 else 1)
theorem cc_s {M : PM} {n : Nat} (c j : Nat) (hj : j < 8) : cc M n (8 * c + (j + 1)) = cc M n (8 * c + j) + (if M 19 (45 * n + (9 * c + j + 1)) = 0 then 0 else 1) := by
  show cc M n (8 * c + j) + (if M 19 (45 * n + 9 * ((8 * c + j) / 8) + (8 * c + j) % 8 + 1) = 0 then 0 else 1) = _
  rw [show 45 * n + 9 * ((8 * c + j) / 8) + (8 * c + j) % 8 + 1 = 45 * n + (9 * c + j + 1) by omega]
theorem cv_cc {M : PM} {n : Nat} (h5 : ∀ i, i % 9 = 0 → M 19 i = 0) : ∀ c : Nat, cc M n (8 * c) = cv M n (9 * c)
  | 0 => rfl
  | c + 1 => by
    have ih := cv_cc (n := n) h5 c
    have key : ∀ j, j ≤ 8 → cc M n (8 * c + j) = cv M n (9 * c + 1 + j) := by
      intro j
      induction j with
      | zero =>
        intro _
        show cc M n (8 * c) = cv M n (9 * c) + (if M 19 (45 * n + 9 * c) = 0 then 0 else 1)
        rw [h5 _ (by omega), ih]; rfl
      | succ j ihj =>
        intro hj
        rw [cc_s c j (by omega), ihj (by omega)]
        show _ = cv M n (9 * c + 1 + j) + (if M 19 (45 * n + (9 * c + 1 + j)) = 0 then 0 else 1)
        rw [show 9 * c + j + 1 = 9 * c + 1 + j by omega]
    have := key 8 (by omega)
    rw [show 8 * (c + 1) = 8 * c + 8 by omega, show 9 * (c + 1) = 9 * c + 1 + 8 by omega]
    exact this
theorem p_re41 {M : PM} {E : PE} {va dn an : Nat → Int32} {mb ac ae : Int32} {n c : Nat} (hn : n < 6) (hc : M 5 n = c) (hc4 : c ≤ 4) (hb : ∀ i, M 19 i < 2 ^ 30) {K : Int32 → Int32 → Int32 → MmdT → Prop} (h : ∀ y3, K (nI n) (nI (cv M n (9 * c))) y3 (md_of (ps_rm M n (9 * c)) E va dn an mb ac ae)) : ∀ d k : Nat, k + d = 9 * c → wp_Md_retire_L41 K (d + 1) (nI n) (nI (cv M n k)) (nI (45 * n + k)) (md_of (ps_rm M n k) E va dn an mb ac ae)
  | 0, k, e => by
    have ek : k = 9 * c := by omega
    subst ek
    have e5 : mmd_configuration (md_of (ps_rm M n (9 * c)) E va dn an mb ac ae) (nI n).toNatClampNeg = nI c := by
      rw [rd_configuration, ps_rm_r M n _ (by decide) (by decide) (by decide)]
      show nI (M 5 (nI n).toNatClampNeg) = _
      rw [rdN M 5 hn, hc]
    unfold wp_Md_retire_L41
    rw [e5, show (45 : Int32) = nI 45 from rfl, show (9 : Int32) = nI 9 from rfl, pk_mul, pk_mul, nI_add]
    exact ⟨vp_in_nI hn (by decide), fun _ => h _, fun z => absurd (Int32.le_refl _) z⟩
  | d + 1, k, e => by
    have e5 : mmd_configuration (md_of (ps_rm M n k) E va dn an mb ac ae) (nI n).toNatClampNeg = nI c := by
      rw [rd_configuration, ps_rm_r M n _ (by decide) (by decide) (by decide)]
      show nI (M 5 (nI n).toNatClampNeg) = _
      rw [rdN M 5 hn, hc]
    have e19 : mmd_voteBallot (md_of (ps_rm M n k) E va dn an mb ac ae) (nI (45 * n + k)).toNatClampNeg = nI (M 19 (45 * n + k)) := by
      rw [rd_voteBallot, nI_clamp (by omega)]
      show nI (ps_rm M n k 19 (45 * n + k)) = _
      unfold ps_rm
      rw [if_neg (by omega)]
    have hv : vp_in (nI (45 * n + k)) 270 := vp_in_nI (by omega) (by decide)
    have hx : (9 * c) = k + 1 + d := by omega
    have step : ∀ v : Int32, v = nI (cv M n (k + 1)) → ∀ w11 : MmdT, w11 = mmd_s_voteBallot (md_of (ps_rm M n k) E va dn an mb ac ae) (upd (mmd_voteBallot (md_of (ps_rm M n k) E va dn an mb ac ae)) (nI (45 * n + k)).toNatClampNeg (0 : Int32)) → (vp_in (nI (45 * n + k)) 270 ∧ (∀ w12 : MmdT, w12 = mmd_s_voteCommand w11 (upd (mmd_voteCommand w11) (nI (45 * n + k)).toNatClampNeg (0 : Int32)) → (vp_in (nI (45 * n + k)) 270 ∧ (∀ w13 : MmdT, w13 = mmd_s_promised w12 (upd (mmd_promised w12) (nI (45 * n + k)).toNatClampNeg (0 : Int32)) → (∀ v14 : Int32, v14 = (nI (45 * n + k) + (1 : Int32)) → wp_Md_retire_L41 K (d + 1) (nI n) v v14 w13))))) := by
      intro v hvv w11 e11
      rw [← nI_0] at e11
      obtain rfl := e11.trans (mx_voteBallot 0 (by omega))
      refine ⟨hv, fun w12 e12 => ?_⟩
      rw [← nI_0] at e12
      obtain rfl := e12.trans (mx_voteCommand 0 (by omega))
      refine ⟨hv, fun w13 e13 v14 e14 => ?_⟩
      rw [← nI_0] at e13
      obtain rfl := e13.trans (mx_promised 0 (by omega))
      rw [nI_1] at e14
      subst e14; subst hvv
      rw [ps_rm_s]
      exact p_re41 hn hc hc4 hb h d (k + 1) (by omega)
    unfold wp_Md_retire_L41
    rw [e5, e19, show (45 : Int32) = nI 45 from rfl, show (9 : Int32) = nI 9 from rfl, pk_mul, pk_mul, nI_add]
    refine ⟨vp_in_nI hn (by decide), fun z => absurd z (nI_ge (by omega) (by omega)), fun _ => ⟨hv, fun z => ?_, fun z => ?_⟩⟩
    · intro v10 e10
      refine ⟨hv, step v10 ?_⟩
      have h0 : M 19 (45 * n + k) = 0 := by
        rcases Nat.eq_zero_or_pos (M 19 (45 * n + k)) with q | q
        · exact q
        · exact absurd z (nI_nle q (by have := hb (45 * n + k); omega))
      rw [e10]
      show nI (cv M n k) + nI 0 = nI (cv M n k + (if M 19 (45 * n + k) = 0 then 0 else 1))
      rw [if_pos h0, nI_add]
    · intro v15 e15
      refine ⟨hv, step v15 ?_⟩
      have h0 : M 19 (45 * n + k) ≠ 0 := fun q => z (by rw [q]; exact Int32.le_refl _)
      rw [e15]
      show nI (cv M n k) + nI 1 = nI (cv M n k + (if M 19 (45 * n + k) = 0 then 0 else 1))
      rw [if_neg h0, nI_add]
def lz (M : PM) (n i r : Nat) : Nat → Int32 := fun j => if j < 40 then (if j < i then 0 else nI (M r (45 * n + 9 * (j / 8) + j % 8 + 1))) else 0
def lg_z (M : PM) (n i : Nat) : MlgT := (lz M n i 18, lz M n i 19, lz M n i 20)
theorem lz_s {M : PM} {n i r : Nat} (hi : i < 40) : upd (lz M n i r) (nI i).toNatClampNeg 0 = lz M n (i + 1) r := by
  rw [nI_clamp (by omega)]
  funext j
  unfold upd lz
  by_cases h : j = i
  · subst h
    rw [if_pos rfl, if_pos hi, if_pos (by omega)]
  · rw [if_neg h]
    have : (j < i + 1) = (j < i) := by apply propext; omega
    simp only [this]
theorem p_fb {M : PM} {n c : Nat} (hc4 : c ≤ 4) (hb : ∀ i, M 19 i < 2 ^ 30) {K : Int32 → Int32 → Int32 → MlgT → Prop} (h : ∀ y1 y3, K y1 (nI (cc M n (8 * c))) y3 (lg_z M n (8 * c))) : ∀ d k : Nat, k + d = 8 * c → wp_Lg_forgetBelow_L4 K (d + 1) (nI c) (nI (cc M n k)) (nI k) (lg_z M n k)
  | 0, k, e => by
    have ek : k = 8 * c := by omega
    subst ek
    unfold wp_Lg_forgetBelow_L4
    rw [show (8 : Int32) = nI 8 from rfl, pk_mul, Nat.mul_comm c 8]
    exact ⟨fun _ => h _ _, fun z => absurd (Int32.le_refl _) z⟩
  | d + 1, k, e => by
    have hv : vp_in (nI k) 40 := vp_in_nI (by omega) (by decide)
    have e19 : mlg_voteBallots (lg_z M n k) (nI k).toNatClampNeg = nI (M 19 (45 * n + 9 * (k / 8) + k % 8 + 1)) := by
      rw [nI_clamp (by omega)]
      show lz M n k 19 k = _
      unfold lz
      rw [if_pos (by omega), if_neg (by omega)]
    have ez : mlg_s_voteCommands (mlg_s_voteBallots (mlg_s_promisedBallots (lg_z M n k) (upd (mlg_promisedBallots (lg_z M n k)) (nI k).toNatClampNeg (0 : Int32))) (upd (mlg_voteBallots (lg_z M n k)) (nI k).toNatClampNeg (0 : Int32))) (upd (mlg_voteCommands (lg_z M n k)) (nI k).toNatClampNeg (0 : Int32)) = lg_z M n (k + 1) := by
      show (upd (lz M n k 18) (nI k).toNatClampNeg 0, upd (lz M n k 19) (nI k).toNatClampNeg 0, upd (lz M n k 20) (nI k).toNatClampNeg 0) = _
      rw [lz_s (by omega), lz_s (by omega), lz_s (by omega)]
      rfl
    have ih := p_fb hc4 hb h d (k + 1) (by omega)
    unfold wp_Lg_forgetBelow_L4
    rw [e19, ez, show (8 : Int32) = nI 8 from rfl, pk_mul]
    refine ⟨fun z => absurd z (nI_ge (by omega) (by omega)), fun _ => ⟨hv, fun z => ⟨hv, hv, hv, fun v e => ?_⟩, fun z v4 e4 => ⟨hv, hv, hv, fun v e => ?_⟩⟩⟩
    · rw [nI_1] at e
      subst e
      have h0 : M 19 (45 * n + 9 * (k / 8) + k % 8 + 1) = 0 := by
        rw [← nI_0] at z
        exact (nI_eq (by have := hb (45 * n + 9 * (k / 8) + k % 8 + 1); omega) (by decide)).mp z
      have : cc M n (k + 1) = cc M n k := by
        show cc M n k + (if M 19 (45 * n + 9 * (k / 8) + k % 8 + 1) = 0 then 0 else 1) = _
        rw [if_pos h0]; rfl
      rw [this] at ih
      exact ih
    · rw [nI_1] at e e4
      subst e; subst e4
      have h0 : M 19 (45 * n + 9 * (k / 8) + k % 8 + 1) ≠ 0 := fun q => z (by rw [q]; rfl)
      have : cc M n (k + 1) = cc M n k + 1 := by
        show cc M n k + (if M 19 (45 * n + 9 * (k / 8) + k % 8 + 1) = 0 then 0 else 1) = _
        rw [if_neg h0]
      rw [this] at ih
      exact ih
theorem lg_z0 (M : PM) (n : Nat) : lg_z M n 0 = lg_of M n := by
  unfold lg_z lg_of
  simp only [Prod.mk.injEq]
  refine ⟨funext fun j => ?_, funext fun j => ?_, funext fun j => ?_⟩ <;> · unfold lz; simp
theorem lz_ret {M : PM} {n r : Nat} (hr : r = 18 ∨ r = 19 ∨ r = 20) (hc : M 5 n ≤ 4) : lz M n (8 * M 5 n) r = fun i => if i < 40 then nI (ps_ret M n r (45 * n + 9 * (i / 8) + i % 8 + 1)) else 0 := by
  funext j
  unfold lz ps_ret
  by_cases hj : j < 40
  · rw [if_pos hj, if_pos hj]
    have h9 : ¬ (r = 9 ∧ 45 * n + 9 * (j / 8) + j % 8 + 1 = n) := by omega
    rw [if_neg h9]
    by_cases h : j < 8 * M 5 n
    · rw [if_pos h, if_pos ⟨hr, by omega, by omega⟩]; rfl
    · rw [if_neg h, if_neg (by omega)]
  · rw [if_neg hj, if_neg hj]
theorem ps_ret_rm (M : PM) (n : Nat) : ps_set (ps_rm M n (9 * M 5 n)) 9 n (M 5 n) = ps_ret M n := by
  funext r i
  unfold ps_set ps_rm ps_ret
  rfl
theorem st_retire : ls_retire RI := by
  intro t zc zn zm x1 ht ⟨M, E, va, dn, an, mb, ac, ae, hI, hc, hn, hm⟩
  subst hc; subst hm
  rcases dc_n x1 with h1 | ⟨n, hn6, rfl⟩
  · exact ⟨0, by omega, p_node0 h1 (br0 (p_mnode0 h1 (br0 ⟨rfl, RI_same hI rfl (hn 0 (by omega)) hn rfl⟩)))⟩
  · refine ⟨n, hn6, p_node1 (dc_k hn6) (br1 ⟨rfl, ?_⟩)⟩
    rw [hn n hn6]
    have h3 := hI.2.2.1 n hn6
    have hb := nd_mem hI.1 hI.2.1 h3
    have hv : vp_in (nI n) 6 := vp_in_nI hn6 (by decide)
    have hs : RI (t + 1) (ch_of M E) (va_up zn n (nd_of M E n)) (md_of M E va dn an mb ac ae) := RI_same hI rfl rfl hn rfl
    have hu : mnd_up (nd_of M E n) = up_of M n := rfl
    have ee : mst_configuration (mnd_state (nd_of M E n)) = nI (M 5 n) := by
      show nI (rr_nd M E n).1 = _
      rw [hb.2.1]
    have e5 : mmd_configuration (md_of M E va dn an mb ac ae) (nI n).toNatClampNeg = nI (M 5 n) := rdN M 5 hn6
    have e9 : mmd_retired (md_of M E va dn an mb ac ae) (nI n).toNatClampNeg = nI (M 9 n) := rdN M 9 hn6
    have h9 := h3.2.1
    have hM : ∀ P : Int32 → MmdT → Prop, (up_of M n = 0 → P 0 (md_of M E va dn an mb ac ae)) → (up_of M n = 1 → ((nI (M 9 n) = nI (M 5 n) → P 0 (md_of M E va dn an mb ac ae)) ∧ (¬ nI (M 9 n) = nI (M 5 n) → P (nI (cv M n (9 * M 5 n) + 1)) (md_of (ps_ret M n) E va dn an mb ac ae)))) → wp_Md_retire (md_of M E va dn an mb ac ae) (nI n) P := by
      intro P p0 p1
      refine p_mnode1 (dc_k hn6) (br1 (p_isUp hn6 ?_))
      rcases up_cases M n with ⟨u0, ub⟩ | ⟨u1, ub⟩
      · rw [u0]; exact br0 (p0 u0)
      · rw [u1, e5, e9]
        refine br1 ⟨hv, hv, fun z => (p1 u1).1 z, fun z v7 e7 => ?_⟩
        have e7' : v7 = nI (45 * n + 0) := by
          rw [e7, show (45 : Int32) = nI 45 from rfl, pk_mul]; rfl
        subst e7'
        refine ⟨9 * M 5 n + 1, ?_⟩
        have := p_re41 (M := M) (E := E) (va := va) (dn := dn) (an := an) (mb := mb) (ac := ac) (ae := ae) (c := M 5 n) hn6 rfl hb.2.2.2.1 (fun i => by have := hI.2.2.2.1.2 i; omega) (K := fun (y1 : Int32) (y2 : Int32) (y3 : Int32) (z1 : MmdT) => (vp_in y1 6 ∧ (vp_in y1 6 ∧ (∀ w20 : MmdT, w20 = mmd_s_retired z1 (upd (mmd_retired z1) (y1).toNatClampNeg ((mmd_configuration z1) (y1).toNatClampNeg)) → (P (y2 + (1 : Int32)) w20))))) (fun y3 => ⟨hv, hv, fun w e => ?_⟩) (9 * M 5 n) 0 (by omega)
        · rw [ps_rm_0] at this
          exact this
        · have e5' : mmd_configuration (md_of (ps_rm M n (9 * M 5 n)) E va dn an mb ac ae) (nI n).toNatClampNeg = nI (M 5 n) := by
            rw [rd_configuration, ps_rm_r M n _ (by decide) (by decide) (by decide)]
            exact rdN M 5 hn6
          rw [e5'] at e
          obtain rfl := e.trans (mw_retired (M 5 n) hn6)
          rw [ps_ret_rm, nI_1]
          exact (p1 u1).2 z
    intro v3 ev3
    rw [ee] at ev3
    subst ev3
    rw [hu]
    have hr9 : mnd_retired (nd_of M E n) = nI (M 9 n) := rfl
    rw [hr9]
    rcases up_cases M n with ⟨u0, ub⟩ | ⟨u1, ub⟩
    · rw [u0]
      exact br0 (hM _ (fun _ => ⟨rfl, hs⟩) (fun z => absurd (u0.symm.trans z) (by decide)))
    · rw [u1]
      have hno : ∀ {A : Prop}, up_of M n = 0 → A := fun z => absurd (u1.symm.trans z) (by decide)
      refine br1 ⟨fun z => hM _ hno (fun _ => ⟨fun _ => ⟨rfl, hs⟩, fun q => absurd z q⟩), fun z => ⟨8 * M 5 n + 1, ?_⟩⟩
      have hlg : mnd_ledger (nd_of M E n) = lg_z M n 0 := (lg_z0 M n).symm
      rw [hlg]
      refine p_fb (M := M) (n := n) (c := M 5 n) hb.2.2.2.1 (fun i => by have := hI.2.2.2.1.2 i; omega) (fun y1 y3 => ?_) (8 * M 5 n) 0 (by omega)
      refine hM _ hno (fun _ => ⟨fun q => absurd q z, fun _ => ⟨?_, ?_⟩⟩)
      · rw [cv_cc hI.2.2.2.2.1.2, show (1 : Int32) = nI 1 from rfl, nI_add, Nat.add_comm]
      · have g : ∀ r, r ≠ 9 → r ≠ 18 → r ≠ 19 → r ≠ 20 → ps_ret M n r = M r := fun r a b c d => funext fun i => by simp [ps_ret, *]
        have g0 := g 0 (by decide) (by decide) (by decide) (by decide)
        have g1 := g 1 (by decide) (by decide) (by decide) (by decide)
        have g2 := g 2 (by decide) (by decide) (by decide) (by decide)
        have g3 := g 3 (by decide) (by decide) (by decide) (by decide)
        have g5 := g 5 (by decide) (by decide) (by decide) (by decide)
        have g6 := g 6 (by decide) (by decide) (by decide) (by decide)
        have g7 := g 7 (by decide) (by decide) (by decide) (by decide)
        have g8 := g 8 (by decide) (by decide) (by decide) (by decide)
        have g10 := g 10 (by decide) (by decide) (by decide) (by decide)
        have g11 := g 11 (by decide) (by decide) (by decide) (by decide)
        have g12 := g 12 (by decide) (by decide) (by decide) (by decide)
        have g13 := g 13 (by decide) (by decide) (by decide) (by decide)
        have g14 := g 14 (by decide) (by decide) (by decide) (by decide)
        have g15 := g 15 (by decide) (by decide) (by decide) (by decide)
        have g16 := g 16 (by decide) (by decide) (by decide) (by decide)
        have g17 := g 17 (by decide) (by decide) (by decide) (by decide)
        have a9 : ps_ret M n 9 n = M 5 n := by simp [ps_ret]
        have hx := px_ext_of (M' := ps_ret M n) (E' := E) hI rfl (by rw [g0]) g1 g2 g3
        have hss : ∀ i, i ≠ n → ns_at M (ps_ret M n) i := fun i hi r h5 h17 => by
          unfold ps_ret
          rw [if_neg (by omega), if_neg (by omega)]
        have hzero : ∀ r i, ps_ret M n r i = M r i ∨ ps_ret M n r i = 0 ∨ (r = 9 ∧ i = n) := fun r i => by
          unfold ps_ret
          by_cases q : r = 9 ∧ i = n
          · exact Or.inr (Or.inr q)
          · rw [if_neg q]
            by_cases q2 : (r = 18 ∨ r = 19 ∨ r = 20) ∧ 45 * n ≤ i ∧ i < 45 * n + 9 * M 5 n
            · rw [if_pos q2]; exact Or.inr (Or.inl rfl)
            · rw [if_neg q2]; exact Or.inl rfl
        obtain ⟨n1, n2, n3, n4, n5, n6⟩ := id hI
        have hbd : ∀ i, i < 6 → M 5 i ≤ 4 ∧ M 11 i ≤ 8 := fun i hi => ⟨(nd_mem n1 n2 (n3 i hi)).2.2.2.1, (n3 i hi).2.2.2.2.2.1⟩
        have hN : nv_I (ps_ret M n) E (t + 1) := by
          refine ⟨?_, ?_, ?_, ?_, ?_, px_retire n2 hb.2.2.2.1 h9 hbd n6⟩
          · unfold nv_1; rw [g0, g1, g2]; exact n1
          · intro j; rw [g3, g0]; exact n2 j
          · intro i hi
            by_cases e : i = n
            · subst e
              obtain ⟨-, q9, q10, q7, qk, q11, qa, q13, q14, q16, q17⟩ := h3
              unfold nv_n
              rw [a9, g10, g0, g7, g11, g13, g14, g16, g17, g3, g5]
              have hp := nv_path hx (hI.2.2.1 i hn6) (by rw [g5]) (by rw [g6])
              rw [g5] at hp
              rw [g6] at hp ⊢
              exact ⟨hp, Nat.le_refl _, q10, q7, qk, q11, qa, q13, q14, q16, q17⟩
            · exact nv_n_ext hx (hss i e) (n3 i hi)
          · refine ⟨fun i hi => ?_, fun j => ?_⟩
            · have := n4.1 i hi
              rw [g8, g12, g15]; omega
            · have := n4.2 j
              rw [g0]
              rcases hzero 18 j with q | q | q <;> rcases hzero 19 j with q' | q' | q' <;> rcases hzero 20 j with q'' | q'' | q'' <;> omega
          · refine ⟨fun j h => ?_, fun j h => ?_⟩
            · rcases hzero 20 j with q | q | q
              · rw [q]
                rcases Nat.lt_or_ge j (45 * n) with w | w
                · have : ps_ret M n 19 j = M 19 j := by unfold ps_ret; rw [if_neg (by omega), if_neg (by omega)]
                  rw [this] at h; exact n5.1 j h
                · rcases Nat.lt_or_ge j (45 * n + 9 * M 5 n) with w2 | w2
                  · have : ps_ret M n 20 j = 0 := by unfold ps_ret; rw [if_neg (by omega), if_pos ⟨Or.inr (Or.inr rfl), w, w2⟩]
                    rw [← q, this]
                  · have : ps_ret M n 19 j = M 19 j := by unfold ps_ret; rw [if_neg (by omega), if_neg (by omega)]
                    rw [this] at h; exact n5.1 j h
              · exact q
              · omega
            · rcases hzero 19 j with q | q | q
              · rw [q]; exact n5.2 j h
              · exact q
              · omega
        refine RI_up (M := M) (E := E) hN (ch_same (by rw [g0]) (by rw [g0]) g1 g2 rfl).symm ?_ ?_ hn rfl
        · refine nd_mk (M := ps_ret M n) ?_ ?_ ?_ (by rw [g8]; rfl) (by rw [a9]; rfl) ?_ (by rw [g10]; rfl) ?_
          · unfold up_of; rw [g0]; rfl
          · rw [rr_nd_ext hx h3 (by rw [g5]) (by rw [g6])]; rfl
          · unfold lg_z lg_of
            rw [lz_ret (Or.inl rfl) hb.2.2.2.1, lz_ret (Or.inr (Or.inl rfl)) hb.2.2.2.1, lz_ret (Or.inr (Or.inr rfl)) hb.2.2.2.1]
          · unfold kn_of; rw [g7, g5, g3]; rfl
          · unfold at_of; rw [g11, g12, g13, g14, g15, g16, g17]; rfl
        · intro i hi e
          refine nd_ext hx (n3 i hi) (hss i e) (fun j hj1 hj2 => ?_) (by rw [g0])
          have : ∀ r, r = 18 ∨ r = 19 ∨ r = 20 → ps_ret M n r j = M r j := fun r hr => by
            unfold ps_ret
            have := hb.2.2.2.1
            rw [if_neg (by omega), if_neg (by omega)]
          exact ⟨this 18 (by omega), this 19 (by omega), this 20 (by omega)⟩
