/-! the model's replay -/
def md_v (r : RR) (va : Nat → Int32) : Nat → Int32 := fun k => if k < 4 then r.2.2.2.1 k else va k
def md_d (r : RR) (dn : Nat → Int32) : Nat → Int32 := fun i => if i < 31 then (if dn_b r.2.2.2.2.1 i = true then 1 else 0) else dn i
def md_a (r : RR) (an : Nat → Int32) : Nat → Int32 := fun i => if i < 31 then r.2.2.2.2.2 i else an i
def md_r (M : PM) (E : PE) (r : RR) (va dn an : Nat → Int32) : MmdT := md_of M E (md_v r va) (md_d r dn) (md_a r an) (nI r.2.2.1) (nI r.1) (nI r.2.1)
theorem md_v_up {c e m c' e' m' : Nat} {vs : Nat → Int32} {D D' : Int32} {as as' : Nat → Int32} {va : Nat → Int32} {k : Nat} {x : Int32} (hk : k < 4) : upd (md_v (c, e, m, vs, D, as) va) k x = md_v (c', e', m', upd vs k x, D', as') va := by
  funext j
  unfold md_v upd
  by_cases h : j = k
  · subst h; simp [hk]
  · simp [h]
theorem md_a_up {c e m c' e' m' : Nat} {vs vs' : Nat → Int32} {D D' : Int32} {as : Nat → Int32} {an : Nat → Int32} {k : Nat} {x : Int32} (hk : k < 31) : upd (md_a (c, e, m, vs, D, as) an) k x = md_a (c', e', m', vs', D', upd as k x) an := by
  funext j
  unfold md_a upd
  by_cases h : j = k
  · subst h; simp [hk]
  · simp [h]
theorem md_d_up {c e m c' e' m' : Nat} {vs vs' : Nat → Int32} {D : Int32} {as as' : Nat → Int32} {dn : Nat → Int32} {q : Nat} (hq : q < 31) : upd (md_d (c, e, m, vs, D, as) dn) q (vp_nar .boolean 1) = md_d (c', e', m', vs', dn_s D q, as') dn := by
  funext j
  show (if j = q then vp_nar .boolean 1 else (if j < 31 then (if dn_b D j = true then 1 else 0) else dn j)) = (if j < 31 then (if dn_b (dn_s D q) j = true then 1 else 0) else dn j)
  by_cases h : j = q
  · subst h
    rw [if_pos rfl, if_pos hq, dn_set D j j (by omega) (by omega)]
    simp
    rfl
  · rw [if_neg h]
    by_cases h2 : j < 31
    · rw [if_pos h2, if_pos h2, dn_set D q j (by omega) (by omega)]
      simp [h]
    · rw [if_neg h2, if_neg h2]
theorem upd_id {f : Nat → Int32} {k : Nat} : upd f k (f k) = f := by
  funext j
  unfold upd
  by_cases h : j = k
  · subst h; simp
  · simp [h]
theorem c4_iff {c : Nat} (h : c ≤ 4) : nI c = 4 ↔ c = 4 := nI_eq (b := 4) (by omega) (by decide)
theorem p_mexec {M : PM} {E : PE} {r : RR} {va dn an : Nat → Int32} {q : Nat} {post : MmdT → Prop} (h1 : nv_1 M E) (hq : q ≤ M 0 0) (hc : r.1 ≤ 4) (h : post (md_r M E (rr_step M E r q) va dn an)) : wp_Md_execute (md_r M E r va dn an) (nI q) post := by
  obtain ⟨c, e, m, vs, D, as⟩ := r
  have hq31 : q < 31 := by have := h1.1; omega
  have hqN : (nI q).toNatClampNeg = q := nI_clamp (by omega)
  intro w1 e1
  have e1' : w1 = md_of M E (md_v (c, e, m, vs, D, as) va) (md_d (c, e, m, vs, D, as) dn) (md_a (c, e, m, vs, D, as) an) (nI m) (nI c) (nI (e + 1)) := by
    rw [e1, ← nI_1]; rfl
  subst e1'
  by_cases hq0 : q = 0
  · subst hq0
    exact ⟨fun _ => h, fun hn => absurd (show nI 0 < (1 : Int32) by decide) hn⟩
  · have hq1 : 1 ≤ q := by omega
    have hin : vp_in (nI q) 31 := vp_in_nI hq31 (by decide)
    refine ⟨fun h => absurd h (nI_nlt (b := 1) hq1 (by omega)), fun _ => ⟨hin, ?_⟩⟩
    obtain ⟨k1, k2, k3⟩ := h1.2.2.2 q hq1 hq
    have hdn : mmd_done (md_of M E (md_v (c, e, m, vs, D, as) va) (md_d (c, e, m, vs, D, as) dn) (md_a (c, e, m, vs, D, as) an) (nI m) (nI c) (nI (e + 1))) (nI q).toNatClampNeg = if dn_b D q = true then 1 else 0 := by
      rw [hqN]
      show (if q < 31 then (if dn_b D q = true then 1 else 0) else dn q) = _
      rw [if_pos hq31]
    rw [hdn]
    by_cases hd : dn_b D q = true
    · rw [if_pos hd]
      refine ⟨fun h => absurd h (by decide), fun _ => ?_⟩
      have hs : rr_step M E (c, e, m, vs, D, as) q = (c, e + 1, m, vs, D, as) := by
        unfold rr_step; rw [if_pos (Or.inr hd)]
      rw [hs] at h
      exact h
    · rw [if_neg hd]
      unfold rr_step at h
      rw [if_neg (fun z => z.elim hq0 hd)] at h
      refine ⟨fun _ => ⟨hin, fun v4 e4 => ⟨hin, fun v5 e5 => ?_⟩⟩, fun h => absurd rfl h⟩
      have e4' : v4 = nI (M 2 q) := by rw [e4, hqN]; rfl
      have e5' : v5 = E 0 q := by rw [e5, hqN]; rfl
      subst e4'; subst e5'
      have hkN : (nI (M 2 q)).toNatClampNeg = M 2 q := nI_clamp (by omega)
      refine ⟨vp_in_nI (by omega) (by decide), fun v6 e6 => ⟨hin, fun w7 e7 => ⟨hin, ?_⟩⟩⟩
      have e6' : v6 = vs (M 2 q) := by
        rw [e6, hkN]
        show (if M 2 q < 4 then vs (M 2 q) else va (M 2 q)) = _
        rw [if_pos (by omega)]
      subst e6'
      have e7' : w7 = md_of M E (md_v (c, e, m, vs, D, as) va) (md_d (c, e, m, vs, dn_s D q, as) dn) (md_a (c, e, m, vs, D, as) an) (nI m) (nI c) (nI (e + 1)) := by
        rw [e7, hqN, ← md_d_up (c := c) (e := e) (m := m) (vs := vs) (as := as) hq31]; rfl
      subst e7'
      have hkd : mmd_kindOf (md_of M E (md_v (c, e, m, vs, D, as) va) (md_d (c, e, m, vs, dn_s D q, as) dn) (md_a (c, e, m, vs, D, as) an) (nI m) (nI c) (nI (e + 1))) (nI q).toNatClampNeg = nI (M 1 q) := by rw [hqN]; rfl
      rw [hkd]
      refine ⟨fun hk3 => ?_, fun hk3 => ?_⟩
      · have hk3' : M 1 q = 3 := (nI_eq (b := 3) (by omega) (by decide)).mp hk3
        rw [if_pos hk3'] at h
        by_cases hc4 : c = 4
        · subst hc4
          rw [if_pos rfl] at h
          refine ⟨fun _ => ⟨hin, fun w e => ?_⟩, fun z => absurd rfl z⟩
          subst e
          refine ⟨fun _ w e => ?_, fun z => absurd rfl z⟩
          subst e
          refine ⟨fun _ w e => ?_, fun z => absurd rfl z⟩
          subst e
          refine ⟨fun _ w e => ?_, fun z => absurd rfl z⟩
          subst e
          show post (md_of M E (md_v (4, e, m, vs, D, as) va) (md_d (4, e, m, vs, dn_s D q, as) dn) (upd (md_a (4, e, m, vs, D, as) an) (nI q).toNatClampNeg (-1)) (nI m) 4 (nI (e + 1)))
          rw [hqN, md_a_up (c' := 4) (e' := e + 1) (m' := m) (vs' := vs) (D' := dn_s D q) hq31]
          exact h
        · rw [if_neg hc4] at h
          have hcn : ¬ nI c = 4 := fun z => hc4 ((c4_iff hc).mp z)
          obtain ⟨v, hv64, hv⟩ := k3 hk3'
          refine ⟨fun z => absurd z hcn, fun _ => ⟨hin, fun w e => ?_⟩⟩
          subst e
          refine ⟨fun z => absurd z hcn, fun _ w e => ?_⟩
          subst e
          refine ⟨fun z => absurd z hcn, fun _ w e => ?_⟩
          subst e
          refine ⟨fun z => absurd z hcn, fun _ w e => ?_⟩
          subst e
          show post (md_of M E (md_v (c, e, m, vs, D, as) va) (md_d (c, e, m, vs, dn_s D q, as) dn) (upd (md_a (c, e, m, vs, D, as) an) (nI q).toNatClampNeg (nI c + 1)) (E 0 q) (nI c + 1) 0)
          rw [hqN, nI_1, md_a_up (c' := c + 1) (e' := 0) (m' := v) (vs' := vs) (D' := dn_s D q) hq31, hv]
          rw [hv, nI_clamp (by omega)] at h
          exact h
      · have hk3' : ¬ M 1 q = 3 := fun z => hk3 (by rw [z]; rfl)
        rw [if_neg hk3'] at h
        have hv4 : vp_in (nI (M 2 q)) 4 := vp_in_nI (by omega) (by decide)
        have n2 : ∀ {z : Int32}, M 1 q ≠ 2 → z = nI (M 1 (nI q).toNatClampNeg) → z = 2 → False := by
          intro z hne hz h2
          rw [hqN] at hz
          rw [hz] at h2
          exact hne ((nI_eq (b := 2) (by omega) (by decide)).mp h2)
        refine ⟨hin, fun hk0 => ?_, fun hk0 => ⟨hin, fun hk1 => ?_, fun hk1 => ?_⟩⟩
        · have hk0' : M 1 q = 0 := (nI_eq (b := 0) (by omega) (by decide)).mp hk0
          rw [if_pos hk0'] at h
          refine ⟨hv4, fun w e => ⟨hin, ?_⟩⟩
          subst e
          refine ⟨fun z => absurd z (fun z => n2 (by omega) rfl z), fun _ => ⟨hin, fun w e => ?_⟩⟩
          subst e
          show post (md_of M E (upd (md_v (c, e, m, vs, D, as) va) (nI (M 2 q)).toNatClampNeg (vs (M 2 q))) (md_d (c, e, m, vs, dn_s D q, as) dn) (upd (md_a (c, e, m, vs, D, as) an) (nI q).toNatClampNeg (vs (M 2 q))) (nI m) (nI c) (nI (e + 1)))
          rw [hqN, hkN, md_v_up (c' := c) (e' := e + 1) (m' := m) (D' := dn_s D q) (as' := upd as q (vs (M 2 q))) (by omega), md_a_up (c' := c) (e' := e + 1) (m' := m) (vs' := vs) (D' := dn_s D q) hq31, upd_id]
          exact h
        · have hk1' : M 1 q = 1 := (nI_eq (b := 1) (by omega) (by decide)).mp hk1
          rw [if_neg (by omega), if_pos hk1'] at h
          refine ⟨hv4, fun w e => ⟨hin, ?_⟩⟩
          subst e
          refine ⟨fun z => absurd z (fun z => n2 (by omega) rfl z), fun _ => ⟨hin, fun w e => ?_⟩⟩
          subst e
          show post (md_of M E (upd (md_v (c, e, m, vs, D, as) va) (nI (M 2 q)).toNatClampNeg (E 0 q)) (md_d (c, e, m, vs, dn_s D q, as) dn) (upd (md_a (c, e, m, vs, D, as) an) (nI q).toNatClampNeg (vs (M 2 q))) (nI m) (nI c) (nI (e + 1)))
          rw [hqN, hkN, md_v_up (c' := c) (e' := e + 1) (m' := m) (D' := dn_s D q) (as' := upd as q (vs (M 2 q))) (by omega), md_a_up (c' := c) (e' := e + 1) (m' := m) (vs' := upd vs (M 2 q) (E 0 q)) (D' := dn_s D q) hq31]
          exact h
        · have hk0' : ¬ M 1 q = 0 := fun z => hk0 (by rw [z]; rfl)
          have hk1' : ¬ M 1 q = 1 := fun z => hk1 (by rw [z]; rfl)
          rw [if_neg hk0', if_neg hk1'] at h
          refine ⟨hv4, fun w e => ⟨hin, ?_⟩⟩
          subst e
          have e2 : nI (M 1 (nI q).toNatClampNeg) = 2 := by rw [hqN, show M 1 q = 2 by omega]; rfl
          refine ⟨fun _ => ⟨hv4, hin, fun w e => ?_⟩, fun z => absurd e2 z⟩
          subst e
          show post (md_of M E (upd (md_v (c, e, m, vs, D, as) va) (nI (M 2 q)).toNatClampNeg (vs (M 2 q) + E 0 q)) (md_d (c, e, m, vs, dn_s D q, as) dn) (upd (md_a (c, e, m, vs, D, as) an) (nI q).toNatClampNeg (upd (md_v (c, e, m, vs, D, as) va) (nI (M 2 q)).toNatClampNeg (vs (M 2 q) + E 0 q) (nI (M 2 q)).toNatClampNeg)) (nI m) (nI c) (nI (e + 1)))
          rw [hqN, hkN, pk_us, md_v_up (c' := c) (e' := e + 1) (m' := m) (D' := dn_s D q) (as' := upd as q (vs (M 2 q) + E 0 q)) (by omega), md_a_up (c' := c) (e' := e + 1) (m' := m) (vs' := upd vs (M 2 q) (vs (M 2 q) + E 0 q)) (D' := dn_s D q) hq31]
          exact h
/-! the three loops of replay -/
theorem p_rep2 {M : PM} {E : PE} {va dn an : Nat → Int32} {mb ac ae y1 y2 : Int32} {K : Int32 → Int32 → Int32 → MmdT → Prop} (h : K y1 y2 4 (md_of M E (fun k => if k < 4 then 0 else va k) dn an mb ac ae)) : ∀ d k : Nat, k + d = 4 → wp_Md_replay_L2 K (d + 1) y1 y2 (nI k) (md_of M E (fun j => if j < k then 0 else va j) dn an mb ac ae)
  | 0, k, e => by
    have e4 : k = 4 := by omega
    subst e4
    exact ⟨fun _ => h, fun hn => absurd (show (4 : Int32) ≤ nI 4 by decide) hn⟩
  | d + 1, k, e => by
    have hk : k < 4 := by omega
    refine ⟨fun h4 => absurd h4 (nI_ge (a := k) (b := 4) hk (by decide)), fun _ => ⟨vp_in_nI hk (by decide), fun w ew v hv => ?_⟩⟩
    have hv2 : v = nI (k + 1) := by rw [hv]; exact (nI_succ k).symm
    subst hv2
    have ew2 : w = md_of M E (fun j => if j < k + 1 then 0 else va j) dn an mb ac ae := by
      rw [ew]
      show md_of M E (upd (fun j => if j < k then 0 else va j) (nI k).toNatClampNeg 0) dn an mb ac ae = _
      congr 1
      funext j
      rw [nI_clamp (by omega)]
      unfold upd
      by_cases h1 : j = k
      · subst h1; simp
      · by_cases h2 : j < k
        · simp [h1, h2, show j < k + 1 by omega]
        · simp [h1, h2, show ¬ j < k + 1 by omega]
    subst ew2
    exact p_rep2 h d (k + 1) (by omega)
theorem p_rep22 {M : PM} {E : PE} {va dn an : Nat → Int32} {mb ac ae y1 y2 : Int32} {K : Int32 → Int32 → Int32 → MmdT → Prop} (h : K y1 y2 31 (md_of M E va (fun k => if k < 31 then 0 else dn k) (fun k => if k < 31 then 0 else an k) mb ac ae)) : ∀ d k : Nat, k + d = 31 → wp_Md_replay_L22 K (d + 1) y1 y2 (nI k) (md_of M E va (fun j => if j < k then 0 else dn j) (fun j => if j < k then 0 else an j) mb ac ae)
  | 0, k, e => by
    have e4 : k = 31 := by omega
    subst e4
    exact ⟨fun _ => h, fun hn => absurd (show (31 : Int32) ≤ nI 31 by decide) hn⟩
  | d + 1, k, e => by
    have hk : k < 31 := by omega
    have hf : ∀ f : Nat → Int32, upd (fun j => if j < k then 0 else f j) (nI k).toNatClampNeg 0 = fun j => if j < k + 1 then 0 else f j := by
      intro f
      funext j
      rw [nI_clamp (by omega)]
      unfold upd
      by_cases h1 : j = k
      · subst h1; simp
      · by_cases h2 : j < k
        · simp [h1, h2, show j < k + 1 by omega]
        · simp [h1, h2, show ¬ j < k + 1 by omega]
    refine ⟨fun h4 => absurd h4 (nI_ge (a := k) (b := 31) hk (by decide)), fun _ => ⟨vp_in_nI hk (by decide), fun w ew => ⟨vp_in_nI hk (by decide), fun w2 ew2 v hv => ?_⟩⟩⟩
    have hv2 : v = nI (k + 1) := by rw [hv]; exact (nI_succ k).symm
    subst hv2
    have e3 : w2 = md_of M E va (fun j => if j < k + 1 then 0 else dn j) (fun j => if j < k + 1 then 0 else an j) mb ac ae := by
      rw [ew2, ew]
      show md_of M E va (upd (fun j => if j < k then 0 else dn j) (nI k).toNatClampNeg 0) (upd (fun j => if j < k then 0 else an j) (nI k).toNatClampNeg 0) mb ac ae = _
      rw [hf, hf]
    subst e3
    exact p_rep22 h d (k + 1) (by omega)
