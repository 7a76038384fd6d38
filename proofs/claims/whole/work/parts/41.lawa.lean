/-! the chain's world, one or two nodes ahead -/
def lx_f (cI cN cZ : ClassId) (u : Nat → Nat → Nat) (zn : Nat → MndT) : Nat → va_W := fun k => mndW cI cN cZ (u k) (zn k)
def lx_r1 (cI cN cZ : ClassId) (u : Nat → Nat → Nat) (zn : Nat → MndT) (k : Nat) (wm : va_W) : va_W := ((List.range 6).erase k).flatMap (lx_f cI cN cZ u zn) ++ wm
def lx_r2 (cI cN cZ : ClassId) (u : Nat → Nat → Nat) (zn : Nat → MndT) (k j : Nat) (wm : va_W) : va_W := (((List.range 6).erase k).erase j).flatMap (lx_f cI cN cZ u zn) ++ wm
theorem lx_cong {f g : Nat → va_W} : ∀ {l : List Nat}, (∀ a ∈ l, f a = g a) → l.flatMap f = l.flatMap g
  | [], _ => rfl
  | a :: l, h => by rw [List.flatMap_cons, List.flatMap_cons, h a List.mem_cons_self, lx_cong (fun b hb => h b (List.mem_cons_of_mem _ hb))]
theorem lx_one {f : Nat → va_W} {k : Nat} (hk : k < 6) : ((List.range 6).flatMap f).Perm (f k ++ ((List.range 6).erase k).flatMap f) := by
  have h := (List.perm_cons_erase (List.mem_range.mpr hk)).flatMap_right f
  rw [List.flatMap_cons] at h
  exact h
theorem lx_two {f : Nat → va_W} {k j : Nat} (hk : k < 6) (hj : j < 6) (hkj : k ≠ j) : ((List.range 6).flatMap f).Perm (f k ++ (f j ++ (((List.range 6).erase k).erase j).flatMap f)) := by
  refine (lx_one hk).trans (List.Perm.append_left _ ?_)
  have hm : j ∈ (List.range 6).erase k := (List.mem_erase_of_ne (Ne.symm hkj)).mpr (List.mem_range.mpr hj)
  have h := (List.perm_cons_erase hm).flatMap_right f
  rw [List.flatMap_cons] at h
  exact h
theorem lx_up1 {cI cN cZ : ClassId} {u : Nat → Nat → Nat} {zn : Nat → MndT} {k : Nat} {z : MndT} : ((List.range 6).erase k).flatMap (lx_f cI cN cZ u (va_up zn k z)) = ((List.range 6).erase k).flatMap (lx_f cI cN cZ u zn) := by
  apply lx_cong
  intro a ha
  have := ((List.nodup_range (n := 6)).mem_erase_iff.mp ha).1
  unfold lx_f
  rw [va_up_ne _ _ this]
theorem lx_up2 {cI cN cZ : ClassId} {u : Nat → Nat → Nat} {zn : Nat → MndT} {k j : Nat} {z y : MndT} : (((List.range 6).erase k).erase j).flatMap (lx_f cI cN cZ u (va_up (va_up zn k z) j y)) = (((List.range 6).erase k).erase j).flatMap (lx_f cI cN cZ u zn) := by
  apply lx_cong
  intro a ha
  have h1 := (List.nodup_range (n := 6)).erase k
  have h2 := (h1.mem_erase_iff.mp ha)
  have h3 := ((List.nodup_range (n := 6)).mem_erase_iff.mp h2.2).1
  unfold lx_f
  rw [va_up_ne _ _ h2.1, va_up_ne _ _ h3]
theorem lx_p0 {cI cN cZ : ClassId} {u : Nat → Nat → Nat} {zc : MchT} {zn : Nat → MndT} {wm : va_W} : (chW cI cN cZ u zc zn ++ wm).Perm (mchW cI cN cZ (u 6) (km_g u) zc ++ ((List.range 6).flatMap (lx_f cI cN cZ u zn) ++ wm)) := by
  unfold chW
  rw [List.append_assoc]
  exact List.Perm.refl _
theorem lx_q0 {cI cN cZ : ClassId} {u : Nat → Nat → Nat} {zc : MchT} {zn : Nat → MndT} {wm : va_W} : (((List.range 6).flatMap (lx_f cI cN cZ u zn) ++ wm) ++ mchW cI cN cZ (u 6) (km_g u) zc).Perm (chW cI cN cZ u zc zn ++ wm) :=
  List.perm_append_comm.trans lx_p0.symm
theorem lx_p1 {cI cN cZ : ClassId} {u : Nat → Nat → Nat} {zc : MchT} {zn : Nat → MndT} {wm : va_W} {k : Nat} (hk : k < 6) : (chW cI cN cZ u zc zn ++ wm).Perm ((mchW cI cN cZ (u 6) (km_g u) zc ++ mndW cI cN cZ (u k) (zn k)) ++ lx_r1 cI cN cZ u zn k wm) := by
  refine lx_p0.trans ?_
  unfold lx_r1
  rw [List.append_assoc (mchW cI cN cZ (u 6) (km_g u) zc), ← List.append_assoc (mndW cI cN cZ (u k) (zn k))]
  exact List.Perm.append_left _ (List.Perm.append_right _ (lx_one hk))
theorem lx_q1 {cI cN cZ : ClassId} {u : Nat → Nat → Nat} {zc : MchT} {zn : Nat → MndT} {wm : va_W} {k : Nat} (hk : k < 6) {z : MndT} : (lx_r1 cI cN cZ u zn k wm ++ (mchW cI cN cZ (u 6) (km_g u) zc ++ mndW cI cN cZ (u k) z)).Perm (chW cI cN cZ u zc (va_up zn k z) ++ wm) := by
  have h := (lx_p1 (cI := cI) (cN := cN) (cZ := cZ) (u := u) (zc := zc) (zn := va_up zn k z) (wm := wm) hk).symm
  rw [va_up_self] at h
  have e : lx_r1 cI cN cZ u (va_up zn k z) k wm = lx_r1 cI cN cZ u zn k wm := by unfold lx_r1; rw [lx_up1]
  rw [e] at h
  exact List.perm_append_comm.trans h
theorem lx_p2 {cI cN cZ : ClassId} {u : Nat → Nat → Nat} {zc : MchT} {zn : Nat → MndT} {wm : va_W} {k j : Nat} (hk : k < 6) (hj : j < 6) (hkj : k ≠ j) : (chW cI cN cZ u zc zn ++ wm).Perm ((mchW cI cN cZ (u 6) (km_g u) zc ++ mndW cI cN cZ (u k) (zn k) ++ mndW cI cN cZ (u j) (zn j)) ++ lx_r2 cI cN cZ u zn k j wm) := by
  refine lx_p0.trans ?_
  unfold lx_r2
  have h := List.Perm.append_right wm (lx_two (f := lx_f cI cN cZ u zn) hk hj hkj)
  have h2 := List.Perm.append_left (mchW cI cN cZ (u 6) (km_g u) zc) h
  simp only [List.append_assoc] at h2 ⊢
  exact h2
theorem lx_q2 {cI cN cZ : ClassId} {u : Nat → Nat → Nat} {zc : MchT} {zn : Nat → MndT} {wm : va_W} {k j : Nat} (hk : k < 6) (hj : j < 6) (hkj : k ≠ j) {z y : MndT} : (lx_r2 cI cN cZ u zn k j wm ++ (mchW cI cN cZ (u 6) (km_g u) zc ++ mndW cI cN cZ (u k) z ++ mndW cI cN cZ (u j) y)).Perm (chW cI cN cZ u zc (va_up (va_up zn k z) j y) ++ wm) := by
  have h := (lx_p2 (cI := cI) (cN := cN) (cZ := cZ) (u := u) (zc := zc) (zn := va_up (va_up zn k z) j y) (wm := wm) hk hj hkj).symm
  rw [va_up_self, va_up_ne _ _ hkj, va_up_self] at h
  have e : lx_r2 cI cN cZ u (va_up (va_up zn k z) j y) k j wm = lx_r2 cI cN cZ u zn k j wm := by unfold lx_r2; rw [lx_up2]
  rw [e] at h
  exact List.perm_append_comm.trans h
theorem lx_g {u : Nat → Nat → Nat} {k : Nat} (hk : k < 6) : km_g u k = some (u k 0) := if_pos hk

/-! what the pure part owes of an invariant RI: a step a call -/
abbrev RIT : Type := Nat → MchT → (Nat → MndT) → MmdT → Prop
def ls_ask (RI : RIT) : Prop := ∀ (t : Nat) (zc : MchT) (zn : Nat → MndT) (zm : MmdT) (x1 : Int32) (x2 : Int32) (x3 : Int32), t < 512 → RI t zc zn zm → wp_Ch_ask zc x1 x2 x3 (fun (r1 : Int32) (zc' : MchT) => (wp_Md_ask zm x1 x2 x3 (fun (r2 : Int32) (zm' : MmdT) => r1 = r2 ∧ RI (t + 1) zc' zn zm')))
def ls_route (RI : RIT) : Prop := ∀ (t : Nat) (zc : MchT) (zn : Nat → MndT) (zm : MmdT) (x1 : Int32) (x2 : Int32), t < 512 → RI t zc zn zm → (∃ k : Nat, k < 6 ∧ wp_Ch_route k zc (zn k) x1 x2 (fun (r1 : Int32) (zc' : MchT) (y : MndT) => (wp_Md_route zm x1 x2 (fun (r2 : Int32) (zm' : MmdT) => r1 = r2 ∧ RI (t + 1) zc' (va_up zn k y) zm'))))
def ls_router (RI : RIT) : Prop := ∀ (t : Nat) (zc : MchT) (zn : Nat → MndT) (zm : MmdT), t < 512 → RI t zc zn zm → wp_Ch_router zc  (fun (r1 : Int32) (zc' : MchT) => (wp_Md_router zm  (fun (r2 : Int32) (zm' : MmdT) => r1 = r2 ∧ RI (t + 1) zc' zn zm')))
def ls_start (RI : RIT) : Prop := ∀ (t : Nat) (zc : MchT) (zn : Nat → MndT) (zm : MmdT) (x1 : Int32) (x2 : Int32), t < 512 → RI t zc zn zm → (∃ k : Nat, k < 6 ∧ wp_Ch_start k zc (zn k) x1 x2 (fun (r1 : Int32) (zc' : MchT) (y : MndT) => (wp_Md_start zm x1 x2 (fun (r2 : Int32) (zm' : MmdT) => r1 = r2 ∧ RI (t + 1) zc' (va_up zn k y) zm'))))
def ls_promise (RI : RIT) : Prop := ∀ (t : Nat) (zc : MchT) (zn : Nat → MndT) (zm : MmdT) (x1 : Int32) (x2 : Int32) (x3 : Int32), t < 512 → (x3 = 0 ∨ x3 = 1) → RI t zc zn zm → (∃ k j : Nat, k < 6 ∧ j < 6 ∧ k ≠ j ∧ wp_Ch_promise k j zc (zn k) (zn j) x1 x2 x3 (fun (r1 : Int32) (zc' : MchT) (y w : MndT) => (wp_Md_promise zm x1 x2 x3 (fun (r2 : Int32) (zm' : MmdT) => r1 = r2 ∧ RI (t + 1) zc' (va_up (va_up zn k y) j w) zm')))) ∨ (∃ k : Nat, k < 6 ∧ wp_Ch_promise_al k zc (zn k) x1 x2 x3 (fun (r1 : Int32) (zc' : MchT) (y : MndT) => (wp_Md_promise zm x1 x2 x3 (fun (r2 : Int32) (zm' : MmdT) => r1 = r2 ∧ RI (t + 1) zc' (va_up zn k y) zm'))))
def ls_accept (RI : RIT) : Prop := ∀ (t : Nat) (zc : MchT) (zn : Nat → MndT) (zm : MmdT) (x1 : Int32) (x2 : Int32) (x3 : Int32), t < 512 → (x3 = 0 ∨ x3 = 1) → RI t zc zn zm → (∃ k j : Nat, k < 6 ∧ j < 6 ∧ k ≠ j ∧ wp_Ch_accept k j zc (zn k) (zn j) x1 x2 x3 (fun (r1 : Int32) (zc' : MchT) (y w : MndT) => (wp_Md_accept zm x1 x2 x3 (fun (r2 : Int32) (zm' : MmdT) => r1 = r2 ∧ RI (t + 1) zc' (va_up (va_up zn k y) j w) zm')))) ∨ (∃ k : Nat, k < 6 ∧ wp_Ch_accept_al k zc (zn k) x1 x2 x3 (fun (r1 : Int32) (zc' : MchT) (y : MndT) => (wp_Md_accept zm x1 x2 x3 (fun (r2 : Int32) (zm' : MmdT) => r1 = r2 ∧ RI (t + 1) zc' (va_up zn k y) zm'))))
def ls_tell (RI : RIT) : Prop := ∀ (t : Nat) (zc : MchT) (zn : Nat → MndT) (zm : MmdT) (x1 : Int32) (x2 : Int32), t < 512 → RI t zc zn zm → (∃ k j : Nat, k < 6 ∧ j < 6 ∧ k ≠ j ∧ wp_Ch_tell k j zc (zn k) (zn j) x1 x2 (fun (r1 : Int32) (zc' : MchT) (y w : MndT) => (wp_Md_tell zm x1 x2 (fun (r2 : Int32) (zm' : MmdT) => r1 = r2 ∧ RI (t + 1) zc' (va_up (va_up zn k y) j w) zm'))))
def ls_crash (RI : RIT) : Prop := ∀ (t : Nat) (zc : MchT) (zn : Nat → MndT) (zm : MmdT) (x1 : Int32), t < 512 → RI t zc zn zm → (∃ k : Nat, k < 6 ∧ wp_Ch_crash k zc (zn k) x1 (fun (r1 : Int32) (zc' : MchT) (y : MndT) => (wp_Md_crash zm x1 (fun (r2 : Int32) (zm' : MmdT) => r1 = r2 ∧ RI (t + 1) zc' (va_up zn k y) zm'))))
def ls_restart (RI : RIT) : Prop := ∀ (t : Nat) (zc : MchT) (zn : Nat → MndT) (zm : MmdT) (x1 : Int32), t < 512 → RI t zc zn zm → (∃ k : Nat, k < 6 ∧ wp_Ch_restart k zc (zn k) x1 (fun (r1 : Int32) (zc' : MchT) (y : MndT) => (wp_Md_restart zm x1 (fun (r2 : Int32) (zm' : MmdT) => r1 = r2 ∧ RI (t + 1) zc' (va_up zn k y) zm'))))
def ls_retire (RI : RIT) : Prop := ∀ (t : Nat) (zc : MchT) (zn : Nat → MndT) (zm : MmdT) (x1 : Int32), t < 512 → RI t zc zn zm → (∃ k : Nat, k < 6 ∧ wp_Ch_retire k zc (zn k) x1 (fun (r1 : Int32) (zc' : MchT) (y : MndT) => (wp_Md_retire zm x1 (fun (r2 : Int32) (zm' : MmdT) => r1 = r2 ∧ RI (t + 1) zc' (va_up zn k y) zm'))))
def ls_look (RI : RIT) : Prop := ∀ (t : Nat) (zc : MchT) (zn : Nat → MndT) (zm : MmdT) (x1 : Int32) (x2 : Int32), t < 512 → RI t zc zn zm → (∃ k : Nat, k < 6 ∧ wp_Ch_look k zc (zn k) x1 x2 (fun (r1 : Int32) (zc' : MchT) (y : MndT) => (wp_Md_look zm x1 x2 (fun (r2 : Int32) (zm' : MmdT) => r1 = r2 ∧ RI (t + 1) zc' (va_up zn k y) zm'))))
def ls_value (RI : RIT) : Prop := ∀ (t : Nat) (zc : MchT) (zn : Nat → MndT) (zm : MmdT) (x1 : Int32) (x2 : Int32), t < 512 → RI t zc zn zm → (∃ k : Nat, k < 6 ∧ wp_Ch_value k zc (zn k) x1 x2 (fun (r1 : Int32) (zc' : MchT) (y : MndT) => (wp_Md_value zm x1 x2 (fun (r2 : Int32) (zm' : MmdT) => r1 = r2 ∧ RI (t + 1) zc' (va_up zn k y) zm'))))
def ls_promised (RI : RIT) : Prop := ∀ (t : Nat) (zc : MchT) (zn : Nat → MndT) (zm : MmdT) (x1 : Int32) (x2 : Int32) (x3 : Int32), t < 512 → RI t zc zn zm → (∃ k : Nat, k < 6 ∧ wp_Ch_promised k zc (zn k) x1 x2 x3 (fun (r1 : Int32) (zc' : MchT) (y : MndT) => (wp_Md_promised zm x1 x2 x3 (fun (r2 : Int32) (zm' : MmdT) => r1 = r2 ∧ RI (t + 1) zc' (va_up zn k y) zm'))))
def ls_vote (RI : RIT) : Prop := ∀ (t : Nat) (zc : MchT) (zn : Nat → MndT) (zm : MmdT) (x1 : Int32) (x2 : Int32) (x3 : Int32), t < 512 → RI t zc zn zm → (∃ k : Nat, k < 6 ∧ wp_Ch_vote k zc (zn k) x1 x2 x3 (fun (r1 : Int32) (zc' : MchT) (y : MndT) => (wp_Md_vote zm x1 x2 x3 (fun (r2 : Int32) (zm' : MmdT) => r1 = r2 ∧ RI (t + 1) zc' (va_up zn k y) zm'))))
def ls_known (RI : RIT) : Prop := ∀ (t : Nat) (zc : MchT) (zn : Nat → MndT) (zm : MmdT) (x1 : Int32) (x2 : Int32), t < 512 → RI t zc zn zm → (∃ k : Nat, k < 6 ∧ wp_Ch_known k zc (zn k) x1 x2 (fun (r1 : Int32) (zc' : MchT) (y : MndT) => (wp_Md_known zm x1 x2 (fun (r2 : Int32) (zm' : MmdT) => r1 = r2 ∧ RI (t + 1) zc' (va_up zn k y) zm'))))
def ls_reply (RI : RIT) : Prop := ∀ (t : Nat) (zc : MchT) (zn : Nat → MndT) (zm : MmdT) (x1 : Int32), t < 512 → RI t zc zn zm → wp_Ch_reply zc x1 (fun (r1 : Int32) (zc' : MchT) => (wp_Md_reply zm x1 (fun (r2 : Int32) (zm' : MmdT) => r1 = r2 ∧ RI (t + 1) zc' zn zm')))
def ls_heard (RI : RIT) : Prop := ∀ (t : Nat) (zc : MchT) (zn : Nat → MndT) (zm : MmdT) (x1 : Int32), t < 512 → RI t zc zn zm → wp_Ch_heard zc x1 (fun (r1 : Int32) (zc' : MchT) => (wp_Md_heard zm x1 (fun (r2 : Int32) (zm' : MmdT) => r1 = r2 ∧ RI (t + 1) zc' zn zm')))
def ls_none (RI : RIT) : Prop := ∀ (t : Nat) (zc : MchT) (zn : Nat → MndT) (zm : MmdT), RI t zc zn zm → RI (t + 1) zc zn zm
def ls_init (RI : RIT) : Prop := wp_Md_init (fun zm => RI 0 ch0 (fun k => nd0 (nI k)) zm)
