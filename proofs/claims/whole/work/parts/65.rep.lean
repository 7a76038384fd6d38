/-! the model's cells, by the registers; the scratch (values, done, answers, members, atC, atE) apart -/
def pe_set (E : PE) (r i : Nat) (v : Int32) : PE := fun r' i' => if r' = r ∧ i' = i then v else E r' i'
theorem pe_reg (E : PE) {r i r' : Nat} {v : Int32} (h : r' ≠ r) : pe_set E r i v r' = E r' := funext fun j => by simp [pe_set, h]
def md_of (M : PM) (E : PE) (va dn an : Nat → Int32) (mb ac ae : Int32) : MmdT := (nI (M 0 0), (fun i => nI (M 1 i)), (fun i => nI (M 2 i)), E 0, E 1, E 2, nI (M 0 1), (fun i => if i < 45 then nI (M 3 i) - 1 else 0), nI (M 0 2), (fun i => nI (M 5 i)), (fun i => nI (M 6 i)), (fun i => nI (M 7 i)), (fun i => nI (M 8 i)), (fun i => nI (M 9 i)), (fun i => nI (M 10 i)), (fun i => nI (M 18 i)), (fun i => nI (M 19 i)), (fun i => nI (M 20 i)), (fun i => nI (M 11 i)), (fun i => nI (M 12 i)), (fun i => nI (M 13 i)), (fun i => nI (M 14 i)), (fun i => nI (M 15 i)), (fun i => nI (M 16 i)), (fun i => nI (M 17 i) - 1), va, dn, an, mb, ac, ae)
theorem rd_requests (M : PM) (E : PE) (va dn an : Nat → Int32) (mb ac ae : Int32) : mmd_requests (md_of M E va dn an mb ac ae) = nI (M 0 0) := rfl
theorem rd_kindOf (M : PM) (E : PE) (va dn an : Nat → Int32) (mb ac ae : Int32) : mmd_kindOf (md_of M E va dn an mb ac ae) = (fun i => nI (M 1 i)) := rfl
theorem rd_keyOf (M : PM) (E : PE) (va dn an : Nat → Int32) (mb ac ae : Int32) : mmd_keyOf (md_of M E va dn an mb ac ae) = (fun i => nI (M 2 i)) := rfl
theorem rd_numberOf (M : PM) (E : PE) (va dn an : Nat → Int32) (mb ac ae : Int32) : mmd_numberOf (md_of M E va dn an mb ac ae) = E 0 := rfl
theorem rd_heardOf (M : PM) (E : PE) (va dn an : Nat → Int32) (mb ac ae : Int32) : mmd_heardOf (md_of M E va dn an mb ac ae) = E 1 := rfl
theorem rd_replyOf (M : PM) (E : PE) (va dn an : Nat → Int32) (mb ac ae : Int32) : mmd_replyOf (md_of M E va dn an mb ac ae) = E 2 := rfl
theorem rd_router (M : PM) (E : PE) (va dn an : Nat → Int32) (mb ac ae : Int32) : mmd_router (md_of M E va dn an mb ac ae) = nI (M 0 1) := rfl
theorem rd_decided (M : PM) (E : PE) (va dn an : Nat → Int32) (mb ac ae : Int32) : mmd_decided (md_of M E va dn an mb ac ae) = (fun i => if i < 45 then nI (M 3 i) - 1 else 0) := rfl
theorem rd_up (M : PM) (E : PE) (va dn an : Nat → Int32) (mb ac ae : Int32) : mmd_up (md_of M E va dn an mb ac ae) = nI (M 0 2) := rfl
theorem rd_configuration (M : PM) (E : PE) (va dn an : Nat → Int32) (mb ac ae : Int32) : mmd_configuration (md_of M E va dn an mb ac ae) = (fun i => nI (M 5 i)) := rfl
theorem rd_executed (M : PM) (E : PE) (va dn an : Nat → Int32) (mb ac ae : Int32) : mmd_executed (md_of M E va dn an mb ac ae) = (fun i => nI (M 6 i)) := rfl
theorem rd_known (M : PM) (E : PE) (va dn an : Nat → Int32) (mb ac ae : Int32) : mmd_known (md_of M E va dn an mb ac ae) = (fun i => nI (M 7 i)) := rfl
theorem rd_last (M : PM) (E : PE) (va dn an : Nat → Int32) (mb ac ae : Int32) : mmd_last (md_of M E va dn an mb ac ae) = (fun i => nI (M 8 i)) := rfl
theorem rd_retired (M : PM) (E : PE) (va dn an : Nat → Int32) (mb ac ae : Int32) : mmd_retired (md_of M E va dn an mb ac ae) = (fun i => nI (M 9 i)) := rfl
theorem rd_pending (M : PM) (E : PE) (va dn an : Nat → Int32) (mb ac ae : Int32) : mmd_pending (md_of M E va dn an mb ac ae) = (fun i => nI (M 10 i)) := rfl
theorem rd_promised (M : PM) (E : PE) (va dn an : Nat → Int32) (mb ac ae : Int32) : mmd_promised (md_of M E va dn an mb ac ae) = (fun i => nI (M 18 i)) := rfl
theorem rd_voteBallot (M : PM) (E : PE) (va dn an : Nat → Int32) (mb ac ae : Int32) : mmd_voteBallot (md_of M E va dn an mb ac ae) = (fun i => nI (M 19 i)) := rfl
theorem rd_voteCommand (M : PM) (E : PE) (va dn an : Nat → Int32) (mb ac ae : Int32) : mmd_voteCommand (md_of M E va dn an mb ac ae) = (fun i => nI (M 20 i)) := rfl
theorem rd_slot (M : PM) (E : PE) (va dn an : Nat → Int32) (mb ac ae : Int32) : mmd_slot (md_of M E va dn an mb ac ae) = (fun i => nI (M 11 i)) := rfl
theorem rd_ballot (M : PM) (E : PE) (va dn an : Nat → Int32) (mb ac ae : Int32) : mmd_ballot (md_of M E va dn an mb ac ae) = (fun i => nI (M 12 i)) := rfl
theorem rd_promisers (M : PM) (E : PE) (va dn an : Nat → Int32) (mb ac ae : Int32) : mmd_promisers (md_of M E va dn an mb ac ae) = (fun i => nI (M 13 i)) := rfl
theorem rd_voters (M : PM) (E : PE) (va dn an : Nat → Int32) (mb ac ae : Int32) : mmd_voters (md_of M E va dn an mb ac ae) = (fun i => nI (M 14 i)) := rfl
theorem rd_bestBallot (M : PM) (E : PE) (va dn an : Nat → Int32) (mb ac ae : Int32) : mmd_bestBallot (md_of M E va dn an mb ac ae) = (fun i => nI (M 15 i)) := rfl
theorem rd_bestCommand (M : PM) (E : PE) (va dn an : Nat → Int32) (mb ac ae : Int32) : mmd_bestCommand (md_of M E va dn an mb ac ae) = (fun i => nI (M 16 i)) := rfl
theorem rd_command (M : PM) (E : PE) (va dn an : Nat → Int32) (mb ac ae : Int32) : mmd_command (md_of M E va dn an mb ac ae) = (fun i => nI (M 17 i) - 1) := rfl
theorem rd_values (M : PM) (E : PE) (va dn an : Nat → Int32) (mb ac ae : Int32) : mmd_values (md_of M E va dn an mb ac ae) = va := rfl
theorem rd_done (M : PM) (E : PE) (va dn an : Nat → Int32) (mb ac ae : Int32) : mmd_done (md_of M E va dn an mb ac ae) = dn := rfl
theorem rd_answers (M : PM) (E : PE) (va dn an : Nat → Int32) (mb ac ae : Int32) : mmd_answers (md_of M E va dn an mb ac ae) = an := rfl
theorem rd_members (M : PM) (E : PE) (va dn an : Nat → Int32) (mb ac ae : Int32) : mmd_members (md_of M E va dn an mb ac ae) = mb := rfl
theorem rd_atC (M : PM) (E : PE) (va dn an : Nat → Int32) (mb ac ae : Int32) : mmd_atC (md_of M E va dn an mb ac ae) = ac := rfl
theorem rd_atE (M : PM) (E : PE) (va dn an : Nat → Int32) (mb ac ae : Int32) : mmd_atE (md_of M E va dn an mb ac ae) = ae := rfl
theorem ms_values (M : PM) (E : PE) (va dn an : Nat → Int32) (mb ac ae : Int32) (v : Nat → Int32) : mmd_s_values (md_of M E va dn an mb ac ae) v = md_of M E v dn an mb ac ae := rfl
theorem ms_done (M : PM) (E : PE) (va dn an : Nat → Int32) (mb ac ae : Int32) (v : Nat → Int32) : mmd_s_done (md_of M E va dn an mb ac ae) v = md_of M E va v an mb ac ae := rfl
theorem ms_answers (M : PM) (E : PE) (va dn an : Nat → Int32) (mb ac ae : Int32) (v : Nat → Int32) : mmd_s_answers (md_of M E va dn an mb ac ae) v = md_of M E va dn v mb ac ae := rfl
theorem ms_members (M : PM) (E : PE) (va dn an : Nat → Int32) (mb ac ae : Int32) (v : Int32) : mmd_s_members (md_of M E va dn an mb ac ae) v = md_of M E va dn an v ac ae := rfl
theorem ms_atC (M : PM) (E : PE) (va dn an : Nat → Int32) (mb ac ae : Int32) (v : Int32) : mmd_s_atC (md_of M E va dn an mb ac ae) v = md_of M E va dn an mb v ae := rfl
theorem ms_atE (M : PM) (E : PE) (va dn an : Nat → Int32) (mb ac ae : Int32) (v : Int32) : mmd_s_atE (md_of M E va dn an mb ac ae) v = md_of M E va dn an mb ac v := rfl
theorem up_set (M : PM) (r k v : Nat) : upd (fun i => nI (M r i)) k (nI v) = fun i => nI (ps_set M r k v r i) := by
  funext j
  by_cases h : j = k
  · subst h; rw [ps_eq]; simp [upd]
  · rw [ps_nei M h]; simp [upd, h]
theorem ms_kindOf (M : PM) (E : PE) (va dn an : Nat → Int32) (mb ac ae : Int32) (k v : Nat) : mmd_s_kindOf (md_of M E va dn an mb ac ae) (upd (fun i => nI (M 1 i)) k (nI v)) = md_of (ps_set M 1 k v) E va dn an mb ac ae := by
  have h : ∀ r, r ≠ 1 → ps_set M 1 k v r = M r := fun r hr => ps_reg M hr
  unfold md_of
  rw [up_set, h 0 (by decide), h 2 (by decide), h 3 (by decide), h 5 (by decide), h 6 (by decide), h 7 (by decide), h 8 (by decide), h 9 (by decide), h 10 (by decide), h 11 (by decide), h 12 (by decide), h 13 (by decide), h 14 (by decide), h 15 (by decide), h 16 (by decide), h 17 (by decide), h 18 (by decide), h 19 (by decide), h 20 (by decide)]
  rfl
theorem ms_keyOf (M : PM) (E : PE) (va dn an : Nat → Int32) (mb ac ae : Int32) (k v : Nat) : mmd_s_keyOf (md_of M E va dn an mb ac ae) (upd (fun i => nI (M 2 i)) k (nI v)) = md_of (ps_set M 2 k v) E va dn an mb ac ae := by
  have h : ∀ r, r ≠ 2 → ps_set M 2 k v r = M r := fun r hr => ps_reg M hr
  unfold md_of
  rw [up_set, h 0 (by decide), h 1 (by decide), h 3 (by decide), h 5 (by decide), h 6 (by decide), h 7 (by decide), h 8 (by decide), h 9 (by decide), h 10 (by decide), h 11 (by decide), h 12 (by decide), h 13 (by decide), h 14 (by decide), h 15 (by decide), h 16 (by decide), h 17 (by decide), h 18 (by decide), h 19 (by decide), h 20 (by decide)]
  rfl
theorem ms_configuration (M : PM) (E : PE) (va dn an : Nat → Int32) (mb ac ae : Int32) (k v : Nat) : mmd_s_configuration (md_of M E va dn an mb ac ae) (upd (fun i => nI (M 5 i)) k (nI v)) = md_of (ps_set M 5 k v) E va dn an mb ac ae := by
  have h : ∀ r, r ≠ 5 → ps_set M 5 k v r = M r := fun r hr => ps_reg M hr
  unfold md_of
  rw [up_set, h 0 (by decide), h 1 (by decide), h 2 (by decide), h 3 (by decide), h 6 (by decide), h 7 (by decide), h 8 (by decide), h 9 (by decide), h 10 (by decide), h 11 (by decide), h 12 (by decide), h 13 (by decide), h 14 (by decide), h 15 (by decide), h 16 (by decide), h 17 (by decide), h 18 (by decide), h 19 (by decide), h 20 (by decide)]
  rfl
theorem ms_executed (M : PM) (E : PE) (va dn an : Nat → Int32) (mb ac ae : Int32) (k v : Nat) : mmd_s_executed (md_of M E va dn an mb ac ae) (upd (fun i => nI (M 6 i)) k (nI v)) = md_of (ps_set M 6 k v) E va dn an mb ac ae := by
  have h : ∀ r, r ≠ 6 → ps_set M 6 k v r = M r := fun r hr => ps_reg M hr
  unfold md_of
  rw [up_set, h 0 (by decide), h 1 (by decide), h 2 (by decide), h 3 (by decide), h 5 (by decide), h 7 (by decide), h 8 (by decide), h 9 (by decide), h 10 (by decide), h 11 (by decide), h 12 (by decide), h 13 (by decide), h 14 (by decide), h 15 (by decide), h 16 (by decide), h 17 (by decide), h 18 (by decide), h 19 (by decide), h 20 (by decide)]
  rfl
theorem ms_known (M : PM) (E : PE) (va dn an : Nat → Int32) (mb ac ae : Int32) (k v : Nat) : mmd_s_known (md_of M E va dn an mb ac ae) (upd (fun i => nI (M 7 i)) k (nI v)) = md_of (ps_set M 7 k v) E va dn an mb ac ae := by
  have h : ∀ r, r ≠ 7 → ps_set M 7 k v r = M r := fun r hr => ps_reg M hr
  unfold md_of
  rw [up_set, h 0 (by decide), h 1 (by decide), h 2 (by decide), h 3 (by decide), h 5 (by decide), h 6 (by decide), h 8 (by decide), h 9 (by decide), h 10 (by decide), h 11 (by decide), h 12 (by decide), h 13 (by decide), h 14 (by decide), h 15 (by decide), h 16 (by decide), h 17 (by decide), h 18 (by decide), h 19 (by decide), h 20 (by decide)]
  rfl
theorem ms_last (M : PM) (E : PE) (va dn an : Nat → Int32) (mb ac ae : Int32) (k v : Nat) : mmd_s_last (md_of M E va dn an mb ac ae) (upd (fun i => nI (M 8 i)) k (nI v)) = md_of (ps_set M 8 k v) E va dn an mb ac ae := by
  have h : ∀ r, r ≠ 8 → ps_set M 8 k v r = M r := fun r hr => ps_reg M hr
  unfold md_of
  rw [up_set, h 0 (by decide), h 1 (by decide), h 2 (by decide), h 3 (by decide), h 5 (by decide), h 6 (by decide), h 7 (by decide), h 9 (by decide), h 10 (by decide), h 11 (by decide), h 12 (by decide), h 13 (by decide), h 14 (by decide), h 15 (by decide), h 16 (by decide), h 17 (by decide), h 18 (by decide), h 19 (by decide), h 20 (by decide)]
  rfl
theorem ms_retired (M : PM) (E : PE) (va dn an : Nat → Int32) (mb ac ae : Int32) (k v : Nat) : mmd_s_retired (md_of M E va dn an mb ac ae) (upd (fun i => nI (M 9 i)) k (nI v)) = md_of (ps_set M 9 k v) E va dn an mb ac ae := by
  have h : ∀ r, r ≠ 9 → ps_set M 9 k v r = M r := fun r hr => ps_reg M hr
  unfold md_of
  rw [up_set, h 0 (by decide), h 1 (by decide), h 2 (by decide), h 3 (by decide), h 5 (by decide), h 6 (by decide), h 7 (by decide), h 8 (by decide), h 10 (by decide), h 11 (by decide), h 12 (by decide), h 13 (by decide), h 14 (by decide), h 15 (by decide), h 16 (by decide), h 17 (by decide), h 18 (by decide), h 19 (by decide), h 20 (by decide)]
  rfl
theorem ms_pending (M : PM) (E : PE) (va dn an : Nat → Int32) (mb ac ae : Int32) (k v : Nat) : mmd_s_pending (md_of M E va dn an mb ac ae) (upd (fun i => nI (M 10 i)) k (nI v)) = md_of (ps_set M 10 k v) E va dn an mb ac ae := by
  have h : ∀ r, r ≠ 10 → ps_set M 10 k v r = M r := fun r hr => ps_reg M hr
  unfold md_of
  rw [up_set, h 0 (by decide), h 1 (by decide), h 2 (by decide), h 3 (by decide), h 5 (by decide), h 6 (by decide), h 7 (by decide), h 8 (by decide), h 9 (by decide), h 11 (by decide), h 12 (by decide), h 13 (by decide), h 14 (by decide), h 15 (by decide), h 16 (by decide), h 17 (by decide), h 18 (by decide), h 19 (by decide), h 20 (by decide)]
  rfl
theorem ms_slot (M : PM) (E : PE) (va dn an : Nat → Int32) (mb ac ae : Int32) (k v : Nat) : mmd_s_slot (md_of M E va dn an mb ac ae) (upd (fun i => nI (M 11 i)) k (nI v)) = md_of (ps_set M 11 k v) E va dn an mb ac ae := by
  have h : ∀ r, r ≠ 11 → ps_set M 11 k v r = M r := fun r hr => ps_reg M hr
  unfold md_of
  rw [up_set, h 0 (by decide), h 1 (by decide), h 2 (by decide), h 3 (by decide), h 5 (by decide), h 6 (by decide), h 7 (by decide), h 8 (by decide), h 9 (by decide), h 10 (by decide), h 12 (by decide), h 13 (by decide), h 14 (by decide), h 15 (by decide), h 16 (by decide), h 17 (by decide), h 18 (by decide), h 19 (by decide), h 20 (by decide)]
  rfl
theorem ms_ballot (M : PM) (E : PE) (va dn an : Nat → Int32) (mb ac ae : Int32) (k v : Nat) : mmd_s_ballot (md_of M E va dn an mb ac ae) (upd (fun i => nI (M 12 i)) k (nI v)) = md_of (ps_set M 12 k v) E va dn an mb ac ae := by
  have h : ∀ r, r ≠ 12 → ps_set M 12 k v r = M r := fun r hr => ps_reg M hr
  unfold md_of
  rw [up_set, h 0 (by decide), h 1 (by decide), h 2 (by decide), h 3 (by decide), h 5 (by decide), h 6 (by decide), h 7 (by decide), h 8 (by decide), h 9 (by decide), h 10 (by decide), h 11 (by decide), h 13 (by decide), h 14 (by decide), h 15 (by decide), h 16 (by decide), h 17 (by decide), h 18 (by decide), h 19 (by decide), h 20 (by decide)]
  rfl
theorem ms_promisers (M : PM) (E : PE) (va dn an : Nat → Int32) (mb ac ae : Int32) (k v : Nat) : mmd_s_promisers (md_of M E va dn an mb ac ae) (upd (fun i => nI (M 13 i)) k (nI v)) = md_of (ps_set M 13 k v) E va dn an mb ac ae := by
  have h : ∀ r, r ≠ 13 → ps_set M 13 k v r = M r := fun r hr => ps_reg M hr
  unfold md_of
  rw [up_set, h 0 (by decide), h 1 (by decide), h 2 (by decide), h 3 (by decide), h 5 (by decide), h 6 (by decide), h 7 (by decide), h 8 (by decide), h 9 (by decide), h 10 (by decide), h 11 (by decide), h 12 (by decide), h 14 (by decide), h 15 (by decide), h 16 (by decide), h 17 (by decide), h 18 (by decide), h 19 (by decide), h 20 (by decide)]
  rfl
theorem ms_voters (M : PM) (E : PE) (va dn an : Nat → Int32) (mb ac ae : Int32) (k v : Nat) : mmd_s_voters (md_of M E va dn an mb ac ae) (upd (fun i => nI (M 14 i)) k (nI v)) = md_of (ps_set M 14 k v) E va dn an mb ac ae := by
  have h : ∀ r, r ≠ 14 → ps_set M 14 k v r = M r := fun r hr => ps_reg M hr
  unfold md_of
  rw [up_set, h 0 (by decide), h 1 (by decide), h 2 (by decide), h 3 (by decide), h 5 (by decide), h 6 (by decide), h 7 (by decide), h 8 (by decide), h 9 (by decide), h 10 (by decide), h 11 (by decide), h 12 (by decide), h 13 (by decide), h 15 (by decide), h 16 (by decide), h 17 (by decide), h 18 (by decide), h 19 (by decide), h 20 (by decide)]
  rfl
theorem ms_bestBallot (M : PM) (E : PE) (va dn an : Nat → Int32) (mb ac ae : Int32) (k v : Nat) : mmd_s_bestBallot (md_of M E va dn an mb ac ae) (upd (fun i => nI (M 15 i)) k (nI v)) = md_of (ps_set M 15 k v) E va dn an mb ac ae := by
  have h : ∀ r, r ≠ 15 → ps_set M 15 k v r = M r := fun r hr => ps_reg M hr
  unfold md_of
  rw [up_set, h 0 (by decide), h 1 (by decide), h 2 (by decide), h 3 (by decide), h 5 (by decide), h 6 (by decide), h 7 (by decide), h 8 (by decide), h 9 (by decide), h 10 (by decide), h 11 (by decide), h 12 (by decide), h 13 (by decide), h 14 (by decide), h 16 (by decide), h 17 (by decide), h 18 (by decide), h 19 (by decide), h 20 (by decide)]
  rfl
theorem ms_bestCommand (M : PM) (E : PE) (va dn an : Nat → Int32) (mb ac ae : Int32) (k v : Nat) : mmd_s_bestCommand (md_of M E va dn an mb ac ae) (upd (fun i => nI (M 16 i)) k (nI v)) = md_of (ps_set M 16 k v) E va dn an mb ac ae := by
  have h : ∀ r, r ≠ 16 → ps_set M 16 k v r = M r := fun r hr => ps_reg M hr
  unfold md_of
  rw [up_set, h 0 (by decide), h 1 (by decide), h 2 (by decide), h 3 (by decide), h 5 (by decide), h 6 (by decide), h 7 (by decide), h 8 (by decide), h 9 (by decide), h 10 (by decide), h 11 (by decide), h 12 (by decide), h 13 (by decide), h 14 (by decide), h 15 (by decide), h 17 (by decide), h 18 (by decide), h 19 (by decide), h 20 (by decide)]
  rfl
theorem ms_promised (M : PM) (E : PE) (va dn an : Nat → Int32) (mb ac ae : Int32) (k v : Nat) : mmd_s_promised (md_of M E va dn an mb ac ae) (upd (fun i => nI (M 18 i)) k (nI v)) = md_of (ps_set M 18 k v) E va dn an mb ac ae := by
  have h : ∀ r, r ≠ 18 → ps_set M 18 k v r = M r := fun r hr => ps_reg M hr
  unfold md_of
  rw [up_set, h 0 (by decide), h 1 (by decide), h 2 (by decide), h 3 (by decide), h 5 (by decide), h 6 (by decide), h 7 (by decide), h 8 (by decide), h 9 (by decide), h 10 (by decide), h 11 (by decide), h 12 (by decide), h 13 (by decide), h 14 (by decide), h 15 (by decide), h 16 (by decide), h 17 (by decide), h 19 (by decide), h 20 (by decide)]
  rfl
theorem ms_voteBallot (M : PM) (E : PE) (va dn an : Nat → Int32) (mb ac ae : Int32) (k v : Nat) : mmd_s_voteBallot (md_of M E va dn an mb ac ae) (upd (fun i => nI (M 19 i)) k (nI v)) = md_of (ps_set M 19 k v) E va dn an mb ac ae := by
  have h : ∀ r, r ≠ 19 → ps_set M 19 k v r = M r := fun r hr => ps_reg M hr
  unfold md_of
  rw [up_set, h 0 (by decide), h 1 (by decide), h 2 (by decide), h 3 (by decide), h 5 (by decide), h 6 (by decide), h 7 (by decide), h 8 (by decide), h 9 (by decide), h 10 (by decide), h 11 (by decide), h 12 (by decide), h 13 (by decide), h 14 (by decide), h 15 (by decide), h 16 (by decide), h 17 (by decide), h 18 (by decide), h 20 (by decide)]
  rfl
theorem ms_voteCommand (M : PM) (E : PE) (va dn an : Nat → Int32) (mb ac ae : Int32) (k v : Nat) : mmd_s_voteCommand (md_of M E va dn an mb ac ae) (upd (fun i => nI (M 20 i)) k (nI v)) = md_of (ps_set M 20 k v) E va dn an mb ac ae := by
  have h : ∀ r, r ≠ 20 → ps_set M 20 k v r = M r := fun r hr => ps_reg M hr
  unfold md_of
  rw [up_set, h 0 (by decide), h 1 (by decide), h 2 (by decide), h 3 (by decide), h 5 (by decide), h 6 (by decide), h 7 (by decide), h 8 (by decide), h 9 (by decide), h 10 (by decide), h 11 (by decide), h 12 (by decide), h 13 (by decide), h 14 (by decide), h 15 (by decide), h 16 (by decide), h 17 (by decide), h 18 (by decide), h 19 (by decide)]
  rfl
theorem ms_requests (M : PM) (E : PE) (va dn an : Nat → Int32) (mb ac ae : Int32) (v : Nat) : mmd_s_requests (md_of M E va dn an mb ac ae) (nI v) = md_of (ps_set M 0 0 v) E va dn an mb ac ae := by
  have h : ∀ r, r ≠ 0 → ps_set M 0 0 v r = M r := fun r hr => ps_reg M hr
  unfold md_of
  rw [h 1 (by decide), h 2 (by decide), h 3 (by decide), h 5 (by decide), h 6 (by decide), h 7 (by decide), h 8 (by decide), h 9 (by decide), h 10 (by decide), h 11 (by decide), h 12 (by decide), h 13 (by decide), h 14 (by decide), h 15 (by decide), h 16 (by decide), h 17 (by decide), h 18 (by decide), h 19 (by decide), h 20 (by decide), ps_eq]
  rw [ps_nei (i' := 1) M (by decide), ps_nei (i' := 2) M (by decide)]
  rfl
theorem ms_router (M : PM) (E : PE) (va dn an : Nat → Int32) (mb ac ae : Int32) (v : Nat) : mmd_s_router (md_of M E va dn an mb ac ae) (nI v) = md_of (ps_set M 0 1 v) E va dn an mb ac ae := by
  have h : ∀ r, r ≠ 0 → ps_set M 0 1 v r = M r := fun r hr => ps_reg M hr
  unfold md_of
  rw [h 1 (by decide), h 2 (by decide), h 3 (by decide), h 5 (by decide), h 6 (by decide), h 7 (by decide), h 8 (by decide), h 9 (by decide), h 10 (by decide), h 11 (by decide), h 12 (by decide), h 13 (by decide), h 14 (by decide), h 15 (by decide), h 16 (by decide), h 17 (by decide), h 18 (by decide), h 19 (by decide), h 20 (by decide), ps_eq]
  rw [ps_nei (i' := 0) M (by decide), ps_nei (i' := 2) M (by decide)]
  rfl
theorem ms_up (M : PM) (E : PE) (va dn an : Nat → Int32) (mb ac ae : Int32) (v : Nat) : mmd_s_up (md_of M E va dn an mb ac ae) (nI v) = md_of (ps_set M 0 2 v) E va dn an mb ac ae := by
  have h : ∀ r, r ≠ 0 → ps_set M 0 2 v r = M r := fun r hr => ps_reg M hr
  unfold md_of
  rw [h 1 (by decide), h 2 (by decide), h 3 (by decide), h 5 (by decide), h 6 (by decide), h 7 (by decide), h 8 (by decide), h 9 (by decide), h 10 (by decide), h 11 (by decide), h 12 (by decide), h 13 (by decide), h 14 (by decide), h 15 (by decide), h 16 (by decide), h 17 (by decide), h 18 (by decide), h 19 (by decide), h 20 (by decide), ps_eq]
  rw [ps_nei (i' := 0) M (by decide), ps_nei (i' := 1) M (by decide)]
  rfl
theorem ms_decided (M : PM) (E : PE) (va dn an : Nat → Int32) (mb ac ae : Int32) (k v : Nat) (hk : k < 45) : mmd_s_decided (md_of M E va dn an mb ac ae) (upd (fun i => if i < 45 then nI (M 3 i) - 1 else 0) k (nI v - 1)) = md_of (ps_set M 3 k v) E va dn an mb ac ae := by
  have h : ∀ r, r ≠ 3 → ps_set M 3 k v r = M r := fun r hr => ps_reg M hr
  have e : upd (fun i => if i < 45 then nI (M 3 i) - 1 else 0) k (nI v - 1) = fun i => if i < 45 then nI (ps_set M 3 k v 3 i) - 1 else 0 := by
    funext j
    by_cases hj : j = k
    · subst hj; rw [ps_eq]; simp [upd, hk]
    · rw [ps_nei M hj]; simp [upd, hj]
  unfold md_of
  rw [e, h 0 (by decide), h 1 (by decide), h 2 (by decide), h 5 (by decide), h 6 (by decide), h 7 (by decide), h 8 (by decide), h 9 (by decide), h 10 (by decide), h 11 (by decide), h 12 (by decide), h 13 (by decide), h 14 (by decide), h 15 (by decide), h 16 (by decide), h 17 (by decide), h 18 (by decide), h 19 (by decide), h 20 (by decide)]
  rfl
theorem ms_command (M : PM) (E : PE) (va dn an : Nat → Int32) (mb ac ae : Int32) (k v : Nat) : mmd_s_command (md_of M E va dn an mb ac ae) (upd (fun i => nI (M 17 i) - 1) k (nI v - 1)) = md_of (ps_set M 17 k v) E va dn an mb ac ae := by
  have h : ∀ r, r ≠ 17 → ps_set M 17 k v r = M r := fun r hr => ps_reg M hr
  have e : upd (fun i => nI (M 17 i) - 1) k (nI v - 1) = fun i => nI (ps_set M 17 k v 17 i) - 1 := by
    funext j
    by_cases hj : j = k
    · subst hj; rw [ps_eq]; simp [upd]
    · rw [ps_nei M hj]; simp [upd, hj]
  unfold md_of
  rw [e, h 0 (by decide), h 1 (by decide), h 2 (by decide), h 3 (by decide), h 5 (by decide), h 6 (by decide), h 7 (by decide), h 8 (by decide), h 9 (by decide), h 10 (by decide), h 11 (by decide), h 12 (by decide), h 13 (by decide), h 14 (by decide), h 15 (by decide), h 16 (by decide), h 18 (by decide), h 19 (by decide), h 20 (by decide)]
  rfl
theorem ms_numberOf (M : PM) (E : PE) (va dn an : Nat → Int32) (mb ac ae : Int32) (k : Nat) (v : Int32) : mmd_s_numberOf (md_of M E va dn an mb ac ae) (upd (E 0) k v) = md_of M (pe_set E 0 k v) va dn an mb ac ae := by
  have e : upd (E 0) k v = pe_set E 0 k v 0 := by
    funext j
    by_cases hj : j = k
    · subst hj; simp [upd, pe_set]
    · simp [upd, pe_set, hj]
  unfold md_of
  rw [e, pe_reg E (show (1 : Nat) ≠ 0 by decide), pe_reg E (show (2 : Nat) ≠ 0 by decide)]
  rfl
theorem ms_heardOf (M : PM) (E : PE) (va dn an : Nat → Int32) (mb ac ae : Int32) (k : Nat) (v : Int32) : mmd_s_heardOf (md_of M E va dn an mb ac ae) (upd (E 1) k v) = md_of M (pe_set E 1 k v) va dn an mb ac ae := by
  have e : upd (E 1) k v = pe_set E 1 k v 1 := by
    funext j
    by_cases hj : j = k
    · subst hj; simp [upd, pe_set]
    · simp [upd, pe_set, hj]
  unfold md_of
  rw [e, pe_reg E (show (0 : Nat) ≠ 1 by decide), pe_reg E (show (2 : Nat) ≠ 1 by decide)]
  rfl
theorem ms_replyOf (M : PM) (E : PE) (va dn an : Nat → Int32) (mb ac ae : Int32) (k : Nat) (v : Int32) : mmd_s_replyOf (md_of M E va dn an mb ac ae) (upd (E 2) k v) = md_of M (pe_set E 2 k v) va dn an mb ac ae := by
  have e : upd (E 2) k v = pe_set E 2 k v 2 := by
    funext j
    by_cases hj : j = k
    · subst hj; simp [upd, pe_set]
    · simp [upd, pe_set, hj]
  unfold md_of
  rw [e, pe_reg E (show (0 : Nat) ≠ 2 by decide), pe_reg E (show (1 : Nat) ≠ 2 by decide)]
  rfl
/-! the class's cells, by the registers -/
def st_of (r : RR) : MstT := (nI r.1, nI r.2.2.1, nI r.2.1, r.2.2.2.1, r.2.2.2.2.1, r.2.2.2.2.2)
def bk_of (M : PM) (E : PE) : MbkT := ((fun q => nI (M 1 q)), (fun q => nI (M 2 q)), E 0, nI (M 0 0))
def lg_of (M : PM) (n : Nat) : MlgT := ((fun i => if i < 40 then nI (M 18 (45 * n + 9 * (i / 8) + i % 8 + 1)) else 0), (fun i => if i < 40 then nI (M 19 (45 * n + 9 * (i / 8) + i % 8 + 1)) else 0), (fun i => if i < 40 then nI (M 20 (45 * n + 9 * (i / 8) + i % 8 + 1)) else 0))
def at_of (M : PM) (n : Nat) : MatT := if M 11 n = 0 then at0 else (nI (M 11 n), nI (M 12 n), nI (M 13 n), nI (M 14 n), nI (M 15 n), nI (M 16 n), nI (M 17 n) - 1)
def kn_of (M : PM) (n : Nat) : Nat → Int32 := fun s => if s < 9 then (if (M 7 n).testBit s = true then nI (M 3 (9 * M 5 n + s)) - 1 else -1) else 0
def up_of (M : PM) (n : Nat) : Int32 := if (M 0 2).testBit n = true then 1 else 0
def nd_of (M : PM) (E : PE) (n : Nat) : MndT := (nI n, up_of M n, st_of (rr_nd M E n), lg_of M n, nI (M 8 n), nI (M 9 n), kn_of M n, nI (M 10 n), at_of M n)
def ch_of (M : PM) (E : PE) : MchT := (bk_of M E, E 2, E 1, nI (M 0 1))
/-! the invariant -/
/-- the requests -/
def nv_1 (M : PM) (E : PE) : Prop := M 0 0 ≤ 30 ∧ M 0 1 ≤ 4 ∧ M 0 2 < 64 ∧ ∀ q, 1 ≤ q → q ≤ M 0 0 → M 1 q ≤ 3 ∧ M 2 q ≤ 3 ∧ (M 1 q = 3 → ∃ v, v < 64 ∧ E 0 q = nI v)
/-- what is decided is a request or none -/
def nv_2 (M : PM) : Prop := ∀ k, M 3 k ≤ M 0 0 + 1
/-- a node: its place lies on the path; what it knows is decided; its attempt -/
def nv_n (M : PM) (E : PE) (n : Nat) : Prop := (∃ j, rr_ok M E j ∧ (rr_pth M E j).1 = M 5 n ∧ (rr_pth M E j).2.1 = M 6 n) ∧ M 9 n ≤ M 5 n ∧ M 10 n ≤ M 0 0 ∧ M 7 n < 512 ∧ (∀ s, (M 7 n).testBit s = true → M 6 n < s ∧ s ≤ 8 ∧ M 3 (9 * M 5 n + s) ≠ 0) ∧ M 11 n ≤ 8 ∧ (M 11 n ≠ 0 → M 6 n < M 11 n ∧ (M 7 n).testBit (M 11 n) = false) ∧ M 13 n < 64 ∧ M 14 n < 64 ∧ M 16 n ≤ M 0 0 ∧ M 17 n ≤ M 0 0 + 1
def nv_3 (M : PM) (E : PE) : Prop := ∀ n, n < 6 → nv_n M E n
/-- the ballots are small -/
def nv_4 (M : PM) (t : Nat) : Prop := (∀ n, n < 6 → M 8 n ≤ 6 * t + 12 ∧ M 12 n ≤ 6 * t + 12 ∧ M 15 n ≤ 6 * t + 12) ∧ ∀ i, M 18 i ≤ 6 * t + 12 ∧ M 19 i ≤ 6 * t + 12 ∧ M 20 i ≤ M 0 0
/-- no vote, no command -/
def nv_5 (M : PM) : Prop := (∀ i, M 19 i = 0 → M 20 i = 0) ∧ ∀ i, i % 9 = 0 → M 19 i = 0
def nv_I (M : PM) (E : PE) (t : Nat) : Prop := nv_1 M E ∧ nv_2 M ∧ nv_3 M E ∧ nv_4 M t ∧ nv_5 M ∧ px_I M E
def RI : RIT := fun t zc zn zm => ∃ (M : PM) (E : PE) (va dn an : Nat → Int32) (mb ac ae : Int32), nv_I M E t ∧ zc = ch_of M E ∧ (∀ n, n < 6 → zn n = nd_of M E n) ∧ zm = md_of M E va dn an mb ac ae
