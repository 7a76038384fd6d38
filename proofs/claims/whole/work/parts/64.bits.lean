/-! bits (the first rows: kit/laws/BITS.to-paste) -/
/-! ===== Int32 by its bits: bt x i ===== -/
def bt (x : Int32) (i : Nat) : Bool := x.toBitVec.getLsbD i
theorem b_ext {x y : Int32} (h : ∀ i, i < 32 → bt x i = bt y i) : x = y := Int32.toBitVec_inj.mp (BitVec.eq_of_getLsbD_eq (fun i hi => h i hi))
theorem b_or (x y : Int32) (i : Nat) : bt (x ||| y) i = (bt x i || bt y i) := by unfold bt; rw [Int32.toBitVec_or, BitVec.getLsbD_or]
theorem b_and (x y : Int32) (i : Nat) : bt (x &&& y) i = (bt x i && bt y i) := by unfold bt; rw [Int32.toBitVec_and, BitVec.getLsbD_and]
theorem b_xor (x y : Int32) (i : Nat) : bt (x ^^^ y) i = (bt x i ^^ bt y i) := by unfold bt; rw [Int32.toBitVec_xor, BitVec.getLsbD_xor]
theorem b_big {x : Int32} {i : Nat} (h : 32 ≤ i) : bt x i = false := BitVec.getLsbD_of_ge _ _ h
theorem b_m1 : ∀ i, i < 32 → bt (-1) i = true := by decide +kernel
theorem b_0 (i : Nat) : bt 0 i = false := BitVec.getLsbD_zero
theorem s_l : ∀ n, n < 32 → ((nI n &&& 31).toBitVec.smod 32).toNat = n := by decide +kernel
theorem s_u : ∀ n, n < 32 → (((nI n).toUInt32 &&& Int32.toUInt32 31).toBitVec % 32).toNat = n := by decide +kernel
theorem b_shl (n : Nat) (hn : n < 32) (x : Int32) {i : Nat} (hi : i < 32) : bt (x <<< (nI n &&& 31)) i = (decide (n ≤ i) && bt x (i - n)) := by
  unfold bt
  rw [Int32.toBitVec_shiftLeft]
  show (x.toBitVec <<< ((nI n &&& 31).toBitVec.smod 32).toNat).getLsbD i = _
  rw [s_l n hn, BitVec.getLsbD_shiftLeft]
  rcases Nat.lt_or_ge i n with h | h
  · simp [h, Nat.not_le.mpr h]
  · simp [hi, h, Nat.not_lt.mpr h]
theorem b_sshr (n : Nat) (hn : n < 32) (x : Int32) {i : Nat} (hi : i < 32) : bt (x >>> (nI n &&& 31)) i = if n + i < 32 then bt x (n + i) else bt x 31 := by
  unfold bt
  rw [Int32.toBitVec_shiftRight]
  show (x.toBitVec.sshiftRight ((nI n &&& 31).toBitVec.smod 32).toNat).getLsbD i = _
  rw [s_l n hn, BitVec.getLsbD_sshiftRight, BitVec.msb_eq_getLsbD_last]
  simp [hi]
theorem nx_and (a b : Nat) : nI a &&& nI b = nI (a &&& b) := by
  apply Int32.toBitVec_inj.1
  show BitVec.ofNat 32 a &&& BitVec.ofNat 32 b = BitVec.ofNat 32 (a &&& b)
  apply BitVec.eq_of_getLsbD_eq
  intro i hi
  simp [hi]
/-! own rows -/
theorem bi_1 : ∀ i, i < 32 → bt 1 i = decide (i = 0) := by decide +kernel
theorem bi_nI (k i : Nat) (hi : i < 32) : bt (nI k) i = k.testBit i := by
  show (BitVec.ofNat 32 k).getLsbD i = k.testBit i
  rw [BitVec.getLsbD_ofNat]
  simp [hi]
/-- one bit of a word -/
theorem bi_bit (x : Int32) (q : Nat) (hq : q < 32) : ((x >>> (nI q &&& 31)) &&& 1) = if bt x q = true then 1 else 0 := by
  apply b_ext
  intro i hi
  rw [b_and, b_sshr q hq x hi, bi_1 i hi]
  by_cases h0 : i = 0
  · subst h0
    rw [if_pos (by omega)]
    simp only [Nat.add_zero, decide_true, Bool.and_true]
    cases bt x q
    · rw [if_neg (by decide), b_0]
    · rw [if_pos rfl, bi_1 0 (by omega)]; rfl
  · rw [decide_eq_false h0, Bool.and_false]
    split
    · rw [bi_1 i hi, decide_eq_false h0]
    · rw [b_0]
theorem bi_bitN (k q : Nat) (hq : q < 32) : ((nI k >>> (nI q &&& 31)) &&& 1) = if k.testBit q = true then 1 else 0 := by
  rw [bi_bit _ q hq, bi_nI k q hq]
theorem bi_pow (q i : Nat) (hq : q < 32) (hi : i < 32) : bt ((1 : Int32) <<< (nI q &&& 31)) i = decide (i = q) := by
  rw [b_shl q hq 1 hi]
  by_cases h : q ≤ i
  · rw [decide_eq_true h, Bool.true_and, bi_1 _ (by omega)]
    by_cases e : i = q
    · rw [decide_eq_true e, decide_eq_true (by omega)]
    · rw [decide_eq_false e, decide_eq_false (by omega)]
  · rw [decide_eq_false h, Bool.false_and, decide_eq_false (by omega)]
theorem bi_set (k q : Nat) (hq : q < 32) : nI k ||| ((1 : Int32) <<< (nI q &&& 31)) = nI (k ||| 2 ^ q) := by
  apply b_ext
  intro i hi
  rw [b_or, bi_pow q i hq hi, bi_nI k i hi, bi_nI _ i hi, Nat.testBit_or, Nat.testBit_two_pow]
  by_cases e : i = q
  · rw [decide_eq_true e, decide_eq_true e.symm]
  · rw [decide_eq_false e, decide_eq_false (fun h => e h.symm)]
def n_cl (k q : Nat) : Nat := k ^^^ (k &&& 2 ^ q)
theorem n_cl_bit (k q i : Nat) : (n_cl k q).testBit i = (k.testBit i && !decide (i = q)) := by
  unfold n_cl
  rw [Nat.testBit_xor, Nat.testBit_and, Nat.testBit_two_pow]
  by_cases e : q = i
  · subst e; cases k.testBit q <;> simp
  · have e' : ¬ i = q := fun h => e h.symm
    simp [e, e']
theorem n_cl_lt {k q m : Nat} (h : k < 2 ^ m) : n_cl k q < 2 ^ m := by
  unfold n_cl
  exact Nat.xor_lt_two_pow h (Nat.lt_of_le_of_lt Nat.and_le_left h)
theorem bi_clr (k q : Nat) (hq : q < 32) : nI k &&& (((1 : Int32) <<< (nI q &&& 31)) ^^^ (-1)) = nI (n_cl k q) := by
  apply b_ext
  intro i hi
  rw [b_and, b_xor, bi_pow q i hq hi, b_m1 i hi, bi_nI k i hi, bi_nI _ i hi, n_cl_bit]
  cases k.testBit i <;> simp
theorem bi_and1 (k q : Nat) (hq : q < 32) : nI k &&& ((1 : Int32) <<< (nI q &&& 31)) = nI (k &&& 2 ^ q) := by
  apply b_ext
  intro i hi
  rw [b_and, bi_pow q i hq hi, bi_nI k i hi, bi_nI _ i hi, Nat.testBit_and, Nat.testBit_two_pow]
  by_cases e : i = q
  · rw [decide_eq_true e, decide_eq_true e.symm]
  · rw [decide_eq_false e, decide_eq_false (fun h => e h.symm)]
theorem bi_or (a b : Nat) : nI a ||| nI b = nI (a ||| b) := by
  apply b_ext
  intro i hi
  rw [b_or, bi_nI a i hi, bi_nI b i hi, bi_nI _ i hi, Nat.testBit_or]
/-- done's bits -/
theorem dn_set (D : Int32) (q i : Nat) (hq : q < 32) (hi : i < 32) : dn_b (dn_s D q) i = (dn_b D i || decide (i = q)) := by
  show bt (D ||| ((1 : Int32) <<< (nI q &&& 31))) i = (bt D i || decide (i = q))
  rw [b_or, bi_pow q i hq hi]
theorem dn_bit (D : Int32) (q : Nat) (hq : q < 32) : ((D >>> (nI q &&& 31)) &&& 1) = if dn_b D q = true then 1 else 0 := bi_bit D q hq
/-! counting -/
def bc_v (x : Int32) : Int32 :=
  let v1 := x - ((x.toUInt32 >>> ((1 : Int32).toUInt32 &&& Int32.toUInt32 31)).toInt32 &&& 1431655765)
  let v2 := (v1 &&& 858993459) + ((v1.toUInt32 >>> ((2 : Int32).toUInt32 &&& Int32.toUInt32 31)).toInt32 &&& 858993459)
  let v3 := (v2 + (v2.toUInt32 >>> ((4 : Int32).toUInt32 &&& Int32.toUInt32 31)).toInt32) &&& 252645135
  let v4 := v3 + (v3.toUInt32 >>> ((8 : Int32).toUInt32 &&& Int32.toUInt32 31)).toInt32
  let v5 := v4 + (v4.toUInt32 >>> ((16 : Int32).toUInt32 &&& Int32.toUInt32 31)).toInt32
  v5 &&& 63
theorem bc_all : ∀ k, k < 64 → bc_v (nI k) = nI (pc_6 k) := by decide +kernel
theorem p_bitCount {k : Nat} (hk : k < 64) {post : Int32 → Prop} (h : post (nI (pc_6 k))) : wp_Ji_bitCount (nI k) post := by
  intro v1 e1 v2 e2 v3 e3 v4 e4 v5 e5
  subst e1; subst e2; subst e3; subst e4; subst e5
  rw [← bc_all k hk] at h
  exact h
def ct_v (x : Int32) : Int32 := (((((((0 : Int32) + ((x >>> ((0 : Int32) &&& 31)) &&& 1)) + ((x >>> (((0 : Int32) + 1) &&& 31)) &&& 1)) + ((x >>> (((0 : Int32) + 1 + 1) &&& 31)) &&& 1)) + ((x >>> (((0 : Int32) + 1 + 1 + 1) &&& 31)) &&& 1)) + ((x >>> (((0 : Int32) + 1 + 1 + 1 + 1) &&& 31)) &&& 1)) + ((x >>> (((0 : Int32) + 1 + 1 + 1 + 1 + 1) &&& 31)) &&& 1))
theorem ct_all : ∀ k, k < 64 → ct_v (nI k) = nI (pc_6 k) := by decide +kernel
theorem p_count {k : Nat} (hk : k < 64) {post : Int32 → Prop} (h : post (nI (pc_6 k))) : wp_Md_count (nI k) post := by
  refine ⟨7, ?_⟩
  rw [← ct_all k hk] at h
  refine ⟨fun h => absurd h (by decide), fun _ v e w f => ?_⟩
  subst e; subst f
  refine ⟨fun h => absurd h (by decide), fun _ v e w f => ?_⟩
  subst e; subst f
  refine ⟨fun h => absurd h (by decide), fun _ v e w f => ?_⟩
  subst e; subst f
  refine ⟨fun h => absurd h (by decide), fun _ v e w f => ?_⟩
  subst e; subst f
  refine ⟨fun h => absurd h (by decide), fun _ v e w f => ?_⟩
  subst e; subst f
  refine ⟨fun h => absurd h (by decide), fun _ v e w f => ?_⟩
  subst e; subst f
  exact ⟨fun _ => h, fun hn => absurd (show (6 : Int32) ≤ (0 : Int32) + 1 + 1 + 1 + 1 + 1 + 1 by decide) hn⟩
theorem pc_le (k : Nat) : pc_6 k ≤ 6 := by
  have h : ∀ a, pc_b k a ≤ 1 := fun a => by unfold pc_b; split <;> omega
  have h0 := h 0; have h1 := h 1; have h2 := h 2; have h3 := h 3; have h4 := h 4; have h5 := h 5
  unfold pc_6; omega
/-- the test that both sides make -/
theorem p_maj {m Q : Nat} : ((2 : Int32) * nI (pc_6 (Q &&& m)) ≤ nI (pc_6 m)) ↔ ¬ px_maj m Q := by
  have h1 := pc_le (Q &&& m); have h2 := pc_le m
  rw [show (2 : Int32) = nI 2 from rfl, pk_mul, nI_leI (by omega) (by omega)]
  unfold px_maj
  omega
