theorem mSrc {g q : Int32} (h : mBr g q = true) (hq : ¬ q = -1) : xSrc q = true := by
  rcases mBr_of h with e | ⟨i, hi, rfl⟩
  · exact absurd e hq
  · exact xSrc_nI hi
theorem mBr_dm {i : Nat} (h : i < 136) : mBr (mDv i) (mMd i) = true := co_dec (N := 136) (P := fun i => mBr (mDv i) (mMd i) = true) (by decide +kernel) h
theorem mCnt0 : ∀ k : Nat, mCntN k 0 = 0
  | 0 => rfl
  | k + 1 => by show 0 % 2 + mCntN k (0 / 2) = 0; rw [Nat.zero_div, mCnt0 k]
theorem mCutsI_n {was : Bool} {cF : Nat → Int32} {g bits fo : Int32} {k : Nat} (ht : mTold bits k = false) : mCutsI was cF g bits fo (k + 1) = upd (mCutsI was cF g bits fo k) (mCp g (nI k)).toNatClampNeg (-1) := if_neg (by rw [ht]; decide)
theorem mCutsI_s {was : Bool} {cF : Nat → Int32} {g bits fo : Int32} {k : Nat} (ht : mTold bits k = true) (hn : was = false ∨ mCutsI was cF g bits fo k (mCp g (nI k)).toNatClampNeg = -1) : mCutsI was cF g bits fo (k + 1) = upd (mCutsI was cF g bits fo k) (mCp g (nI k)).toNatClampNeg fo :=
  (if_pos ht).trans (if_pos (by rcases hn with h | h <;> simp [h]))
theorem mCutsI_k {was : Bool} {cF : Nat → Int32} {g bits fo : Int32} {k : Nat} (ht : mTold bits k = true) (hw : was = true) (hc : ¬ mCutsI was cF g bits fo k (mCp g (nI k)).toNatClampNeg = -1) : mCutsI was cF g bits fo (k + 1) = mCutsI was cF g bits fo k :=
  (if_pos ht).trans (if_neg (by subst hw; simp [hc]))
theorem or_bit {b k : Nat} (hk : k < 31) (hb : b < 2 ^ k) : nI b ||| ((1 : Int32) <<< (nI k &&& 31)) = nI (b + 2 ^ k) := by
  have h1 : ((1 : Int32) <<< (nI k &&& 31)) = nI (2 ^ k) := by
    have := pk_shlN (n := 1) (nI k &&& 31) k (co_dec (N := 31) (P := fun k => ((nI k &&& 31).toBitVec.smod 32).toNat = k) (by decide +kernel) hk) (by
      have : 2 ^ k ≤ 2 ^ 30 := Nat.pow_le_pow_right (by decide) (by omega)
      omega)
    rw [Nat.one_mul] at this
    exact this
  rw [h1]
  have h2 : 2 ^ k ≤ 2 ^ 30 := Nat.pow_le_pow_right (by decide) (by omega)
  refine Int32.toBitVec_inj.mp ?_
  refine BitVec.eq_of_toNat_eq ?_
  rw [Int32.toBitVec_or, BitVec.toNat_or, pk_tn (by omega), pk_tn (by omega), pk_tn (by omega), Nat.or_comm]
  have := Nat.two_pow_add_eq_or_of_lt hb 1
  rw [Nat.mul_one] at this
  rw [← this, Nat.add_comm]
theorem bitsI_nat (q : Nat → Bool) : ∀ k : Nat, k ≤ 31 → ∃ b : Nat, b < 2 ^ k ∧ bitsI q k = nI b
  | 0, _ => ⟨0, by decide, nI_0.symm⟩
  | k + 1, h => by
    obtain ⟨b, hb, e⟩ := bitsI_nat q k (by omega)
    have hp : 2 ^ (k + 1) = 2 ^ k + 2 ^ k := by rw [Nat.pow_succ]; omega
    cases hq : q k with
    | true => exact ⟨b + 2 ^ k, by omega, by rw [bitsI_t hq, e]; exact or_bit (by omega) hb⟩
    | false => exact ⟨b, by omega, by rw [bitsI_f hq, e]⟩
