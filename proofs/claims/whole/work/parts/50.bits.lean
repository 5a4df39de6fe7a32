-- from kit/laws/BITS.to-paste
def bt (x : Int32) (i : Nat) : Bool := x.toBitVec.getLsbD i
theorem b_ext {x y : Int32} (h : ∀ i, i < 32 → bt x i = bt y i) : x = y := Int32.toBitVec_inj.mp (BitVec.eq_of_getLsbD_eq (fun i hi => h i hi))
theorem b_and (x y : Int32) (i : Nat) : bt (x &&& y) i = (bt x i && bt y i) := by unfold bt; rw [Int32.toBitVec_and, BitVec.getLsbD_and]
theorem b_xor (x y : Int32) (i : Nat) : bt (x ^^^ y) i = (bt x i ^^ bt y i) := by unfold bt; rw [Int32.toBitVec_xor, BitVec.getLsbD_xor]
theorem b_big {x : Int32} {i : Nat} (h : 32 ≤ i) : bt x i = false := BitVec.getLsbD_of_ge _ _ h
theorem b_65535 (i : Nat) : bt 65535 i = decide (i < 16) := by
  rcases Nat.lt_or_ge i 32 with h | h
  · exact (by decide +kernel : ∀ i, i < 32 → bt 65535 i = decide (i < 16)) i h
  · rw [b_big h, decide_eq_false (by omega)]
theorem b_m1 : ∀ i, i < 32 → bt (-1) i = true := by decide +kernel
theorem b_0 (i : Nat) : bt 0 i = false := BitVec.getLsbD_zero
theorem s_l : ∀ n, n < 32 → ((nI n &&& 31).toBitVec.smod 32).toNat = n := by decide +kernel
theorem b_sshr (n : Nat) (hn : n < 32) (x : Int32) {i : Nat} (hi : i < 32) : bt (x >>> (nI n &&& 31)) i = if n + i < 32 then bt x (n + i) else bt x 31 := by
  unfold bt
  rw [Int32.toBitVec_shiftRight]
  show (x.toBitVec.sshiftRight ((nI n &&& 31).toBitVec.smod 32).toNat).getLsbD i = _
  rw [s_l n hn, BitVec.getLsbD_sshiftRight, BitVec.msb_eq_getLsbD_last]
  simp [hi]
-- one bit
theorem b_1 : ∀ i, i < 32 → bt 1 i = decide (i = 0) := by decide +kernel
theorem one0 {y : Int32} : y &&& 1 = 0 ↔ bt y 0 = false := by
  constructor
  · intro h
    have h1 : bt (y &&& 1) 0 = false := by rw [h]; exact b_0 0
    rw [b_and, b_1 0 (by decide)] at h1
    simpa using h1
  · intro h
    refine b_ext (fun i hi => ?_)
    rw [b_and, b_1 i hi, b_0]
    by_cases e : i = 0
    · subst e; simp [h]
    · simp [e]
theorem one1 {y : Int32} : y &&& 1 = 1 ↔ bt y 0 = true := by
  constructor
  · intro h
    have h1 : bt (y &&& 1) 0 = true := by rw [h]; exact b_1 0 (by decide)
    rw [b_and, b_1 0 (by decide)] at h1
    simpa using h1
  · intro h
    refine b_ext (fun i hi => ?_)
    rw [b_and, b_1 i hi]
    by_cases e : i = 0
    · subst e; simp [h]
    · simp [e]
theorem xBit_bt (x : Int32) {i : Nat} (hi : i < 32) : xBit x (nI i) = bt x i := by
  have h : bt (x >>> (nI i &&& 31)) 0 = bt x i := by rw [b_sshr i hi x (by decide)]; simp [hi]
  unfold xBit
  cases hb : bt x i with
  | true => rw [hb] at h; rw [decide_eq_false (fun e => by rw [one0.mp e] at h; exact Bool.noConfusion h)]; rfl
  | false => rw [hb] at h; rw [decide_eq_true (one0.mpr h)]; rfl
theorem mTold_bt (x : Int32) {i : Nat} (hi : i < 32) : mTold x i = bt x i := by
  have h : bt (x >>> (nI i &&& 31)) 0 = bt x i := by rw [b_sshr i hi x (by decide)]; simp [hi]
  unfold mTold
  cases hb : bt x i with
  | true => rw [hb] at h; exact decide_eq_true (one1.mpr h)
  | false => rw [hb] at h; exact decide_eq_false (fun e => by rw [one1.mp e] at h; exact Bool.noConfusion h)
